/-! ## DiceRoadsModel.within(III)Z -/
section
variable {p : Program} {l : Launch} {e : Env} {s : State} {m : MethodId} {args : Array Value} {below : List Frame} {meth : Method} {c : Code} {dC : Nat → ClassId} {dI : Nat → Nat → Nat} {cI : ClassId} {A : Nat → Prop}
set_option maxRecDepth 100000 in
set_option maxHeartbeats 4000000 in
theorem w8_within (C : cx_M p s m args meth c RX8 cX8_within (some .boolean) 3) (hK : va_K (dC, dI) vwCl [] s) (hA : ∀ q, s.heap.size ≤ q → A q) {a : Nat → Nat} {q : Int32} {v0 : Int32} {v1 : Int32} {v2 : Int32} (h : f8_within v0 v1 v2 = some q) {H : Heap} {locs : List Loc} {ls : Array Slot} (hG : gd_W (dC, dI) A s ([] : va_W) H locs) (hl : lv_has ls 3 [(0, .int v0), (1, .int v1), (2, .int v2)]) : W p l e RM8_within s m args below meth c H locs 0 0 (MQ below (qi_W (dC, dI) [] A q ([] : va_W)) args s 0 0 A) (F0 m 0 ls []) := by
  unfold f8_within at h
  obtain ⟨hx, hb, hr, hts, hown, hlocks, hml⟩ := id C
  refine lv_iload_n hx hb dX8_within_0 rfl (lv_at hl 0 rfl) ?_
  refine lv_iload_n hx hb dX8_within_1 rfl (lv_at hl 1 rfl) ?_
  refine lv_icmp_lt (tgt := 14) hx hb dX8_within_2 (by decide) (fun hc => ?_) (fun hc => ?_)
  · have h := fo_it h hc
    refine lv_iconst (v := (0 : Int32)) hx hb dX8_within_14 (by decide) ?_
    exact gr_z hx hb hr hlocks hK hG (Option.some.inj h) rfl dX8_within_15
  · have h := fo_if h hc
    refine lv_iload_n hx hb dX8_within_5 rfl (lv_at hl 0 rfl) ?_
    refine lv_iload_n hx hb dX8_within_6 rfl (lv_at hl 2 rfl) ?_
    refine lv_icmp_gt (tgt := 14) hx hb dX8_within_7 (by decide) (fun hc => ?_) (fun hc => ?_)
    · have h := fo_it h hc
      refine lv_iconst (v := (0 : Int32)) hx hb dX8_within_14 (by decide) ?_
      exact gr_z hx hb hr hlocks hK hG (Option.some.inj h) rfl dX8_within_15
    · have h := fo_if h hc
      refine lv_iconst (v := (1 : Int32)) hx hb dX8_within_10 (by decide) ?_
      refine lv_goto (tgt := 15) hx hb dX8_within_11 (by decide) ?_
      exact gr_z hx hb hr hlocks hK hG (Option.some.inj h) rfl dX8_within_15
set_option maxRecDepth 100000 in
set_option maxHeartbeats 4000000 in
theorem c8_within (l : Launch) {dC : Nat → ClassId} {dI : Nat → Nat → Nat} {a : Nat → Nat} {v0 : Int32} {v1 : Int32} {v2 : Int32} {q : Int32} (h : f8_within v0 v1 v2 = some q) : mi_M l yX8_within wm8_within RM8_within (dC, dI) [] [.int v0, .int v1, .int v2] ([] : va_W) q ([] : va_W) := by
  intro sz
  refine Met.ofW (cc := cX8_within) (maxL := 3) (ret := (some .boolean)) (by decide) rfl ?_
  intro p e s m args below meth c s₁ B hml hv
  obtain ⟨rfl, hsz, hP, hK, hD0⟩ := hv
  subst hsz
  have hl := lv_entry ([.int v0, .int v1, .int v2] : List Value) (n := 3) (Nat.le_of_ble_eq_true rfl)
  rw [lg_entry_eq]
  generalize (lg_sl ([.int v0, .int v1, .int v2] : List Value) ++ List.replicate (3 - (lg_sl ([.int v0, .int v1, .int v2] : List Value)).length) Slot.unset).toArray = ls at hl ⊢
  exact w8_within (a := a) ⟨B.exec, B.bytes, B.returns, fun w hw => atoms_spec (ws := wm8_within) B.pre w (List.mem_cons_of_mem _ hw), findClass_of_methodNamed B.named, B.notSynchronized, hml⟩ hK (fun _ h => Or.inr h) h ⟨hP, hD0.self, va_S.rf⟩ hl
end
/-! ## DiceRoadsModel.isSquare(I)Z -/
section
variable {p : Program} {l : Launch} {e : Env} {s : State} {m : MethodId} {args : Array Value} {below : List Frame} {meth : Method} {c : Code} {dC : Nat → ClassId} {dI : Nat → Nat → Nat} {cI : ClassId} {A : Nat → Prop}
set_option maxRecDepth 100000 in
set_option maxHeartbeats 4000000 in
theorem w8_isSquare (C : cx_M p s m args meth c RX8 cX8_isSquare (some .boolean) 1) (hK : va_K (dC, dI) vwCl [] s) (hA : ∀ q, s.heap.size ≤ q → A q) {a : Nat → Nat} {q : Int32} {v0 : Int32} (h : f8_isSquare v0 = some q) {H : Heap} {locs : List Loc} {ls : Array Slot} (hG : gd_W (dC, dI) A s ([] : va_W) H locs) (hl : lv_has ls 1 [(0, .int v0)]) : W p l e RM8_isSquare s m args below meth c H locs 0 0 (MQ below (qi_W (dC, dI) [] A q ([] : va_W)) args s 0 0 A) (F0 m 0 ls []) := by
  unfold f8_isSquare at h
  obtain ⟨hx, hb, hr, hts, hown, hlocks, hml⟩ := id C
  refine lv_iload_n hx hb dX8_isSquare_0 rfl (lv_at hl 0 rfl) ?_
  refine lv_iconst (v := (0 : Int32)) hx hb dX8_isSquare_1 (by decide) ?_
  refine lv_bipush (v := (19 : Int32)) hx hb dX8_isSquare_2 (by decide) ?_
  obtain ⟨q4, hq4, h⟩ := fo_bd_some h
  refine gc_iS (As := [.int v0, .int (0 : Int32), .int (19 : Int32)]) (rest := []) (wc := ([] : va_W)) (w1 := ([] : va_W)) ⟨hx, hb, hml, hown, hts⟩ (c8_within l (a := a) hq4) (va_cwS 3 hts gv_X8_42 rfl rfl rfl hd8_within ⟨Nat.le_of_ble_eq_true rfl, Nat.le_of_ble_eq_true rfl⟩) hK [] rfl hA hG [] rfl rfl rfl rfl hl.1 rfl (Nat.le_of_ble_eq_true rfl) dX8_isSquare_4 ⟨Nat.zero_le _, Nat.zero_le _⟩ (fun H locs hG9 => ?_)
  have hG : gd_W (dC, dI) A s ([] : va_W) H locs := hG9
  obtain ⟨hz, h⟩ := fo_zz_some h
  exact gr_z hx hb hr hlocks hK hG (Option.some.inj h) (nar_b hz) dX8_isSquare_7
set_option maxRecDepth 100000 in
set_option maxHeartbeats 4000000 in
theorem c8_isSquare (l : Launch) {dC : Nat → ClassId} {dI : Nat → Nat → Nat} {a : Nat → Nat} {v0 : Int32} {q : Int32} (h : f8_isSquare v0 = some q) : mi_M l yX8_isSquare wm8_isSquare RM8_isSquare (dC, dI) [] [.int v0] ([] : va_W) q ([] : va_W) := by
  intro sz
  refine Met.ofW (cc := cX8_isSquare) (maxL := 1) (ret := (some .boolean)) (by decide) rfl ?_
  intro p e s m args below meth c s₁ B hml hv
  obtain ⟨rfl, hsz, hP, hK, hD0⟩ := hv
  subst hsz
  have hl := lv_entry ([.int v0] : List Value) (n := 1) (Nat.le_of_ble_eq_true rfl)
  rw [lg_entry_eq]
  generalize (lg_sl ([.int v0] : List Value) ++ List.replicate (1 - (lg_sl ([.int v0] : List Value)).length) Slot.unset).toArray = ls at hl ⊢
  exact w8_isSquare (a := a) ⟨B.exec, B.bytes, B.returns, fun w hw => atoms_spec (ws := wm8_isSquare) B.pre w (List.mem_cons_of_mem _ hw), findClass_of_methodNamed B.named, B.notSynchronized, hml⟩ hK (fun _ h => Or.inr h) h ⟨hP, hD0.self, va_S.rf⟩ hl
end
/-! ## DiceRoadsModel.sortOf(I)I -/
section
variable {p : Program} {l : Launch} {e : Env} {s : State} {m : MethodId} {args : Array Value} {below : List Frame} {meth : Method} {c : Code} {dC : Nat → ClassId} {dI : Nat → Nat → Nat} {cI : ClassId} {A : Nat → Prop}
set_option maxRecDepth 100000 in
set_option maxHeartbeats 4000000 in
theorem w8_sortOf (C : cx_M p s m args meth c RX8 cX8_sortOf (some .int) 1) (hK : va_K (dC, dI) vwCl [] s) (hA : ∀ q, s.heap.size ≤ q → A q) {a : Nat → Nat} {q : Int32} {v0 : Int32} (h : f8_sortOf v0 = some q) {H : Heap} {locs : List Loc} {ls : Array Slot} (hG : gd_W (dC, dI) A s ([] : va_W) H locs) (hl : lv_has ls 1 [(0, .int v0)]) : W p l e RM8_sortOf s m args below meth c H locs 0 0 (MQ below (qi_W (dC, dI) [] A q ([] : va_W)) args s 0 0 A) (F0 m 0 ls []) := by
  unfold f8_sortOf at h
  obtain ⟨hx, hb, hr, hts, hown, hlocks, hml⟩ := id C
  refine lv_iload_n hx hb dX8_sortOf_0 rfl (lv_at hl 0 rfl) ?_
  refine lv_bipush (v := (10 : Int32)) hx hb dX8_sortOf_1 (by decide) ?_
  refine lv_irem hx hb dX8_sortOf_3 (by decide) ?_
  refine lv_if_ne (tgt := 11) hx hb dX8_sortOf_4 (by decide) (fun hc => ?_) (fun hc => ?_)
  · have h := fo_if h hc
    refine lv_iload_n hx hb dX8_sortOf_11 rfl (lv_at hl 0 rfl) ?_
    refine lv_bipush (v := (10 : Int32)) hx hb dX8_sortOf_12 (by decide) ?_
    refine lv_irem hx hb dX8_sortOf_14 (by decide) ?_
    refine lv_iconst (v := (5 : Int32)) hx hb dX8_sortOf_15 (by decide) ?_
    refine lv_icmp_ne (tgt := 23) hx hb dX8_sortOf_16 (by decide) (fun hc => ?_) (fun hc => ?_)
    · have h := fo_if h hc
      refine lv_iconst (v := (1 : Int32)) hx hb dX8_sortOf_23 (by decide) ?_
      exact gr_i hx hb hr hlocks hK hG (Option.some.inj h) dX8_sortOf_24
    · have h := fo_it h hc
      refine lv_iconst (v := (2 : Int32)) hx hb dX8_sortOf_19 (by decide) ?_
      refine lv_goto (tgt := 24) hx hb dX8_sortOf_20 (by decide) ?_
      exact gr_i hx hb hr hlocks hK hG (Option.some.inj h) dX8_sortOf_24
  · have h := fo_it h hc
    refine lv_iconst (v := (0 : Int32)) hx hb dX8_sortOf_7 (by decide) ?_
    refine lv_goto (tgt := 24) hx hb dX8_sortOf_8 (by decide) ?_
    exact gr_i hx hb hr hlocks hK hG (Option.some.inj h) dX8_sortOf_24
set_option maxRecDepth 100000 in
set_option maxHeartbeats 4000000 in
theorem c8_sortOf (l : Launch) {dC : Nat → ClassId} {dI : Nat → Nat → Nat} {a : Nat → Nat} {v0 : Int32} {q : Int32} (h : f8_sortOf v0 = some q) : mi_M l yX8_sortOf wm8_sortOf RM8_sortOf (dC, dI) [] [.int v0] ([] : va_W) q ([] : va_W) := by
  intro sz
  refine Met.ofW (cc := cX8_sortOf) (maxL := 1) (ret := (some .int)) (by decide) rfl ?_
  intro p e s m args below meth c s₁ B hml hv
  obtain ⟨rfl, hsz, hP, hK, hD0⟩ := hv
  subst hsz
  have hl := lv_entry ([.int v0] : List Value) (n := 1) (Nat.le_of_ble_eq_true rfl)
  rw [lg_entry_eq]
  generalize (lg_sl ([.int v0] : List Value) ++ List.replicate (1 - (lg_sl ([.int v0] : List Value)).length) Slot.unset).toArray = ls at hl ⊢
  exact w8_sortOf (a := a) ⟨B.exec, B.bytes, B.returns, fun w hw => atoms_spec (ws := wm8_sortOf) B.pre w (List.mem_cons_of_mem _ hw), findClass_of_methodNamed B.named, B.notSynchronized, hml⟩ hK (fun _ h => Or.inr h) h ⟨hP, hD0.self, va_S.rf⟩ hl
end
/-! ## DiceRoadsModel.isValue(II)Z -/
section
variable {p : Program} {l : Launch} {e : Env} {s : State} {m : MethodId} {args : Array Value} {below : List Frame} {meth : Method} {c : Code} {dC : Nat → ClassId} {dI : Nat → Nat → Nat} {cI : ClassId} {A : Nat → Prop}
set_option maxRecDepth 100000 in
set_option maxHeartbeats 4000000 in
theorem w8_isValue (C : cx_M p s m args meth c RX8 cX8_isValue (some .boolean) 2) (hK : va_K (dC, dI) vwCl [] s) (hA : ∀ q, s.heap.size ≤ q → A q) {a : Nat → Nat} {q : Int32} {v0 : Int32} {v1 : Int32} (h : f8_isValue v0 v1 = some q) {H : Heap} {locs : List Loc} {ls : Array Slot} (hG : gd_W (dC, dI) A s ([] : va_W) H locs) (hl : lv_has ls 2 [(0, .int v0), (1, .int v1)]) : W p l e RM8_isValue s m args below meth c H locs 0 0 (MQ below (qi_W (dC, dI) [] A q ([] : va_W)) args s 0 0 A) (F0 m 0 ls []) := by
  unfold f8_isValue at h
  obtain ⟨hx, hb, hr, hts, hown, hlocks, hml⟩ := id C
  refine lv_iload_n hx hb dX8_isValue_0 rfl (lv_at hl 0 rfl) ?_
  by_cases hc : v0 = (0 : Int32)
  · have h := fo_it h hc
    refine W.eq (g2 := F0 m 1 ls [.int (0 : Int32)]) (by rw [hc]) ?_
    refine lv_tableIn (tgt := 36) hx hb dX8_isValue_1 (by decide) (by decide) rfl (by decide) ?_
    refine lv_iload_n hx hb dX8_isValue_36 rfl (lv_at hl 1 rfl) ?_
    refine lv_iconst (v := (0 : Int32)) hx hb dX8_isValue_37 (by decide) ?_
    refine lv_bipush (v := (99 : Int32)) hx hb dX8_isValue_38 (by decide) ?_
    obtain ⟨q40, hq40, h⟩ := fo_bd_some h
    refine gc_iS (As := [.int v1, .int (0 : Int32), .int (99 : Int32)]) (rest := []) (wc := ([] : va_W)) (w1 := ([] : va_W)) ⟨hx, hb, hml, hown, hts⟩ (c8_within l (a := a) hq40) (va_cwS 3 hts gv_X8_42 rfl rfl rfl hd8_within ⟨Nat.le_of_ble_eq_true rfl, Nat.le_of_ble_eq_true rfl⟩) hK [] rfl hA hG [] rfl rfl rfl rfl hl.1 rfl (Nat.le_of_ble_eq_true rfl) dX8_isValue_40 ⟨Nat.zero_le _, Nat.zero_le _⟩ (fun H locs hG9 => ?_)
    have hG : gd_W (dC, dI) A s ([] : va_W) H locs := hG9
    obtain ⟨hz, h⟩ := fo_zz_some h
    exact gr_z hx hb hr hlocks hK hG (Option.some.inj h) (nar_b hz) dX8_isValue_43
  replace h := fo_if h hc
  have hn0 := lv_neT (a := 0) hc (by decide)
  have hm0 := hc
  clear hc
  by_cases hc : v0 = (1 : Int32)
  · have h := fo_it h hc
    refine W.eq (g2 := F0 m 1 ls [.int (1 : Int32)]) (by rw [hc]) ?_
    refine lv_tableIn (tgt := 44) hx hb dX8_isValue_1 (by decide) (by decide) rfl (by decide) ?_
    refine lv_iload_n hx hb dX8_isValue_44 rfl (lv_at hl 1 rfl) ?_
    refine lv_iconst (v := (1 : Int32)) hx hb dX8_isValue_45 (by decide) ?_
    refine lv_bipush (v := (99 : Int32)) hx hb dX8_isValue_46 (by decide) ?_
    obtain ⟨q48, hq48, h⟩ := fo_bd_some h
    refine gc_iS (As := [.int v1, .int (1 : Int32), .int (99 : Int32)]) (rest := []) (wc := ([] : va_W)) (w1 := ([] : va_W)) ⟨hx, hb, hml, hown, hts⟩ (c8_within l (a := a) hq48) (va_cwS 3 hts gv_X8_42 rfl rfl rfl hd8_within ⟨Nat.le_of_ble_eq_true rfl, Nat.le_of_ble_eq_true rfl⟩) hK [] rfl hA hG [] rfl rfl rfl rfl hl.1 rfl (Nat.le_of_ble_eq_true rfl) dX8_isValue_48 ⟨Nat.zero_le _, Nat.zero_le _⟩ (fun H locs hG9 => ?_)
    have hG : gd_W (dC, dI) A s ([] : va_W) H locs := hG9
    obtain ⟨hz, h⟩ := fo_zz_some h
    exact gr_z hx hb hr hlocks hK hG (Option.some.inj h) (nar_b hz) dX8_isValue_51
  replace h := fo_if h hc
  have hn1 := lv_neT (a := 1) hc (by decide)
  have hm1 := hc
  clear hc
  by_cases hc : v0 = (2 : Int32)
  · have h := fo_it h hc
    refine W.eq (g2 := F0 m 1 ls [.int (2 : Int32)]) (by rw [hc]) ?_
    refine lv_tableIn (tgt := 44) hx hb dX8_isValue_1 (by decide) (by decide) rfl (by decide) ?_
    refine lv_iload_n hx hb dX8_isValue_44 rfl (lv_at hl 1 rfl) ?_
    refine lv_iconst (v := (1 : Int32)) hx hb dX8_isValue_45 (by decide) ?_
    refine lv_bipush (v := (99 : Int32)) hx hb dX8_isValue_46 (by decide) ?_
    obtain ⟨q48, hq48, h⟩ := fo_bd_some h
    refine gc_iS (As := [.int v1, .int (1 : Int32), .int (99 : Int32)]) (rest := []) (wc := ([] : va_W)) (w1 := ([] : va_W)) ⟨hx, hb, hml, hown, hts⟩ (c8_within l (a := a) hq48) (va_cwS 3 hts gv_X8_42 rfl rfl rfl hd8_within ⟨Nat.le_of_ble_eq_true rfl, Nat.le_of_ble_eq_true rfl⟩) hK [] rfl hA hG [] rfl rfl rfl rfl hl.1 rfl (Nat.le_of_ble_eq_true rfl) dX8_isValue_48 ⟨Nat.zero_le _, Nat.zero_le _⟩ (fun H locs hG9 => ?_)
    have hG : gd_W (dC, dI) A s ([] : va_W) H locs := hG9
    obtain ⟨hz, h⟩ := fo_zz_some h
    exact gr_z hx hb hr hlocks hK hG (Option.some.inj h) (nar_b hz) dX8_isValue_51
  replace h := fo_if h hc
  have hn2 := lv_neT (a := 2) hc (by decide)
  have hm2 := hc
  clear hc
  by_cases hc : v0 = (3 : Int32)
  · have h := fo_it h hc
    refine W.eq (g2 := F0 m 1 ls [.int (3 : Int32)]) (by rw [hc]) ?_
    refine lv_tableIn (tgt := 52) hx hb dX8_isValue_1 (by decide) (by decide) rfl (by decide) ?_
    refine lv_iload_n hx hb dX8_isValue_52 rfl (lv_at hl 1 rfl) ?_
    refine lv_iconst (v := (1 : Int32)) hx hb dX8_isValue_53 (by decide) ?_
    refine lv_bipush (v := (7 : Int32)) hx hb dX8_isValue_54 (by decide) ?_
    obtain ⟨q56, hq56, h⟩ := fo_bd_some h
    refine gc_iS (As := [.int v1, .int (1 : Int32), .int (7 : Int32)]) (rest := []) (wc := ([] : va_W)) (w1 := ([] : va_W)) ⟨hx, hb, hml, hown, hts⟩ (c8_within l (a := a) hq56) (va_cwS 3 hts gv_X8_42 rfl rfl rfl hd8_within ⟨Nat.le_of_ble_eq_true rfl, Nat.le_of_ble_eq_true rfl⟩) hK [] rfl hA hG [] rfl rfl rfl rfl hl.1 rfl (Nat.le_of_ble_eq_true rfl) dX8_isValue_56 ⟨Nat.zero_le _, Nat.zero_le _⟩ (fun H locs hG9 => ?_)
    have hG : gd_W (dC, dI) A s ([] : va_W) H locs := hG9
    obtain ⟨hz, h⟩ := fo_zz_some h
    exact gr_z hx hb hr hlocks hK hG (Option.some.inj h) (nar_b hz) dX8_isValue_59
  replace h := fo_if h hc
  have hn3 := lv_neT (a := 3) hc (by decide)
  have hm3 := hc
  clear hc
  by_cases hc : v0 = (4 : Int32)
  · have h := fo_it h hc
    refine W.eq (g2 := F0 m 1 ls [.int (4 : Int32)]) (by rw [hc]) ?_
    refine lv_tableIn (tgt := 60) hx hb dX8_isValue_1 (by decide) (by decide) rfl (by decide) ?_
    refine lv_iload_n hx hb dX8_isValue_60 rfl (lv_at hl 1 rfl) ?_
    refine lv_iconst (v := (1 : Int32)) hx hb dX8_isValue_61 (by decide) ?_
    refine lv_bipush (v := (20 : Int32)) hx hb dX8_isValue_62 (by decide) ?_
    obtain ⟨q64, hq64, h⟩ := fo_bd_some h
    refine gc_iS (As := [.int v1, .int (1 : Int32), .int (20 : Int32)]) (rest := []) (wc := ([] : va_W)) (w1 := ([] : va_W)) ⟨hx, hb, hml, hown, hts⟩ (c8_within l (a := a) hq64) (va_cwS 3 hts gv_X8_42 rfl rfl rfl hd8_within ⟨Nat.le_of_ble_eq_true rfl, Nat.le_of_ble_eq_true rfl⟩) hK [] rfl hA hG [] rfl rfl rfl rfl hl.1 rfl (Nat.le_of_ble_eq_true rfl) dX8_isValue_64 ⟨Nat.zero_le _, Nat.zero_le _⟩ (fun H locs hG9 => ?_)
    have hG : gd_W (dC, dI) A s ([] : va_W) H locs := hG9
    obtain ⟨hz, h⟩ := fo_zz_some h
    exact gr_z hx hb hr hlocks hK hG (Option.some.inj h) (nar_b hz) dX8_isValue_67
  replace h := fo_if h hc
  have hn4 := lv_neT (a := 4) hc (by decide)
  have hm4 := hc
  clear hc
  refine lv_tableOut (tgt := 68) hx hb dX8_isValue_1 (by omega) (by decide) ?_
  refine lv_iconst (v := (0 : Int32)) hx hb dX8_isValue_68 (by decide) ?_
  exact gr_z hx hb hr hlocks hK hG (Option.some.inj h) rfl dX8_isValue_69
set_option maxRecDepth 100000 in
set_option maxHeartbeats 4000000 in
theorem c8_isValue (l : Launch) {dC : Nat → ClassId} {dI : Nat → Nat → Nat} {a : Nat → Nat} {v0 : Int32} {v1 : Int32} {q : Int32} (h : f8_isValue v0 v1 = some q) : mi_M l yX8_isValue wm8_isValue RM8_isValue (dC, dI) [] [.int v0, .int v1] ([] : va_W) q ([] : va_W) := by
  intro sz
  refine Met.ofW (cc := cX8_isValue) (maxL := 2) (ret := (some .boolean)) (by decide) rfl ?_
  intro p e s m args below meth c s₁ B hml hv
  obtain ⟨rfl, hsz, hP, hK, hD0⟩ := hv
  subst hsz
  have hl := lv_entry ([.int v0, .int v1] : List Value) (n := 2) (Nat.le_of_ble_eq_true rfl)
  rw [lg_entry_eq]
  generalize (lg_sl ([.int v0, .int v1] : List Value) ++ List.replicate (2 - (lg_sl ([.int v0, .int v1] : List Value)).length) Slot.unset).toArray = ls at hl ⊢
  exact w8_isValue (a := a) ⟨B.exec, B.bytes, B.returns, fun w hw => atoms_spec (ws := wm8_isValue) B.pre w (List.mem_cons_of_mem _ hw), findClass_of_methodNamed B.named, B.notSynchronized, hml⟩ hK (fun _ h => Or.inr h) h ⟨hP, hD0.self, va_S.rf⟩ hl
end
/-! ## DiceRoadsModel.moves([II[II)V -/
section
variable {p : Program} {l : Launch} {e : Env} {s : State} {m : MethodId} {args : Array Value} {below : List Frame} {meth : Method} {c : Code} {dC : Nat → ClassId} {dI : Nat → Nat → Nat} {cI : ClassId} {A : Nat → Prop}
set_option maxRecDepth 100000 in
set_option maxHeartbeats 4000000 in
theorem w8_moves_b3 (C : cx_M p s m args meth c RX8 cX8_moves none 5) (hK : va_K (dC, dI) vwCl [(cI, .int)] s) (hA : ∀ q, s.heap.size ≤ q → A q) {a : Nat → Nat} {z : Nat} {g : Nat} {F : Nat → Int32} {q : (Nat → Int32)} {rec3 : Int32 → Int32 → Int32 → (Nat → Int32) → Option (Nat → Int32)} (hrec3 : ∀ {v1 : Int32} {v3 : Int32} {v4 : Int32} {S : (Nat → Int32)} , rec3 v1 v3 v4 S = some q → ∀ {H : Heap} {locs : List Loc} {ls : Array Slot}, gd_W (dC, dI) A s (wd_MV cI a z g F S) H locs → lv_has ls 5 [(0, .ref (a 0)), (1, .int v1), (2, .ref (a 1)), (3, .int v3), (4, .int v4)] → W p l e RM8_moves s m args below meth c H locs 0 0 (MQ below (qv_W (dC, dI) [(cI, .int)] A (wd_MV cI a z g F q)) args s 0 0 A) (F0 m 3 ls [])) {v1 : Int32} {v3 : Int32} {v4 : Int32} {S : (Nat → Int32)} (h : f8_moves_b3 z g F rec3 v1 v3 v4 S = some q) {H : Heap} {locs : List Loc} {ls : Array Slot} (hG : gd_W (dC, dI) A s (wd_MV cI a z g F S) H locs) (hl : lv_has ls 5 [(0, .ref (a 0)), (1, .int v1), (2, .ref (a 1)), (3, .int v3), (4, .int v4)]) : W p l e RM8_moves s m args below meth c H locs 0 0 (MQ below (qv_W (dC, dI) [(cI, .int)] A (wd_MV cI a z g F q)) args s 0 0 A) (F0 m 3 ls []) := by
  unfold f8_moves_b3 at h
  obtain ⟨hx, hb, hr, hts, hown, hlocks, hml⟩ := id C
  refine lv_iload hx hb dX8_moves_3 (lv_at hl 4 rfl) ?_
  refine lv_bipush (v := (107 : Int32)) hx hb dX8_moves_5 (by decide) ?_
  refine lv_icmp_ge (tgt := 28) hx hb dX8_moves_7 (by decide) (fun hc => ?_) (fun hc => ?_)
  · have h := fo_it h hc
    obtain rfl := Option.some.inj h
    exact gr_v hx hb hr hlocks hK hG dX8_moves_28
  · have h := fo_if h hc
    refine lv_aload_n hx hb dX8_moves_10 rfl (lv_at hl 2 rfl) ?_
    refine lv_iload_n hx hb dX8_moves_11 rfl (lv_at hl 3 rfl) ?_
    refine lv_iload hx hb dX8_moves_12 (lv_at hl 4 rfl) ?_
    refine lv_iadd hx hb dX8_moves_14 ?_
    refine lv_aload_n hx hb dX8_moves_15 rfl (lv_at hl 0 rfl) ?_
    refine lv_iload_n hx hb dX8_moves_16 rfl (lv_at hl 1 rfl) ?_
    refine lv_iload hx hb dX8_moves_17 (lv_at hl 4 rfl) ?_
    refine lv_iadd hx hb dX8_moves_19 ?_
    obtain ⟨hi, h⟩ := fo_ck_some h
    refine va_iald hx hb hK hG.1 0 0 rfl rfl hi dX8_moves_20 ?_
    obtain ⟨hi, h⟩ := fo_ck_some h
    refine va_iast hx hb hK hG.1 hG.2.1 hG.2.2 1 0 rfl rfl hi dX8_moves_21 (fun H locs hP9 hD9 hS9 => ?_)
    have hG : gd_W (dC, dI) A s (wd_MV cI a z g F (upd S (v3 + v4).toNatClampNeg (F (v1 + v4).toNatClampNeg))) H locs := ⟨hP9, hD9, hS9⟩
    refine lv_iinc (v := (v4 + (1 : Int32))) (lv' := [(4, .int (v4 + (1 : Int32))), (0, .ref (a 0)), (1, .int v1), (2, .ref (a 1)), (3, .int v3)]) hx hb dX8_moves_22 hl (k := 4) rfl rfl (by decide) rfl (fun ls hl => ?_)
    refine lv_goto (tgt := 3) hx hb dX8_moves_25 (by decide) ?_
    exact hrec3 h hG (lv_sub hl [1, 2, 3, 4, 0] rfl)
set_option maxRecDepth 100000 in
set_option maxHeartbeats 4000000 in
theorem w8_moves_L3 (C : cx_M p s m args meth c RX8 cX8_moves none 5) (hK : va_K (dC, dI) vwCl [(cI, .int)] s) (hA : ∀ q, s.heap.size ≤ q → A q) {a : Nat → Nat} {z : Nat} {g : Nat} {F : Nat → Int32} {q : (Nat → Int32)} : ∀ (n : Nat) {v1 : Int32} {v3 : Int32} {v4 : Int32} {S : (Nat → Int32)}, f8_moves_L3 z g F n v1 v3 v4 S = some q → ∀ {H : Heap} {locs : List Loc} {ls : Array Slot}, gd_W (dC, dI) A s (wd_MV cI a z g F S) H locs → lv_has ls 5 [(0, .ref (a 0)), (1, .int v1), (2, .ref (a 1)), (3, .int v3), (4, .int v4)] → W p l e RM8_moves s m args below meth c H locs 0 0 (MQ below (qv_W (dC, dI) [(cI, .int)] A (wd_MV cI a z g F q)) args s 0 0 A) (F0 m 3 ls []) := by
  intro n
  induction n with
  | zero => intro _ _ _ _ h; exact nomatch h
  | succ n ih => intro v1 v3 v4 S h H locs ls hG hl; exact w8_moves_b3 C hK hA (fun h => ih h) (show f8_moves_b3 z g F (f8_moves_L3 z g F n) v1 v3 v4 S = some q from h) hG hl
set_option maxRecDepth 100000 in
set_option maxHeartbeats 4000000 in
theorem w8_moves (C : cx_M p s m args meth c RX8 cX8_moves none 5) (hK : va_K (dC, dI) vwCl [(cI, .int)] s) (hA : ∀ q, s.heap.size ≤ q → A q) {a : Nat → Nat} {z : Nat} {g : Nat} {F : Nat → Int32} {q : (Nat → Int32)} {v1 : Int32} {v3 : Int32} {S : (Nat → Int32)} (h : f8_moves z g F v1 v3 S = some q) {H : Heap} {locs : List Loc} {ls : Array Slot} (hG : gd_W (dC, dI) A s (wd_MV cI a z g F S) H locs) (hl : lv_has ls 5 [(0, .ref (a 0)), (1, .int v1), (2, .ref (a 1)), (3, .int v3)]) : W p l e RM8_moves s m args below meth c H locs 0 0 (MQ below (qv_W (dC, dI) [(cI, .int)] A (wd_MV cI a z g F q)) args s 0 0 A) (F0 m 0 ls []) := by
  unfold f8_moves at h
  obtain ⟨hx, hb, hr, hts, hown, hlocks, hml⟩ := id C
  refine lv_iconst (v := (0 : Int32)) hx hb dX8_moves_0 (by decide) ?_
  refine lv_istore (lv' := [(4, .int (0 : Int32)), (0, .ref (a 0)), (1, .int v1), (2, .ref (a 1)), (3, .int v3)]) hx hb dX8_moves_1 hl (by decide) rfl (fun ls hl => ?_)
  exact w8_moves_L3 C hK hA fo_fu h hG (lv_sub hl [1, 2, 3, 4, 0] rfl)
set_option maxRecDepth 100000 in
set_option maxHeartbeats 4000000 in
theorem c8_moves (l : Launch) {dC : Nat → ClassId} {dI : Nat → Nat → Nat} {cI : ClassId} {a : Nat → Nat} {z : Nat} {g : Nat} {F : Nat → Int32} {v1 : Int32} {v3 : Int32} {S : (Nat → Int32)} {q : (Nat → Int32)} (h : f8_moves z g F v1 v3 S = some q) : mv_M l yX8_moves wm8_moves RM8_moves (dC, dI) [(cI, .int)] [.ref (a 0), .int v1, .ref (a 1), .int v3] (wd_MV cI a z g F S) (wd_MV cI a z g F q) := by
  intro sz
  refine Met.ofW (cc := cX8_moves) (maxL := 5) (ret := none) (by decide) rfl ?_
  intro p e s m args below meth c s₁ B hml hv
  obtain ⟨rfl, hsz, hP, hK, hD0⟩ := hv
  subst hsz
  have hl := lv_entry ([.ref (a 0), .int v1, .ref (a 1), .int v3] : List Value) (n := 5) (Nat.le_of_ble_eq_true rfl)
  rw [lg_entry_eq]
  generalize (lg_sl ([.ref (a 0), .int v1, .ref (a 1), .int v3] : List Value) ++ List.replicate (5 - (lg_sl ([.ref (a 0), .int v1, .ref (a 1), .int v3] : List Value)).length) Slot.unset).toArray = ls at hl ⊢
  exact w8_moves (a := a) ⟨B.exec, B.bytes, B.returns, fun w hw => atoms_spec (ws := wm8_moves) B.pre w (List.mem_cons_of_mem _ hw), findClass_of_methodNamed B.named, B.notSynchronized, hml⟩ hK (fun _ h => Or.inr h) h ⟨hP, hD0.self, va_S.rf⟩ hl
end
/-! ## DiceRoadsModel.isPlayer(I)Z -/
section
variable {p : Program} {l : Launch} {e : Env} {s : State} {m : MethodId} {args : Array Value} {below : List Frame} {meth : Method} {c : Code} {dC : Nat → ClassId} {dI : Nat → Nat → Nat} {cI : ClassId} {A : Nat → Prop}
set_option maxRecDepth 100000 in
set_option maxHeartbeats 4000000 in
theorem w8_isPlayer (C : cx_M p s m args meth c RX8 cX8_isPlayer (some .boolean) 2) (hK : va_K (dC, dI) vwCl [(cI, .int)] s) (hA : ∀ q, s.heap.size ≤ q → A q) {a : Nat → Nat} {X : Nat → Int32} {q : Int32} {v1 : Int32} {S : (Nat → Int32)} (h : f8_isPlayer v1 S = some q) {H : Heap} {locs : List Loc} {ls : Array Slot} (hG : gd_W (dC, dI) A s (wd_M0 cI a X S) H locs) (hl : lv_has ls 2 [(0, .ref (a 0)), (1, .int v1)]) : W p l e RM8_isPlayer s m args below meth c H locs 0 0 (MQ below (qi_W (dC, dI) [(cI, .int)] A q (wd_M0 cI a X S)) args s 0 0 A) (F0 m 0 ls []) := by
  unfold f8_isPlayer at h
  obtain ⟨hx, hb, hr, hts, hown, hlocks, hml⟩ := id C
  refine lv_iload_n hx hb dX8_isPlayer_0 rfl (lv_at hl 1 rfl) ?_
  refine lv_iconst (v := (0 : Int32)) hx hb dX8_isPlayer_1 (by decide) ?_
  refine lv_aload_n hx hb dX8_isPlayer_2 rfl (lv_at hl 0 rfl) ?_
  refine va_get (D := (dC, dI)) (ci := 7) (v := .ref (a 1)) (C := RX8) (T := TX8) (N := 17) hx hb hts inlX8 hown hK hG.1 0 rfl rfl 0 (by decide) (hts (Cond.fieldLink RX8 7 "DiceRoadsModel" "state" "[I") wq_637) (fun _ h9 => h9) rfl dX8_isPlayer_3 ?_
  refine lv_bipush (v := (6 : Int32)) hx hb dX8_isPlayer_6 (by decide) ?_
  obtain ⟨hi, h⟩ := fo_ck_some h
  refine va_iald hx hb hK hG.1 1 0 rfl rfl hi dX8_isPlayer_8 ?_
  refine lv_iconst (v := (1 : Int32)) hx hb dX8_isPlayer_9 (by decide) ?_
  refine lv_isub hx hb dX8_isPlayer_10 ?_
  obtain ⟨q11, hq11, h⟩ := fo_bd_some h
  refine gc_iS (As := [.int v1, .int (0 : Int32), .int ((S (6 : Int32).toNatClampNeg) - (1 : Int32))]) (rest := []) (wc := ([] : va_W)) (w1 := ([] : va_W)) ⟨hx, hb, hml, hown, hts⟩ (c8_within l (a := a) hq11) (va_cwS 3 hts gv_X8_42 rfl rfl rfl hd8_within ⟨Nat.le_of_ble_eq_true rfl, Nat.le_of_ble_eq_true rfl⟩) hK [] rfl hA hG [] rfl rfl rfl rfl hl.1 rfl (Nat.le_of_ble_eq_true rfl) dX8_isPlayer_11 ⟨Nat.zero_le _, Nat.zero_le _⟩ (fun H locs hG9 => ?_)
  have hG : gd_W (dC, dI) A s (wd_M0 cI a X S) H locs := hG9
  obtain ⟨hz, h⟩ := fo_zz_some h
  exact gr_z hx hb hr hlocks hK hG (Option.some.inj h) (nar_b hz) dX8_isPlayer_14
set_option maxRecDepth 100000 in
set_option maxHeartbeats 4000000 in
theorem c8_isPlayer (l : Launch) {dC : Nat → ClassId} {dI : Nat → Nat → Nat} {cI : ClassId} {a : Nat → Nat} {X : Nat → Int32} {v1 : Int32} {S : (Nat → Int32)} {q : Int32} (h : f8_isPlayer v1 S = some q) : mi_M l yX8_isPlayer wm8_isPlayer RM8_isPlayer (dC, dI) [(cI, .int)] [.ref (a 0), .int v1] (wd_M0 cI a X S) q (wd_M0 cI a X S) := by
  intro sz
  refine Met.ofW (cc := cX8_isPlayer) (maxL := 2) (ret := (some .boolean)) (by decide) rfl ?_
  intro p e s m args below meth c s₁ B hml hv
  obtain ⟨rfl, hsz, hP, hK, hD0⟩ := hv
  subst hsz
  have hl := lv_entry ([.ref (a 0), .int v1] : List Value) (n := 2) (Nat.le_of_ble_eq_true rfl)
  rw [lg_entry_eq]
  generalize (lg_sl ([.ref (a 0), .int v1] : List Value) ++ List.replicate (2 - (lg_sl ([.ref (a 0), .int v1] : List Value)).length) Slot.unset).toArray = ls at hl ⊢
  exact w8_isPlayer (a := a) ⟨B.exec, B.bytes, B.returns, fun w hw => atoms_spec (ws := wm8_isPlayer) B.pre w (List.mem_cons_of_mem _ hw), findClass_of_methodNamed B.named, B.notSynchronized, hml⟩ hK (fun _ h => Or.inr h) h ⟨hP, hD0.self, va_S.rf⟩ hl
end
/-! ## DiceRoadsModel.playerPart(II)I -/
section
variable {p : Program} {l : Launch} {e : Env} {s : State} {m : MethodId} {args : Array Value} {below : List Frame} {meth : Method} {c : Code} {dC : Nat → ClassId} {dI : Nat → Nat → Nat} {cI : ClassId} {A : Nat → Prop}
set_option maxRecDepth 100000 in
set_option maxHeartbeats 4000000 in
theorem w8_playerPart (C : cx_M p s m args meth c RX8 cX8_playerPart (some .int) 3) (hK : va_K (dC, dI) vwCl [(cI, .int)] s) (hA : ∀ q, s.heap.size ≤ q → A q) {a : Nat → Nat} {X : Nat → Int32} {q : Int32} {v1 : Int32} {v2 : Int32} {S : (Nat → Int32)} (h : f8_playerPart v1 v2 S = some q) {H : Heap} {locs : List Loc} {ls : Array Slot} (hG : gd_W (dC, dI) A s (wd_M0 cI a X S) H locs) (hl : lv_has ls 3 [(0, .ref (a 0)), (1, .int v1), (2, .int v2)]) : W p l e RM8_playerPart s m args below meth c H locs 0 0 (MQ below (qi_W (dC, dI) [(cI, .int)] A q (wd_M0 cI a X S)) args s 0 0 A) (F0 m 0 ls []) := by
  unfold f8_playerPart at h
  obtain ⟨hx, hb, hr, hts, hown, hlocks, hml⟩ := id C
  refine lv_aload_n hx hb dX8_playerPart_0 rfl (lv_at hl 0 rfl) ?_
  refine va_get (D := (dC, dI)) (ci := 7) (v := .ref (a 1)) (C := RX8) (T := TX8) (N := 17) hx hb hts inlX8 hown hK hG.1 0 rfl rfl 0 (by decide) (hts (Cond.fieldLink RX8 7 "DiceRoadsModel" "state" "[I") wq_637) (fun _ h9 => h9) rfl dX8_playerPart_1 ?_
  refine lv_bipush (v := (51 : Int32)) hx hb dX8_playerPart_4 (by decide) ?_
  refine lv_bipush (v := (6 : Int32)) hx hb dX8_playerPart_6 (by decide) ?_
  refine lv_iload_n hx hb dX8_playerPart_8 rfl (lv_at hl 1 rfl) ?_
  refine lv_imul hx hb dX8_playerPart_9 ?_
  refine lv_iadd hx hb dX8_playerPart_10 ?_
  refine lv_iload_n hx hb dX8_playerPart_11 rfl (lv_at hl 2 rfl) ?_
  refine lv_iadd hx hb dX8_playerPart_12 ?_
  obtain ⟨hi, h⟩ := fo_ck_some h
  refine va_iald hx hb hK hG.1 1 0 rfl rfl hi dX8_playerPart_13 ?_
  exact gr_i hx hb hr hlocks hK hG (Option.some.inj h) dX8_playerPart_14
set_option maxRecDepth 100000 in
set_option maxHeartbeats 4000000 in
theorem c8_playerPart (l : Launch) {dC : Nat → ClassId} {dI : Nat → Nat → Nat} {cI : ClassId} {a : Nat → Nat} {X : Nat → Int32} {v1 : Int32} {v2 : Int32} {S : (Nat → Int32)} {q : Int32} (h : f8_playerPart v1 v2 S = some q) : mi_M l yX8_playerPart wm8_playerPart RM8_playerPart (dC, dI) [(cI, .int)] [.ref (a 0), .int v1, .int v2] (wd_M0 cI a X S) q (wd_M0 cI a X S) := by
  intro sz
  refine Met.ofW (cc := cX8_playerPart) (maxL := 3) (ret := (some .int)) (by decide) rfl ?_
  intro p e s m args below meth c s₁ B hml hv
  obtain ⟨rfl, hsz, hP, hK, hD0⟩ := hv
  subst hsz
  have hl := lv_entry ([.ref (a 0), .int v1, .int v2] : List Value) (n := 3) (Nat.le_of_ble_eq_true rfl)
  rw [lg_entry_eq]
  generalize (lg_sl ([.ref (a 0), .int v1, .int v2] : List Value) ++ List.replicate (3 - (lg_sl ([.ref (a 0), .int v1, .int v2] : List Value)).length) Slot.unset).toArray = ls at hl ⊢
  exact w8_playerPart (a := a) ⟨B.exec, B.bytes, B.returns, fun w hw => atoms_spec (ws := wm8_playerPart) B.pre w (List.mem_cons_of_mem _ hw), findClass_of_methodNamed B.named, B.notSynchronized, hml⟩ hK (fun _ h => Or.inr h) h ⟨hP, hD0.self, va_S.rf⟩ hl
end
/-! ## DiceRoadsModel.adds(III)V -/
section
variable {p : Program} {l : Launch} {e : Env} {s : State} {m : MethodId} {args : Array Value} {below : List Frame} {meth : Method} {c : Code} {dC : Nat → ClassId} {dI : Nat → Nat → Nat} {cI : ClassId} {A : Nat → Prop}
set_option maxRecDepth 100000 in
set_option maxHeartbeats 4000000 in
theorem w8_adds (C : cx_M p s m args meth c RX8 cX8_adds none 4) (hK : va_K (dC, dI) vwCl [(cI, .int)] s) (hA : ∀ q, s.heap.size ≤ q → A q) {a : Nat → Nat} {X : Nat → Int32} {q : (Nat → Int32)} {v1 : Int32} {v2 : Int32} {v3 : Int32} {S : (Nat → Int32)} (h : f8_adds v1 v2 v3 S = some q) {H : Heap} {locs : List Loc} {ls : Array Slot} (hG : gd_W (dC, dI) A s (wd_M0 cI a X S) H locs) (hl : lv_has ls 4 [(0, .ref (a 0)), (1, .int v1), (2, .int v2), (3, .int v3)]) : W p l e RM8_adds s m args below meth c H locs 0 0 (MQ below (qv_W (dC, dI) [(cI, .int)] A (wd_M0 cI a X q)) args s 0 0 A) (F0 m 0 ls []) := by
  unfold f8_adds at h
  obtain ⟨hx, hb, hr, hts, hown, hlocks, hml⟩ := id C
  refine lv_aload_n hx hb dX8_adds_0 rfl (lv_at hl 0 rfl) ?_
  refine va_get (D := (dC, dI)) (ci := 7) (v := .ref (a 1)) (C := RX8) (T := TX8) (N := 17) hx hb hts inlX8 hown hK hG.1 0 rfl rfl 0 (by decide) (hts (Cond.fieldLink RX8 7 "DiceRoadsModel" "state" "[I") wq_637) (fun _ h9 => h9) rfl dX8_adds_1 ?_
  refine lv_bipush (v := (51 : Int32)) hx hb dX8_adds_4 (by decide) ?_
  refine lv_bipush (v := (6 : Int32)) hx hb dX8_adds_6 (by decide) ?_
  refine lv_iload_n hx hb dX8_adds_8 rfl (lv_at hl 1 rfl) ?_
  refine lv_imul hx hb dX8_adds_9 ?_
  refine lv_iadd hx hb dX8_adds_10 ?_
  refine lv_iload_n hx hb dX8_adds_11 rfl (lv_at hl 2 rfl) ?_
  refine lv_iadd hx hb dX8_adds_12 ?_
  refine lv_dup2_11 hx hb dX8_adds_13 rfl rfl ?_
  obtain ⟨hi, h⟩ := fo_ck_some h
  refine va_iald hx hb hK hG.1 1 0 rfl rfl hi dX8_adds_14 ?_
  refine lv_iload_n hx hb dX8_adds_15 rfl (lv_at hl 3 rfl) ?_
  refine lv_iadd hx hb dX8_adds_16 ?_
  obtain ⟨hi, h⟩ := fo_ck_some h
  refine va_iast hx hb hK hG.1 hG.2.1 hG.2.2 1 0 rfl rfl hi dX8_adds_17 (fun H locs hP9 hD9 hS9 => ?_)
  have hG : gd_W (dC, dI) A s (wd_M0 cI a X (upd S (((51 : Int32) + ((6 : Int32) * v1)) + v2).toNatClampNeg ((S (((51 : Int32) + ((6 : Int32) * v1)) + v2).toNatClampNeg) + v3))) H locs := ⟨hP9, hD9, hS9⟩
  obtain rfl := Option.some.inj h
  exact gr_v hx hb hr hlocks hK hG dX8_adds_18
set_option maxRecDepth 100000 in
set_option maxHeartbeats 4000000 in
theorem c8_adds (l : Launch) {dC : Nat → ClassId} {dI : Nat → Nat → Nat} {cI : ClassId} {a : Nat → Nat} {X : Nat → Int32} {v1 : Int32} {v2 : Int32} {v3 : Int32} {S : (Nat → Int32)} {q : (Nat → Int32)} (h : f8_adds v1 v2 v3 S = some q) : mv_M l yX8_adds wm8_adds RM8_adds (dC, dI) [(cI, .int)] [.ref (a 0), .int v1, .int v2, .int v3] (wd_M0 cI a X S) (wd_M0 cI a X q) := by
  intro sz
  refine Met.ofW (cc := cX8_adds) (maxL := 4) (ret := none) (by decide) rfl ?_
  intro p e s m args below meth c s₁ B hml hv
  obtain ⟨rfl, hsz, hP, hK, hD0⟩ := hv
  subst hsz
  have hl := lv_entry ([.ref (a 0), .int v1, .int v2, .int v3] : List Value) (n := 4) (Nat.le_of_ble_eq_true rfl)
  rw [lg_entry_eq]
  generalize (lg_sl ([.ref (a 0), .int v1, .int v2, .int v3] : List Value) ++ List.replicate (4 - (lg_sl ([.ref (a 0), .int v1, .int v2, .int v3] : List Value)).length) Slot.unset).toArray = ls at hl ⊢
  exact w8_adds (a := a) ⟨B.exec, B.bytes, B.returns, fun w hw => atoms_spec (ws := wm8_adds) B.pre w (List.mem_cons_of_mem _ hw), findClass_of_methodNamed B.named, B.notSynchronized, hml⟩ hK (fun _ h => Or.inr h) h ⟨hP, hD0.self, va_S.rf⟩ hl
end
/-! ## DiceRoadsModel.debtOf(II)I -/
section
variable {p : Program} {l : Launch} {e : Env} {s : State} {m : MethodId} {args : Array Value} {below : List Frame} {meth : Method} {c : Code} {dC : Nat → ClassId} {dI : Nat → Nat → Nat} {cI : ClassId} {A : Nat → Prop}
set_option maxRecDepth 100000 in
set_option maxHeartbeats 4000000 in
theorem w8_debtOf (C : cx_M p s m args meth c RX8 cX8_debtOf (some .int) 3) (hK : va_K (dC, dI) vwCl [(cI, .int)] s) (hA : ∀ q, s.heap.size ≤ q → A q) {a : Nat → Nat} {X : Nat → Int32} {q : Int32} {v1 : Int32} {v2 : Int32} {S : (Nat → Int32)} (h : f8_debtOf v1 v2 S = some q) {H : Heap} {locs : List Loc} {ls : Array Slot} (hG : gd_W (dC, dI) A s (wd_M0 cI a X S) H locs) (hl : lv_has ls 3 [(0, .ref (a 0)), (1, .int v1), (2, .int v2)]) : W p l e RM8_debtOf s m args below meth c H locs 0 0 (MQ below (qi_W (dC, dI) [(cI, .int)] A q (wd_M0 cI a X S)) args s 0 0 A) (F0 m 0 ls []) := by
  unfold f8_debtOf at h
  obtain ⟨hx, hb, hr, hts, hown, hlocks, hml⟩ := id C
  refine lv_aload_n hx hb dX8_debtOf_0 rfl (lv_at hl 0 rfl) ?_
  refine va_get (D := (dC, dI)) (ci := 7) (v := .ref (a 1)) (C := RX8) (T := TX8) (N := 17) hx hb hts inlX8 hown hK hG.1 0 rfl rfl 0 (by decide) (hts (Cond.fieldLink RX8 7 "DiceRoadsModel" "state" "[I") wq_637) (fun _ h9 => h9) rfl dX8_debtOf_1 ?_
  refine lv_bipush (v := (75 : Int32)) hx hb dX8_debtOf_4 (by decide) ?_
  refine lv_iconst (v := (4 : Int32)) hx hb dX8_debtOf_6 (by decide) ?_
  refine lv_iload_n hx hb dX8_debtOf_7 rfl (lv_at hl 1 rfl) ?_
  refine lv_imul hx hb dX8_debtOf_8 ?_
  refine lv_iadd hx hb dX8_debtOf_9 ?_
  refine lv_iload_n hx hb dX8_debtOf_10 rfl (lv_at hl 2 rfl) ?_
  refine lv_iadd hx hb dX8_debtOf_11 ?_
  obtain ⟨hi, h⟩ := fo_ck_some h
  refine va_iald hx hb hK hG.1 1 0 rfl rfl hi dX8_debtOf_12 ?_
  exact gr_i hx hb hr hlocks hK hG (Option.some.inj h) dX8_debtOf_13
set_option maxRecDepth 100000 in
set_option maxHeartbeats 4000000 in
theorem c8_debtOf (l : Launch) {dC : Nat → ClassId} {dI : Nat → Nat → Nat} {cI : ClassId} {a : Nat → Nat} {X : Nat → Int32} {v1 : Int32} {v2 : Int32} {S : (Nat → Int32)} {q : Int32} (h : f8_debtOf v1 v2 S = some q) : mi_M l yX8_debtOf wm8_debtOf RM8_debtOf (dC, dI) [(cI, .int)] [.ref (a 0), .int v1, .int v2] (wd_M0 cI a X S) q (wd_M0 cI a X S) := by
  intro sz
  refine Met.ofW (cc := cX8_debtOf) (maxL := 3) (ret := (some .int)) (by decide) rfl ?_
  intro p e s m args below meth c s₁ B hml hv
  obtain ⟨rfl, hsz, hP, hK, hD0⟩ := hv
  subst hsz
  have hl := lv_entry ([.ref (a 0), .int v1, .int v2] : List Value) (n := 3) (Nat.le_of_ble_eq_true rfl)
  rw [lg_entry_eq]
  generalize (lg_sl ([.ref (a 0), .int v1, .int v2] : List Value) ++ List.replicate (3 - (lg_sl ([.ref (a 0), .int v1, .int v2] : List Value)).length) Slot.unset).toArray = ls at hl ⊢
  exact w8_debtOf (a := a) ⟨B.exec, B.bytes, B.returns, fun w hw => atoms_spec (ws := wm8_debtOf) B.pre w (List.mem_cons_of_mem _ hw), findClass_of_methodNamed B.named, B.notSynchronized, hml⟩ hK (fun _ h => Or.inr h) h ⟨hP, hD0.self, va_S.rf⟩ hl
end
/-! ## DiceRoadsModel.ageOf(II)I -/
section
variable {p : Program} {l : Launch} {e : Env} {s : State} {m : MethodId} {args : Array Value} {below : List Frame} {meth : Method} {c : Code} {dC : Nat → ClassId} {dI : Nat → Nat → Nat} {cI : ClassId} {A : Nat → Prop}
set_option maxRecDepth 100000 in
set_option maxHeartbeats 4000000 in
theorem w8_ageOf (C : cx_M p s m args meth c RX8 cX8_ageOf (some .int) 3) (hK : va_K (dC, dI) vwCl [(cI, .int)] s) (hA : ∀ q, s.heap.size ≤ q → A q) {a : Nat → Nat} {X : Nat → Int32} {q : Int32} {v1 : Int32} {v2 : Int32} {S : (Nat → Int32)} (h : f8_ageOf v1 v2 S = some q) {H : Heap} {locs : List Loc} {ls : Array Slot} (hG : gd_W (dC, dI) A s (wd_M0 cI a X S) H locs) (hl : lv_has ls 3 [(0, .ref (a 0)), (1, .int v1), (2, .int v2)]) : W p l e RM8_ageOf s m args below meth c H locs 0 0 (MQ below (qi_W (dC, dI) [(cI, .int)] A q (wd_M0 cI a X S)) args s 0 0 A) (F0 m 0 ls []) := by
  unfold f8_ageOf at h
  obtain ⟨hx, hb, hr, hts, hown, hlocks, hml⟩ := id C
  refine lv_aload_n hx hb dX8_ageOf_0 rfl (lv_at hl 0 rfl) ?_
  refine va_get (D := (dC, dI)) (ci := 7) (v := .ref (a 1)) (C := RX8) (T := TX8) (N := 17) hx hb hts inlX8 hown hK hG.1 0 rfl rfl 0 (by decide) (hts (Cond.fieldLink RX8 7 "DiceRoadsModel" "state" "[I") wq_637) (fun _ h9 => h9) rfl dX8_ageOf_1 ?_
  refine lv_bipush (v := (91 : Int32)) hx hb dX8_ageOf_4 (by decide) ?_
  refine lv_iconst (v := (4 : Int32)) hx hb dX8_ageOf_6 (by decide) ?_
  refine lv_iload_n hx hb dX8_ageOf_7 rfl (lv_at hl 1 rfl) ?_
  refine lv_imul hx hb dX8_ageOf_8 ?_
  refine lv_iadd hx hb dX8_ageOf_9 ?_
  refine lv_iload_n hx hb dX8_ageOf_10 rfl (lv_at hl 2 rfl) ?_
  refine lv_iadd hx hb dX8_ageOf_11 ?_
  obtain ⟨hi, h⟩ := fo_ck_some h
  refine va_iald hx hb hK hG.1 1 0 rfl rfl hi dX8_ageOf_12 ?_
  exact gr_i hx hb hr hlocks hK hG (Option.some.inj h) dX8_ageOf_13
set_option maxRecDepth 100000 in
set_option maxHeartbeats 4000000 in
theorem c8_ageOf (l : Launch) {dC : Nat → ClassId} {dI : Nat → Nat → Nat} {cI : ClassId} {a : Nat → Nat} {X : Nat → Int32} {v1 : Int32} {v2 : Int32} {S : (Nat → Int32)} {q : Int32} (h : f8_ageOf v1 v2 S = some q) : mi_M l yX8_ageOf wm8_ageOf RM8_ageOf (dC, dI) [(cI, .int)] [.ref (a 0), .int v1, .int v2] (wd_M0 cI a X S) q (wd_M0 cI a X S) := by
  intro sz
  refine Met.ofW (cc := cX8_ageOf) (maxL := 3) (ret := (some .int)) (by decide) rfl ?_
  intro p e s m args below meth c s₁ B hml hv
  obtain ⟨rfl, hsz, hP, hK, hD0⟩ := hv
  subst hsz
  have hl := lv_entry ([.ref (a 0), .int v1, .int v2] : List Value) (n := 3) (Nat.le_of_ble_eq_true rfl)
  rw [lg_entry_eq]
  generalize (lg_sl ([.ref (a 0), .int v1, .int v2] : List Value) ++ List.replicate (3 - (lg_sl ([.ref (a 0), .int v1, .int v2] : List Value)).length) Slot.unset).toArray = ls at hl ⊢
  exact w8_ageOf (a := a) ⟨B.exec, B.bytes, B.returns, fun w hw => atoms_spec (ws := wm8_ageOf) B.pre w (List.mem_cons_of_mem _ hw), findClass_of_methodNamed B.named, B.notSynchronized, hml⟩ hK (fun _ h => Or.inr h) h ⟨hP, hD0.self, va_S.rf⟩ hl
end
/-! ## DiceRoadsModel.addsDebt(III)V -/
section
variable {p : Program} {l : Launch} {e : Env} {s : State} {m : MethodId} {args : Array Value} {below : List Frame} {meth : Method} {c : Code} {dC : Nat → ClassId} {dI : Nat → Nat → Nat} {cI : ClassId} {A : Nat → Prop}
set_option maxRecDepth 100000 in
set_option maxHeartbeats 4000000 in
theorem w8_addsDebt_b37 (C : cx_M p s m args meth c RX8 cX8_addsDebt none 5) (hK : va_K (dC, dI) vwCl [(cI, .int)] s) (hA : ∀ q, s.heap.size ≤ q → A q) {a : Nat → Nat} {X : Nat → Int32} {q : (Nat → Int32)} {v1 : Int32} {v2 : Int32} {S : (Nat → Int32)} (h : f8_addsDebt_b37 v1 v2 S = some q) {H : Heap} {locs : List Loc} {ls : Array Slot} (hG : gd_W (dC, dI) A s (wd_M0 cI a X S) H locs) (hl : lv_has ls 5 [(0, .ref (a 0)), (1, .int v1), (2, .int v2)]) : W p l e RM8_addsDebt s m args below meth c H locs 0 0 (MQ below (qv_W (dC, dI) [(cI, .int)] A (wd_M0 cI a X q)) args s 0 0 A) (F0 m 37 ls []) := by
  unfold f8_addsDebt_b37 at h
  obtain ⟨hx, hb, hr, hts, hown, hlocks, hml⟩ := id C
  refine lv_aload_n hx hb dX8_addsDebt_37 rfl (lv_at hl 0 rfl) ?_
  refine va_get (D := (dC, dI)) (ci := 7) (v := .ref (a 1)) (C := RX8) (T := TX8) (N := 17) hx hb hts inlX8 hown hK hG.1 0 rfl rfl 0 (by decide) (hts (Cond.fieldLink RX8 7 "DiceRoadsModel" "state" "[I") wq_637) (fun _ h9 => h9) rfl dX8_addsDebt_38 ?_
  refine lv_bipush (v := (91 : Int32)) hx hb dX8_addsDebt_41 (by decide) ?_
  refine lv_iconst (v := (4 : Int32)) hx hb dX8_addsDebt_43 (by decide) ?_
  refine lv_iload_n hx hb dX8_addsDebt_44 rfl (lv_at hl 1 rfl) ?_
  refine lv_imul hx hb dX8_addsDebt_45 ?_
  refine lv_iadd hx hb dX8_addsDebt_46 ?_
  refine lv_iload_n hx hb dX8_addsDebt_47 rfl (lv_at hl 2 rfl) ?_
  refine lv_iadd hx hb dX8_addsDebt_48 ?_
  refine lv_iconst (v := (0 : Int32)) hx hb dX8_addsDebt_49 (by decide) ?_
  obtain ⟨hi, h⟩ := fo_ck_some h
  refine va_iast hx hb hK hG.1 hG.2.1 hG.2.2 1 0 rfl rfl hi dX8_addsDebt_50 (fun H locs hP9 hD9 hS9 => ?_)
  have hG : gd_W (dC, dI) A s (wd_M0 cI a X (upd S (((91 : Int32) + ((4 : Int32) * v1)) + v2).toNatClampNeg (0 : Int32))) H locs := ⟨hP9, hD9, hS9⟩
  obtain rfl := Option.some.inj h
  exact gr_v hx hb hr hlocks hK hG dX8_addsDebt_51
set_option maxRecDepth 100000 in
set_option maxHeartbeats 4000000 in
theorem w8_addsDebt (C : cx_M p s m args meth c RX8 cX8_addsDebt none 5) (hK : va_K (dC, dI) vwCl [(cI, .int)] s) (hA : ∀ q, s.heap.size ≤ q → A q) {a : Nat → Nat} {X : Nat → Int32} {q : (Nat → Int32)} {v1 : Int32} {v2 : Int32} {v3 : Int32} {S : (Nat → Int32)} (h : f8_addsDebt v1 v2 v3 S = some q) {H : Heap} {locs : List Loc} {ls : Array Slot} (hG : gd_W (dC, dI) A s (wd_M0 cI a X S) H locs) (hl : lv_has ls 5 [(0, .ref (a 0)), (1, .int v1), (2, .int v2), (3, .int v3)]) : W p l e RM8_addsDebt s m args below meth c H locs 0 0 (MQ below (qv_W (dC, dI) [(cI, .int)] A (wd_M0 cI a X q)) args s 0 0 A) (F0 m 0 ls []) := by
  unfold f8_addsDebt at h
  obtain ⟨hx, hb, hr, hts, hown, hlocks, hml⟩ := id C
  refine lv_aload_n hx hb dX8_addsDebt_0 rfl (lv_at hl 0 rfl) ?_
  refine lv_iload_n hx hb dX8_addsDebt_1 rfl (lv_at hl 1 rfl) ?_
  refine lv_iload_n hx hb dX8_addsDebt_2 rfl (lv_at hl 2 rfl) ?_
  obtain ⟨q3, hq3, h⟩ := fo_bd_some h
  refine gc_iV (b := a 0) (C := RX8) (As := [.int v1, .int v2]) (rest := []) (wc := (wd_M0 cI a X S)) (w1 := (wd_M0 cI a X S)) (ci := 7) (q0 := 0) ⟨hx, hb, hml, hown, hts⟩ (c8_debtOf l (a := a) (X := X) hq3) (cwV 2 hts gv_X8_46 rfl rfl rfl hd8_debtOf ⟨Nat.le_of_ble_eq_true rfl, Nat.le_of_ble_eq_true rfl⟩) hK [0] rfl hA hG [0, 1] rfl rfl rfl rfl rfl rfl hl.1 rfl (Nat.le_of_ble_eq_true rfl) dX8_addsDebt_3 ⟨Nat.zero_le _, Nat.zero_le _⟩ (fun H locs hG9 => ?_)
  have hG : gd_W (dC, dI) A s (wd_M0 cI a X S) H locs := hG9
  refine lv_istore (lv' := [(4, .int q3), (0, .ref (a 0)), (1, .int v1), (2, .int v2), (3, .int v3)]) hx hb dX8_addsDebt_6 hl (by decide) rfl (fun ls hl => ?_)
  refine lv_aload_n hx hb dX8_addsDebt_8 rfl (lv_at hl 1 rfl) ?_
  refine va_get (D := (dC, dI)) (ci := 7) (v := .ref (a 1)) (C := RX8) (T := TX8) (N := 17) hx hb hts inlX8 hown hK hG.1 0 rfl rfl 0 (by decide) (hts (Cond.fieldLink RX8 7 "DiceRoadsModel" "state" "[I") wq_637) (fun _ h9 => h9) rfl dX8_addsDebt_9 ?_
  refine lv_bipush (v := (75 : Int32)) hx hb dX8_addsDebt_12 (by decide) ?_
  refine lv_iconst (v := (4 : Int32)) hx hb dX8_addsDebt_14 (by decide) ?_
  refine lv_iload_n hx hb dX8_addsDebt_15 rfl (lv_at hl 2 rfl) ?_
  refine lv_imul hx hb dX8_addsDebt_16 ?_
  refine lv_iadd hx hb dX8_addsDebt_17 ?_
  refine lv_iload_n hx hb dX8_addsDebt_18 rfl (lv_at hl 3 rfl) ?_
  refine lv_iadd hx hb dX8_addsDebt_19 ?_
  refine lv_iload hx hb dX8_addsDebt_20 (lv_at hl 0 rfl) ?_
  refine lv_iload_n hx hb dX8_addsDebt_22 rfl (lv_at hl 4 rfl) ?_
  refine lv_iadd hx hb dX8_addsDebt_23 ?_
  obtain ⟨hi, h⟩ := fo_ck_some h
  refine va_iast hx hb hK hG.1 hG.2.1 hG.2.2 1 0 rfl rfl hi dX8_addsDebt_24 (fun H locs hP9 hD9 hS9 => ?_)
  have hG : gd_W (dC, dI) A s (wd_M0 cI a X (upd S (((75 : Int32) + ((4 : Int32) * v1)) + v2).toNatClampNeg (q3 + v3))) H locs := ⟨hP9, hD9, hS9⟩
  refine lv_iload hx hb dX8_addsDebt_25 (lv_at hl 0 rfl) ?_
  refine lv_if_eq (tgt := 37) hx hb dX8_addsDebt_27 (by decide) (fun hc => ?_) (fun hc => ?_)
  · have h := fo_it h hc
    exact w8_addsDebt_b37 C hK hA h hG (lv_sub hl [1, 2, 3] rfl)
  · have h := fo_if h hc
    refine lv_iload hx hb dX8_addsDebt_30 (lv_at hl 0 rfl) ?_
    refine lv_iload_n hx hb dX8_addsDebt_32 rfl (lv_at hl 4 rfl) ?_
    refine lv_iadd hx hb dX8_addsDebt_33 ?_
    refine lv_if_ne (tgt := 51) hx hb dX8_addsDebt_34 (by decide) (fun hc => ?_) (fun hc => ?_)
    · have h := fo_if h hc
      obtain rfl := Option.some.inj h
      exact gr_v hx hb hr hlocks hK hG dX8_addsDebt_51
    · have h := fo_it h hc
      exact w8_addsDebt_b37 C hK hA h hG (lv_sub hl [1, 2, 3] rfl)
set_option maxRecDepth 100000 in
set_option maxHeartbeats 4000000 in
theorem c8_addsDebt (l : Launch) {dC : Nat → ClassId} {dI : Nat → Nat → Nat} {cI : ClassId} {a : Nat → Nat} {X : Nat → Int32} {v1 : Int32} {v2 : Int32} {v3 : Int32} {S : (Nat → Int32)} {q : (Nat → Int32)} (h : f8_addsDebt v1 v2 v3 S = some q) : mv_M l yX8_addsDebt wm8_addsDebt RM8_addsDebt (dC, dI) [(cI, .int)] [.ref (a 0), .int v1, .int v2, .int v3] (wd_M0 cI a X S) (wd_M0 cI a X q) := by
  intro sz
  refine Met.ofW (cc := cX8_addsDebt) (maxL := 5) (ret := none) (by decide) rfl ?_
  intro p e s m args below meth c s₁ B hml hv
  obtain ⟨rfl, hsz, hP, hK, hD0⟩ := hv
  subst hsz
  have hl := lv_entry ([.ref (a 0), .int v1, .int v2, .int v3] : List Value) (n := 5) (Nat.le_of_ble_eq_true rfl)
  rw [lg_entry_eq]
  generalize (lg_sl ([.ref (a 0), .int v1, .int v2, .int v3] : List Value) ++ List.replicate (5 - (lg_sl ([.ref (a 0), .int v1, .int v2, .int v3] : List Value)).length) Slot.unset).toArray = ls at hl ⊢
  exact w8_addsDebt (a := a) ⟨B.exec, B.bytes, B.returns, fun w hw => atoms_spec (ws := wm8_addsDebt) B.pre w (List.mem_cons_of_mem _ hw), findClass_of_methodNamed B.named, B.notSynchronized, hml⟩ hK (fun _ h => Or.inr h) h ⟨hP, hD0.self, va_S.rf⟩ hl
end
/-! ## DiceRoadsModel.owns(II)Z -/
section
variable {p : Program} {l : Launch} {e : Env} {s : State} {m : MethodId} {args : Array Value} {below : List Frame} {meth : Method} {c : Code} {dC : Nat → ClassId} {dI : Nat → Nat → Nat} {cI : ClassId} {A : Nat → Prop}
set_option maxRecDepth 100000 in
set_option maxHeartbeats 4000000 in
theorem w8_owns_b26 (C : cx_M p s m args meth c RX8 cX8_owns (some .boolean) 3) (hK : va_K (dC, dI) vwCl [(cI, .int)] s) (hA : ∀ q, s.heap.size ≤ q → A q) {a : Nat → Nat} {X : Nat → Int32} {S : (Nat → Int32)} {q : Int32} (h : f8_owns_b26 S = some q) {H : Heap} {locs : List Loc} {ls : Array Slot} (hG : gd_W (dC, dI) A s (wd_M0 cI a X S) H locs) (hl : lv_has ls 3 []) : W p l e RM8_owns s m args below meth c H locs 0 0 (MQ below (qi_W (dC, dI) [(cI, .int)] A q (wd_M0 cI a X S)) args s 0 0 A) (F0 m 26 ls []) := by
  unfold f8_owns_b26 at h
  obtain ⟨hx, hb, hr, hts, hown, hlocks, hml⟩ := id C
  refine lv_iconst (v := (1 : Int32)) hx hb dX8_owns_26 (by decide) ?_
  refine lv_goto (tgt := 31) hx hb dX8_owns_27 (by decide) ?_
  exact gr_z hx hb hr hlocks hK hG (Option.some.inj h) rfl dX8_owns_31
set_option maxRecDepth 100000 in
set_option maxHeartbeats 4000000 in
theorem w8_owns (C : cx_M p s m args meth c RX8 cX8_owns (some .boolean) 3) (hK : va_K (dC, dI) vwCl [(cI, .int)] s) (hA : ∀ q, s.heap.size ≤ q → A q) {a : Nat → Nat} {X : Nat → Int32} {q : Int32} {v1 : Int32} {v2 : Int32} {S : (Nat → Int32)} (h : f8_owns v1 v2 S = some q) {H : Heap} {locs : List Loc} {ls : Array Slot} (hG : gd_W (dC, dI) A s (wd_M0 cI a X S) H locs) (hl : lv_has ls 3 [(0, .ref (a 0)), (1, .int v1), (2, .int v2)]) : W p l e RM8_owns s m args below meth c H locs 0 0 (MQ below (qi_W (dC, dI) [(cI, .int)] A q (wd_M0 cI a X S)) args s 0 0 A) (F0 m 0 ls []) := by
  unfold f8_owns at h
  obtain ⟨hx, hb, hr, hts, hown, hlocks, hml⟩ := id C
  refine lv_aload_n hx hb dX8_owns_0 rfl (lv_at hl 0 rfl) ?_
  refine va_get (D := (dC, dI)) (ci := 7) (v := .ref (a 1)) (C := RX8) (T := TX8) (N := 17) hx hb hts inlX8 hown hK hG.1 0 rfl rfl 0 (by decide) (hts (Cond.fieldLink RX8 7 "DiceRoadsModel" "state" "[I") wq_637) (fun _ h9 => h9) rfl dX8_owns_1 ?_
  refine lv_bipush (v := (11 : Int32)) hx hb dX8_owns_4 (by decide) ?_
  refine lv_iload_n hx hb dX8_owns_6 rfl (lv_at hl 2 rfl) ?_
  refine lv_iadd hx hb dX8_owns_7 ?_
  obtain ⟨hi, h⟩ := fo_ck_some h
  refine va_iald hx hb hK hG.1 1 0 rfl rfl hi dX8_owns_8 ?_
  refine lv_iload_n hx hb dX8_owns_9 rfl (lv_at hl 1 rfl) ?_
  refine lv_icmp_eq (tgt := 26) hx hb dX8_owns_10 (by decide) (fun hc => ?_) (fun hc => ?_)
  · have h := fo_it h hc
    exact w8_owns_b26 C hK hA h hG (lv_sub hl [] rfl)
  · have h := fo_if h hc
    refine lv_aload_n hx hb dX8_owns_13 rfl (lv_at hl 0 rfl) ?_
    refine va_get (D := (dC, dI)) (ci := 7) (v := .ref (a 1)) (C := RX8) (T := TX8) (N := 17) hx hb hts inlX8 hown hK hG.1 0 rfl rfl 0 (by decide) (hts (Cond.fieldLink RX8 7 "DiceRoadsModel" "state" "[I") wq_637) (fun _ h9 => h9) rfl dX8_owns_14 ?_
    refine lv_bipush (v := (31 : Int32)) hx hb dX8_owns_17 (by decide) ?_
    refine lv_iload_n hx hb dX8_owns_19 rfl (lv_at hl 2 rfl) ?_
    refine lv_iadd hx hb dX8_owns_20 ?_
    obtain ⟨hi, h⟩ := fo_ck_some h
    refine va_iald hx hb hK hG.1 1 0 rfl rfl hi dX8_owns_21 ?_
    refine lv_iload_n hx hb dX8_owns_22 rfl (lv_at hl 1 rfl) ?_
    refine lv_icmp_ne (tgt := 30) hx hb dX8_owns_23 (by decide) (fun hc => ?_) (fun hc => ?_)
    · have h := fo_if h hc
      refine lv_iconst (v := (0 : Int32)) hx hb dX8_owns_30 (by decide) ?_
      exact gr_z hx hb hr hlocks hK hG (Option.some.inj h) rfl dX8_owns_31
    · have h := fo_it h hc
      exact w8_owns_b26 C hK hA h hG (lv_sub hl [] rfl)
set_option maxRecDepth 100000 in
set_option maxHeartbeats 4000000 in
theorem c8_owns (l : Launch) {dC : Nat → ClassId} {dI : Nat → Nat → Nat} {cI : ClassId} {a : Nat → Nat} {X : Nat → Int32} {v1 : Int32} {v2 : Int32} {S : (Nat → Int32)} {q : Int32} (h : f8_owns v1 v2 S = some q) : mi_M l yX8_owns wm8_owns RM8_owns (dC, dI) [(cI, .int)] [.ref (a 0), .int v1, .int v2] (wd_M0 cI a X S) q (wd_M0 cI a X S) := by
  intro sz
  refine Met.ofW (cc := cX8_owns) (maxL := 3) (ret := (some .boolean)) (by decide) rfl ?_
  intro p e s m args below meth c s₁ B hml hv
  obtain ⟨rfl, hsz, hP, hK, hD0⟩ := hv
  subst hsz
  have hl := lv_entry ([.ref (a 0), .int v1, .int v2] : List Value) (n := 3) (Nat.le_of_ble_eq_true rfl)
  rw [lg_entry_eq]
  generalize (lg_sl ([.ref (a 0), .int v1, .int v2] : List Value) ++ List.replicate (3 - (lg_sl ([.ref (a 0), .int v1, .int v2] : List Value)).length) Slot.unset).toArray = ls at hl ⊢
  exact w8_owns (a := a) ⟨B.exec, B.bytes, B.returns, fun w hw => atoms_spec (ws := wm8_owns) B.pre w (List.mem_cons_of_mem _ hw), findClass_of_methodNamed B.named, B.notSynchronized, hml⟩ hK (fun _ h => Or.inr h) h ⟨hP, hD0.self, va_S.rf⟩ hl
end
/-! ## DiceRoadsModel.ownedBy(I)I -/
section
variable {p : Program} {l : Launch} {e : Env} {s : State} {m : MethodId} {args : Array Value} {below : List Frame} {meth : Method} {c : Code} {dC : Nat → ClassId} {dI : Nat → Nat → Nat} {cI : ClassId} {A : Nat → Prop}
set_option maxRecDepth 100000 in
set_option maxHeartbeats 4000000 in
theorem w8_ownedBy_b27 (C : cx_M p s m args meth c RX8 cX8_ownedBy (some .int) 4) (hK : va_K (dC, dI) vwCl [(cI, .int)] s) (hA : ∀ q, s.heap.size ≤ q → A q) {a : Nat → Nat} {X : Nat → Int32} {S : (Nat → Int32)} {q : Int32} {rec4 : Int32 → Int32 → Int32 → (Nat → Int32) → Option Int32} (hrec4 : ∀ {v1 : Int32} {v2 : Int32} {v3 : Int32} , rec4 v1 v2 v3 S = some q → ∀ {H : Heap} {locs : List Loc} {ls : Array Slot}, gd_W (dC, dI) A s (wd_M0 cI a X S) H locs → lv_has ls 4 [(0, .ref (a 0)), (1, .int v1), (2, .int v2), (3, .int v3)] → W p l e RM8_ownedBy s m args below meth c H locs 0 0 (MQ below (qi_W (dC, dI) [(cI, .int)] A q (wd_M0 cI a X S)) args s 0 0 A) (F0 m 4 ls [])) {v1 : Int32} {v3 : Int32} {t0 : Int32} {t1 : Int32} (h : f8_ownedBy_b27 rec4 v1 v3 t0 t1 S = some q) {H : Heap} {locs : List Loc} {ls : Array Slot} (hG : gd_W (dC, dI) A s (wd_M0 cI a X S) H locs) (hl : lv_has ls 4 [(0, .ref (a 0)), (1, .int v1), (3, .int v3)]) : W p l e RM8_ownedBy s m args below meth c H locs 0 0 (MQ below (qi_W (dC, dI) [(cI, .int)] A q (wd_M0 cI a X S)) args s 0 0 A) (F0 m 27 ls [.int t1, .int t0]) := by
  unfold f8_ownedBy_b27 at h
  obtain ⟨hx, hb, hr, hts, hown, hlocks, hml⟩ := id C
  refine lv_ior hx hb dX8_ownedBy_27 ?_
  refine lv_istore_n (lv' := [(2, .int (t0 ||| t1)), (0, .ref (a 0)), (1, .int v1), (3, .int v3)]) hx hb dX8_ownedBy_28 rfl hl (by decide) rfl (fun ls hl => ?_)
  refine lv_iinc (v := (v3 + (1 : Int32))) (lv' := [(3, .int (v3 + (1 : Int32))), (2, .int (t0 ||| t1)), (0, .ref (a 0)), (1, .int v1)]) hx hb dX8_ownedBy_29 hl (k := 3) rfl rfl (by decide) rfl (fun ls hl => ?_)
  refine lv_goto (tgt := 4) hx hb dX8_ownedBy_32 (by decide) ?_
  exact hrec4 h hG (lv_sub hl [2, 3, 1, 0] rfl)
set_option maxRecDepth 100000 in
set_option maxHeartbeats 4000000 in
theorem w8_ownedBy_b4 (C : cx_M p s m args meth c RX8 cX8_ownedBy (some .int) 4) (hK : va_K (dC, dI) vwCl [(cI, .int)] s) (hA : ∀ q, s.heap.size ≤ q → A q) {a : Nat → Nat} {X : Nat → Int32} {S : (Nat → Int32)} {q : Int32} {rec4 : Int32 → Int32 → Int32 → (Nat → Int32) → Option Int32} (hrec4 : ∀ {v1 : Int32} {v2 : Int32} {v3 : Int32} , rec4 v1 v2 v3 S = some q → ∀ {H : Heap} {locs : List Loc} {ls : Array Slot}, gd_W (dC, dI) A s (wd_M0 cI a X S) H locs → lv_has ls 4 [(0, .ref (a 0)), (1, .int v1), (2, .int v2), (3, .int v3)] → W p l e RM8_ownedBy s m args below meth c H locs 0 0 (MQ below (qi_W (dC, dI) [(cI, .int)] A q (wd_M0 cI a X S)) args s 0 0 A) (F0 m 4 ls [])) {v1 : Int32} {v2 : Int32} {v3 : Int32} (h : f8_ownedBy_b4 rec4 v1 v2 v3 S = some q) {H : Heap} {locs : List Loc} {ls : Array Slot} (hG : gd_W (dC, dI) A s (wd_M0 cI a X S) H locs) (hl : lv_has ls 4 [(0, .ref (a 0)), (1, .int v1), (2, .int v2), (3, .int v3)]) : W p l e RM8_ownedBy s m args below meth c H locs 0 0 (MQ below (qi_W (dC, dI) [(cI, .int)] A q (wd_M0 cI a X S)) args s 0 0 A) (F0 m 4 ls []) := by
  unfold f8_ownedBy_b4 at h
  obtain ⟨hx, hb, hr, hts, hown, hlocks, hml⟩ := id C
  refine lv_iload_n hx hb dX8_ownedBy_4 rfl (lv_at hl 3 rfl) ?_
  refine lv_bipush (v := (20 : Int32)) hx hb dX8_ownedBy_5 (by decide) ?_
  refine lv_icmp_ge (tgt := 35) hx hb dX8_ownedBy_7 (by decide) (fun hc => ?_) (fun hc => ?_)
  · have h := fo_it h hc
    refine lv_iload_n hx hb dX8_ownedBy_35 rfl (lv_at hl 2 rfl) ?_
    exact gr_i hx hb hr hlocks hK hG (Option.some.inj h) dX8_ownedBy_36
  · have h := fo_if h hc
    refine lv_iload_n hx hb dX8_ownedBy_10 rfl (lv_at hl 2 rfl) ?_
    refine lv_aload_n hx hb dX8_ownedBy_11 rfl (lv_at hl 0 rfl) ?_
    refine lv_iload_n hx hb dX8_ownedBy_12 rfl (lv_at hl 1 rfl) ?_
    refine lv_iload_n hx hb dX8_ownedBy_13 rfl (lv_at hl 3 rfl) ?_
    obtain ⟨q14, hq14, h⟩ := fo_bd_some h
    refine gc_iV (b := a 0) (C := RX8) (As := [.int v1, .int v3]) (rest := [.int v2]) (wc := (wd_M0 cI a X S)) (w1 := (wd_M0 cI a X S)) (ci := 7) (q0 := 0) ⟨hx, hb, hml, hown, hts⟩ (c8_owns l (a := a) (X := X) hq14) (cwV 2 hts gv_X8_50 rfl rfl rfl hd8_owns ⟨Nat.le_of_ble_eq_true rfl, Nat.le_of_ble_eq_true rfl⟩) hK [0] rfl hA hG [0, 1] rfl rfl rfl rfl rfl rfl hl.1 rfl (Nat.le_of_ble_eq_true rfl) dX8_ownedBy_14 ⟨Nat.zero_le _, Nat.zero_le _⟩ (fun H locs hG9 => ?_)
    have hG : gd_W (dC, dI) A s (wd_M0 cI a X S) H locs := hG9
    refine lv_if_eq (tgt := 26) hx hb dX8_ownedBy_17 (by decide) (fun hc => ?_) (fun hc => ?_)
    · have h := fo_it h hc
      refine lv_iconst (v := (0 : Int32)) hx hb dX8_ownedBy_26 (by decide) ?_
      exact w8_ownedBy_b27 C hK hA (fun h => hrec4 h) h hG (lv_sub hl [0, 1, 3] rfl)
    · have h := fo_if h hc
      refine lv_iconst (v := (1 : Int32)) hx hb dX8_ownedBy_20 (by decide) ?_
      refine lv_iload_n hx hb dX8_ownedBy_21 rfl (lv_at hl 3 rfl) ?_
      refine lv_ishl hx hb dX8_ownedBy_22 ?_
      refine lv_goto (tgt := 27) hx hb dX8_ownedBy_23 (by decide) ?_
      exact w8_ownedBy_b27 C hK hA (fun h => hrec4 h) h hG (lv_sub hl [0, 1, 3] rfl)
set_option maxRecDepth 100000 in
set_option maxHeartbeats 4000000 in
theorem w8_ownedBy_L4 (C : cx_M p s m args meth c RX8 cX8_ownedBy (some .int) 4) (hK : va_K (dC, dI) vwCl [(cI, .int)] s) (hA : ∀ q, s.heap.size ≤ q → A q) {a : Nat → Nat} {X : Nat → Int32} {S : (Nat → Int32)} {q : Int32} : ∀ (n : Nat) {v1 : Int32} {v2 : Int32} {v3 : Int32}, f8_ownedBy_L4 n v1 v2 v3 S = some q → ∀ {H : Heap} {locs : List Loc} {ls : Array Slot}, gd_W (dC, dI) A s (wd_M0 cI a X S) H locs → lv_has ls 4 [(0, .ref (a 0)), (1, .int v1), (2, .int v2), (3, .int v3)] → W p l e RM8_ownedBy s m args below meth c H locs 0 0 (MQ below (qi_W (dC, dI) [(cI, .int)] A q (wd_M0 cI a X S)) args s 0 0 A) (F0 m 4 ls []) := by
  intro n
  induction n with
  | zero => intro _ _ _ h; exact nomatch h
  | succ n ih => intro v1 v2 v3 h H locs ls hG hl; exact w8_ownedBy_b4 C hK hA (fun h => ih h) (show f8_ownedBy_b4 (f8_ownedBy_L4 n) v1 v2 v3 S = some q from h) hG hl
set_option maxRecDepth 100000 in
set_option maxHeartbeats 4000000 in
theorem w8_ownedBy (C : cx_M p s m args meth c RX8 cX8_ownedBy (some .int) 4) (hK : va_K (dC, dI) vwCl [(cI, .int)] s) (hA : ∀ q, s.heap.size ≤ q → A q) {a : Nat → Nat} {X : Nat → Int32} {q : Int32} {v1 : Int32} {S : (Nat → Int32)} (h : f8_ownedBy v1 S = some q) {H : Heap} {locs : List Loc} {ls : Array Slot} (hG : gd_W (dC, dI) A s (wd_M0 cI a X S) H locs) (hl : lv_has ls 4 [(0, .ref (a 0)), (1, .int v1)]) : W p l e RM8_ownedBy s m args below meth c H locs 0 0 (MQ below (qi_W (dC, dI) [(cI, .int)] A q (wd_M0 cI a X S)) args s 0 0 A) (F0 m 0 ls []) := by
  unfold f8_ownedBy at h
  obtain ⟨hx, hb, hr, hts, hown, hlocks, hml⟩ := id C
  refine lv_iconst (v := (0 : Int32)) hx hb dX8_ownedBy_0 (by decide) ?_
  refine lv_istore_n (lv' := [(2, .int (0 : Int32)), (0, .ref (a 0)), (1, .int v1)]) hx hb dX8_ownedBy_1 rfl hl (by decide) rfl (fun ls hl => ?_)
  refine lv_iconst (v := (0 : Int32)) hx hb dX8_ownedBy_2 (by decide) ?_
  refine lv_istore_n (lv' := [(3, .int (0 : Int32)), (2, .int (0 : Int32)), (0, .ref (a 0)), (1, .int v1)]) hx hb dX8_ownedBy_3 rfl hl (by decide) rfl (fun ls hl => ?_)
  exact w8_ownedBy_L4 C hK hA fo_fu h hG (lv_sub hl [2, 3, 1, 0] rfl)
set_option maxRecDepth 100000 in
set_option maxHeartbeats 4000000 in
theorem c8_ownedBy (l : Launch) {dC : Nat → ClassId} {dI : Nat → Nat → Nat} {cI : ClassId} {a : Nat → Nat} {X : Nat → Int32} {v1 : Int32} {S : (Nat → Int32)} {q : Int32} (h : f8_ownedBy v1 S = some q) : mi_M l yX8_ownedBy wm8_ownedBy RM8_ownedBy (dC, dI) [(cI, .int)] [.ref (a 0), .int v1] (wd_M0 cI a X S) q (wd_M0 cI a X S) := by
  intro sz
  refine Met.ofW (cc := cX8_ownedBy) (maxL := 4) (ret := (some .int)) (by decide) rfl ?_
  intro p e s m args below meth c s₁ B hml hv
  obtain ⟨rfl, hsz, hP, hK, hD0⟩ := hv
  subst hsz
  have hl := lv_entry ([.ref (a 0), .int v1] : List Value) (n := 4) (Nat.le_of_ble_eq_true rfl)
  rw [lg_entry_eq]
  generalize (lg_sl ([.ref (a 0), .int v1] : List Value) ++ List.replicate (4 - (lg_sl ([.ref (a 0), .int v1] : List Value)).length) Slot.unset).toArray = ls at hl ⊢
  exact w8_ownedBy (a := a) ⟨B.exec, B.bytes, B.returns, fun w hw => atoms_spec (ws := wm8_ownedBy) B.pre w (List.mem_cons_of_mem _ hw), findClass_of_methodNamed B.named, B.notSynchronized, hml⟩ hK (fun _ h => Or.inr h) h ⟨hP, hD0.self, va_S.rf⟩ hl
end
/-! ## DiceRoadsModel.lowestOf(I)I -/
section
variable {p : Program} {l : Launch} {e : Env} {s : State} {m : MethodId} {args : Array Value} {below : List Frame} {meth : Method} {c : Code} {dC : Nat → ClassId} {dI : Nat → Nat → Nat} {cI : ClassId} {A : Nat → Prop}
set_option maxRecDepth 100000 in
set_option maxHeartbeats 4000000 in
theorem w8_lowestOf_b24 (C : cx_M p s m args meth c RX8 cX8_lowestOf (some .int) 4) (hK : va_K (dC, dI) vwCl [(cI, .int)] s) (hA : ∀ q, s.heap.size ≤ q → A q) {a : Nat → Nat} {X : Nat → Int32} {S : (Nat → Int32)} {q : Int32} {rec6 : Int32 → Int32 → Int32 → (Nat → Int32) → Option Int32} (hrec6 : ∀ {v1 : Int32} {v2 : Int32} {v3 : Int32} , rec6 v1 v2 v3 S = some q → ∀ {H : Heap} {locs : List Loc} {ls : Array Slot}, gd_W (dC, dI) A s (wd_M0 cI a X S) H locs → lv_has ls 4 [(0, .ref (a 0)), (1, .int v1), (2, .int v2), (3, .int v3)] → W p l e RM8_lowestOf s m args below meth c H locs 0 0 (MQ below (qi_W (dC, dI) [(cI, .int)] A q (wd_M0 cI a X S)) args s 0 0 A) (F0 m 6 ls [])) {v1 : Int32} {v3 : Int32} {t0 : Int32} (h : f8_lowestOf_b24 rec6 v1 v3 t0 S = some q) {H : Heap} {locs : List Loc} {ls : Array Slot} (hG : gd_W (dC, dI) A s (wd_M0 cI a X S) H locs) (hl : lv_has ls 4 [(0, .ref (a 0)), (1, .int v1), (3, .int v3)]) : W p l e RM8_lowestOf s m args below meth c H locs 0 0 (MQ below (qi_W (dC, dI) [(cI, .int)] A q (wd_M0 cI a X S)) args s 0 0 A) (F0 m 24 ls [.int t0]) := by
  unfold f8_lowestOf_b24 at h
  obtain ⟨hx, hb, hr, hts, hown, hlocks, hml⟩ := id C
  refine lv_istore_n (lv' := [(2, .int t0), (0, .ref (a 0)), (1, .int v1), (3, .int v3)]) hx hb dX8_lowestOf_24 rfl hl (by decide) rfl (fun ls hl => ?_)
  refine lv_iinc (v := (v3 + (-1 : Int32))) (lv' := [(3, .int (v3 + (-1 : Int32))), (2, .int t0), (0, .ref (a 0)), (1, .int v1)]) hx hb dX8_lowestOf_25 hl (k := 3) rfl rfl (by decide) rfl (fun ls hl => ?_)
  refine lv_goto (tgt := 6) hx hb dX8_lowestOf_28 (by decide) ?_
  exact hrec6 h hG (lv_sub hl [2, 3, 1, 0] rfl)
set_option maxRecDepth 100000 in
set_option maxHeartbeats 4000000 in
theorem w8_lowestOf_b6 (C : cx_M p s m args meth c RX8 cX8_lowestOf (some .int) 4) (hK : va_K (dC, dI) vwCl [(cI, .int)] s) (hA : ∀ q, s.heap.size ≤ q → A q) {a : Nat → Nat} {X : Nat → Int32} {S : (Nat → Int32)} {q : Int32} {rec6 : Int32 → Int32 → Int32 → (Nat → Int32) → Option Int32} (hrec6 : ∀ {v1 : Int32} {v2 : Int32} {v3 : Int32} , rec6 v1 v2 v3 S = some q → ∀ {H : Heap} {locs : List Loc} {ls : Array Slot}, gd_W (dC, dI) A s (wd_M0 cI a X S) H locs → lv_has ls 4 [(0, .ref (a 0)), (1, .int v1), (2, .int v2), (3, .int v3)] → W p l e RM8_lowestOf s m args below meth c H locs 0 0 (MQ below (qi_W (dC, dI) [(cI, .int)] A q (wd_M0 cI a X S)) args s 0 0 A) (F0 m 6 ls [])) {v1 : Int32} {v2 : Int32} {v3 : Int32} (h : f8_lowestOf_b6 rec6 v1 v2 v3 S = some q) {H : Heap} {locs : List Loc} {ls : Array Slot} (hG : gd_W (dC, dI) A s (wd_M0 cI a X S) H locs) (hl : lv_has ls 4 [(0, .ref (a 0)), (1, .int v1), (2, .int v2), (3, .int v3)]) : W p l e RM8_lowestOf s m args below meth c H locs 0 0 (MQ below (qi_W (dC, dI) [(cI, .int)] A q (wd_M0 cI a X S)) args s 0 0 A) (F0 m 6 ls []) := by
  unfold f8_lowestOf_b6 at h
  obtain ⟨hx, hb, hr, hts, hown, hlocks, hml⟩ := id C
  refine lv_iload_n hx hb dX8_lowestOf_6 rfl (lv_at hl 3 rfl) ?_
  refine lv_if_lt (tgt := 31) hx hb dX8_lowestOf_7 (by decide) (fun hc => ?_) (fun hc => ?_)
  · have h := fo_it h hc
    refine lv_iload_n hx hb dX8_lowestOf_31 rfl (lv_at hl 2 rfl) ?_
    exact gr_i hx hb hr hlocks hK hG (Option.some.inj h) dX8_lowestOf_32
  · have h := fo_if h hc
    refine lv_aload_n hx hb dX8_lowestOf_10 rfl (lv_at hl 0 rfl) ?_
    refine lv_iload_n hx hb dX8_lowestOf_11 rfl (lv_at hl 1 rfl) ?_
    refine lv_iload_n hx hb dX8_lowestOf_12 rfl (lv_at hl 3 rfl) ?_
    obtain ⟨q13, hq13, h⟩ := fo_bd_some h
    refine gc_iV (b := a 0) (C := RX8) (As := [.int v1, .int v3]) (rest := []) (wc := (wd_M0 cI a X S)) (w1 := (wd_M0 cI a X S)) (ci := 7) (q0 := 0) ⟨hx, hb, hml, hown, hts⟩ (c8_owns l (a := a) (X := X) hq13) (cwV 2 hts gv_X8_50 rfl rfl rfl hd8_owns ⟨Nat.le_of_ble_eq_true rfl, Nat.le_of_ble_eq_true rfl⟩) hK [0] rfl hA hG [0, 1] rfl rfl rfl rfl rfl rfl hl.1 rfl (Nat.le_of_ble_eq_true rfl) dX8_lowestOf_13 ⟨Nat.zero_le _, Nat.zero_le _⟩ (fun H locs hG9 => ?_)
    have hG : gd_W (dC, dI) A s (wd_M0 cI a X S) H locs := hG9
    refine lv_if_eq (tgt := 23) hx hb dX8_lowestOf_16 (by decide) (fun hc => ?_) (fun hc => ?_)
    · have h := fo_it h hc
      refine lv_iload_n hx hb dX8_lowestOf_23 rfl (lv_at hl 2 rfl) ?_
      exact w8_lowestOf_b24 C hK hA (fun h => hrec6 h) h hG (lv_sub hl [0, 1, 3] rfl)
    · have h := fo_if h hc
      refine lv_iload_n hx hb dX8_lowestOf_19 rfl (lv_at hl 3 rfl) ?_
      refine lv_goto (tgt := 24) hx hb dX8_lowestOf_20 (by decide) ?_
      exact w8_lowestOf_b24 C hK hA (fun h => hrec6 h) h hG (lv_sub hl [0, 1, 3] rfl)
set_option maxRecDepth 100000 in
set_option maxHeartbeats 4000000 in
theorem w8_lowestOf_L6 (C : cx_M p s m args meth c RX8 cX8_lowestOf (some .int) 4) (hK : va_K (dC, dI) vwCl [(cI, .int)] s) (hA : ∀ q, s.heap.size ≤ q → A q) {a : Nat → Nat} {X : Nat → Int32} {S : (Nat → Int32)} {q : Int32} : ∀ (n : Nat) {v1 : Int32} {v2 : Int32} {v3 : Int32}, f8_lowestOf_L6 n v1 v2 v3 S = some q → ∀ {H : Heap} {locs : List Loc} {ls : Array Slot}, gd_W (dC, dI) A s (wd_M0 cI a X S) H locs → lv_has ls 4 [(0, .ref (a 0)), (1, .int v1), (2, .int v2), (3, .int v3)] → W p l e RM8_lowestOf s m args below meth c H locs 0 0 (MQ below (qi_W (dC, dI) [(cI, .int)] A q (wd_M0 cI a X S)) args s 0 0 A) (F0 m 6 ls []) := by
  intro n
  induction n with
  | zero => intro _ _ _ h; exact nomatch h
  | succ n ih => intro v1 v2 v3 h H locs ls hG hl; exact w8_lowestOf_b6 C hK hA (fun h => ih h) (show f8_lowestOf_b6 (f8_lowestOf_L6 n) v1 v2 v3 S = some q from h) hG hl
set_option maxRecDepth 100000 in
set_option maxHeartbeats 4000000 in
theorem w8_lowestOf (C : cx_M p s m args meth c RX8 cX8_lowestOf (some .int) 4) (hK : va_K (dC, dI) vwCl [(cI, .int)] s) (hA : ∀ q, s.heap.size ≤ q → A q) {a : Nat → Nat} {X : Nat → Int32} {q : Int32} {v1 : Int32} {S : (Nat → Int32)} (h : f8_lowestOf v1 S = some q) {H : Heap} {locs : List Loc} {ls : Array Slot} (hG : gd_W (dC, dI) A s (wd_M0 cI a X S) H locs) (hl : lv_has ls 4 [(0, .ref (a 0)), (1, .int v1)]) : W p l e RM8_lowestOf s m args below meth c H locs 0 0 (MQ below (qi_W (dC, dI) [(cI, .int)] A q (wd_M0 cI a X S)) args s 0 0 A) (F0 m 0 ls []) := by
  unfold f8_lowestOf at h
  obtain ⟨hx, hb, hr, hts, hown, hlocks, hml⟩ := id C
  refine lv_bipush (v := (-6 : Int32)) hx hb dX8_lowestOf_0 (by decide) ?_
  refine lv_istore_n (lv' := [(2, .int (-6 : Int32)), (0, .ref (a 0)), (1, .int v1)]) hx hb dX8_lowestOf_2 rfl hl (by decide) rfl (fun ls hl => ?_)
  refine lv_bipush (v := (19 : Int32)) hx hb dX8_lowestOf_3 (by decide) ?_
  refine lv_istore_n (lv' := [(3, .int (19 : Int32)), (2, .int (-6 : Int32)), (0, .ref (a 0)), (1, .int v1)]) hx hb dX8_lowestOf_5 rfl hl (by decide) rfl (fun ls hl => ?_)
  exact w8_lowestOf_L6 C hK hA fo_fu h hG (lv_sub hl [2, 3, 1, 0] rfl)
set_option maxRecDepth 100000 in
set_option maxHeartbeats 4000000 in
theorem c8_lowestOf (l : Launch) {dC : Nat → ClassId} {dI : Nat → Nat → Nat} {cI : ClassId} {a : Nat → Nat} {X : Nat → Int32} {v1 : Int32} {S : (Nat → Int32)} {q : Int32} (h : f8_lowestOf v1 S = some q) : mi_M l yX8_lowestOf wm8_lowestOf RM8_lowestOf (dC, dI) [(cI, .int)] [.ref (a 0), .int v1] (wd_M0 cI a X S) q (wd_M0 cI a X S) := by
  intro sz
  refine Met.ofW (cc := cX8_lowestOf) (maxL := 4) (ret := (some .int)) (by decide) rfl ?_
  intro p e s m args below meth c s₁ B hml hv
  obtain ⟨rfl, hsz, hP, hK, hD0⟩ := hv
  subst hsz
  have hl := lv_entry ([.ref (a 0), .int v1] : List Value) (n := 4) (Nat.le_of_ble_eq_true rfl)
  rw [lg_entry_eq]
  generalize (lg_sl ([.ref (a 0), .int v1] : List Value) ++ List.replicate (4 - (lg_sl ([.ref (a 0), .int v1] : List Value)).length) Slot.unset).toArray = ls at hl ⊢
  exact w8_lowestOf (a := a) ⟨B.exec, B.bytes, B.returns, fun w hw => atoms_spec (ws := wm8_lowestOf) B.pre w (List.mem_cons_of_mem _ hw), findClass_of_methodNamed B.named, B.notSynchronized, hml⟩ hK (fun _ h => Or.inr h) h ⟨hP, hD0.self, va_S.rf⟩ hl
end
/-! ## DiceRoadsModel.standingAt(I)I -/
section
variable {p : Program} {l : Launch} {e : Env} {s : State} {m : MethodId} {args : Array Value} {below : List Frame} {meth : Method} {c : Code} {dC : Nat → ClassId} {dI : Nat → Nat → Nat} {cI : ClassId} {A : Nat → Prop}
set_option maxRecDepth 100000 in
set_option maxHeartbeats 4000000 in
theorem w8_standingAt_b33 (C : cx_M p s m args meth c RX8 cX8_standingAt (some .int) 4) (hK : va_K (dC, dI) vwCl [(cI, .int)] s) (hA : ∀ q, s.heap.size ≤ q → A q) {a : Nat → Nat} {X : Nat → Int32} {S : (Nat → Int32)} {q : Int32} {rec4 : Int32 → Int32 → Int32 → (Nat → Int32) → Option Int32} (hrec4 : ∀ {v1 : Int32} {v2 : Int32} {v3 : Int32} , rec4 v1 v2 v3 S = some q → ∀ {H : Heap} {locs : List Loc} {ls : Array Slot}, gd_W (dC, dI) A s (wd_M0 cI a X S) H locs → lv_has ls 4 [(0, .ref (a 0)), (1, .int v1), (2, .int v2), (3, .int v3)] → W p l e RM8_standingAt s m args below meth c H locs 0 0 (MQ below (qi_W (dC, dI) [(cI, .int)] A q (wd_M0 cI a X S)) args s 0 0 A) (F0 m 4 ls [])) {v1 : Int32} {v3 : Int32} {t0 : Int32} {t1 : Int32} (h : f8_standingAt_b33 rec4 v1 v3 t0 t1 S = some q) {H : Heap} {locs : List Loc} {ls : Array Slot} (hG : gd_W (dC, dI) A s (wd_M0 cI a X S) H locs) (hl : lv_has ls 4 [(0, .ref (a 0)), (1, .int v1), (3, .int v3)]) : W p l e RM8_standingAt s m args below meth c H locs 0 0 (MQ below (qi_W (dC, dI) [(cI, .int)] A q (wd_M0 cI a X S)) args s 0 0 A) (F0 m 33 ls [.int t1, .int t0]) := by
  unfold f8_standingAt_b33 at h
  obtain ⟨hx, hb, hr, hts, hown, hlocks, hml⟩ := id C
  refine lv_ior hx hb dX8_standingAt_33 ?_
  refine lv_istore_n (lv' := [(2, .int (t0 ||| t1)), (0, .ref (a 0)), (1, .int v1), (3, .int v3)]) hx hb dX8_standingAt_34 rfl hl (by decide) rfl (fun ls hl => ?_)
  refine lv_iinc (v := (v3 + (1 : Int32))) (lv' := [(3, .int (v3 + (1 : Int32))), (2, .int (t0 ||| t1)), (0, .ref (a 0)), (1, .int v1)]) hx hb dX8_standingAt_35 hl (k := 3) rfl rfl (by decide) rfl (fun ls hl => ?_)
  refine lv_goto (tgt := 4) hx hb dX8_standingAt_38 (by decide) ?_
  exact hrec4 h hG (lv_sub hl [2, 3, 1, 0] rfl)
set_option maxRecDepth 100000 in
set_option maxHeartbeats 4000000 in
theorem w8_standingAt_b4 (C : cx_M p s m args meth c RX8 cX8_standingAt (some .int) 4) (hK : va_K (dC, dI) vwCl [(cI, .int)] s) (hA : ∀ q, s.heap.size ≤ q → A q) {a : Nat → Nat} {X : Nat → Int32} {S : (Nat → Int32)} {q : Int32} {rec4 : Int32 → Int32 → Int32 → (Nat → Int32) → Option Int32} (hrec4 : ∀ {v1 : Int32} {v2 : Int32} {v3 : Int32} , rec4 v1 v2 v3 S = some q → ∀ {H : Heap} {locs : List Loc} {ls : Array Slot}, gd_W (dC, dI) A s (wd_M0 cI a X S) H locs → lv_has ls 4 [(0, .ref (a 0)), (1, .int v1), (2, .int v2), (3, .int v3)] → W p l e RM8_standingAt s m args below meth c H locs 0 0 (MQ below (qi_W (dC, dI) [(cI, .int)] A q (wd_M0 cI a X S)) args s 0 0 A) (F0 m 4 ls [])) {v1 : Int32} {v2 : Int32} {v3 : Int32} (h : f8_standingAt_b4 rec4 v1 v2 v3 S = some q) {H : Heap} {locs : List Loc} {ls : Array Slot} (hG : gd_W (dC, dI) A s (wd_M0 cI a X S) H locs) (hl : lv_has ls 4 [(0, .ref (a 0)), (1, .int v1), (2, .int v2), (3, .int v3)]) : W p l e RM8_standingAt s m args below meth c H locs 0 0 (MQ below (qi_W (dC, dI) [(cI, .int)] A q (wd_M0 cI a X S)) args s 0 0 A) (F0 m 4 ls []) := by
  unfold f8_standingAt_b4 at h
  obtain ⟨hx, hb, hr, hts, hown, hlocks, hml⟩ := id C
  refine lv_iload_n hx hb dX8_standingAt_4 rfl (lv_at hl 3 rfl) ?_
  refine lv_aload_n hx hb dX8_standingAt_5 rfl (lv_at hl 0 rfl) ?_
  refine va_get (D := (dC, dI)) (ci := 7) (v := .ref (a 1)) (C := RX8) (T := TX8) (N := 17) hx hb hts inlX8 hown hK hG.1 0 rfl rfl 0 (by decide) (hts (Cond.fieldLink RX8 7 "DiceRoadsModel" "state" "[I") wq_637) (fun _ h9 => h9) rfl dX8_standingAt_6 ?_
  refine lv_bipush (v := (6 : Int32)) hx hb dX8_standingAt_9 (by decide) ?_
  obtain ⟨hi, h⟩ := fo_ck_some h
  refine va_iald hx hb hK hG.1 1 0 rfl rfl hi dX8_standingAt_11 ?_
  refine lv_icmp_ge (tgt := 41) hx hb dX8_standingAt_12 (by decide) (fun hc => ?_) (fun hc => ?_)
  · have h := fo_it h hc
    refine lv_iload_n hx hb dX8_standingAt_41 rfl (lv_at hl 2 rfl) ?_
    exact gr_i hx hb hr hlocks hK hG (Option.some.inj h) dX8_standingAt_42
  · have h := fo_if h hc
    refine lv_iload_n hx hb dX8_standingAt_15 rfl (lv_at hl 2 rfl) ?_
    refine lv_aload_n hx hb dX8_standingAt_16 rfl (lv_at hl 0 rfl) ?_
    refine lv_iload_n hx hb dX8_standingAt_17 rfl (lv_at hl 3 rfl) ?_
    refine lv_iconst (v := (1 : Int32)) hx hb dX8_standingAt_18 (by decide) ?_
    obtain ⟨q19, hq19, h⟩ := fo_bd_some h
    refine gc_iV (b := a 0) (C := RX8) (As := [.int v3, .int (1 : Int32)]) (rest := [.int v2]) (wc := (wd_M0 cI a X S)) (w1 := (wd_M0 cI a X S)) (ci := 7) (q0 := 0) ⟨hx, hb, hml, hown, hts⟩ (c8_playerPart l (a := a) (X := X) hq19) (cwV 2 hts gv_X8_54 rfl rfl rfl hd8_playerPart ⟨Nat.le_of_ble_eq_true rfl, Nat.le_of_ble_eq_true rfl⟩) hK [0] rfl hA hG [0, 1] rfl rfl rfl rfl rfl rfl hl.1 rfl (Nat.le_of_ble_eq_true rfl) dX8_standingAt_19 ⟨Nat.zero_le _, Nat.zero_le _⟩ (fun H locs hG9 => ?_)
    have hG : gd_W (dC, dI) A s (wd_M0 cI a X S) H locs := hG9
    refine lv_iload_n hx hb dX8_standingAt_22 rfl (lv_at hl 1 rfl) ?_
    refine lv_icmp_ne (tgt := 32) hx hb dX8_standingAt_23 (by decide) (fun hc => ?_) (fun hc => ?_)
    · have h := fo_if h hc
      refine lv_iconst (v := (0 : Int32)) hx hb dX8_standingAt_32 (by decide) ?_
      exact w8_standingAt_b33 C hK hA (fun h => hrec4 h) h hG (lv_sub hl [0, 1, 3] rfl)
    · have h := fo_it h hc
      refine lv_iconst (v := (1 : Int32)) hx hb dX8_standingAt_26 (by decide) ?_
      refine lv_iload_n hx hb dX8_standingAt_27 rfl (lv_at hl 3 rfl) ?_
      refine lv_ishl hx hb dX8_standingAt_28 ?_
      refine lv_goto (tgt := 33) hx hb dX8_standingAt_29 (by decide) ?_
      exact w8_standingAt_b33 C hK hA (fun h => hrec4 h) h hG (lv_sub hl [0, 1, 3] rfl)
set_option maxRecDepth 100000 in
set_option maxHeartbeats 4000000 in
theorem w8_standingAt_L4 (C : cx_M p s m args meth c RX8 cX8_standingAt (some .int) 4) (hK : va_K (dC, dI) vwCl [(cI, .int)] s) (hA : ∀ q, s.heap.size ≤ q → A q) {a : Nat → Nat} {X : Nat → Int32} {S : (Nat → Int32)} {q : Int32} : ∀ (n : Nat) {v1 : Int32} {v2 : Int32} {v3 : Int32}, f8_standingAt_L4 n v1 v2 v3 S = some q → ∀ {H : Heap} {locs : List Loc} {ls : Array Slot}, gd_W (dC, dI) A s (wd_M0 cI a X S) H locs → lv_has ls 4 [(0, .ref (a 0)), (1, .int v1), (2, .int v2), (3, .int v3)] → W p l e RM8_standingAt s m args below meth c H locs 0 0 (MQ below (qi_W (dC, dI) [(cI, .int)] A q (wd_M0 cI a X S)) args s 0 0 A) (F0 m 4 ls []) := by
  intro n
  induction n with
  | zero => intro _ _ _ h; exact nomatch h
  | succ n ih => intro v1 v2 v3 h H locs ls hG hl; exact w8_standingAt_b4 C hK hA (fun h => ih h) (show f8_standingAt_b4 (f8_standingAt_L4 n) v1 v2 v3 S = some q from h) hG hl
set_option maxRecDepth 100000 in
set_option maxHeartbeats 4000000 in
theorem w8_standingAt (C : cx_M p s m args meth c RX8 cX8_standingAt (some .int) 4) (hK : va_K (dC, dI) vwCl [(cI, .int)] s) (hA : ∀ q, s.heap.size ≤ q → A q) {a : Nat → Nat} {X : Nat → Int32} {q : Int32} {v1 : Int32} {S : (Nat → Int32)} (h : f8_standingAt v1 S = some q) {H : Heap} {locs : List Loc} {ls : Array Slot} (hG : gd_W (dC, dI) A s (wd_M0 cI a X S) H locs) (hl : lv_has ls 4 [(0, .ref (a 0)), (1, .int v1)]) : W p l e RM8_standingAt s m args below meth c H locs 0 0 (MQ below (qi_W (dC, dI) [(cI, .int)] A q (wd_M0 cI a X S)) args s 0 0 A) (F0 m 0 ls []) := by
  unfold f8_standingAt at h
  obtain ⟨hx, hb, hr, hts, hown, hlocks, hml⟩ := id C
  refine lv_iconst (v := (0 : Int32)) hx hb dX8_standingAt_0 (by decide) ?_
  refine lv_istore_n (lv' := [(2, .int (0 : Int32)), (0, .ref (a 0)), (1, .int v1)]) hx hb dX8_standingAt_1 rfl hl (by decide) rfl (fun ls hl => ?_)
  refine lv_iconst (v := (0 : Int32)) hx hb dX8_standingAt_2 (by decide) ?_
  refine lv_istore_n (lv' := [(3, .int (0 : Int32)), (2, .int (0 : Int32)), (0, .ref (a 0)), (1, .int v1)]) hx hb dX8_standingAt_3 rfl hl (by decide) rfl (fun ls hl => ?_)
  exact w8_standingAt_L4 C hK hA fo_fu h hG (lv_sub hl [2, 3, 1, 0] rfl)
set_option maxRecDepth 100000 in
set_option maxHeartbeats 4000000 in
theorem c8_standingAt (l : Launch) {dC : Nat → ClassId} {dI : Nat → Nat → Nat} {cI : ClassId} {a : Nat → Nat} {X : Nat → Int32} {v1 : Int32} {S : (Nat → Int32)} {q : Int32} (h : f8_standingAt v1 S = some q) : mi_M l yX8_standingAt wm8_standingAt RM8_standingAt (dC, dI) [(cI, .int)] [.ref (a 0), .int v1] (wd_M0 cI a X S) q (wd_M0 cI a X S) := by
  intro sz
  refine Met.ofW (cc := cX8_standingAt) (maxL := 4) (ret := (some .int)) (by decide) rfl ?_
  intro p e s m args below meth c s₁ B hml hv
  obtain ⟨rfl, hsz, hP, hK, hD0⟩ := hv
  subst hsz
  have hl := lv_entry ([.ref (a 0), .int v1] : List Value) (n := 4) (Nat.le_of_ble_eq_true rfl)
  rw [lg_entry_eq]
  generalize (lg_sl ([.ref (a 0), .int v1] : List Value) ++ List.replicate (4 - (lg_sl ([.ref (a 0), .int v1] : List Value)).length) Slot.unset).toArray = ls at hl ⊢
  exact w8_standingAt (a := a) ⟨B.exec, B.bytes, B.returns, fun w hw => atoms_spec (ws := wm8_standingAt) B.pre w (List.mem_cons_of_mem _ hw), findClass_of_methodNamed B.named, B.notSynchronized, hml⟩ hK (fun _ h => Or.inr h) h ⟨hP, hD0.self, va_S.rf⟩ hl
end
/-! ## DiceRoadsModel.tollOf(I)I -/
section
variable {p : Program} {l : Launch} {e : Env} {s : State} {m : MethodId} {args : Array Value} {below : List Frame} {meth : Method} {c : Code} {dC : Nat → ClassId} {dI : Nat → Nat → Nat} {cI : ClassId} {A : Nat → Prop}
set_option maxRecDepth 100000 in
set_option maxHeartbeats 4000000 in
theorem w8_tollOf_b68 (C : cx_M p s m args meth c RX8 cX8_tollOf (some .int) 5) (hK : va_K (dC, dI) vwCl [(cI, .int)] s) (hA : ∀ q, s.heap.size ≤ q → A q) {a : Nat → Nat} {X : Nat → Int32} {S : (Nat → Int32)} {q : Int32} {rec27 : Int32 → Int32 → Int32 → Int32 → (Nat → Int32) → Option Int32} (hrec27 : ∀ {v1 : Int32} {v2 : Int32} {v3 : Int32} {v4 : Int32} , rec27 v1 v2 v3 v4 S = some q → ∀ {H : Heap} {locs : List Loc} {ls : Array Slot}, gd_W (dC, dI) A s (wd_M0 cI a X S) H locs → lv_has ls 5 [(0, .ref (a 0)), (1, .int v1), (2, .int v2), (3, .int v3), (4, .int v4)] → W p l e RM8_tollOf s m args below meth c H locs 0 0 (MQ below (qi_W (dC, dI) [(cI, .int)] A q (wd_M0 cI a X S)) args s 0 0 A) (F0 m 27 ls [])) {v1 : Int32} {v2 : Int32} {v4 : Int32} {t0 : Int32} {t1 : Int32} (h : f8_tollOf_b68 rec27 v1 v2 v4 t0 t1 S = some q) {H : Heap} {locs : List Loc} {ls : Array Slot} (hG : gd_W (dC, dI) A s (wd_M0 cI a X S) H locs) (hl : lv_has ls 5 [(0, .ref (a 0)), (1, .int v1), (2, .int v2), (4, .int v4)]) : W p l e RM8_tollOf s m args below meth c H locs 0 0 (MQ below (qi_W (dC, dI) [(cI, .int)] A q (wd_M0 cI a X S)) args s 0 0 A) (F0 m 68 ls [.int t1, .int t0]) := by
  unfold f8_tollOf_b68 at h
  obtain ⟨hx, hb, hr, hts, hown, hlocks, hml⟩ := id C
  refine lv_iadd hx hb dX8_tollOf_68 ?_
  refine lv_istore_n (lv' := [(3, .int (t0 + t1)), (0, .ref (a 0)), (1, .int v1), (2, .int v2), (4, .int v4)]) hx hb dX8_tollOf_69 rfl hl (by decide) rfl (fun ls hl => ?_)
  refine lv_iinc (v := (v4 + (1 : Int32))) (lv' := [(4, .int (v4 + (1 : Int32))), (3, .int (t0 + t1)), (0, .ref (a 0)), (1, .int v1), (2, .int v2)]) hx hb dX8_tollOf_70 hl (k := 4) rfl rfl (by decide) rfl (fun ls hl => ?_)
  refine lv_goto (tgt := 27) hx hb dX8_tollOf_73 (by decide) ?_
  exact hrec27 h hG (lv_sub hl [2, 3, 4, 1, 0] rfl)
set_option maxRecDepth 100000 in
set_option maxHeartbeats 4000000 in
theorem w8_tollOf_b67 (C : cx_M p s m args meth c RX8 cX8_tollOf (some .int) 5) (hK : va_K (dC, dI) vwCl [(cI, .int)] s) (hA : ∀ q, s.heap.size ≤ q → A q) {a : Nat → Nat} {X : Nat → Int32} {S : (Nat → Int32)} {q : Int32} {rec27 : Int32 → Int32 → Int32 → Int32 → (Nat → Int32) → Option Int32} (hrec27 : ∀ {v1 : Int32} {v2 : Int32} {v3 : Int32} {v4 : Int32} , rec27 v1 v2 v3 v4 S = some q → ∀ {H : Heap} {locs : List Loc} {ls : Array Slot}, gd_W (dC, dI) A s (wd_M0 cI a X S) H locs → lv_has ls 5 [(0, .ref (a 0)), (1, .int v1), (2, .int v2), (3, .int v3), (4, .int v4)] → W p l e RM8_tollOf s m args below meth c H locs 0 0 (MQ below (qi_W (dC, dI) [(cI, .int)] A q (wd_M0 cI a X S)) args s 0 0 A) (F0 m 27 ls [])) {v1 : Int32} {v2 : Int32} {v4 : Int32} {t0 : Int32} (h : f8_tollOf_b67 rec27 v1 v2 v4 t0 S = some q) {H : Heap} {locs : List Loc} {ls : Array Slot} (hG : gd_W (dC, dI) A s (wd_M0 cI a X S) H locs) (hl : lv_has ls 5 [(0, .ref (a 0)), (1, .int v1), (2, .int v2), (4, .int v4)]) : W p l e RM8_tollOf s m args below meth c H locs 0 0 (MQ below (qi_W (dC, dI) [(cI, .int)] A q (wd_M0 cI a X S)) args s 0 0 A) (F0 m 67 ls [.int t0]) := by
  unfold f8_tollOf_b67 at h
  obtain ⟨hx, hb, hr, hts, hown, hlocks, hml⟩ := id C
  refine lv_iconst (v := (0 : Int32)) hx hb dX8_tollOf_67 (by decide) ?_
  exact w8_tollOf_b68 C hK hA (fun h => hrec27 h) h hG (lv_sub hl [0, 1, 2, 3] rfl)
set_option maxRecDepth 100000 in
set_option maxHeartbeats 4000000 in
theorem w8_tollOf_b27 (C : cx_M p s m args meth c RX8 cX8_tollOf (some .int) 5) (hK : va_K (dC, dI) vwCl [(cI, .int)] s) (hA : ∀ q, s.heap.size ≤ q → A q) {a : Nat → Nat} {X : Nat → Int32} {S : (Nat → Int32)} {q : Int32} {rec27 : Int32 → Int32 → Int32 → Int32 → (Nat → Int32) → Option Int32} (hrec27 : ∀ {v1 : Int32} {v2 : Int32} {v3 : Int32} {v4 : Int32} , rec27 v1 v2 v3 v4 S = some q → ∀ {H : Heap} {locs : List Loc} {ls : Array Slot}, gd_W (dC, dI) A s (wd_M0 cI a X S) H locs → lv_has ls 5 [(0, .ref (a 0)), (1, .int v1), (2, .int v2), (3, .int v3), (4, .int v4)] → W p l e RM8_tollOf s m args below meth c H locs 0 0 (MQ below (qi_W (dC, dI) [(cI, .int)] A q (wd_M0 cI a X S)) args s 0 0 A) (F0 m 27 ls [])) {v1 : Int32} {v2 : Int32} {v3 : Int32} {v4 : Int32} (h : f8_tollOf_b27 rec27 v1 v2 v3 v4 S = some q) {H : Heap} {locs : List Loc} {ls : Array Slot} (hG : gd_W (dC, dI) A s (wd_M0 cI a X S) H locs) (hl : lv_has ls 5 [(0, .ref (a 0)), (1, .int v1), (2, .int v2), (3, .int v3), (4, .int v4)]) : W p l e RM8_tollOf s m args below meth c H locs 0 0 (MQ below (qi_W (dC, dI) [(cI, .int)] A q (wd_M0 cI a X S)) args s 0 0 A) (F0 m 27 ls []) := by
  unfold f8_tollOf_b27 at h
  obtain ⟨hx, hb, hr, hts, hown, hlocks, hml⟩ := id C
  refine lv_iload hx hb dX8_tollOf_27 (lv_at hl 4 rfl) ?_
  refine lv_iload_n hx hb dX8_tollOf_29 rfl (lv_at hl 1 rfl) ?_
  refine lv_iconst (v := (5 : Int32)) hx hb dX8_tollOf_30 (by decide) ?_
  refine lv_idiv hx hb dX8_tollOf_31 (by decide) ?_
  refine lv_iconst (v := (5 : Int32)) hx hb dX8_tollOf_32 (by decide) ?_
  refine lv_imul hx hb dX8_tollOf_33 ?_
  refine lv_iconst (v := (5 : Int32)) hx hb dX8_tollOf_34 (by decide) ?_
  refine lv_iadd hx hb dX8_tollOf_35 ?_
  refine lv_icmp_ge (tgt := 76) hx hb dX8_tollOf_36 (by decide) (fun hc => ?_) (fun hc => ?_)
  · have h := fo_it h hc
    refine lv_aload_n hx hb dX8_tollOf_76 rfl (lv_at hl 0 rfl) ?_
    refine va_get (D := (dC, dI)) (ci := 7) (v := .ref (a 1)) (C := RX8) (T := TX8) (N := 17) hx hb hts inlX8 hown hK hG.1 0 rfl rfl 0 (by decide) (hts (Cond.fieldLink RX8 7 "DiceRoadsModel" "state" "[I") wq_637) (fun _ h9 => h9) rfl dX8_tollOf_77 ?_
    refine lv_iconst (v := (2 : Int32)) hx hb dX8_tollOf_80 (by decide) ?_
    obtain ⟨hi, h⟩ := fo_ck_some h
    refine va_iald hx hb hK hG.1 1 0 rfl rfl hi dX8_tollOf_81 ?_
    refine lv_iload_n hx hb dX8_tollOf_82 rfl (lv_at hl 3 rfl) ?_
    refine lv_imul hx hb dX8_tollOf_83 ?_
    exact gr_i hx hb hr hlocks hK hG (Option.some.inj h) dX8_tollOf_84
  · have h := fo_if h hc
    refine lv_iload_n hx hb dX8_tollOf_39 rfl (lv_at hl 3 rfl) ?_
    refine lv_iload hx hb dX8_tollOf_40 (lv_at hl 4 rfl) ?_
    obtain ⟨q42, hq42, h⟩ := fo_bd_some h
    refine gc_iS (As := [.int v4]) (rest := [.int v3]) (wc := ([] : va_W)) (w1 := ([] : va_W)) ⟨hx, hb, hml, hown, hts⟩ (c8_sortOf l (a := a) hq42) (va_cwS 1 hts gv_X8_57 rfl rfl rfl hd8_sortOf ⟨Nat.le_of_ble_eq_true rfl, Nat.le_of_ble_eq_true rfl⟩) hK [] rfl hA hG [] rfl rfl rfl rfl hl.1 rfl (Nat.le_of_ble_eq_true rfl) dX8_tollOf_42 ⟨Nat.zero_le _, Nat.zero_le _⟩ (fun H locs hG9 => ?_)
    have hG : gd_W (dC, dI) A s (wd_M0 cI a X S) H locs := hG9
    refine lv_iconst (v := (1 : Int32)) hx hb dX8_tollOf_45 (by decide) ?_
    refine lv_icmp_ne (tgt := 67) hx hb dX8_tollOf_46 (by decide) (fun hc => ?_) (fun hc => ?_)
    · have h := fo_if h hc
      exact w8_tollOf_b67 C hK hA (fun h => hrec27 h) h hG (lv_sub hl [0, 1, 2, 4] rfl)
    · have h := fo_it h hc
      refine lv_aload_n hx hb dX8_tollOf_49 rfl (lv_at hl 0 rfl) ?_
      refine va_get (D := (dC, dI)) (ci := 7) (v := .ref (a 1)) (C := RX8) (T := TX8) (N := 17) hx hb hts inlX8 hown hK hG.1 0 rfl rfl 0 (by decide) (hts (Cond.fieldLink RX8 7 "DiceRoadsModel" "state" "[I") wq_637) (fun _ h9 => h9) rfl dX8_tollOf_50 ?_
      refine lv_bipush (v := (11 : Int32)) hx hb dX8_tollOf_53 (by decide) ?_
      refine lv_iload hx hb dX8_tollOf_55 (lv_at hl 4 rfl) ?_
      refine lv_iadd hx hb dX8_tollOf_57 ?_
      obtain ⟨hi, h⟩ := fo_ck_some h
      refine va_iald hx hb hK hG.1 1 0 rfl rfl hi dX8_tollOf_58 ?_
      refine lv_iload_n hx hb dX8_tollOf_59 rfl (lv_at hl 2 rfl) ?_
      refine lv_icmp_ne (tgt := 67) hx hb dX8_tollOf_60 (by decide) (fun hc => ?_) (fun hc => ?_)
      · have h := fo_if h hc
        exact w8_tollOf_b67 C hK hA (fun h => hrec27 h) h hG (lv_sub hl [0, 1, 2, 4] rfl)
      · have h := fo_it h hc
        refine lv_iconst (v := (1 : Int32)) hx hb dX8_tollOf_63 (by decide) ?_
        refine lv_goto (tgt := 68) hx hb dX8_tollOf_64 (by decide) ?_
        exact w8_tollOf_b68 C hK hA (fun h => hrec27 h) h hG (lv_sub hl [0, 1, 2, 4] rfl)
set_option maxRecDepth 100000 in
set_option maxHeartbeats 4000000 in
theorem w8_tollOf_L27 (C : cx_M p s m args meth c RX8 cX8_tollOf (some .int) 5) (hK : va_K (dC, dI) vwCl [(cI, .int)] s) (hA : ∀ q, s.heap.size ≤ q → A q) {a : Nat → Nat} {X : Nat → Int32} {S : (Nat → Int32)} {q : Int32} : ∀ (n : Nat) {v1 : Int32} {v2 : Int32} {v3 : Int32} {v4 : Int32}, f8_tollOf_L27 n v1 v2 v3 v4 S = some q → ∀ {H : Heap} {locs : List Loc} {ls : Array Slot}, gd_W (dC, dI) A s (wd_M0 cI a X S) H locs → lv_has ls 5 [(0, .ref (a 0)), (1, .int v1), (2, .int v2), (3, .int v3), (4, .int v4)] → W p l e RM8_tollOf s m args below meth c H locs 0 0 (MQ below (qi_W (dC, dI) [(cI, .int)] A q (wd_M0 cI a X S)) args s 0 0 A) (F0 m 27 ls []) := by
  intro n
  induction n with
  | zero => intro _ _ _ _ h; exact nomatch h
  | succ n ih => intro v1 v2 v3 v4 h H locs ls hG hl; exact w8_tollOf_b27 C hK hA (fun h => ih h) (show f8_tollOf_b27 (f8_tollOf_L27 n) v1 v2 v3 v4 S = some q from h) hG hl
set_option maxRecDepth 100000 in
set_option maxHeartbeats 4000000 in
theorem w8_tollOf (C : cx_M p s m args meth c RX8 cX8_tollOf (some .int) 5) (hK : va_K (dC, dI) vwCl [(cI, .int)] s) (hA : ∀ q, s.heap.size ≤ q → A q) {a : Nat → Nat} {X : Nat → Int32} {q : Int32} {v1 : Int32} {S : (Nat → Int32)} (h : f8_tollOf v1 S = some q) {H : Heap} {locs : List Loc} {ls : Array Slot} (hG : gd_W (dC, dI) A s (wd_M0 cI a X S) H locs) (hl : lv_has ls 5 [(0, .ref (a 0)), (1, .int v1)]) : W p l e RM8_tollOf s m args below meth c H locs 0 0 (MQ below (qi_W (dC, dI) [(cI, .int)] A q (wd_M0 cI a X S)) args s 0 0 A) (F0 m 0 ls []) := by
  unfold f8_tollOf at h
  obtain ⟨hx, hb, hr, hts, hown, hlocks, hml⟩ := id C
  refine lv_aload_n hx hb dX8_tollOf_0 rfl (lv_at hl 0 rfl) ?_
  refine va_get (D := (dC, dI)) (ci := 7) (v := .ref (a 1)) (C := RX8) (T := TX8) (N := 17) hx hb hts inlX8 hown hK hG.1 0 rfl rfl 0 (by decide) (hts (Cond.fieldLink RX8 7 "DiceRoadsModel" "state" "[I") wq_637) (fun _ h9 => h9) rfl dX8_tollOf_1 ?_
  refine lv_bipush (v := (11 : Int32)) hx hb dX8_tollOf_4 (by decide) ?_
  refine lv_iload_n hx hb dX8_tollOf_6 rfl (lv_at hl 1 rfl) ?_
  refine lv_iadd hx hb dX8_tollOf_7 ?_
  obtain ⟨hi, h⟩ := fo_ck_some h
  refine va_iald hx hb hK hG.1 1 0 rfl rfl hi dX8_tollOf_8 ?_
  refine lv_istore_n (lv' := [(2, .int (S ((11 : Int32) + v1).toNatClampNeg)), (0, .ref (a 0)), (1, .int v1)]) hx hb dX8_tollOf_9 rfl hl (by decide) rfl (fun ls hl => ?_)
  refine lv_iload_n hx hb dX8_tollOf_10 rfl (lv_at hl 0 rfl) ?_
  refine lv_bipush (v := (-6 : Int32)) hx hb dX8_tollOf_11 (by decide) ?_
  refine lv_icmp_ne (tgt := 18) hx hb dX8_tollOf_13 (by decide) (fun hc => ?_) (fun hc => ?_)
  · have h := fo_if h hc
    refine lv_iconst (v := (1 : Int32)) hx hb dX8_tollOf_18 (by decide) ?_
    refine lv_istore_n (lv' := [(3, .int (1 : Int32)), (2, .int (S ((11 : Int32) + v1).toNatClampNeg)), (0, .ref (a 0)), (1, .int v1)]) hx hb dX8_tollOf_19 rfl hl (by decide) rfl (fun ls hl => ?_)
    refine lv_iload_n hx hb dX8_tollOf_20 rfl (lv_at hl 3 rfl) ?_
    refine lv_iconst (v := (5 : Int32)) hx hb dX8_tollOf_21 (by decide) ?_
    refine lv_idiv hx hb dX8_tollOf_22 (by decide) ?_
    refine lv_iconst (v := (5 : Int32)) hx hb dX8_tollOf_23 (by decide) ?_
    refine lv_imul hx hb dX8_tollOf_24 ?_
    refine lv_istore (lv' := [(4, .int ((v1 / (5 : Int32)) * (5 : Int32))), (3, .int (1 : Int32)), (2, .int (S ((11 : Int32) + v1).toNatClampNeg)), (0, .ref (a 0)), (1, .int v1)]) hx hb dX8_tollOf_25 hl (by decide) rfl (fun ls hl => ?_)
    exact w8_tollOf_L27 C hK hA fo_fu h hG (lv_sub hl [3, 4, 2, 1, 0] rfl)
  · have h := fo_it h hc
    refine lv_iconst (v := (0 : Int32)) hx hb dX8_tollOf_16 (by decide) ?_
    exact gr_i hx hb hr hlocks hK hG (Option.some.inj h) dX8_tollOf_17
set_option maxRecDepth 100000 in
set_option maxHeartbeats 4000000 in
theorem c8_tollOf (l : Launch) {dC : Nat → ClassId} {dI : Nat → Nat → Nat} {cI : ClassId} {a : Nat → Nat} {X : Nat → Int32} {v1 : Int32} {S : (Nat → Int32)} {q : Int32} (h : f8_tollOf v1 S = some q) : mi_M l yX8_tollOf wm8_tollOf RM8_tollOf (dC, dI) [(cI, .int)] [.ref (a 0), .int v1] (wd_M0 cI a X S) q (wd_M0 cI a X S) := by
  intro sz
  refine Met.ofW (cc := cX8_tollOf) (maxL := 5) (ret := (some .int)) (by decide) rfl ?_
  intro p e s m args below meth c s₁ B hml hv
  obtain ⟨rfl, hsz, hP, hK, hD0⟩ := hv
  subst hsz
  have hl := lv_entry ([.ref (a 0), .int v1] : List Value) (n := 5) (Nat.le_of_ble_eq_true rfl)
  rw [lg_entry_eq]
  generalize (lg_sl ([.ref (a 0), .int v1] : List Value) ++ List.replicate (5 - (lg_sl ([.ref (a 0), .int v1] : List Value)).length) Slot.unset).toArray = ls at hl ⊢
  exact w8_tollOf (a := a) ⟨B.exec, B.bytes, B.returns, fun w hw => atoms_spec (ws := wm8_tollOf) B.pre w (List.mem_cons_of_mem _ hw), findClass_of_methodNamed B.named, B.notSynchronized, hml⟩ hK (fun _ h => Or.inr h) h ⟨hP, hD0.self, va_S.rf⟩ hl
end
/-! ## DiceRoadsModel.owedBy(I)I -/
section
variable {p : Program} {l : Launch} {e : Env} {s : State} {m : MethodId} {args : Array Value} {below : List Frame} {meth : Method} {c : Code} {dC : Nat → ClassId} {dI : Nat → Nat → Nat} {cI : ClassId} {A : Nat → Prop}
set_option maxRecDepth 100000 in
set_option maxHeartbeats 4000000 in
theorem w8_owedBy_b4 (C : cx_M p s m args meth c RX8 cX8_owedBy (some .int) 4) (hK : va_K (dC, dI) vwCl [(cI, .int)] s) (hA : ∀ q, s.heap.size ≤ q → A q) {a : Nat → Nat} {X : Nat → Int32} {S : (Nat → Int32)} {q : Int32} {rec4 : Int32 → Int32 → Int32 → (Nat → Int32) → Option Int32} (hrec4 : ∀ {v1 : Int32} {v2 : Int32} {v3 : Int32} , rec4 v1 v2 v3 S = some q → ∀ {H : Heap} {locs : List Loc} {ls : Array Slot}, gd_W (dC, dI) A s (wd_M0 cI a X S) H locs → lv_has ls 4 [(0, .ref (a 0)), (1, .int v1), (2, .int v2), (3, .int v3)] → W p l e RM8_owedBy s m args below meth c H locs 0 0 (MQ below (qi_W (dC, dI) [(cI, .int)] A q (wd_M0 cI a X S)) args s 0 0 A) (F0 m 4 ls [])) {v1 : Int32} {v2 : Int32} {v3 : Int32} (h : f8_owedBy_b4 rec4 v1 v2 v3 S = some q) {H : Heap} {locs : List Loc} {ls : Array Slot} (hG : gd_W (dC, dI) A s (wd_M0 cI a X S) H locs) (hl : lv_has ls 4 [(0, .ref (a 0)), (1, .int v1), (2, .int v2), (3, .int v3)]) : W p l e RM8_owedBy s m args below meth c H locs 0 0 (MQ below (qi_W (dC, dI) [(cI, .int)] A q (wd_M0 cI a X S)) args s 0 0 A) (F0 m 4 ls []) := by
  unfold f8_owedBy_b4 at h
  obtain ⟨hx, hb, hr, hts, hown, hlocks, hml⟩ := id C
  refine lv_iload_n hx hb dX8_owedBy_4 rfl (lv_at hl 3 rfl) ?_
  refine lv_aload_n hx hb dX8_owedBy_5 rfl (lv_at hl 0 rfl) ?_
  refine va_get (D := (dC, dI)) (ci := 7) (v := .ref (a 1)) (C := RX8) (T := TX8) (N := 17) hx hb hts inlX8 hown hK hG.1 0 rfl rfl 0 (by decide) (hts (Cond.fieldLink RX8 7 "DiceRoadsModel" "state" "[I") wq_637) (fun _ h9 => h9) rfl dX8_owedBy_6 ?_
  refine lv_bipush (v := (6 : Int32)) hx hb dX8_owedBy_9 (by decide) ?_
  obtain ⟨hi, h⟩ := fo_ck_some h
  refine va_iald hx hb hK hG.1 1 0 rfl rfl hi dX8_owedBy_11 ?_
  refine lv_icmp_ge (tgt := 30) hx hb dX8_owedBy_12 (by decide) (fun hc => ?_) (fun hc => ?_)
  · have h := fo_it h hc
    refine lv_iload_n hx hb dX8_owedBy_30 rfl (lv_at hl 2 rfl) ?_
    exact gr_i hx hb hr hlocks hK hG (Option.some.inj h) dX8_owedBy_31
  · have h := fo_if h hc
    refine lv_iload_n hx hb dX8_owedBy_15 rfl (lv_at hl 2 rfl) ?_
    refine lv_aload_n hx hb dX8_owedBy_16 rfl (lv_at hl 0 rfl) ?_
    refine lv_iload_n hx hb dX8_owedBy_17 rfl (lv_at hl 1 rfl) ?_
    refine lv_iload_n hx hb dX8_owedBy_18 rfl (lv_at hl 3 rfl) ?_
    obtain ⟨q19, hq19, h⟩ := fo_bd_some h
    refine gc_iV (b := a 0) (C := RX8) (As := [.int v1, .int v3]) (rest := [.int v2]) (wc := (wd_M0 cI a X S)) (w1 := (wd_M0 cI a X S)) (ci := 7) (q0 := 0) ⟨hx, hb, hml, hown, hts⟩ (c8_debtOf l (a := a) (X := X) hq19) (cwV 2 hts gv_X8_46 rfl rfl rfl hd8_debtOf ⟨Nat.le_of_ble_eq_true rfl, Nat.le_of_ble_eq_true rfl⟩) hK [0] rfl hA hG [0, 1] rfl rfl rfl rfl rfl rfl hl.1 rfl (Nat.le_of_ble_eq_true rfl) dX8_owedBy_19 ⟨Nat.zero_le _, Nat.zero_le _⟩ (fun H locs hG9 => ?_)
    have hG : gd_W (dC, dI) A s (wd_M0 cI a X S) H locs := hG9
    refine lv_iadd hx hb dX8_owedBy_22 ?_
    refine lv_istore_n (lv' := [(2, .int (v2 + q19)), (0, .ref (a 0)), (1, .int v1), (3, .int v3)]) hx hb dX8_owedBy_23 rfl hl (by decide) rfl (fun ls hl => ?_)
    refine lv_iinc (v := (v3 + (1 : Int32))) (lv' := [(3, .int (v3 + (1 : Int32))), (2, .int (v2 + q19)), (0, .ref (a 0)), (1, .int v1)]) hx hb dX8_owedBy_24 hl (k := 3) rfl rfl (by decide) rfl (fun ls hl => ?_)
    refine lv_goto (tgt := 4) hx hb dX8_owedBy_27 (by decide) ?_
    exact hrec4 h hG (lv_sub hl [2, 3, 1, 0] rfl)
set_option maxRecDepth 100000 in
set_option maxHeartbeats 4000000 in
theorem w8_owedBy_L4 (C : cx_M p s m args meth c RX8 cX8_owedBy (some .int) 4) (hK : va_K (dC, dI) vwCl [(cI, .int)] s) (hA : ∀ q, s.heap.size ≤ q → A q) {a : Nat → Nat} {X : Nat → Int32} {S : (Nat → Int32)} {q : Int32} : ∀ (n : Nat) {v1 : Int32} {v2 : Int32} {v3 : Int32}, f8_owedBy_L4 n v1 v2 v3 S = some q → ∀ {H : Heap} {locs : List Loc} {ls : Array Slot}, gd_W (dC, dI) A s (wd_M0 cI a X S) H locs → lv_has ls 4 [(0, .ref (a 0)), (1, .int v1), (2, .int v2), (3, .int v3)] → W p l e RM8_owedBy s m args below meth c H locs 0 0 (MQ below (qi_W (dC, dI) [(cI, .int)] A q (wd_M0 cI a X S)) args s 0 0 A) (F0 m 4 ls []) := by
  intro n
  induction n with
  | zero => intro _ _ _ h; exact nomatch h
  | succ n ih => intro v1 v2 v3 h H locs ls hG hl; exact w8_owedBy_b4 C hK hA (fun h => ih h) (show f8_owedBy_b4 (f8_owedBy_L4 n) v1 v2 v3 S = some q from h) hG hl
set_option maxRecDepth 100000 in
set_option maxHeartbeats 4000000 in
theorem w8_owedBy (C : cx_M p s m args meth c RX8 cX8_owedBy (some .int) 4) (hK : va_K (dC, dI) vwCl [(cI, .int)] s) (hA : ∀ q, s.heap.size ≤ q → A q) {a : Nat → Nat} {X : Nat → Int32} {q : Int32} {v1 : Int32} {S : (Nat → Int32)} (h : f8_owedBy v1 S = some q) {H : Heap} {locs : List Loc} {ls : Array Slot} (hG : gd_W (dC, dI) A s (wd_M0 cI a X S) H locs) (hl : lv_has ls 4 [(0, .ref (a 0)), (1, .int v1)]) : W p l e RM8_owedBy s m args below meth c H locs 0 0 (MQ below (qi_W (dC, dI) [(cI, .int)] A q (wd_M0 cI a X S)) args s 0 0 A) (F0 m 0 ls []) := by
  unfold f8_owedBy at h
  obtain ⟨hx, hb, hr, hts, hown, hlocks, hml⟩ := id C
  refine lv_iconst (v := (0 : Int32)) hx hb dX8_owedBy_0 (by decide) ?_
  refine lv_istore_n (lv' := [(2, .int (0 : Int32)), (0, .ref (a 0)), (1, .int v1)]) hx hb dX8_owedBy_1 rfl hl (by decide) rfl (fun ls hl => ?_)
  refine lv_iconst (v := (0 : Int32)) hx hb dX8_owedBy_2 (by decide) ?_
  refine lv_istore_n (lv' := [(3, .int (0 : Int32)), (2, .int (0 : Int32)), (0, .ref (a 0)), (1, .int v1)]) hx hb dX8_owedBy_3 rfl hl (by decide) rfl (fun ls hl => ?_)
  exact w8_owedBy_L4 C hK hA fo_fu h hG (lv_sub hl [2, 3, 1, 0] rfl)
set_option maxRecDepth 100000 in
set_option maxHeartbeats 4000000 in
theorem c8_owedBy (l : Launch) {dC : Nat → ClassId} {dI : Nat → Nat → Nat} {cI : ClassId} {a : Nat → Nat} {X : Nat → Int32} {v1 : Int32} {S : (Nat → Int32)} {q : Int32} (h : f8_owedBy v1 S = some q) : mi_M l yX8_owedBy wm8_owedBy RM8_owedBy (dC, dI) [(cI, .int)] [.ref (a 0), .int v1] (wd_M0 cI a X S) q (wd_M0 cI a X S) := by
  intro sz
  refine Met.ofW (cc := cX8_owedBy) (maxL := 4) (ret := (some .int)) (by decide) rfl ?_
  intro p e s m args below meth c s₁ B hml hv
  obtain ⟨rfl, hsz, hP, hK, hD0⟩ := hv
  subst hsz
  have hl := lv_entry ([.ref (a 0), .int v1] : List Value) (n := 4) (Nat.le_of_ble_eq_true rfl)
  rw [lg_entry_eq]
  generalize (lg_sl ([.ref (a 0), .int v1] : List Value) ++ List.replicate (4 - (lg_sl ([.ref (a 0), .int v1] : List Value)).length) Slot.unset).toArray = ls at hl ⊢
  exact w8_owedBy (a := a) ⟨B.exec, B.bytes, B.returns, fun w hw => atoms_spec (ws := wm8_owedBy) B.pre w (List.mem_cons_of_mem _ hw), findClass_of_methodNamed B.named, B.notSynchronized, hml⟩ hK (fun _ h => Or.inr h) h ⟨hP, hD0.self, va_S.rf⟩ hl
end
/-! ## DiceRoadsModel.owedTo(I)I -/
section
variable {p : Program} {l : Launch} {e : Env} {s : State} {m : MethodId} {args : Array Value} {below : List Frame} {meth : Method} {c : Code} {dC : Nat → ClassId} {dI : Nat → Nat → Nat} {cI : ClassId} {A : Nat → Prop}
set_option maxRecDepth 100000 in
set_option maxHeartbeats 4000000 in
theorem w8_owedTo_b4 (C : cx_M p s m args meth c RX8 cX8_owedTo (some .int) 4) (hK : va_K (dC, dI) vwCl [(cI, .int)] s) (hA : ∀ q, s.heap.size ≤ q → A q) {a : Nat → Nat} {X : Nat → Int32} {S : (Nat → Int32)} {q : Int32} {rec4 : Int32 → Int32 → Int32 → (Nat → Int32) → Option Int32} (hrec4 : ∀ {v1 : Int32} {v2 : Int32} {v3 : Int32} , rec4 v1 v2 v3 S = some q → ∀ {H : Heap} {locs : List Loc} {ls : Array Slot}, gd_W (dC, dI) A s (wd_M0 cI a X S) H locs → lv_has ls 4 [(0, .ref (a 0)), (1, .int v1), (2, .int v2), (3, .int v3)] → W p l e RM8_owedTo s m args below meth c H locs 0 0 (MQ below (qi_W (dC, dI) [(cI, .int)] A q (wd_M0 cI a X S)) args s 0 0 A) (F0 m 4 ls [])) {v1 : Int32} {v2 : Int32} {v3 : Int32} (h : f8_owedTo_b4 rec4 v1 v2 v3 S = some q) {H : Heap} {locs : List Loc} {ls : Array Slot} (hG : gd_W (dC, dI) A s (wd_M0 cI a X S) H locs) (hl : lv_has ls 4 [(0, .ref (a 0)), (1, .int v1), (2, .int v2), (3, .int v3)]) : W p l e RM8_owedTo s m args below meth c H locs 0 0 (MQ below (qi_W (dC, dI) [(cI, .int)] A q (wd_M0 cI a X S)) args s 0 0 A) (F0 m 4 ls []) := by
  unfold f8_owedTo_b4 at h
  obtain ⟨hx, hb, hr, hts, hown, hlocks, hml⟩ := id C
  refine lv_iload_n hx hb dX8_owedTo_4 rfl (lv_at hl 3 rfl) ?_
  refine lv_aload_n hx hb dX8_owedTo_5 rfl (lv_at hl 0 rfl) ?_
  refine va_get (D := (dC, dI)) (ci := 7) (v := .ref (a 1)) (C := RX8) (T := TX8) (N := 17) hx hb hts inlX8 hown hK hG.1 0 rfl rfl 0 (by decide) (hts (Cond.fieldLink RX8 7 "DiceRoadsModel" "state" "[I") wq_637) (fun _ h9 => h9) rfl dX8_owedTo_6 ?_
  refine lv_bipush (v := (6 : Int32)) hx hb dX8_owedTo_9 (by decide) ?_
  obtain ⟨hi, h⟩ := fo_ck_some h
  refine va_iald hx hb hK hG.1 1 0 rfl rfl hi dX8_owedTo_11 ?_
  refine lv_icmp_ge (tgt := 30) hx hb dX8_owedTo_12 (by decide) (fun hc => ?_) (fun hc => ?_)
  · have h := fo_it h hc
    refine lv_iload_n hx hb dX8_owedTo_30 rfl (lv_at hl 2 rfl) ?_
    exact gr_i hx hb hr hlocks hK hG (Option.some.inj h) dX8_owedTo_31
  · have h := fo_if h hc
    refine lv_iload_n hx hb dX8_owedTo_15 rfl (lv_at hl 2 rfl) ?_
    refine lv_aload_n hx hb dX8_owedTo_16 rfl (lv_at hl 0 rfl) ?_
    refine lv_iload_n hx hb dX8_owedTo_17 rfl (lv_at hl 3 rfl) ?_
    refine lv_iload_n hx hb dX8_owedTo_18 rfl (lv_at hl 1 rfl) ?_
    obtain ⟨q19, hq19, h⟩ := fo_bd_some h
    refine gc_iV (b := a 0) (C := RX8) (As := [.int v3, .int v1]) (rest := [.int v2]) (wc := (wd_M0 cI a X S)) (w1 := (wd_M0 cI a X S)) (ci := 7) (q0 := 0) ⟨hx, hb, hml, hown, hts⟩ (c8_debtOf l (a := a) (X := X) hq19) (cwV 2 hts gv_X8_46 rfl rfl rfl hd8_debtOf ⟨Nat.le_of_ble_eq_true rfl, Nat.le_of_ble_eq_true rfl⟩) hK [0] rfl hA hG [0, 1] rfl rfl rfl rfl rfl rfl hl.1 rfl (Nat.le_of_ble_eq_true rfl) dX8_owedTo_19 ⟨Nat.zero_le _, Nat.zero_le _⟩ (fun H locs hG9 => ?_)
    have hG : gd_W (dC, dI) A s (wd_M0 cI a X S) H locs := hG9
    refine lv_iadd hx hb dX8_owedTo_22 ?_
    refine lv_istore_n (lv' := [(2, .int (v2 + q19)), (0, .ref (a 0)), (1, .int v1), (3, .int v3)]) hx hb dX8_owedTo_23 rfl hl (by decide) rfl (fun ls hl => ?_)
    refine lv_iinc (v := (v3 + (1 : Int32))) (lv' := [(3, .int (v3 + (1 : Int32))), (2, .int (v2 + q19)), (0, .ref (a 0)), (1, .int v1)]) hx hb dX8_owedTo_24 hl (k := 3) rfl rfl (by decide) rfl (fun ls hl => ?_)
    refine lv_goto (tgt := 4) hx hb dX8_owedTo_27 (by decide) ?_
    exact hrec4 h hG (lv_sub hl [2, 3, 1, 0] rfl)
set_option maxRecDepth 100000 in
set_option maxHeartbeats 4000000 in
theorem w8_owedTo_L4 (C : cx_M p s m args meth c RX8 cX8_owedTo (some .int) 4) (hK : va_K (dC, dI) vwCl [(cI, .int)] s) (hA : ∀ q, s.heap.size ≤ q → A q) {a : Nat → Nat} {X : Nat → Int32} {S : (Nat → Int32)} {q : Int32} : ∀ (n : Nat) {v1 : Int32} {v2 : Int32} {v3 : Int32}, f8_owedTo_L4 n v1 v2 v3 S = some q → ∀ {H : Heap} {locs : List Loc} {ls : Array Slot}, gd_W (dC, dI) A s (wd_M0 cI a X S) H locs → lv_has ls 4 [(0, .ref (a 0)), (1, .int v1), (2, .int v2), (3, .int v3)] → W p l e RM8_owedTo s m args below meth c H locs 0 0 (MQ below (qi_W (dC, dI) [(cI, .int)] A q (wd_M0 cI a X S)) args s 0 0 A) (F0 m 4 ls []) := by
  intro n
  induction n with
  | zero => intro _ _ _ h; exact nomatch h
  | succ n ih => intro v1 v2 v3 h H locs ls hG hl; exact w8_owedTo_b4 C hK hA (fun h => ih h) (show f8_owedTo_b4 (f8_owedTo_L4 n) v1 v2 v3 S = some q from h) hG hl
set_option maxRecDepth 100000 in
set_option maxHeartbeats 4000000 in
theorem w8_owedTo (C : cx_M p s m args meth c RX8 cX8_owedTo (some .int) 4) (hK : va_K (dC, dI) vwCl [(cI, .int)] s) (hA : ∀ q, s.heap.size ≤ q → A q) {a : Nat → Nat} {X : Nat → Int32} {q : Int32} {v1 : Int32} {S : (Nat → Int32)} (h : f8_owedTo v1 S = some q) {H : Heap} {locs : List Loc} {ls : Array Slot} (hG : gd_W (dC, dI) A s (wd_M0 cI a X S) H locs) (hl : lv_has ls 4 [(0, .ref (a 0)), (1, .int v1)]) : W p l e RM8_owedTo s m args below meth c H locs 0 0 (MQ below (qi_W (dC, dI) [(cI, .int)] A q (wd_M0 cI a X S)) args s 0 0 A) (F0 m 0 ls []) := by
  unfold f8_owedTo at h
  obtain ⟨hx, hb, hr, hts, hown, hlocks, hml⟩ := id C
  refine lv_iconst (v := (0 : Int32)) hx hb dX8_owedTo_0 (by decide) ?_
  refine lv_istore_n (lv' := [(2, .int (0 : Int32)), (0, .ref (a 0)), (1, .int v1)]) hx hb dX8_owedTo_1 rfl hl (by decide) rfl (fun ls hl => ?_)
  refine lv_iconst (v := (0 : Int32)) hx hb dX8_owedTo_2 (by decide) ?_
  refine lv_istore_n (lv' := [(3, .int (0 : Int32)), (2, .int (0 : Int32)), (0, .ref (a 0)), (1, .int v1)]) hx hb dX8_owedTo_3 rfl hl (by decide) rfl (fun ls hl => ?_)
  exact w8_owedTo_L4 C hK hA fo_fu h hG (lv_sub hl [2, 3, 1, 0] rfl)
set_option maxRecDepth 100000 in
set_option maxHeartbeats 4000000 in
theorem c8_owedTo (l : Launch) {dC : Nat → ClassId} {dI : Nat → Nat → Nat} {cI : ClassId} {a : Nat → Nat} {X : Nat → Int32} {v1 : Int32} {S : (Nat → Int32)} {q : Int32} (h : f8_owedTo v1 S = some q) : mi_M l yX8_owedTo wm8_owedTo RM8_owedTo (dC, dI) [(cI, .int)] [.ref (a 0), .int v1] (wd_M0 cI a X S) q (wd_M0 cI a X S) := by
  intro sz
  refine Met.ofW (cc := cX8_owedTo) (maxL := 4) (ret := (some .int)) (by decide) rfl ?_
  intro p e s m args below meth c s₁ B hml hv
  obtain ⟨rfl, hsz, hP, hK, hD0⟩ := hv
  subst hsz
  have hl := lv_entry ([.ref (a 0), .int v1] : List Value) (n := 4) (Nat.le_of_ble_eq_true rfl)
  rw [lg_entry_eq]
  generalize (lg_sl ([.ref (a 0), .int v1] : List Value) ++ List.replicate (4 - (lg_sl ([.ref (a 0), .int v1] : List Value)).length) Slot.unset).toArray = ls at hl ⊢
  exact w8_owedTo (a := a) ⟨B.exec, B.bytes, B.returns, fun w hw => atoms_spec (ws := wm8_owedTo) B.pre w (List.mem_cons_of_mem _ hw), findClass_of_methodNamed B.named, B.notSynchronized, hml⟩ hK (fun _ h => Or.inr h) h ⟨hP, hD0.self, va_S.rf⟩ hl
end
/-! ## DiceRoadsModel.sumOf(I)I -/
section
variable {p : Program} {l : Launch} {e : Env} {s : State} {m : MethodId} {args : Array Value} {below : List Frame} {meth : Method} {c : Code} {dC : Nat → ClassId} {dI : Nat → Nat → Nat} {cI : ClassId} {A : Nat → Prop}
set_option maxRecDepth 100000 in
set_option maxHeartbeats 4000000 in
theorem w8_sumOf_b4 (C : cx_M p s m args meth c RX8 cX8_sumOf (some .int) 4) (hK : va_K (dC, dI) vwCl [(cI, .int)] s) (hA : ∀ q, s.heap.size ≤ q → A q) {a : Nat → Nat} {X : Nat → Int32} {S : (Nat → Int32)} {q : Int32} {rec4 : Int32 → Int32 → Int32 → (Nat → Int32) → Option Int32} (hrec4 : ∀ {v1 : Int32} {v2 : Int32} {v3 : Int32} , rec4 v1 v2 v3 S = some q → ∀ {H : Heap} {locs : List Loc} {ls : Array Slot}, gd_W (dC, dI) A s (wd_M0 cI a X S) H locs → lv_has ls 4 [(0, .ref (a 0)), (1, .int v1), (2, .int v2), (3, .int v3)] → W p l e RM8_sumOf s m args below meth c H locs 0 0 (MQ below (qi_W (dC, dI) [(cI, .int)] A q (wd_M0 cI a X S)) args s 0 0 A) (F0 m 4 ls [])) {v1 : Int32} {v2 : Int32} {v3 : Int32} (h : f8_sumOf_b4 rec4 v1 v2 v3 S = some q) {H : Heap} {locs : List Loc} {ls : Array Slot} (hG : gd_W (dC, dI) A s (wd_M0 cI a X S) H locs) (hl : lv_has ls 4 [(0, .ref (a 0)), (1, .int v1), (2, .int v2), (3, .int v3)]) : W p l e RM8_sumOf s m args below meth c H locs 0 0 (MQ below (qi_W (dC, dI) [(cI, .int)] A q (wd_M0 cI a X S)) args s 0 0 A) (F0 m 4 ls []) := by
  unfold f8_sumOf_b4 at h
  obtain ⟨hx, hb, hr, hts, hown, hlocks, hml⟩ := id C
  refine lv_iload_n hx hb dX8_sumOf_4 rfl (lv_at hl 3 rfl) ?_
  refine lv_aload_n hx hb dX8_sumOf_5 rfl (lv_at hl 0 rfl) ?_
  refine va_get (D := (dC, dI)) (ci := 7) (v := .ref (a 1)) (C := RX8) (T := TX8) (N := 17) hx hb hts inlX8 hown hK hG.1 0 rfl rfl 0 (by decide) (hts (Cond.fieldLink RX8 7 "DiceRoadsModel" "state" "[I") wq_637) (fun _ h9 => h9) rfl dX8_sumOf_6 ?_
  refine lv_bipush (v := (6 : Int32)) hx hb dX8_sumOf_9 (by decide) ?_
  obtain ⟨hi, h⟩ := fo_ck_some h
  refine va_iald hx hb hK hG.1 1 0 rfl rfl hi dX8_sumOf_11 ?_
  refine lv_icmp_ge (tgt := 30) hx hb dX8_sumOf_12 (by decide) (fun hc => ?_) (fun hc => ?_)
  · have h := fo_it h hc
    refine lv_iload_n hx hb dX8_sumOf_30 rfl (lv_at hl 2 rfl) ?_
    exact gr_i hx hb hr hlocks hK hG (Option.some.inj h) dX8_sumOf_31
  · have h := fo_if h hc
    refine lv_iload_n hx hb dX8_sumOf_15 rfl (lv_at hl 2 rfl) ?_
    refine lv_aload_n hx hb dX8_sumOf_16 rfl (lv_at hl 0 rfl) ?_
    refine lv_iload_n hx hb dX8_sumOf_17 rfl (lv_at hl 3 rfl) ?_
    refine lv_iload_n hx hb dX8_sumOf_18 rfl (lv_at hl 1 rfl) ?_
    obtain ⟨q19, hq19, h⟩ := fo_bd_some h
    refine gc_iV (b := a 0) (C := RX8) (As := [.int v3, .int v1]) (rest := [.int v2]) (wc := (wd_M0 cI a X S)) (w1 := (wd_M0 cI a X S)) (ci := 7) (q0 := 0) ⟨hx, hb, hml, hown, hts⟩ (c8_playerPart l (a := a) (X := X) hq19) (cwV 2 hts gv_X8_54 rfl rfl rfl hd8_playerPart ⟨Nat.le_of_ble_eq_true rfl, Nat.le_of_ble_eq_true rfl⟩) hK [0] rfl hA hG [0, 1] rfl rfl rfl rfl rfl rfl hl.1 rfl (Nat.le_of_ble_eq_true rfl) dX8_sumOf_19 ⟨Nat.zero_le _, Nat.zero_le _⟩ (fun H locs hG9 => ?_)
    have hG : gd_W (dC, dI) A s (wd_M0 cI a X S) H locs := hG9
    refine lv_iadd hx hb dX8_sumOf_22 ?_
    refine lv_istore_n (lv' := [(2, .int (v2 + q19)), (0, .ref (a 0)), (1, .int v1), (3, .int v3)]) hx hb dX8_sumOf_23 rfl hl (by decide) rfl (fun ls hl => ?_)
    refine lv_iinc (v := (v3 + (1 : Int32))) (lv' := [(3, .int (v3 + (1 : Int32))), (2, .int (v2 + q19)), (0, .ref (a 0)), (1, .int v1)]) hx hb dX8_sumOf_24 hl (k := 3) rfl rfl (by decide) rfl (fun ls hl => ?_)
    refine lv_goto (tgt := 4) hx hb dX8_sumOf_27 (by decide) ?_
    exact hrec4 h hG (lv_sub hl [2, 3, 1, 0] rfl)
set_option maxRecDepth 100000 in
set_option maxHeartbeats 4000000 in
theorem w8_sumOf_L4 (C : cx_M p s m args meth c RX8 cX8_sumOf (some .int) 4) (hK : va_K (dC, dI) vwCl [(cI, .int)] s) (hA : ∀ q, s.heap.size ≤ q → A q) {a : Nat → Nat} {X : Nat → Int32} {S : (Nat → Int32)} {q : Int32} : ∀ (n : Nat) {v1 : Int32} {v2 : Int32} {v3 : Int32}, f8_sumOf_L4 n v1 v2 v3 S = some q → ∀ {H : Heap} {locs : List Loc} {ls : Array Slot}, gd_W (dC, dI) A s (wd_M0 cI a X S) H locs → lv_has ls 4 [(0, .ref (a 0)), (1, .int v1), (2, .int v2), (3, .int v3)] → W p l e RM8_sumOf s m args below meth c H locs 0 0 (MQ below (qi_W (dC, dI) [(cI, .int)] A q (wd_M0 cI a X S)) args s 0 0 A) (F0 m 4 ls []) := by
  intro n
  induction n with
  | zero => intro _ _ _ h; exact nomatch h
  | succ n ih => intro v1 v2 v3 h H locs ls hG hl; exact w8_sumOf_b4 C hK hA (fun h => ih h) (show f8_sumOf_b4 (f8_sumOf_L4 n) v1 v2 v3 S = some q from h) hG hl
set_option maxRecDepth 100000 in
set_option maxHeartbeats 4000000 in
theorem w8_sumOf (C : cx_M p s m args meth c RX8 cX8_sumOf (some .int) 4) (hK : va_K (dC, dI) vwCl [(cI, .int)] s) (hA : ∀ q, s.heap.size ≤ q → A q) {a : Nat → Nat} {X : Nat → Int32} {q : Int32} {v1 : Int32} {S : (Nat → Int32)} (h : f8_sumOf v1 S = some q) {H : Heap} {locs : List Loc} {ls : Array Slot} (hG : gd_W (dC, dI) A s (wd_M0 cI a X S) H locs) (hl : lv_has ls 4 [(0, .ref (a 0)), (1, .int v1)]) : W p l e RM8_sumOf s m args below meth c H locs 0 0 (MQ below (qi_W (dC, dI) [(cI, .int)] A q (wd_M0 cI a X S)) args s 0 0 A) (F0 m 0 ls []) := by
  unfold f8_sumOf at h
  obtain ⟨hx, hb, hr, hts, hown, hlocks, hml⟩ := id C
  refine lv_iconst (v := (0 : Int32)) hx hb dX8_sumOf_0 (by decide) ?_
  refine lv_istore_n (lv' := [(2, .int (0 : Int32)), (0, .ref (a 0)), (1, .int v1)]) hx hb dX8_sumOf_1 rfl hl (by decide) rfl (fun ls hl => ?_)
  refine lv_iconst (v := (0 : Int32)) hx hb dX8_sumOf_2 (by decide) ?_
  refine lv_istore_n (lv' := [(3, .int (0 : Int32)), (2, .int (0 : Int32)), (0, .ref (a 0)), (1, .int v1)]) hx hb dX8_sumOf_3 rfl hl (by decide) rfl (fun ls hl => ?_)
  exact w8_sumOf_L4 C hK hA fo_fu h hG (lv_sub hl [2, 3, 1, 0] rfl)
set_option maxRecDepth 100000 in
set_option maxHeartbeats 4000000 in
theorem c8_sumOf (l : Launch) {dC : Nat → ClassId} {dI : Nat → Nat → Nat} {cI : ClassId} {a : Nat → Nat} {X : Nat → Int32} {v1 : Int32} {S : (Nat → Int32)} {q : Int32} (h : f8_sumOf v1 S = some q) : mi_M l yX8_sumOf wm8_sumOf RM8_sumOf (dC, dI) [(cI, .int)] [.ref (a 0), .int v1] (wd_M0 cI a X S) q (wd_M0 cI a X S) := by
  intro sz
  refine Met.ofW (cc := cX8_sumOf) (maxL := 4) (ret := (some .int)) (by decide) rfl ?_
  intro p e s m args below meth c s₁ B hml hv
  obtain ⟨rfl, hsz, hP, hK, hD0⟩ := hv
  subst hsz
  have hl := lv_entry ([.ref (a 0), .int v1] : List Value) (n := 4) (Nat.le_of_ble_eq_true rfl)
  rw [lg_entry_eq]
  generalize (lg_sl ([.ref (a 0), .int v1] : List Value) ++ List.replicate (4 - (lg_sl ([.ref (a 0), .int v1] : List Value)).length) Slot.unset).toArray = ls at hl ⊢
  exact w8_sumOf (a := a) ⟨B.exec, B.bytes, B.returns, fun w hw => atoms_spec (ws := wm8_sumOf) B.pre w (List.mem_cons_of_mem _ hw), findClass_of_methodNamed B.named, B.notSynchronized, hml⟩ hK (fun _ h => Or.inr h) h ⟨hP, hD0.self, va_S.rf⟩ hl
end
/-! ## DiceRoadsModel.sumOfDebts()I -/
section
variable {p : Program} {l : Launch} {e : Env} {s : State} {m : MethodId} {args : Array Value} {below : List Frame} {meth : Method} {c : Code} {dC : Nat → ClassId} {dI : Nat → Nat → Nat} {cI : ClassId} {A : Nat → Prop}
set_option maxRecDepth 100000 in
set_option maxHeartbeats 4000000 in
theorem w8_sumOfDebts_b4 (C : cx_M p s m args meth c RX8 cX8_sumOfDebts (some .int) 3) (hK : va_K (dC, dI) vwCl [(cI, .int)] s) (hA : ∀ q, s.heap.size ≤ q → A q) {a : Nat → Nat} {X : Nat → Int32} {S : (Nat → Int32)} {q : Int32} {rec4 : Int32 → Int32 → (Nat → Int32) → Option Int32} (hrec4 : ∀ {v1 : Int32} {v2 : Int32} , rec4 v1 v2 S = some q → ∀ {H : Heap} {locs : List Loc} {ls : Array Slot}, gd_W (dC, dI) A s (wd_M0 cI a X S) H locs → lv_has ls 3 [(0, .ref (a 0)), (1, .int v1), (2, .int v2)] → W p l e RM8_sumOfDebts s m args below meth c H locs 0 0 (MQ below (qi_W (dC, dI) [(cI, .int)] A q (wd_M0 cI a X S)) args s 0 0 A) (F0 m 4 ls [])) {v1 : Int32} {v2 : Int32} (h : f8_sumOfDebts_b4 rec4 v1 v2 S = some q) {H : Heap} {locs : List Loc} {ls : Array Slot} (hG : gd_W (dC, dI) A s (wd_M0 cI a X S) H locs) (hl : lv_has ls 3 [(0, .ref (a 0)), (1, .int v1), (2, .int v2)]) : W p l e RM8_sumOfDebts s m args below meth c H locs 0 0 (MQ below (qi_W (dC, dI) [(cI, .int)] A q (wd_M0 cI a X S)) args s 0 0 A) (F0 m 4 ls []) := by
  unfold f8_sumOfDebts_b4 at h
  obtain ⟨hx, hb, hr, hts, hown, hlocks, hml⟩ := id C
  refine lv_iload_n hx hb dX8_sumOfDebts_4 rfl (lv_at hl 2 rfl) ?_
  refine lv_aload_n hx hb dX8_sumOfDebts_5 rfl (lv_at hl 0 rfl) ?_
  refine va_get (D := (dC, dI)) (ci := 7) (v := .ref (a 1)) (C := RX8) (T := TX8) (N := 17) hx hb hts inlX8 hown hK hG.1 0 rfl rfl 0 (by decide) (hts (Cond.fieldLink RX8 7 "DiceRoadsModel" "state" "[I") wq_637) (fun _ h9 => h9) rfl dX8_sumOfDebts_6 ?_
  refine lv_bipush (v := (6 : Int32)) hx hb dX8_sumOfDebts_9 (by decide) ?_
  obtain ⟨hi, h⟩ := fo_ck_some h
  refine va_iald hx hb hK hG.1 1 0 rfl rfl hi dX8_sumOfDebts_11 ?_
  refine lv_icmp_ge (tgt := 29) hx hb dX8_sumOfDebts_12 (by decide) (fun hc => ?_) (fun hc => ?_)
  · have h := fo_it h hc
    refine lv_iload_n hx hb dX8_sumOfDebts_29 rfl (lv_at hl 1 rfl) ?_
    exact gr_i hx hb hr hlocks hK hG (Option.some.inj h) dX8_sumOfDebts_30
  · have h := fo_if h hc
    refine lv_iload_n hx hb dX8_sumOfDebts_15 rfl (lv_at hl 1 rfl) ?_
    refine lv_aload_n hx hb dX8_sumOfDebts_16 rfl (lv_at hl 0 rfl) ?_
    refine lv_iload_n hx hb dX8_sumOfDebts_17 rfl (lv_at hl 2 rfl) ?_
    obtain ⟨q18, hq18, h⟩ := fo_bd_some h
    refine gc_iV (b := a 0) (C := RX8) (As := [.int v2]) (rest := [.int v1]) (wc := (wd_M0 cI a X S)) (w1 := (wd_M0 cI a X S)) (ci := 7) (q0 := 0) ⟨hx, hb, hml, hown, hts⟩ (c8_owedBy l (a := a) (X := X) hq18) (cwV 1 hts gv_X8_61 rfl rfl rfl hd8_owedBy ⟨Nat.le_of_ble_eq_true rfl, Nat.le_of_ble_eq_true rfl⟩) hK [0] rfl hA hG [0, 1] rfl rfl rfl rfl rfl rfl hl.1 rfl (Nat.le_of_ble_eq_true rfl) dX8_sumOfDebts_18 ⟨Nat.zero_le _, Nat.zero_le _⟩ (fun H locs hG9 => ?_)
    have hG : gd_W (dC, dI) A s (wd_M0 cI a X S) H locs := hG9
    refine lv_iadd hx hb dX8_sumOfDebts_21 ?_
    refine lv_istore_n (lv' := [(1, .int (v1 + q18)), (0, .ref (a 0)), (2, .int v2)]) hx hb dX8_sumOfDebts_22 rfl hl (by decide) rfl (fun ls hl => ?_)
    refine lv_iinc (v := (v2 + (1 : Int32))) (lv' := [(2, .int (v2 + (1 : Int32))), (1, .int (v1 + q18)), (0, .ref (a 0))]) hx hb dX8_sumOfDebts_23 hl (k := 2) rfl rfl (by decide) rfl (fun ls hl => ?_)
    refine lv_goto (tgt := 4) hx hb dX8_sumOfDebts_26 (by decide) ?_
    exact hrec4 h hG (lv_sub hl [2, 1, 0] rfl)
set_option maxRecDepth 100000 in
set_option maxHeartbeats 4000000 in
theorem w8_sumOfDebts_L4 (C : cx_M p s m args meth c RX8 cX8_sumOfDebts (some .int) 3) (hK : va_K (dC, dI) vwCl [(cI, .int)] s) (hA : ∀ q, s.heap.size ≤ q → A q) {a : Nat → Nat} {X : Nat → Int32} {S : (Nat → Int32)} {q : Int32} : ∀ (n : Nat) {v1 : Int32} {v2 : Int32}, f8_sumOfDebts_L4 n v1 v2 S = some q → ∀ {H : Heap} {locs : List Loc} {ls : Array Slot}, gd_W (dC, dI) A s (wd_M0 cI a X S) H locs → lv_has ls 3 [(0, .ref (a 0)), (1, .int v1), (2, .int v2)] → W p l e RM8_sumOfDebts s m args below meth c H locs 0 0 (MQ below (qi_W (dC, dI) [(cI, .int)] A q (wd_M0 cI a X S)) args s 0 0 A) (F0 m 4 ls []) := by
  intro n
  induction n with
  | zero => intro _ _ h; exact nomatch h
  | succ n ih => intro v1 v2 h H locs ls hG hl; exact w8_sumOfDebts_b4 C hK hA (fun h => ih h) (show f8_sumOfDebts_b4 (f8_sumOfDebts_L4 n) v1 v2 S = some q from h) hG hl
set_option maxRecDepth 100000 in
set_option maxHeartbeats 4000000 in
theorem w8_sumOfDebts (C : cx_M p s m args meth c RX8 cX8_sumOfDebts (some .int) 3) (hK : va_K (dC, dI) vwCl [(cI, .int)] s) (hA : ∀ q, s.heap.size ≤ q → A q) {a : Nat → Nat} {X : Nat → Int32} {q : Int32} {S : (Nat → Int32)} (h : f8_sumOfDebts S = some q) {H : Heap} {locs : List Loc} {ls : Array Slot} (hG : gd_W (dC, dI) A s (wd_M0 cI a X S) H locs) (hl : lv_has ls 3 [(0, .ref (a 0))]) : W p l e RM8_sumOfDebts s m args below meth c H locs 0 0 (MQ below (qi_W (dC, dI) [(cI, .int)] A q (wd_M0 cI a X S)) args s 0 0 A) (F0 m 0 ls []) := by
  unfold f8_sumOfDebts at h
  obtain ⟨hx, hb, hr, hts, hown, hlocks, hml⟩ := id C
  refine lv_iconst (v := (0 : Int32)) hx hb dX8_sumOfDebts_0 (by decide) ?_
  refine lv_istore_n (lv' := [(1, .int (0 : Int32)), (0, .ref (a 0))]) hx hb dX8_sumOfDebts_1 rfl hl (by decide) rfl (fun ls hl => ?_)
  refine lv_iconst (v := (0 : Int32)) hx hb dX8_sumOfDebts_2 (by decide) ?_
  refine lv_istore_n (lv' := [(2, .int (0 : Int32)), (1, .int (0 : Int32)), (0, .ref (a 0))]) hx hb dX8_sumOfDebts_3 rfl hl (by decide) rfl (fun ls hl => ?_)
  exact w8_sumOfDebts_L4 C hK hA fo_fu h hG (lv_sub hl [2, 1, 0] rfl)
set_option maxRecDepth 100000 in
set_option maxHeartbeats 4000000 in
theorem c8_sumOfDebts (l : Launch) {dC : Nat → ClassId} {dI : Nat → Nat → Nat} {cI : ClassId} {a : Nat → Nat} {X : Nat → Int32} {S : (Nat → Int32)} {q : Int32} (h : f8_sumOfDebts S = some q) : mi_M l yX8_sumOfDebts wm8_sumOfDebts RM8_sumOfDebts (dC, dI) [(cI, .int)] [.ref (a 0)] (wd_M0 cI a X S) q (wd_M0 cI a X S) := by
  intro sz
  refine Met.ofW (cc := cX8_sumOfDebts) (maxL := 3) (ret := (some .int)) (by decide) rfl ?_
  intro p e s m args below meth c s₁ B hml hv
  obtain ⟨rfl, hsz, hP, hK, hD0⟩ := hv
  subst hsz
  have hl := lv_entry ([.ref (a 0)] : List Value) (n := 3) (Nat.le_of_ble_eq_true rfl)
  rw [lg_entry_eq]
  generalize (lg_sl ([.ref (a 0)] : List Value) ++ List.replicate (3 - (lg_sl ([.ref (a 0)] : List Value)).length) Slot.unset).toArray = ls at hl ⊢
  exact w8_sumOfDebts (a := a) ⟨B.exec, B.bytes, B.returns, fun w hw => atoms_spec (ws := wm8_sumOfDebts) B.pre w (List.mem_cons_of_mem _ hw), findClass_of_methodNamed B.named, B.notSynchronized, hml⟩ hK (fun _ h => Or.inr h) h ⟨hP, hD0.self, va_S.rf⟩ hl
end
/-! ## DiceRoadsModel.debtsMany()I -/
section
variable {p : Program} {l : Launch} {e : Env} {s : State} {m : MethodId} {args : Array Value} {below : List Frame} {meth : Method} {c : Code} {dC : Nat → ClassId} {dI : Nat → Nat → Nat} {cI : ClassId} {A : Nat → Prop}
set_option maxRecDepth 100000 in
set_option maxHeartbeats 4000000 in
theorem w8_debtsMany_b43 (C : cx_M p s m args meth c RX8 cX8_debtsMany (some .int) 4) (hK : va_K (dC, dI) vwCl [(cI, .int)] s) (hA : ∀ q, s.heap.size ≤ q → A q) {a : Nat → Nat} {X : Nat → Int32} {S : (Nat → Int32)} {q : Int32} {rec4 : Int32 → Int32 → (Nat → Int32) → Option Int32} (hrec4 : ∀ {v1 : Int32} {v2 : Int32} , rec4 v1 v2 S = some q → ∀ {H : Heap} {locs : List Loc} {ls : Array Slot}, gd_W (dC, dI) A s (wd_M0 cI a X S) H locs → lv_has ls 4 [(0, .ref (a 0)), (1, .int v1), (2, .int v2)] → W p l e RM8_debtsMany s m args below meth c H locs 0 0 (MQ below (qi_W (dC, dI) [(cI, .int)] A q (wd_M0 cI a X S)) args s 0 0 A) (F0 m 4 ls [])) {rec17 : Int32 → Int32 → Int32 → (Nat → Int32) → Option Int32} (hrec17 : ∀ {v1 : Int32} {v2 : Int32} {v3 : Int32} , rec17 v1 v2 v3 S = some q → ∀ {H : Heap} {locs : List Loc} {ls : Array Slot}, gd_W (dC, dI) A s (wd_M0 cI a X S) H locs → lv_has ls 4 [(0, .ref (a 0)), (1, .int v1), (2, .int v2), (3, .int v3)] → W p l e RM8_debtsMany s m args below meth c H locs 0 0 (MQ below (qi_W (dC, dI) [(cI, .int)] A q (wd_M0 cI a X S)) args s 0 0 A) (F0 m 17 ls [])) {v2 : Int32} {v3 : Int32} {t0 : Int32} {t1 : Int32} (h : f8_debtsMany_b43 rec4 rec17 v2 v3 t0 t1 S = some q) {H : Heap} {locs : List Loc} {ls : Array Slot} (hG : gd_W (dC, dI) A s (wd_M0 cI a X S) H locs) (hl : lv_has ls 4 [(0, .ref (a 0)), (2, .int v2), (3, .int v3)]) : W p l e RM8_debtsMany s m args below meth c H locs 0 0 (MQ below (qi_W (dC, dI) [(cI, .int)] A q (wd_M0 cI a X S)) args s 0 0 A) (F0 m 43 ls [.int t1, .int t0]) := by
  unfold f8_debtsMany_b43 at h
  obtain ⟨hx, hb, hr, hts, hown, hlocks, hml⟩ := id C
  refine lv_iadd hx hb dX8_debtsMany_43 ?_
  refine lv_istore_n (lv' := [(1, .int (t0 + t1)), (0, .ref (a 0)), (2, .int v2), (3, .int v3)]) hx hb dX8_debtsMany_44 rfl hl (by decide) rfl (fun ls hl => ?_)
  refine lv_iinc (v := (v3 + (1 : Int32))) (lv' := [(3, .int (v3 + (1 : Int32))), (1, .int (t0 + t1)), (0, .ref (a 0)), (2, .int v2)]) hx hb dX8_debtsMany_45 hl (k := 3) rfl rfl (by decide) rfl (fun ls hl => ?_)
  refine lv_goto (tgt := 17) hx hb dX8_debtsMany_48 (by decide) ?_
  exact hrec17 h hG (lv_sub hl [2, 1, 3, 0] rfl)
set_option maxRecDepth 100000 in
set_option maxHeartbeats 4000000 in
theorem w8_debtsMany_b17 (C : cx_M p s m args meth c RX8 cX8_debtsMany (some .int) 4) (hK : va_K (dC, dI) vwCl [(cI, .int)] s) (hA : ∀ q, s.heap.size ≤ q → A q) {a : Nat → Nat} {X : Nat → Int32} {S : (Nat → Int32)} {q : Int32} {rec4 : Int32 → Int32 → (Nat → Int32) → Option Int32} (hrec4 : ∀ {v1 : Int32} {v2 : Int32} , rec4 v1 v2 S = some q → ∀ {H : Heap} {locs : List Loc} {ls : Array Slot}, gd_W (dC, dI) A s (wd_M0 cI a X S) H locs → lv_has ls 4 [(0, .ref (a 0)), (1, .int v1), (2, .int v2)] → W p l e RM8_debtsMany s m args below meth c H locs 0 0 (MQ below (qi_W (dC, dI) [(cI, .int)] A q (wd_M0 cI a X S)) args s 0 0 A) (F0 m 4 ls [])) {rec17 : Int32 → Int32 → Int32 → (Nat → Int32) → Option Int32} (hrec17 : ∀ {v1 : Int32} {v2 : Int32} {v3 : Int32} , rec17 v1 v2 v3 S = some q → ∀ {H : Heap} {locs : List Loc} {ls : Array Slot}, gd_W (dC, dI) A s (wd_M0 cI a X S) H locs → lv_has ls 4 [(0, .ref (a 0)), (1, .int v1), (2, .int v2), (3, .int v3)] → W p l e RM8_debtsMany s m args below meth c H locs 0 0 (MQ below (qi_W (dC, dI) [(cI, .int)] A q (wd_M0 cI a X S)) args s 0 0 A) (F0 m 17 ls [])) {v1 : Int32} {v2 : Int32} {v3 : Int32} (h : f8_debtsMany_b17 rec4 rec17 v1 v2 v3 S = some q) {H : Heap} {locs : List Loc} {ls : Array Slot} (hG : gd_W (dC, dI) A s (wd_M0 cI a X S) H locs) (hl : lv_has ls 4 [(0, .ref (a 0)), (1, .int v1), (2, .int v2), (3, .int v3)]) : W p l e RM8_debtsMany s m args below meth c H locs 0 0 (MQ below (qi_W (dC, dI) [(cI, .int)] A q (wd_M0 cI a X S)) args s 0 0 A) (F0 m 17 ls []) := by
  unfold f8_debtsMany_b17 at h
  obtain ⟨hx, hb, hr, hts, hown, hlocks, hml⟩ := id C
  refine lv_iload_n hx hb dX8_debtsMany_17 rfl (lv_at hl 3 rfl) ?_
  refine lv_aload_n hx hb dX8_debtsMany_18 rfl (lv_at hl 0 rfl) ?_
  refine va_get (D := (dC, dI)) (ci := 7) (v := .ref (a 1)) (C := RX8) (T := TX8) (N := 17) hx hb hts inlX8 hown hK hG.1 0 rfl rfl 0 (by decide) (hts (Cond.fieldLink RX8 7 "DiceRoadsModel" "state" "[I") wq_637) (fun _ h9 => h9) rfl dX8_debtsMany_19 ?_
  refine lv_bipush (v := (6 : Int32)) hx hb dX8_debtsMany_22 (by decide) ?_
  obtain ⟨hi, h⟩ := fo_ck_some h
  refine va_iald hx hb hK hG.1 1 0 rfl rfl hi dX8_debtsMany_24 ?_
  refine lv_icmp_ge (tgt := 51) hx hb dX8_debtsMany_25 (by decide) (fun hc => ?_) (fun hc => ?_)
  · have h := fo_it h hc
    refine lv_iinc (v := (v2 + (1 : Int32))) (lv' := [(2, .int (v2 + (1 : Int32))), (0, .ref (a 0)), (1, .int v1), (3, .int v3)]) hx hb dX8_debtsMany_51 hl (k := 2) rfl rfl (by decide) rfl (fun ls hl => ?_)
    refine lv_goto (tgt := 4) hx hb dX8_debtsMany_54 (by decide) ?_
    exact hrec4 h hG (lv_sub hl [1, 2, 0] rfl)
  · have h := fo_if h hc
    refine lv_iload_n hx hb dX8_debtsMany_28 rfl (lv_at hl 1 rfl) ?_
    refine lv_aload_n hx hb dX8_debtsMany_29 rfl (lv_at hl 0 rfl) ?_
    refine lv_iload_n hx hb dX8_debtsMany_30 rfl (lv_at hl 2 rfl) ?_
    refine lv_iload_n hx hb dX8_debtsMany_31 rfl (lv_at hl 3 rfl) ?_
    obtain ⟨q32, hq32, h⟩ := fo_bd_some h
    refine gc_iV (b := a 0) (C := RX8) (As := [.int v2, .int v3]) (rest := [.int v1]) (wc := (wd_M0 cI a X S)) (w1 := (wd_M0 cI a X S)) (ci := 7) (q0 := 0) ⟨hx, hb, hml, hown, hts⟩ (c8_debtOf l (a := a) (X := X) hq32) (cwV 2 hts gv_X8_46 rfl rfl rfl hd8_debtOf ⟨Nat.le_of_ble_eq_true rfl, Nat.le_of_ble_eq_true rfl⟩) hK [0] rfl hA hG [0, 1] rfl rfl rfl rfl rfl rfl hl.1 rfl (Nat.le_of_ble_eq_true rfl) dX8_debtsMany_32 ⟨Nat.zero_le _, Nat.zero_le _⟩ (fun H locs hG9 => ?_)
    have hG : gd_W (dC, dI) A s (wd_M0 cI a X S) H locs := hG9
    refine lv_if_le (tgt := 42) hx hb dX8_debtsMany_35 (by decide) (fun hc => ?_) (fun hc => ?_)
    · have h := fo_it h hc
      refine lv_iconst (v := (0 : Int32)) hx hb dX8_debtsMany_42 (by decide) ?_
      exact w8_debtsMany_b43 C hK hA (fun h => hrec4 h) (fun h => hrec17 h) h hG (lv_sub hl [0, 2, 3] rfl)
    · have h := fo_if h hc
      refine lv_iconst (v := (1 : Int32)) hx hb dX8_debtsMany_38 (by decide) ?_
      refine lv_goto (tgt := 43) hx hb dX8_debtsMany_39 (by decide) ?_
      exact w8_debtsMany_b43 C hK hA (fun h => hrec4 h) (fun h => hrec17 h) h hG (lv_sub hl [0, 2, 3] rfl)
set_option maxRecDepth 100000 in
set_option maxHeartbeats 4000000 in
theorem w8_debtsMany_L17 (C : cx_M p s m args meth c RX8 cX8_debtsMany (some .int) 4) (hK : va_K (dC, dI) vwCl [(cI, .int)] s) (hA : ∀ q, s.heap.size ≤ q → A q) {a : Nat → Nat} {X : Nat → Int32} {S : (Nat → Int32)} {q : Int32} {rec4 : Int32 → Int32 → (Nat → Int32) → Option Int32} (hrec4 : ∀ {v1 : Int32} {v2 : Int32} , rec4 v1 v2 S = some q → ∀ {H : Heap} {locs : List Loc} {ls : Array Slot}, gd_W (dC, dI) A s (wd_M0 cI a X S) H locs → lv_has ls 4 [(0, .ref (a 0)), (1, .int v1), (2, .int v2)] → W p l e RM8_debtsMany s m args below meth c H locs 0 0 (MQ below (qi_W (dC, dI) [(cI, .int)] A q (wd_M0 cI a X S)) args s 0 0 A) (F0 m 4 ls [])) : ∀ (n : Nat) {v1 : Int32} {v2 : Int32} {v3 : Int32}, f8_debtsMany_L17 rec4 n v1 v2 v3 S = some q → ∀ {H : Heap} {locs : List Loc} {ls : Array Slot}, gd_W (dC, dI) A s (wd_M0 cI a X S) H locs → lv_has ls 4 [(0, .ref (a 0)), (1, .int v1), (2, .int v2), (3, .int v3)] → W p l e RM8_debtsMany s m args below meth c H locs 0 0 (MQ below (qi_W (dC, dI) [(cI, .int)] A q (wd_M0 cI a X S)) args s 0 0 A) (F0 m 17 ls []) := by
  intro n
  induction n with
  | zero => intro _ _ _ h; exact nomatch h
  | succ n ih => intro v1 v2 v3 h H locs ls hG hl; exact w8_debtsMany_b17 C hK hA (fun h => hrec4 h) (fun h => ih h) (show f8_debtsMany_b17 rec4 (f8_debtsMany_L17 rec4 n) v1 v2 v3 S = some q from h) hG hl
set_option maxRecDepth 100000 in
set_option maxHeartbeats 4000000 in
theorem w8_debtsMany_b4 (C : cx_M p s m args meth c RX8 cX8_debtsMany (some .int) 4) (hK : va_K (dC, dI) vwCl [(cI, .int)] s) (hA : ∀ q, s.heap.size ≤ q → A q) {a : Nat → Nat} {X : Nat → Int32} {S : (Nat → Int32)} {q : Int32} {rec4 : Int32 → Int32 → (Nat → Int32) → Option Int32} (hrec4 : ∀ {v1 : Int32} {v2 : Int32} , rec4 v1 v2 S = some q → ∀ {H : Heap} {locs : List Loc} {ls : Array Slot}, gd_W (dC, dI) A s (wd_M0 cI a X S) H locs → lv_has ls 4 [(0, .ref (a 0)), (1, .int v1), (2, .int v2)] → W p l e RM8_debtsMany s m args below meth c H locs 0 0 (MQ below (qi_W (dC, dI) [(cI, .int)] A q (wd_M0 cI a X S)) args s 0 0 A) (F0 m 4 ls [])) {v1 : Int32} {v2 : Int32} (h : f8_debtsMany_b4 rec4 v1 v2 S = some q) {H : Heap} {locs : List Loc} {ls : Array Slot} (hG : gd_W (dC, dI) A s (wd_M0 cI a X S) H locs) (hl : lv_has ls 4 [(0, .ref (a 0)), (1, .int v1), (2, .int v2)]) : W p l e RM8_debtsMany s m args below meth c H locs 0 0 (MQ below (qi_W (dC, dI) [(cI, .int)] A q (wd_M0 cI a X S)) args s 0 0 A) (F0 m 4 ls []) := by
  unfold f8_debtsMany_b4 at h
  obtain ⟨hx, hb, hr, hts, hown, hlocks, hml⟩ := id C
  refine lv_iload_n hx hb dX8_debtsMany_4 rfl (lv_at hl 2 rfl) ?_
  refine lv_aload_n hx hb dX8_debtsMany_5 rfl (lv_at hl 0 rfl) ?_
  refine va_get (D := (dC, dI)) (ci := 7) (v := .ref (a 1)) (C := RX8) (T := TX8) (N := 17) hx hb hts inlX8 hown hK hG.1 0 rfl rfl 0 (by decide) (hts (Cond.fieldLink RX8 7 "DiceRoadsModel" "state" "[I") wq_637) (fun _ h9 => h9) rfl dX8_debtsMany_6 ?_
  refine lv_bipush (v := (6 : Int32)) hx hb dX8_debtsMany_9 (by decide) ?_
  obtain ⟨hi, h⟩ := fo_ck_some h
  refine va_iald hx hb hK hG.1 1 0 rfl rfl hi dX8_debtsMany_11 ?_
  refine lv_icmp_ge (tgt := 57) hx hb dX8_debtsMany_12 (by decide) (fun hc => ?_) (fun hc => ?_)
  · have h := fo_it h hc
    refine lv_iload_n hx hb dX8_debtsMany_57 rfl (lv_at hl 1 rfl) ?_
    exact gr_i hx hb hr hlocks hK hG (Option.some.inj h) dX8_debtsMany_58
  · have h := fo_if h hc
    refine lv_iconst (v := (0 : Int32)) hx hb dX8_debtsMany_15 (by decide) ?_
    refine lv_istore_n (lv' := [(3, .int (0 : Int32)), (0, .ref (a 0)), (1, .int v1), (2, .int v2)]) hx hb dX8_debtsMany_16 rfl hl (by decide) rfl (fun ls hl => ?_)
    exact w8_debtsMany_L17 C hK hA (fun h => hrec4 h) fo_fu h hG (lv_sub hl [1, 2, 3, 0] rfl)
set_option maxRecDepth 100000 in
set_option maxHeartbeats 4000000 in
theorem w8_debtsMany_L4 (C : cx_M p s m args meth c RX8 cX8_debtsMany (some .int) 4) (hK : va_K (dC, dI) vwCl [(cI, .int)] s) (hA : ∀ q, s.heap.size ≤ q → A q) {a : Nat → Nat} {X : Nat → Int32} {S : (Nat → Int32)} {q : Int32} : ∀ (n : Nat) {v1 : Int32} {v2 : Int32}, f8_debtsMany_L4 n v1 v2 S = some q → ∀ {H : Heap} {locs : List Loc} {ls : Array Slot}, gd_W (dC, dI) A s (wd_M0 cI a X S) H locs → lv_has ls 4 [(0, .ref (a 0)), (1, .int v1), (2, .int v2)] → W p l e RM8_debtsMany s m args below meth c H locs 0 0 (MQ below (qi_W (dC, dI) [(cI, .int)] A q (wd_M0 cI a X S)) args s 0 0 A) (F0 m 4 ls []) := by
  intro n
  induction n with
  | zero => intro _ _ h; exact nomatch h
  | succ n ih => intro v1 v2 h H locs ls hG hl; exact w8_debtsMany_b4 C hK hA (fun h => ih h) (show f8_debtsMany_b4 (f8_debtsMany_L4 n) v1 v2 S = some q from h) hG hl
set_option maxRecDepth 100000 in
set_option maxHeartbeats 4000000 in
theorem w8_debtsMany (C : cx_M p s m args meth c RX8 cX8_debtsMany (some .int) 4) (hK : va_K (dC, dI) vwCl [(cI, .int)] s) (hA : ∀ q, s.heap.size ≤ q → A q) {a : Nat → Nat} {X : Nat → Int32} {q : Int32} {S : (Nat → Int32)} (h : f8_debtsMany S = some q) {H : Heap} {locs : List Loc} {ls : Array Slot} (hG : gd_W (dC, dI) A s (wd_M0 cI a X S) H locs) (hl : lv_has ls 4 [(0, .ref (a 0))]) : W p l e RM8_debtsMany s m args below meth c H locs 0 0 (MQ below (qi_W (dC, dI) [(cI, .int)] A q (wd_M0 cI a X S)) args s 0 0 A) (F0 m 0 ls []) := by
  unfold f8_debtsMany at h
  obtain ⟨hx, hb, hr, hts, hown, hlocks, hml⟩ := id C
  refine lv_iconst (v := (0 : Int32)) hx hb dX8_debtsMany_0 (by decide) ?_
  refine lv_istore_n (lv' := [(1, .int (0 : Int32)), (0, .ref (a 0))]) hx hb dX8_debtsMany_1 rfl hl (by decide) rfl (fun ls hl => ?_)
  refine lv_iconst (v := (0 : Int32)) hx hb dX8_debtsMany_2 (by decide) ?_
  refine lv_istore_n (lv' := [(2, .int (0 : Int32)), (1, .int (0 : Int32)), (0, .ref (a 0))]) hx hb dX8_debtsMany_3 rfl hl (by decide) rfl (fun ls hl => ?_)
  exact w8_debtsMany_L4 C hK hA fo_fu h hG (lv_sub hl [2, 1, 0] rfl)
set_option maxRecDepth 100000 in
set_option maxHeartbeats 4000000 in
theorem c8_debtsMany (l : Launch) {dC : Nat → ClassId} {dI : Nat → Nat → Nat} {cI : ClassId} {a : Nat → Nat} {X : Nat → Int32} {S : (Nat → Int32)} {q : Int32} (h : f8_debtsMany S = some q) : mi_M l yX8_debtsMany wm8_debtsMany RM8_debtsMany (dC, dI) [(cI, .int)] [.ref (a 0)] (wd_M0 cI a X S) q (wd_M0 cI a X S) := by
  intro sz
  refine Met.ofW (cc := cX8_debtsMany) (maxL := 4) (ret := (some .int)) (by decide) rfl ?_
  intro p e s m args below meth c s₁ B hml hv
  obtain ⟨rfl, hsz, hP, hK, hD0⟩ := hv
  subst hsz
  have hl := lv_entry ([.ref (a 0)] : List Value) (n := 4) (Nat.le_of_ble_eq_true rfl)
  rw [lg_entry_eq]
  generalize (lg_sl ([.ref (a 0)] : List Value) ++ List.replicate (4 - (lg_sl ([.ref (a 0)] : List Value)).length) Slot.unset).toArray = ls at hl ⊢
  exact w8_debtsMany (a := a) ⟨B.exec, B.bytes, B.returns, fun w hw => atoms_spec (ws := wm8_debtsMany) B.pre w (List.mem_cons_of_mem _ hw), findClass_of_methodNamed B.named, B.notSynchronized, hml⟩ hK (fun _ h => Or.inr h) h ⟨hP, hD0.self, va_S.rf⟩ hl
end
/-! ## DiceRoadsModel.die()I -/
section
variable {p : Program} {l : Launch} {e : Env} {s : State} {m : MethodId} {args : Array Value} {below : List Frame} {meth : Method} {c : Code} {dC : Nat → ClassId} {dI : Nat → Nat → Nat} {cI : ClassId} {A : Nat → Prop}
set_option maxRecDepth 100000 in
set_option maxHeartbeats 4000000 in
theorem w8_die (C : cx_M p s m args meth c RX8 cX8_die (some .int) 1) (hK : va_K (dC, dI) vwCl [(cI, .int)] s) (hA : ∀ q, s.heap.size ≤ q → A q) {a : Nat → Nat} {X : Nat → Int32} {q : (Int32 × (Nat → Int32))} {S : (Nat → Int32)} (h : f8_die S = some q) {H : Heap} {locs : List Loc} {ls : Array Slot} (hG : gd_W (dC, dI) A s (wd_M0 cI a X S) H locs) (hl : lv_has ls 1 [(0, .ref (a 0))]) : W p l e RM8_die s m args below meth c H locs 0 0 (MQ below (qi_W (dC, dI) [(cI, .int)] A q.1 (wd_M0 cI a X q.2)) args s 0 0 A) (F0 m 0 ls []) := by
  unfold f8_die at h
  obtain ⟨hx, hb, hr, hts, hown, hlocks, hml⟩ := id C
  refine lv_aload_n hx hb dX8_die_0 rfl (lv_at hl 0 rfl) ?_
  refine va_get (D := (dC, dI)) (ci := 7) (v := .ref (a 1)) (C := RX8) (T := TX8) (N := 17) hx hb hts inlX8 hown hK hG.1 0 rfl rfl 0 (by decide) (hts (Cond.fieldLink RX8 7 "DiceRoadsModel" "state" "[I") wq_637) (fun _ h9 => h9) rfl dX8_die_1 ?_
  refine lv_bipush (v := (8 : Int32)) hx hb dX8_die_4 (by decide) ?_
  refine lv_bipush (v := (75 : Int32)) hx hb dX8_die_6 (by decide) ?_
  refine lv_aload_n hx hb dX8_die_8 rfl (lv_at hl 0 rfl) ?_
  refine va_get (D := (dC, dI)) (ci := 7) (v := .ref (a 1)) (C := RX8) (T := TX8) (N := 17) hx hb hts inlX8 hown hK hG.1 0 rfl rfl 0 (by decide) (hts (Cond.fieldLink RX8 7 "DiceRoadsModel" "state" "[I") wq_637) (fun _ h9 => h9) rfl dX8_die_9 ?_
  refine lv_bipush (v := (8 : Int32)) hx hb dX8_die_12 (by decide) ?_
  obtain ⟨hi, h⟩ := fo_ck_some h
  refine va_iald hx hb hK hG.1 1 0 rfl rfl hi dX8_die_14 ?_
  refine lv_imul hx hb dX8_die_15 ?_
  refine lv_bipush (v := (74 : Int32)) hx hb dX8_die_16 (by decide) ?_
  refine lv_iadd hx hb dX8_die_18 ?_
  refine lv_ldc (v := (65537 : Int32)) hx hb hown (hts (Cond.constant RX8 64 (65537)) wq_782) dX8_die_19 ?_
  refine lv_irem hx hb dX8_die_21 (by decide) ?_
  obtain ⟨hi, h⟩ := fo_ck_some h
  refine va_iast hx hb hK hG.1 hG.2.1 hG.2.2 1 0 rfl rfl hi dX8_die_22 (fun H locs hP9 hD9 hS9 => ?_)
  have hG : gd_W (dC, dI) A s (wd_M0 cI a X (upd S (8 : Int32).toNatClampNeg ((((75 : Int32) * (S (8 : Int32).toNatClampNeg)) + (74 : Int32)) - (((75 : Int32) * (S (8 : Int32).toNatClampNeg)) + (74 : Int32)) / (65537 : Int32) * (65537 : Int32)))) H locs := ⟨hP9, hD9, hS9⟩
  refine lv_iconst (v := (1 : Int32)) hx hb dX8_die_23 (by decide) ?_
  refine lv_aload_n hx hb dX8_die_24 rfl (lv_at hl 0 rfl) ?_
  refine va_get (D := (dC, dI)) (ci := 7) (v := .ref (a 1)) (C := RX8) (T := TX8) (N := 17) hx hb hts inlX8 hown hK hG.1 0 rfl rfl 0 (by decide) (hts (Cond.fieldLink RX8 7 "DiceRoadsModel" "state" "[I") wq_637) (fun _ h9 => h9) rfl dX8_die_25 ?_
  refine lv_bipush (v := (8 : Int32)) hx hb dX8_die_28 (by decide) ?_
  obtain ⟨hi, h⟩ := fo_ck_some h
  refine va_iald hx hb hK hG.1 1 0 rfl rfl hi dX8_die_30 ?_
  refine lv_bipush (v := (8 : Int32)) hx hb dX8_die_31 (by decide) ?_
  refine lv_idiv hx hb dX8_die_33 (by decide) ?_
  refine lv_bipush (v := (6 : Int32)) hx hb dX8_die_34 (by decide) ?_
  refine lv_irem hx hb dX8_die_36 (by decide) ?_
  refine lv_iadd hx hb dX8_die_37 ?_
  obtain rfl := Option.some.inj h
  exact gr_i hx hb hr hlocks hK hG rfl dX8_die_38
set_option maxRecDepth 100000 in
set_option maxHeartbeats 4000000 in
theorem c8_die (l : Launch) {dC : Nat → ClassId} {dI : Nat → Nat → Nat} {cI : ClassId} {a : Nat → Nat} {X : Nat → Int32} {S : (Nat → Int32)} {q : (Int32 × (Nat → Int32))} (h : f8_die S = some q) : mi_M l yX8_die wm8_die RM8_die (dC, dI) [(cI, .int)] [.ref (a 0)] (wd_M0 cI a X S) q.1 (wd_M0 cI a X q.2) := by
  intro sz
  refine Met.ofW (cc := cX8_die) (maxL := 1) (ret := (some .int)) (by decide) rfl ?_
  intro p e s m args below meth c s₁ B hml hv
  obtain ⟨rfl, hsz, hP, hK, hD0⟩ := hv
  subst hsz
  have hl := lv_entry ([.ref (a 0)] : List Value) (n := 1) (Nat.le_of_ble_eq_true rfl)
  rw [lg_entry_eq]
  generalize (lg_sl ([.ref (a 0)] : List Value) ++ List.replicate (1 - (lg_sl ([.ref (a 0)] : List Value)).length) Slot.unset).toArray = ls at hl ⊢
  exact w8_die (a := a) ⟨B.exec, B.bytes, B.returns, fun w hw => atoms_spec (ws := wm8_die) B.pre w (List.mem_cons_of_mem _ hw), findClass_of_methodNamed B.named, B.notSynchronized, hml⟩ hK (fun _ h => Or.inr h) h ⟨hP, hD0.self, va_S.rf⟩ hl
end
/-! ## DiceRoadsModel.oldest(II)I -/
section
variable {p : Program} {l : Launch} {e : Env} {s : State} {m : MethodId} {args : Array Value} {below : List Frame} {meth : Method} {c : Code} {dC : Nat → ClassId} {dI : Nat → Nat → Nat} {cI : ClassId} {A : Nat → Prop}
set_option maxRecDepth 100000 in
set_option maxHeartbeats 4000000 in
theorem w8_oldest_b77 (C : cx_M p s m args meth c RX8 cX8_oldest (some .int) 6) (hK : va_K (dC, dI) vwCl [(cI, .int)] s) (hA : ∀ q, s.heap.size ≤ q → A q) {a : Nat → Nat} {X : Nat → Int32} {S : (Nat → Int32)} {q : Int32} {rec6 : Int32 → Int32 → Int32 → Int32 → (Nat → Int32) → Option Int32} (hrec6 : ∀ {v1 : Int32} {v2 : Int32} {v3 : Int32} {v4 : Int32} , rec6 v1 v2 v3 v4 S = some q → ∀ {H : Heap} {locs : List Loc} {ls : Array Slot}, gd_W (dC, dI) A s (wd_M0 cI a X S) H locs → lv_has ls 6 [(0, .ref (a 0)), (1, .int v1), (2, .int v2), (3, .int v3), (4, .int v4)] → W p l e RM8_oldest s m args below meth c H locs 0 0 (MQ below (qi_W (dC, dI) [(cI, .int)] A q (wd_M0 cI a X S)) args s 0 0 A) (F0 m 6 ls [])) {v1 : Int32} {v2 : Int32} {v4 : Int32} {t0 : Int32} (h : f8_oldest_b77 rec6 v1 v2 v4 t0 S = some q) {H : Heap} {locs : List Loc} {ls : Array Slot} (hG : gd_W (dC, dI) A s (wd_M0 cI a X S) H locs) (hl : lv_has ls 6 [(0, .ref (a 0)), (1, .int v1), (2, .int v2), (4, .int v4)]) : W p l e RM8_oldest s m args below meth c H locs 0 0 (MQ below (qi_W (dC, dI) [(cI, .int)] A q (wd_M0 cI a X S)) args s 0 0 A) (F0 m 77 ls [.int t0]) := by
  unfold f8_oldest_b77 at h
  obtain ⟨hx, hb, hr, hts, hown, hlocks, hml⟩ := id C
  refine lv_istore_n (lv' := [(3, .int t0), (0, .ref (a 0)), (1, .int v1), (2, .int v2), (4, .int v4)]) hx hb dX8_oldest_77 rfl hl (by decide) rfl (fun ls hl => ?_)
  refine lv_iinc (v := (v4 + (1 : Int32))) (lv' := [(4, .int (v4 + (1 : Int32))), (3, .int t0), (0, .ref (a 0)), (1, .int v1), (2, .int v2)]) hx hb dX8_oldest_78 hl (k := 4) rfl rfl (by decide) rfl (fun ls hl => ?_)
  refine lv_goto (tgt := 6) hx hb dX8_oldest_81 (by decide) ?_
  exact hrec6 h hG (lv_sub hl [2, 3, 4, 1, 0] rfl)
set_option maxRecDepth 100000 in
set_option maxHeartbeats 4000000 in
theorem w8_oldest_b64 (C : cx_M p s m args meth c RX8 cX8_oldest (some .int) 6) (hK : va_K (dC, dI) vwCl [(cI, .int)] s) (hA : ∀ q, s.heap.size ≤ q → A q) {a : Nat → Nat} {X : Nat → Int32} {S : (Nat → Int32)} {q : Int32} {rec6 : Int32 → Int32 → Int32 → Int32 → (Nat → Int32) → Option Int32} (hrec6 : ∀ {v1 : Int32} {v2 : Int32} {v3 : Int32} {v4 : Int32} , rec6 v1 v2 v3 v4 S = some q → ∀ {H : Heap} {locs : List Loc} {ls : Array Slot}, gd_W (dC, dI) A s (wd_M0 cI a X S) H locs → lv_has ls 6 [(0, .ref (a 0)), (1, .int v1), (2, .int v2), (3, .int v3), (4, .int v4)] → W p l e RM8_oldest s m args below meth c H locs 0 0 (MQ below (qi_W (dC, dI) [(cI, .int)] A q (wd_M0 cI a X S)) args s 0 0 A) (F0 m 6 ls [])) {v1 : Int32} {v2 : Int32} {v3 : Int32} {v4 : Int32} {t0 : Int32} (h : f8_oldest_b64 rec6 v1 v2 v3 v4 t0 S = some q) {H : Heap} {locs : List Loc} {ls : Array Slot} (hG : gd_W (dC, dI) A s (wd_M0 cI a X S) H locs) (hl : lv_has ls 6 [(0, .ref (a 0)), (1, .int v1), (2, .int v2), (3, .int v3), (4, .int v4)]) : W p l e RM8_oldest s m args below meth c H locs 0 0 (MQ below (qi_W (dC, dI) [(cI, .int)] A q (wd_M0 cI a X S)) args s 0 0 A) (F0 m 64 ls [.int t0]) := by
  unfold f8_oldest_b64 at h
  obtain ⟨hx, hb, hr, hts, hown, hlocks, hml⟩ := id C
  refine lv_istore (lv' := [(5, .int t0), (0, .ref (a 0)), (1, .int v1), (2, .int v2), (3, .int v3), (4, .int v4)]) hx hb dX8_oldest_64 hl (by decide) rfl (fun ls hl => ?_)
  refine lv_iload hx hb dX8_oldest_66 (lv_at hl 0 rfl) ?_
  refine lv_if_eq (tgt := 76) hx hb dX8_oldest_68 (by decide) (fun hc => ?_) (fun hc => ?_)
  · have h := fo_it h hc
    refine lv_iload_n hx hb dX8_oldest_76 rfl (lv_at hl 4 rfl) ?_
    exact w8_oldest_b77 C hK hA (fun h => hrec6 h) h hG (lv_sub hl [1, 2, 3, 5] rfl)
  · have h := fo_if h hc
    refine lv_iload hx hb dX8_oldest_71 (lv_at hl 5 rfl) ?_
    refine lv_goto (tgt := 77) hx hb dX8_oldest_73 (by decide) ?_
    exact w8_oldest_b77 C hK hA (fun h => hrec6 h) h hG (lv_sub hl [1, 2, 3, 5] rfl)
set_option maxRecDepth 100000 in
set_option maxHeartbeats 4000000 in
theorem w8_oldest_b63 (C : cx_M p s m args meth c RX8 cX8_oldest (some .int) 6) (hK : va_K (dC, dI) vwCl [(cI, .int)] s) (hA : ∀ q, s.heap.size ≤ q → A q) {a : Nat → Nat} {X : Nat → Int32} {S : (Nat → Int32)} {q : Int32} {rec6 : Int32 → Int32 → Int32 → Int32 → (Nat → Int32) → Option Int32} (hrec6 : ∀ {v1 : Int32} {v2 : Int32} {v3 : Int32} {v4 : Int32} , rec6 v1 v2 v3 v4 S = some q → ∀ {H : Heap} {locs : List Loc} {ls : Array Slot}, gd_W (dC, dI) A s (wd_M0 cI a X S) H locs → lv_has ls 6 [(0, .ref (a 0)), (1, .int v1), (2, .int v2), (3, .int v3), (4, .int v4)] → W p l e RM8_oldest s m args below meth c H locs 0 0 (MQ below (qi_W (dC, dI) [(cI, .int)] A q (wd_M0 cI a X S)) args s 0 0 A) (F0 m 6 ls [])) {v1 : Int32} {v2 : Int32} {v3 : Int32} {v4 : Int32} (h : f8_oldest_b63 rec6 v1 v2 v3 v4 S = some q) {H : Heap} {locs : List Loc} {ls : Array Slot} (hG : gd_W (dC, dI) A s (wd_M0 cI a X S) H locs) (hl : lv_has ls 6 [(0, .ref (a 0)), (1, .int v1), (2, .int v2), (3, .int v3), (4, .int v4)]) : W p l e RM8_oldest s m args below meth c H locs 0 0 (MQ below (qi_W (dC, dI) [(cI, .int)] A q (wd_M0 cI a X S)) args s 0 0 A) (F0 m 63 ls []) := by
  unfold f8_oldest_b63 at h
  obtain ⟨hx, hb, hr, hts, hown, hlocks, hml⟩ := id C
  refine lv_iconst (v := (0 : Int32)) hx hb dX8_oldest_63 (by decide) ?_
  exact w8_oldest_b64 C hK hA (fun h => hrec6 h) h hG (lv_sub hl [0, 1, 2, 3, 4] rfl)
set_option maxRecDepth 100000 in
set_option maxHeartbeats 4000000 in
theorem w8_oldest_b59 (C : cx_M p s m args meth c RX8 cX8_oldest (some .int) 6) (hK : va_K (dC, dI) vwCl [(cI, .int)] s) (hA : ∀ q, s.heap.size ≤ q → A q) {a : Nat → Nat} {X : Nat → Int32} {S : (Nat → Int32)} {q : Int32} {rec6 : Int32 → Int32 → Int32 → Int32 → (Nat → Int32) → Option Int32} (hrec6 : ∀ {v1 : Int32} {v2 : Int32} {v3 : Int32} {v4 : Int32} , rec6 v1 v2 v3 v4 S = some q → ∀ {H : Heap} {locs : List Loc} {ls : Array Slot}, gd_W (dC, dI) A s (wd_M0 cI a X S) H locs → lv_has ls 6 [(0, .ref (a 0)), (1, .int v1), (2, .int v2), (3, .int v3), (4, .int v4)] → W p l e RM8_oldest s m args below meth c H locs 0 0 (MQ below (qi_W (dC, dI) [(cI, .int)] A q (wd_M0 cI a X S)) args s 0 0 A) (F0 m 6 ls [])) {v1 : Int32} {v2 : Int32} {v3 : Int32} {v4 : Int32} (h : f8_oldest_b59 rec6 v1 v2 v3 v4 S = some q) {H : Heap} {locs : List Loc} {ls : Array Slot} (hG : gd_W (dC, dI) A s (wd_M0 cI a X S) H locs) (hl : lv_has ls 6 [(0, .ref (a 0)), (1, .int v1), (2, .int v2), (3, .int v3), (4, .int v4)]) : W p l e RM8_oldest s m args below meth c H locs 0 0 (MQ below (qi_W (dC, dI) [(cI, .int)] A q (wd_M0 cI a X S)) args s 0 0 A) (F0 m 59 ls []) := by
  unfold f8_oldest_b59 at h
  obtain ⟨hx, hb, hr, hts, hown, hlocks, hml⟩ := id C
  refine lv_iconst (v := (1 : Int32)) hx hb dX8_oldest_59 (by decide) ?_
  refine lv_goto (tgt := 64) hx hb dX8_oldest_60 (by decide) ?_
  exact w8_oldest_b64 C hK hA (fun h => hrec6 h) h hG (lv_sub hl [0, 1, 2, 3, 4] rfl)
set_option maxRecDepth 100000 in
set_option maxHeartbeats 4000000 in
theorem w8_oldest_b6 (C : cx_M p s m args meth c RX8 cX8_oldest (some .int) 6) (hK : va_K (dC, dI) vwCl [(cI, .int)] s) (hA : ∀ q, s.heap.size ≤ q → A q) {a : Nat → Nat} {X : Nat → Int32} {S : (Nat → Int32)} {q : Int32} {rec6 : Int32 → Int32 → Int32 → Int32 → (Nat → Int32) → Option Int32} (hrec6 : ∀ {v1 : Int32} {v2 : Int32} {v3 : Int32} {v4 : Int32} , rec6 v1 v2 v3 v4 S = some q → ∀ {H : Heap} {locs : List Loc} {ls : Array Slot}, gd_W (dC, dI) A s (wd_M0 cI a X S) H locs → lv_has ls 6 [(0, .ref (a 0)), (1, .int v1), (2, .int v2), (3, .int v3), (4, .int v4)] → W p l e RM8_oldest s m args below meth c H locs 0 0 (MQ below (qi_W (dC, dI) [(cI, .int)] A q (wd_M0 cI a X S)) args s 0 0 A) (F0 m 6 ls [])) {v1 : Int32} {v2 : Int32} {v3 : Int32} {v4 : Int32} (h : f8_oldest_b6 rec6 v1 v2 v3 v4 S = some q) {H : Heap} {locs : List Loc} {ls : Array Slot} (hG : gd_W (dC, dI) A s (wd_M0 cI a X S) H locs) (hl : lv_has ls 6 [(0, .ref (a 0)), (1, .int v1), (2, .int v2), (3, .int v3), (4, .int v4)]) : W p l e RM8_oldest s m args below meth c H locs 0 0 (MQ below (qi_W (dC, dI) [(cI, .int)] A q (wd_M0 cI a X S)) args s 0 0 A) (F0 m 6 ls []) := by
  unfold f8_oldest_b6 at h
  obtain ⟨hx, hb, hr, hts, hown, hlocks, hml⟩ := id C
  refine lv_iload hx hb dX8_oldest_6 (lv_at hl 4 rfl) ?_
  refine lv_aload_n hx hb dX8_oldest_8 rfl (lv_at hl 0 rfl) ?_
  refine va_get (D := (dC, dI)) (ci := 7) (v := .ref (a 1)) (C := RX8) (T := TX8) (N := 17) hx hb hts inlX8 hown hK hG.1 0 rfl rfl 0 (by decide) (hts (Cond.fieldLink RX8 7 "DiceRoadsModel" "state" "[I") wq_637) (fun _ h9 => h9) rfl dX8_oldest_9 ?_
  refine lv_bipush (v := (6 : Int32)) hx hb dX8_oldest_12 (by decide) ?_
  obtain ⟨hi, h⟩ := fo_ck_some h
  refine va_iald hx hb hK hG.1 1 0 rfl rfl hi dX8_oldest_14 ?_
  refine lv_icmp_ge (tgt := 84) hx hb dX8_oldest_15 (by decide) (fun hc => ?_) (fun hc => ?_)
  · have h := fo_it h hc
    refine lv_iload_n hx hb dX8_oldest_84 rfl (lv_at hl 3 rfl) ?_
    exact gr_i hx hb hr hlocks hK hG (Option.some.inj h) dX8_oldest_85
  · have h := fo_if h hc
    refine lv_aload_n hx hb dX8_oldest_18 rfl (lv_at hl 0 rfl) ?_
    refine lv_iload_n hx hb dX8_oldest_19 rfl (lv_at hl 1 rfl) ?_
    refine lv_iload hx hb dX8_oldest_20 (lv_at hl 4 rfl) ?_
    obtain ⟨q22, hq22, h⟩ := fo_bd_some h
    refine gc_iV (b := a 0) (C := RX8) (As := [.int v1, .int v4]) (rest := []) (wc := (wd_M0 cI a X S)) (w1 := (wd_M0 cI a X S)) (ci := 7) (q0 := 0) ⟨hx, hb, hml, hown, hts⟩ (c8_debtOf l (a := a) (X := X) hq22) (cwV 2 hts gv_X8_46 rfl rfl rfl hd8_debtOf ⟨Nat.le_of_ble_eq_true rfl, Nat.le_of_ble_eq_true rfl⟩) hK [0] rfl hA hG [0, 1] rfl rfl rfl rfl rfl rfl hl.1 rfl (Nat.le_of_ble_eq_true rfl) dX8_oldest_22 ⟨Nat.zero_le _, Nat.zero_le _⟩ (fun H locs hG9 => ?_)
    have hG : gd_W (dC, dI) A s (wd_M0 cI a X S) H locs := hG9
    refine lv_if_le (tgt := 63) hx hb dX8_oldest_25 (by decide) (fun hc => ?_) (fun hc => ?_)
    · have h := fo_it h hc
      exact w8_oldest_b63 C hK hA (fun h => hrec6 h) h hG (lv_sub hl [0, 1, 2, 3, 4] rfl)
    · have h := fo_if h hc
      refine lv_iload_n hx hb dX8_oldest_28 rfl (lv_at hl 2 rfl) ?_
      refine lv_iload hx hb dX8_oldest_29 (lv_at hl 4 rfl) ?_
      refine lv_ishr hx hb dX8_oldest_31 ?_
      refine lv_iconst (v := (1 : Int32)) hx hb dX8_oldest_32 (by decide) ?_
      refine lv_iand hx hb dX8_oldest_33 ?_
      refine lv_if_ne (tgt := 63) hx hb dX8_oldest_34 (by decide) (fun hc => ?_) (fun hc => ?_)
      · have h := fo_if h hc
        exact w8_oldest_b63 C hK hA (fun h => hrec6 h) h hG (lv_sub hl [0, 1, 2, 3, 4] rfl)
      · have h := fo_it h hc
        refine lv_iload_n hx hb dX8_oldest_37 rfl (lv_at hl 3 rfl) ?_
        refine lv_bipush (v := (-6 : Int32)) hx hb dX8_oldest_38 (by decide) ?_
        refine lv_icmp_eq (tgt := 59) hx hb dX8_oldest_40 (by decide) (fun hc => ?_) (fun hc => ?_)
        · have h := fo_it h hc
          exact w8_oldest_b59 C hK hA (fun h => hrec6 h) h hG (lv_sub hl [0, 1, 2, 3, 4] rfl)
        · have h := fo_if h hc
          refine lv_aload_n hx hb dX8_oldest_43 rfl (lv_at hl 0 rfl) ?_
          refine lv_iload_n hx hb dX8_oldest_44 rfl (lv_at hl 1 rfl) ?_
          refine lv_iload hx hb dX8_oldest_45 (lv_at hl 4 rfl) ?_
          obtain ⟨q47, hq47, h⟩ := fo_bd_some h
          refine gc_iV (b := a 0) (C := RX8) (As := [.int v1, .int v4]) (rest := []) (wc := (wd_M0 cI a X S)) (w1 := (wd_M0 cI a X S)) (ci := 7) (q0 := 0) ⟨hx, hb, hml, hown, hts⟩ (c8_ageOf l (a := a) (X := X) hq47) (cwV 2 hts gv_X8_65 rfl rfl rfl hd8_ageOf ⟨Nat.le_of_ble_eq_true rfl, Nat.le_of_ble_eq_true rfl⟩) hK [0] rfl hA hG [0, 1] rfl rfl rfl rfl rfl rfl hl.1 rfl (Nat.le_of_ble_eq_true rfl) dX8_oldest_47 ⟨Nat.zero_le _, Nat.zero_le _⟩ (fun H locs hG9 => ?_)
          have hG : gd_W (dC, dI) A s (wd_M0 cI a X S) H locs := hG9
          refine lv_aload_n hx hb dX8_oldest_50 rfl (lv_at hl 0 rfl) ?_
          refine lv_iload_n hx hb dX8_oldest_51 rfl (lv_at hl 1 rfl) ?_
          refine lv_iload_n hx hb dX8_oldest_52 rfl (lv_at hl 3 rfl) ?_
          obtain ⟨q53, hq53, h⟩ := fo_bd_some h
          refine gc_iV (b := a 0) (C := RX8) (As := [.int v1, .int v3]) (rest := [.int q47]) (wc := (wd_M0 cI a X S)) (w1 := (wd_M0 cI a X S)) (ci := 7) (q0 := 0) ⟨hx, hb, hml, hown, hts⟩ (c8_ageOf l (a := a) (X := X) hq53) (cwV 2 hts gv_X8_65 rfl rfl rfl hd8_ageOf ⟨Nat.le_of_ble_eq_true rfl, Nat.le_of_ble_eq_true rfl⟩) hK [0] rfl hA hG [0, 1] rfl rfl rfl rfl rfl rfl hl.1 rfl (Nat.le_of_ble_eq_true rfl) dX8_oldest_53 ⟨Nat.zero_le _, Nat.zero_le _⟩ (fun H locs hG9 => ?_)
          have hG : gd_W (dC, dI) A s (wd_M0 cI a X S) H locs := hG9
          refine lv_icmp_le (tgt := 63) hx hb dX8_oldest_56 (by decide) (fun hc => ?_) (fun hc => ?_)
          · have h := fo_it h hc
            exact w8_oldest_b63 C hK hA (fun h => hrec6 h) h hG (lv_sub hl [0, 1, 2, 3, 4] rfl)
          · have h := fo_if h hc
            exact w8_oldest_b59 C hK hA (fun h => hrec6 h) h hG (lv_sub hl [0, 1, 2, 3, 4] rfl)
set_option maxRecDepth 100000 in
set_option maxHeartbeats 4000000 in
theorem w8_oldest_L6 (C : cx_M p s m args meth c RX8 cX8_oldest (some .int) 6) (hK : va_K (dC, dI) vwCl [(cI, .int)] s) (hA : ∀ q, s.heap.size ≤ q → A q) {a : Nat → Nat} {X : Nat → Int32} {S : (Nat → Int32)} {q : Int32} : ∀ (n : Nat) {v1 : Int32} {v2 : Int32} {v3 : Int32} {v4 : Int32}, f8_oldest_L6 n v1 v2 v3 v4 S = some q → ∀ {H : Heap} {locs : List Loc} {ls : Array Slot}, gd_W (dC, dI) A s (wd_M0 cI a X S) H locs → lv_has ls 6 [(0, .ref (a 0)), (1, .int v1), (2, .int v2), (3, .int v3), (4, .int v4)] → W p l e RM8_oldest s m args below meth c H locs 0 0 (MQ below (qi_W (dC, dI) [(cI, .int)] A q (wd_M0 cI a X S)) args s 0 0 A) (F0 m 6 ls []) := by
  intro n
  induction n with
  | zero => intro _ _ _ _ h; exact nomatch h
  | succ n ih => intro v1 v2 v3 v4 h H locs ls hG hl; exact w8_oldest_b6 C hK hA (fun h => ih h) (show f8_oldest_b6 (f8_oldest_L6 n) v1 v2 v3 v4 S = some q from h) hG hl
set_option maxRecDepth 100000 in
set_option maxHeartbeats 4000000 in
theorem w8_oldest (C : cx_M p s m args meth c RX8 cX8_oldest (some .int) 6) (hK : va_K (dC, dI) vwCl [(cI, .int)] s) (hA : ∀ q, s.heap.size ≤ q → A q) {a : Nat → Nat} {X : Nat → Int32} {q : Int32} {v1 : Int32} {v2 : Int32} {S : (Nat → Int32)} (h : f8_oldest v1 v2 S = some q) {H : Heap} {locs : List Loc} {ls : Array Slot} (hG : gd_W (dC, dI) A s (wd_M0 cI a X S) H locs) (hl : lv_has ls 6 [(0, .ref (a 0)), (1, .int v1), (2, .int v2)]) : W p l e RM8_oldest s m args below meth c H locs 0 0 (MQ below (qi_W (dC, dI) [(cI, .int)] A q (wd_M0 cI a X S)) args s 0 0 A) (F0 m 0 ls []) := by
  unfold f8_oldest at h
  obtain ⟨hx, hb, hr, hts, hown, hlocks, hml⟩ := id C
  refine lv_bipush (v := (-6 : Int32)) hx hb dX8_oldest_0 (by decide) ?_
  refine lv_istore_n (lv' := [(3, .int (-6 : Int32)), (0, .ref (a 0)), (1, .int v1), (2, .int v2)]) hx hb dX8_oldest_2 rfl hl (by decide) rfl (fun ls hl => ?_)
  refine lv_iconst (v := (0 : Int32)) hx hb dX8_oldest_3 (by decide) ?_
  refine lv_istore (lv' := [(4, .int (0 : Int32)), (3, .int (-6 : Int32)), (0, .ref (a 0)), (1, .int v1), (2, .int v2)]) hx hb dX8_oldest_4 hl (by decide) rfl (fun ls hl => ?_)
  exact w8_oldest_L6 C hK hA fo_fu h hG (lv_sub hl [2, 3, 4, 1, 0] rfl)
set_option maxRecDepth 100000 in
set_option maxHeartbeats 4000000 in
theorem c8_oldest (l : Launch) {dC : Nat → ClassId} {dI : Nat → Nat → Nat} {cI : ClassId} {a : Nat → Nat} {X : Nat → Int32} {v1 : Int32} {v2 : Int32} {S : (Nat → Int32)} {q : Int32} (h : f8_oldest v1 v2 S = some q) : mi_M l yX8_oldest wm8_oldest RM8_oldest (dC, dI) [(cI, .int)] [.ref (a 0), .int v1, .int v2] (wd_M0 cI a X S) q (wd_M0 cI a X S) := by
  intro sz
  refine Met.ofW (cc := cX8_oldest) (maxL := 6) (ret := (some .int)) (by decide) rfl ?_
  intro p e s m args below meth c s₁ B hml hv
  obtain ⟨rfl, hsz, hP, hK, hD0⟩ := hv
  subst hsz
  have hl := lv_entry ([.ref (a 0), .int v1, .int v2] : List Value) (n := 6) (Nat.le_of_ble_eq_true rfl)
  rw [lg_entry_eq]
  generalize (lg_sl ([.ref (a 0), .int v1, .int v2] : List Value) ++ List.replicate (6 - (lg_sl ([.ref (a 0), .int v1, .int v2] : List Value)).length) Slot.unset).toArray = ls at hl ⊢
  exact w8_oldest (a := a) ⟨B.exec, B.bytes, B.returns, fun w hw => atoms_spec (ws := wm8_oldest) B.pre w (List.mem_cons_of_mem _ hw), findClass_of_methodNamed B.named, B.notSynchronized, hml⟩ hK (fun _ h => Or.inr h) h ⟨hP, hD0.self, va_S.rf⟩ hl
end
/-! ## DiceRoadsModel.pays(III)I -/
section
variable {p : Program} {l : Launch} {e : Env} {s : State} {m : MethodId} {args : Array Value} {below : List Frame} {meth : Method} {c : Code} {dC : Nat → ClassId} {dI : Nat → Nat → Nat} {cI : ClassId} {A : Nat → Prop}
set_option maxRecDepth 100000 in
set_option maxHeartbeats 4000000 in
theorem w8_pays_b20 (C : cx_M p s m args meth c RX8 cX8_pays (some .int) 5) (hK : va_K (dC, dI) vwCl [(cI, .int)] s) (hA : ∀ q, s.heap.size ≤ q → A q) {a : Nat → Nat} {X : Nat → Int32} {q : (Int32 × (Nat → Int32))} {v1 : Int32} {v2 : Int32} {t0 : Int32} {S : (Nat → Int32)} (h : f8_pays_b20 v1 v2 t0 S = some q) {H : Heap} {locs : List Loc} {ls : Array Slot} (hG : gd_W (dC, dI) A s (wd_M0 cI a X S) H locs) (hl : lv_has ls 5 [(0, .ref (a 0)), (1, .int v1), (2, .int v2)]) : W p l e RM8_pays s m args below meth c H locs 0 0 (MQ below (qi_W (dC, dI) [(cI, .int)] A q.1 (wd_M0 cI a X q.2)) args s 0 0 A) (F0 m 20 ls [.int t0]) := by
  unfold f8_pays_b20 at h
  obtain ⟨hx, hb, hr, hts, hown, hlocks, hml⟩ := id C
  refine lv_istore (lv' := [(4, .int t0), (0, .ref (a 0)), (1, .int v1), (2, .int v2)]) hx hb dX8_pays_20 hl (by decide) rfl (fun ls hl => ?_)
  refine lv_aload_n hx hb dX8_pays_22 rfl (lv_at hl 1 rfl) ?_
  refine lv_iload_n hx hb dX8_pays_23 rfl (lv_at hl 2 rfl) ?_
  refine lv_iconst (v := (0 : Int32)) hx hb dX8_pays_24 (by decide) ?_
  refine lv_iload hx hb dX8_pays_25 (lv_at hl 0 rfl) ?_
  refine lv_ineg hx hb dX8_pays_27 ?_
  obtain ⟨q28, hq28, h⟩ := fo_bd_some h
  refine gc_vV (b := a 0) (C := RX8) (As := [.int v1, .int (0 : Int32), .int (-t0)]) (rest := []) (wc := (wd_M0 cI a X S)) (w1 := (wd_M0 cI a X q28)) (ci := 7) (q0 := 0) ⟨hx, hb, hml, hown, hts⟩ (c8_adds l (a := a) (X := X) hq28) (cwV 3 hts gv_X8_68 rfl rfl rfl hd8_adds ⟨Nat.le_of_ble_eq_true rfl, Nat.le_of_ble_eq_true rfl⟩) hK [0] rfl hA hG [0, 1] rfl rfl rfl rfl rfl rfl hl.1 rfl (Nat.le_of_ble_eq_true rfl) dX8_pays_28 ⟨Nat.zero_le _, Nat.zero_le _⟩ (fun H locs hG9 => ?_)
  have hG : gd_W (dC, dI) A s (wd_M0 cI a X q28) H locs := hG9
  refine lv_aload_n hx hb dX8_pays_31 rfl (lv_at hl 1 rfl) ?_
  refine lv_iload_n hx hb dX8_pays_32 rfl (lv_at hl 2 rfl) ?_
  refine lv_iconst (v := (2 : Int32)) hx hb dX8_pays_33 (by decide) ?_
  refine lv_iload hx hb dX8_pays_34 (lv_at hl 0 rfl) ?_
  obtain ⟨q36, hq36, h⟩ := fo_bd_some h
  refine gc_vV (b := a 0) (C := RX8) (As := [.int v1, .int (2 : Int32), .int t0]) (rest := []) (wc := (wd_M0 cI a X q28)) (w1 := (wd_M0 cI a X q36)) (ci := 7) (q0 := 0) ⟨hx, hb, hml, hown, hts⟩ (c8_adds l (a := a) (X := X) hq36) (cwV 3 hts gv_X8_68 rfl rfl rfl hd8_adds ⟨Nat.le_of_ble_eq_true rfl, Nat.le_of_ble_eq_true rfl⟩) hK [0] rfl hA hG [0, 1] rfl rfl rfl rfl rfl rfl hl.1 rfl (Nat.le_of_ble_eq_true rfl) dX8_pays_36 ⟨Nat.zero_le _, Nat.zero_le _⟩ (fun H locs hG9 => ?_)
  have hG : gd_W (dC, dI) A s (wd_M0 cI a X q36) H locs := hG9
  refine lv_aload_n hx hb dX8_pays_39 rfl (lv_at hl 1 rfl) ?_
  refine lv_iload_n hx hb dX8_pays_40 rfl (lv_at hl 3 rfl) ?_
  refine lv_iconst (v := (0 : Int32)) hx hb dX8_pays_41 (by decide) ?_
  refine lv_iload hx hb dX8_pays_42 (lv_at hl 0 rfl) ?_
  obtain ⟨q44, hq44, h⟩ := fo_bd_some h
  refine gc_vV (b := a 0) (C := RX8) (As := [.int v2, .int (0 : Int32), .int t0]) (rest := []) (wc := (wd_M0 cI a X q36)) (w1 := (wd_M0 cI a X q44)) (ci := 7) (q0 := 0) ⟨hx, hb, hml, hown, hts⟩ (c8_adds l (a := a) (X := X) hq44) (cwV 3 hts gv_X8_68 rfl rfl rfl hd8_adds ⟨Nat.le_of_ble_eq_true rfl, Nat.le_of_ble_eq_true rfl⟩) hK [0] rfl hA hG [0, 1] rfl rfl rfl rfl rfl rfl hl.1 rfl (Nat.le_of_ble_eq_true rfl) dX8_pays_44 ⟨Nat.zero_le _, Nat.zero_le _⟩ (fun H locs hG9 => ?_)
  have hG : gd_W (dC, dI) A s (wd_M0 cI a X q44) H locs := hG9
  refine lv_aload_n hx hb dX8_pays_47 rfl (lv_at hl 1 rfl) ?_
  refine lv_iload_n hx hb dX8_pays_48 rfl (lv_at hl 3 rfl) ?_
  refine lv_iconst (v := (3 : Int32)) hx hb dX8_pays_49 (by decide) ?_
  refine lv_iload hx hb dX8_pays_50 (lv_at hl 0 rfl) ?_
  obtain ⟨q52, hq52, h⟩ := fo_bd_some h
  refine gc_vV (b := a 0) (C := RX8) (As := [.int v2, .int (3 : Int32), .int t0]) (rest := []) (wc := (wd_M0 cI a X q44)) (w1 := (wd_M0 cI a X q52)) (ci := 7) (q0 := 0) ⟨hx, hb, hml, hown, hts⟩ (c8_adds l (a := a) (X := X) hq52) (cwV 3 hts gv_X8_68 rfl rfl rfl hd8_adds ⟨Nat.le_of_ble_eq_true rfl, Nat.le_of_ble_eq_true rfl⟩) hK [0] rfl hA hG [0, 1] rfl rfl rfl rfl rfl rfl hl.1 rfl (Nat.le_of_ble_eq_true rfl) dX8_pays_52 ⟨Nat.zero_le _, Nat.zero_le _⟩ (fun H locs hG9 => ?_)
  have hG : gd_W (dC, dI) A s (wd_M0 cI a X q52) H locs := hG9
  refine lv_iload hx hb dX8_pays_55 (lv_at hl 0 rfl) ?_
  obtain rfl := Option.some.inj h
  exact gr_i hx hb hr hlocks hK hG rfl dX8_pays_57
set_option maxRecDepth 100000 in
set_option maxHeartbeats 4000000 in
theorem w8_pays (C : cx_M p s m args meth c RX8 cX8_pays (some .int) 5) (hK : va_K (dC, dI) vwCl [(cI, .int)] s) (hA : ∀ q, s.heap.size ≤ q → A q) {a : Nat → Nat} {X : Nat → Int32} {q : (Int32 × (Nat → Int32))} {v1 : Int32} {v2 : Int32} {v3 : Int32} {S : (Nat → Int32)} (h : f8_pays v1 v2 v3 S = some q) {H : Heap} {locs : List Loc} {ls : Array Slot} (hG : gd_W (dC, dI) A s (wd_M0 cI a X S) H locs) (hl : lv_has ls 5 [(0, .ref (a 0)), (1, .int v1), (2, .int v2), (3, .int v3)]) : W p l e RM8_pays s m args below meth c H locs 0 0 (MQ below (qi_W (dC, dI) [(cI, .int)] A q.1 (wd_M0 cI a X q.2)) args s 0 0 A) (F0 m 0 ls []) := by
  unfold f8_pays at h
  obtain ⟨hx, hb, hr, hts, hown, hlocks, hml⟩ := id C
  refine lv_iload_n hx hb dX8_pays_0 rfl (lv_at hl 3 rfl) ?_
  refine lv_aload_n hx hb dX8_pays_1 rfl (lv_at hl 0 rfl) ?_
  refine lv_iload_n hx hb dX8_pays_2 rfl (lv_at hl 1 rfl) ?_
  refine lv_iconst (v := (0 : Int32)) hx hb dX8_pays_3 (by decide) ?_
  obtain ⟨q4, hq4, h⟩ := fo_bd_some h
  refine gc_iV (b := a 0) (C := RX8) (As := [.int v1, .int (0 : Int32)]) (rest := [.int v3]) (wc := (wd_M0 cI a X S)) (w1 := (wd_M0 cI a X S)) (ci := 7) (q0 := 0) ⟨hx, hb, hml, hown, hts⟩ (c8_playerPart l (a := a) (X := X) hq4) (cwV 2 hts gv_X8_54 rfl rfl rfl hd8_playerPart ⟨Nat.le_of_ble_eq_true rfl, Nat.le_of_ble_eq_true rfl⟩) hK [0] rfl hA hG [0, 1] rfl rfl rfl rfl rfl rfl hl.1 rfl (Nat.le_of_ble_eq_true rfl) dX8_pays_4 ⟨Nat.zero_le _, Nat.zero_le _⟩ (fun H locs hG9 => ?_)
  have hG : gd_W (dC, dI) A s (wd_M0 cI a X S) H locs := hG9
  refine lv_icmp_ge (tgt := 14) hx hb dX8_pays_7 (by decide) (fun hc => ?_) (fun hc => ?_)
  · have h := fo_it h hc
    refine lv_aload_n hx hb dX8_pays_14 rfl (lv_at hl 0 rfl) ?_
    refine lv_iload_n hx hb dX8_pays_15 rfl (lv_at hl 1 rfl) ?_
    refine lv_iconst (v := (0 : Int32)) hx hb dX8_pays_16 (by decide) ?_
    obtain ⟨q17, hq17, h⟩ := fo_bd_some h
    refine gc_iV (b := a 0) (C := RX8) (As := [.int v1, .int (0 : Int32)]) (rest := []) (wc := (wd_M0 cI a X S)) (w1 := (wd_M0 cI a X S)) (ci := 7) (q0 := 0) ⟨hx, hb, hml, hown, hts⟩ (c8_playerPart l (a := a) (X := X) hq17) (cwV 2 hts gv_X8_54 rfl rfl rfl hd8_playerPart ⟨Nat.le_of_ble_eq_true rfl, Nat.le_of_ble_eq_true rfl⟩) hK [0] rfl hA hG [0, 1] rfl rfl rfl rfl rfl rfl hl.1 rfl (Nat.le_of_ble_eq_true rfl) dX8_pays_17 ⟨Nat.zero_le _, Nat.zero_le _⟩ (fun H locs hG9 => ?_)
    have hG : gd_W (dC, dI) A s (wd_M0 cI a X S) H locs := hG9
    exact w8_pays_b20 C hK hA h hG (lv_sub hl [0, 1, 2] rfl)
  · have h := fo_if h hc
    refine lv_iload_n hx hb dX8_pays_10 rfl (lv_at hl 3 rfl) ?_
    refine lv_goto (tgt := 20) hx hb dX8_pays_11 (by decide) ?_
    exact w8_pays_b20 C hK hA h hG (lv_sub hl [0, 1, 2] rfl)
set_option maxRecDepth 100000 in
set_option maxHeartbeats 4000000 in
theorem c8_pays (l : Launch) {dC : Nat → ClassId} {dI : Nat → Nat → Nat} {cI : ClassId} {a : Nat → Nat} {X : Nat → Int32} {v1 : Int32} {v2 : Int32} {v3 : Int32} {S : (Nat → Int32)} {q : (Int32 × (Nat → Int32))} (h : f8_pays v1 v2 v3 S = some q) : mi_M l yX8_pays wm8_pays RM8_pays (dC, dI) [(cI, .int)] [.ref (a 0), .int v1, .int v2, .int v3] (wd_M0 cI a X S) q.1 (wd_M0 cI a X q.2) := by
  intro sz
  refine Met.ofW (cc := cX8_pays) (maxL := 5) (ret := (some .int)) (by decide) rfl ?_
  intro p e s m args below meth c s₁ B hml hv
  obtain ⟨rfl, hsz, hP, hK, hD0⟩ := hv
  subst hsz
  have hl := lv_entry ([.ref (a 0), .int v1, .int v2, .int v3] : List Value) (n := 5) (Nat.le_of_ble_eq_true rfl)
  rw [lg_entry_eq]
  generalize (lg_sl ([.ref (a 0), .int v1, .int v2, .int v3] : List Value) ++ List.replicate (5 - (lg_sl ([.ref (a 0), .int v1, .int v2, .int v3] : List Value)).length) Slot.unset).toArray = ls at hl ⊢
  exact w8_pays (a := a) ⟨B.exec, B.bytes, B.returns, fun w hw => atoms_spec (ws := wm8_pays) B.pre w (List.mem_cons_of_mem _ hw), findClass_of_methodNamed B.named, B.notSynchronized, hml⟩ hK (fun _ h => Or.inr h) h ⟨hP, hD0.self, va_S.rf⟩ hl
end
/-! ## DiceRoadsModel.paysDebts(I)V -/
section
variable {p : Program} {l : Launch} {e : Env} {s : State} {m : MethodId} {args : Array Value} {below : List Frame} {meth : Method} {c : Code} {dC : Nat → ClassId} {dI : Nat → Nat → Nat} {cI : ClassId} {A : Nat → Prop}
set_option maxRecDepth 100000 in
set_option maxHeartbeats 4000000 in
theorem w8_paysDebts_b9 (C : cx_M p s m args meth c RX8 cX8_paysDebts none 4) (hK : va_K (dC, dI) vwCl [(cI, .int)] s) (hA : ∀ q, s.heap.size ≤ q → A q) {a : Nat → Nat} {X : Nat → Int32} {q : (Nat → Int32)} {rec9 : Int32 → Int32 → Int32 → (Nat → Int32) → Option (Nat → Int32)} (hrec9 : ∀ {v1 : Int32} {v2 : Int32} {v3 : Int32} {S : (Nat → Int32)} , rec9 v1 v2 v3 S = some q → ∀ {H : Heap} {locs : List Loc} {ls : Array Slot}, gd_W (dC, dI) A s (wd_M0 cI a X S) H locs → lv_has ls 4 [(0, .ref (a 0)), (1, .int v1), (2, .int v2), (3, .int v3)] → W p l e RM8_paysDebts s m args below meth c H locs 0 0 (MQ below (qv_W (dC, dI) [(cI, .int)] A (wd_M0 cI a X q)) args s 0 0 A) (F0 m 9 ls [])) {v1 : Int32} {v2 : Int32} {v3 : Int32} {S : (Nat → Int32)} (h : f8_paysDebts_b9 rec9 v1 v2 v3 S = some q) {H : Heap} {locs : List Loc} {ls : Array Slot} (hG : gd_W (dC, dI) A s (wd_M0 cI a X S) H locs) (hl : lv_has ls 4 [(0, .ref (a 0)), (1, .int v1), (2, .int v2), (3, .int v3)]) : W p l e RM8_paysDebts s m args below meth c H locs 0 0 (MQ below (qv_W (dC, dI) [(cI, .int)] A (wd_M0 cI a X q)) args s 0 0 A) (F0 m 9 ls []) := by
  unfold f8_paysDebts_b9 at h
  obtain ⟨hx, hb, hr, hts, hown, hlocks, hml⟩ := id C
  refine lv_iload_n hx hb dX8_paysDebts_9 rfl (lv_at hl 3 rfl) ?_
  refine lv_bipush (v := (-6 : Int32)) hx hb dX8_paysDebts_10 (by decide) ?_
  refine lv_icmp_eq (tgt := 50) hx hb dX8_paysDebts_12 (by decide) (fun hc => ?_) (fun hc => ?_)
  · have h := fo_it h hc
    obtain rfl := Option.some.inj h
    exact gr_v hx hb hr hlocks hK hG dX8_paysDebts_50
  · have h := fo_if h hc
    refine lv_iload_n hx hb dX8_paysDebts_15 rfl (lv_at hl 2 rfl) ?_
    refine lv_iconst (v := (1 : Int32)) hx hb dX8_paysDebts_16 (by decide) ?_
    refine lv_iload_n hx hb dX8_paysDebts_17 rfl (lv_at hl 3 rfl) ?_
    refine lv_ishl hx hb dX8_paysDebts_18 ?_
    refine lv_ior hx hb dX8_paysDebts_19 ?_
    refine lv_istore_n (lv' := [(2, .int (v2 ||| ((1 : Int32) <<< (v3 &&& 31)))), (0, .ref (a 0)), (1, .int v1), (3, .int v3)]) hx hb dX8_paysDebts_20 rfl hl (by decide) rfl (fun ls hl => ?_)
    refine lv_aload_n hx hb dX8_paysDebts_21 rfl (lv_at hl 1 rfl) ?_
    refine lv_iload_n hx hb dX8_paysDebts_22 rfl (lv_at hl 2 rfl) ?_
    refine lv_iload_n hx hb dX8_paysDebts_23 rfl (lv_at hl 3 rfl) ?_
    refine lv_aload_n hx hb dX8_paysDebts_24 rfl (lv_at hl 1 rfl) ?_
    refine lv_iload_n hx hb dX8_paysDebts_25 rfl (lv_at hl 2 rfl) ?_
    refine lv_iload_n hx hb dX8_paysDebts_26 rfl (lv_at hl 3 rfl) ?_
    refine lv_aload_n hx hb dX8_paysDebts_27 rfl (lv_at hl 1 rfl) ?_
    refine lv_iload_n hx hb dX8_paysDebts_28 rfl (lv_at hl 2 rfl) ?_
    refine lv_iload_n hx hb dX8_paysDebts_29 rfl (lv_at hl 3 rfl) ?_
    obtain ⟨q30, hq30, h⟩ := fo_bd_some h
    refine gc_iV (b := a 0) (C := RX8) (As := [.int v1, .int v3]) (rest := [.int v3, .int v1, .ref (a 0), .int v3, .int v1, .ref (a 0)]) (wc := (wd_M0 cI a X S)) (w1 := (wd_M0 cI a X S)) (ci := 7) (q0 := 0) ⟨hx, hb, hml, hown, hts⟩ (c8_debtOf l (a := a) (X := X) hq30) (cwV 2 hts gv_X8_46 rfl rfl rfl hd8_debtOf ⟨Nat.le_of_ble_eq_true rfl, Nat.le_of_ble_eq_true rfl⟩) hK [0] rfl hA hG [0, 1] rfl rfl rfl rfl rfl rfl hl.1 rfl (Nat.le_of_ble_eq_true rfl) dX8_paysDebts_30 ⟨Nat.zero_le _, Nat.zero_le _⟩ (fun H locs hG9 => ?_)
    have hG : gd_W (dC, dI) A s (wd_M0 cI a X S) H locs := hG9
    obtain ⟨q33, hq33, h⟩ := fo_bd_some h
    refine gc_iV (b := a 0) (C := RX8) (As := [.int v1, .int v3, .int q30]) (rest := [.int v3, .int v1, .ref (a 0)]) (wc := (wd_M0 cI a X S)) (w1 := (wd_M0 cI a X q33.2)) (ci := 7) (q0 := 0) ⟨hx, hb, hml, hown, hts⟩ (c8_pays l (a := a) (X := X) hq33) (cwV 3 hts gv_X8_75 rfl rfl rfl hd8_pays ⟨Nat.le_of_ble_eq_true rfl, Nat.le_of_ble_eq_true rfl⟩) hK [0] rfl hA hG [0, 1] rfl rfl rfl rfl rfl rfl hl.1 rfl (Nat.le_of_ble_eq_true rfl) dX8_paysDebts_33 ⟨Nat.zero_le _, Nat.zero_le _⟩ (fun H locs hG9 => ?_)
    have hG : gd_W (dC, dI) A s (wd_M0 cI a X q33.2) H locs := hG9
    refine lv_ineg hx hb dX8_paysDebts_36 ?_
    obtain ⟨q37, hq37, h⟩ := fo_bd_some h
    refine gc_vV (b := a 0) (C := RX8) (As := [.int v1, .int v3, .int (-q33.1)]) (rest := []) (wc := (wd_M0 cI a X q33.2)) (w1 := (wd_M0 cI a X q37)) (ci := 7) (q0 := 0) ⟨hx, hb, hml, hown, hts⟩ (c8_addsDebt l (a := a) (X := X) hq37) (cwV 3 hts gv_X8_79 rfl rfl rfl hd8_addsDebt ⟨Nat.le_of_ble_eq_true rfl, Nat.le_of_ble_eq_true rfl⟩) hK [0] rfl hA hG [0, 1] rfl rfl rfl rfl rfl rfl hl.1 rfl (Nat.le_of_ble_eq_true rfl) dX8_paysDebts_37 ⟨Nat.zero_le _, Nat.zero_le _⟩ (fun H locs hG9 => ?_)
    have hG : gd_W (dC, dI) A s (wd_M0 cI a X q37) H locs := hG9
    refine lv_aload_n hx hb dX8_paysDebts_40 rfl (lv_at hl 1 rfl) ?_
    refine lv_iload_n hx hb dX8_paysDebts_41 rfl (lv_at hl 2 rfl) ?_
    refine lv_iload_n hx hb dX8_paysDebts_42 rfl (lv_at hl 0 rfl) ?_
    obtain ⟨q43, hq43, h⟩ := fo_bd_some h
    refine gc_iV (b := a 0) (C := RX8) (As := [.int v1, .int (v2 ||| ((1 : Int32) <<< (v3 &&& 31)))]) (rest := []) (wc := (wd_M0 cI a X q37)) (w1 := (wd_M0 cI a X q37)) (ci := 7) (q0 := 0) ⟨hx, hb, hml, hown, hts⟩ (c8_oldest l (a := a) (X := X) hq43) (cwV 2 hts gv_X8_72 rfl rfl rfl hd8_oldest ⟨Nat.le_of_ble_eq_true rfl, Nat.le_of_ble_eq_true rfl⟩) hK [0] rfl hA hG [0, 1] rfl rfl rfl rfl rfl rfl hl.1 rfl (Nat.le_of_ble_eq_true rfl) dX8_paysDebts_43 ⟨Nat.zero_le _, Nat.zero_le _⟩ (fun H locs hG9 => ?_)
    have hG : gd_W (dC, dI) A s (wd_M0 cI a X q37) H locs := hG9
    refine lv_istore_n (lv' := [(3, .int q43), (2, .int (v2 ||| ((1 : Int32) <<< (v3 &&& 31)))), (0, .ref (a 0)), (1, .int v1)]) hx hb dX8_paysDebts_46 rfl hl (by decide) rfl (fun ls hl => ?_)
    refine lv_goto (tgt := 9) hx hb dX8_paysDebts_47 (by decide) ?_
    exact hrec9 h hG (lv_sub hl [2, 3, 1, 0] rfl)
set_option maxRecDepth 100000 in
set_option maxHeartbeats 4000000 in
theorem w8_paysDebts_L9 (C : cx_M p s m args meth c RX8 cX8_paysDebts none 4) (hK : va_K (dC, dI) vwCl [(cI, .int)] s) (hA : ∀ q, s.heap.size ≤ q → A q) {a : Nat → Nat} {X : Nat → Int32} {q : (Nat → Int32)} : ∀ (n : Nat) {v1 : Int32} {v2 : Int32} {v3 : Int32} {S : (Nat → Int32)}, f8_paysDebts_L9 n v1 v2 v3 S = some q → ∀ {H : Heap} {locs : List Loc} {ls : Array Slot}, gd_W (dC, dI) A s (wd_M0 cI a X S) H locs → lv_has ls 4 [(0, .ref (a 0)), (1, .int v1), (2, .int v2), (3, .int v3)] → W p l e RM8_paysDebts s m args below meth c H locs 0 0 (MQ below (qv_W (dC, dI) [(cI, .int)] A (wd_M0 cI a X q)) args s 0 0 A) (F0 m 9 ls []) := by
  intro n
  induction n with
  | zero => intro _ _ _ _ h; exact nomatch h
  | succ n ih => intro v1 v2 v3 S h H locs ls hG hl; exact w8_paysDebts_b9 C hK hA (fun h => ih h) (show f8_paysDebts_b9 (f8_paysDebts_L9 n) v1 v2 v3 S = some q from h) hG hl
set_option maxRecDepth 100000 in
set_option maxHeartbeats 4000000 in
theorem w8_paysDebts (C : cx_M p s m args meth c RX8 cX8_paysDebts none 4) (hK : va_K (dC, dI) vwCl [(cI, .int)] s) (hA : ∀ q, s.heap.size ≤ q → A q) {a : Nat → Nat} {X : Nat → Int32} {q : (Nat → Int32)} {v1 : Int32} {S : (Nat → Int32)} (h : f8_paysDebts v1 S = some q) {H : Heap} {locs : List Loc} {ls : Array Slot} (hG : gd_W (dC, dI) A s (wd_M0 cI a X S) H locs) (hl : lv_has ls 4 [(0, .ref (a 0)), (1, .int v1)]) : W p l e RM8_paysDebts s m args below meth c H locs 0 0 (MQ below (qv_W (dC, dI) [(cI, .int)] A (wd_M0 cI a X q)) args s 0 0 A) (F0 m 0 ls []) := by
  unfold f8_paysDebts at h
  obtain ⟨hx, hb, hr, hts, hown, hlocks, hml⟩ := id C
  refine lv_iconst (v := (0 : Int32)) hx hb dX8_paysDebts_0 (by decide) ?_
  refine lv_istore_n (lv' := [(2, .int (0 : Int32)), (0, .ref (a 0)), (1, .int v1)]) hx hb dX8_paysDebts_1 rfl hl (by decide) rfl (fun ls hl => ?_)
  refine lv_aload_n hx hb dX8_paysDebts_2 rfl (lv_at hl 1 rfl) ?_
  refine lv_iload_n hx hb dX8_paysDebts_3 rfl (lv_at hl 2 rfl) ?_
  refine lv_iload_n hx hb dX8_paysDebts_4 rfl (lv_at hl 0 rfl) ?_
  obtain ⟨q5, hq5, h⟩ := fo_bd_some h
  refine gc_iV (b := a 0) (C := RX8) (As := [.int v1, .int (0 : Int32)]) (rest := []) (wc := (wd_M0 cI a X S)) (w1 := (wd_M0 cI a X S)) (ci := 7) (q0 := 0) ⟨hx, hb, hml, hown, hts⟩ (c8_oldest l (a := a) (X := X) hq5) (cwV 2 hts gv_X8_72 rfl rfl rfl hd8_oldest ⟨Nat.le_of_ble_eq_true rfl, Nat.le_of_ble_eq_true rfl⟩) hK [0] rfl hA hG [0, 1] rfl rfl rfl rfl rfl rfl hl.1 rfl (Nat.le_of_ble_eq_true rfl) dX8_paysDebts_5 ⟨Nat.zero_le _, Nat.zero_le _⟩ (fun H locs hG9 => ?_)
  have hG : gd_W (dC, dI) A s (wd_M0 cI a X S) H locs := hG9
  refine lv_istore_n (lv' := [(3, .int q5), (2, .int (0 : Int32)), (0, .ref (a 0)), (1, .int v1)]) hx hb dX8_paysDebts_8 rfl hl (by decide) rfl (fun ls hl => ?_)
  exact w8_paysDebts_L9 C hK hA fo_fu h hG (lv_sub hl [2, 3, 1, 0] rfl)
set_option maxRecDepth 100000 in
set_option maxHeartbeats 4000000 in
theorem c8_paysDebts (l : Launch) {dC : Nat → ClassId} {dI : Nat → Nat → Nat} {cI : ClassId} {a : Nat → Nat} {X : Nat → Int32} {v1 : Int32} {S : (Nat → Int32)} {q : (Nat → Int32)} (h : f8_paysDebts v1 S = some q) : mv_M l yX8_paysDebts wm8_paysDebts RM8_paysDebts (dC, dI) [(cI, .int)] [.ref (a 0), .int v1] (wd_M0 cI a X S) (wd_M0 cI a X q) := by
  intro sz
  refine Met.ofW (cc := cX8_paysDebts) (maxL := 4) (ret := none) (by decide) rfl ?_
  intro p e s m args below meth c s₁ B hml hv
  obtain ⟨rfl, hsz, hP, hK, hD0⟩ := hv
  subst hsz
  have hl := lv_entry ([.ref (a 0), .int v1] : List Value) (n := 4) (Nat.le_of_ble_eq_true rfl)
  rw [lg_entry_eq]
  generalize (lg_sl ([.ref (a 0), .int v1] : List Value) ++ List.replicate (4 - (lg_sl ([.ref (a 0), .int v1] : List Value)).length) Slot.unset).toArray = ls at hl ⊢
  exact w8_paysDebts (a := a) ⟨B.exec, B.bytes, B.returns, fun w hw => atoms_spec (ws := wm8_paysDebts) B.pre w (List.mem_cons_of_mem _ hw), findClass_of_methodNamed B.named, B.notSynchronized, hml⟩ hK (fun _ h => Or.inr h) h ⟨hP, hD0.self, va_S.rf⟩ hl
end
