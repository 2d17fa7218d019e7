/-! ## DiceRoads$Row.at(I)I -/
section
variable {p : Program} {l : Launch} {e : Env} {s : State} {m : MethodId} {args : Array Value} {below : List Frame} {meth : Method} {c : Code} {dC : Nat → ClassId} {dI : Nat → Nat → Nat} {cI : ClassId} {A : Nat → Prop}
set_option maxRecDepth 100000 in
set_option maxHeartbeats 4000000 in
theorem w6_at_b22 (C : cx_M p s m args meth c RX6 cX6_at (some .int) 2) (hK : va_K (dC, dI) vwCl [(cI, .int)] s) (hA : ∀ q, s.heap.size ≤ q → A q) {a : Nat → Nat} {v : Int32} {z : Nat} {S : (Nat → Int32)} {q : Int32} (h : f6_at_b22 v z S = some q) {H : Heap} {locs : List Loc} {ls : Array Slot} (hG : gd_W (dC, dI) A s (wd_R cI a v z S) H locs) (hl : lv_has ls 2 [(0, .ref (a 0))]) : W p l e RM6_at s m args below meth c H locs 0 0 (MQ below (qi_W (dC, dI) [(cI, .int)] A q (wd_R cI a v z S)) args s 0 0 A) (F0 m 22 ls []) := by
  unfold f6_at_b22 at h
  obtain ⟨hx, hb, hr, hts, hown, hlocks, hml⟩ := id C
  refine lv_aload_n hx hb dX6_at_22 rfl (lv_at hl 0 rfl) ?_
  refine va_get (D := (dC, dI)) (ci := 5) (v := .int v) (C := RX6) (T := TX6) (N := 2) hx hb hts inlX6 hown hK hG.1 0 rfl rfl 1 (by decide) (hts (Cond.fieldLink RX6 19 "DiceRoads$Row" "empty" "I") wq_49) (fun _ h9 => h9) rfl dX6_at_23 ?_
  exact gr_i hx hb hr hlocks hK hG (Option.some.inj h) dX6_at_26
set_option maxRecDepth 100000 in
set_option maxHeartbeats 4000000 in
theorem w6_at (C : cx_M p s m args meth c RX6 cX6_at (some .int) 2) (hK : va_K (dC, dI) vwCl [(cI, .int)] s) (hA : ∀ q, s.heap.size ≤ q → A q) {a : Nat → Nat} {v : Int32} {z : Nat} {q : Int32} {v1 : Int32} {S : (Nat → Int32)} (h : f6_at v z v1 S = some q) {H : Heap} {locs : List Loc} {ls : Array Slot} (hG : gd_W (dC, dI) A s (wd_R cI a v z S) H locs) (hl : lv_has ls 2 [(0, .ref (a 0)), (1, .int v1)]) : W p l e RM6_at s m args below meth c H locs 0 0 (MQ below (qi_W (dC, dI) [(cI, .int)] A q (wd_R cI a v z S)) args s 0 0 A) (F0 m 0 ls []) := by
  unfold f6_at at h
  obtain ⟨hx, hb, hr, hts, hown, hlocks, hml⟩ := id C
  refine lv_iload_n hx hb dX6_at_0 rfl (lv_at hl 1 rfl) ?_
  refine lv_if_lt (tgt := 22) hx hb dX6_at_1 (by decide) (fun hc => ?_) (fun hc => ?_)
  · have h := fo_it h hc
    exact w6_at_b22 C hK hA h hG (lv_sub hl [0] rfl)
  · have h := fo_if h hc
    refine lv_iload_n hx hb dX6_at_4 rfl (lv_at hl 1 rfl) ?_
    refine lv_aload_n hx hb dX6_at_5 rfl (lv_at hl 0 rfl) ?_
    refine va_get (D := (dC, dI)) (ci := 5) (v := .ref (a 1)) (C := RX6) (T := TX6) (N := 2) hx hb hts inlX6 hown hK hG.1 0 rfl rfl 0 (by decide) (hts (Cond.fieldLink RX6 13 "DiceRoads$Row" "cells" "[I") wq_48) (fun _ h9 => h9) rfl dX6_at_6 ?_
    refine va_alen (v := (nI z)) hx hb hK hG.1 1 0 rfl rfl rfl dX6_at_9 ?_
    refine lv_icmp_ge (tgt := 22) hx hb dX6_at_10 (by decide) (fun hc => ?_) (fun hc => ?_)
    · have h := fo_it h hc
      exact w6_at_b22 C hK hA h hG (lv_sub hl [0] rfl)
    · have h := fo_if h hc
      refine lv_aload_n hx hb dX6_at_13 rfl (lv_at hl 0 rfl) ?_
      refine va_get (D := (dC, dI)) (ci := 5) (v := .ref (a 1)) (C := RX6) (T := TX6) (N := 2) hx hb hts inlX6 hown hK hG.1 0 rfl rfl 0 (by decide) (hts (Cond.fieldLink RX6 13 "DiceRoads$Row" "cells" "[I") wq_48) (fun _ h9 => h9) rfl dX6_at_14 ?_
      refine lv_iload_n hx hb dX6_at_17 rfl (lv_at hl 1 rfl) ?_
      obtain ⟨hi, h⟩ := fo_ck_some h
      refine va_iald hx hb hK hG.1 1 0 rfl rfl hi dX6_at_18 ?_
      refine lv_goto (tgt := 26) hx hb dX6_at_19 (by decide) ?_
      exact gr_i hx hb hr hlocks hK hG (Option.some.inj h) dX6_at_26
set_option maxRecDepth 100000 in
set_option maxHeartbeats 4000000 in
theorem c6_at (l : Launch) {dC : Nat → ClassId} {dI : Nat → Nat → Nat} {cI : ClassId} {a : Nat → Nat} {v : Int32} {z : Nat} {v1 : Int32} {S : (Nat → Int32)} {q : Int32} (h : f6_at v z v1 S = some q) : mi_M l yX6_at wm6_at RM6_at (dC, dI) [(cI, .int)] [.ref (a 0), .int v1] (wd_R cI a v z S) q (wd_R cI a v z S) := by
  intro sz
  refine Met.ofW (cc := cX6_at) (maxL := 2) (ret := (some .int)) (by decide) rfl ?_
  intro p e s m args below meth c s₁ B hml hv
  obtain ⟨rfl, hsz, hP, hK, hD0⟩ := hv
  subst hsz
  have hl := lv_entry ([.ref (a 0), .int v1] : List Value) (n := 2) (Nat.le_of_ble_eq_true rfl)
  rw [lg_entry_eq]
  generalize (lg_sl ([.ref (a 0), .int v1] : List Value) ++ List.replicate (2 - (lg_sl ([.ref (a 0), .int v1] : List Value)).length) Slot.unset).toArray = ls at hl ⊢
  exact w6_at (a := a) ⟨B.exec, B.bytes, B.returns, fun w hw => atoms_spec (ws := wm6_at) B.pre w (List.mem_cons_of_mem _ hw), findClass_of_methodNamed B.named, B.notSynchronized, hml⟩ hK (fun _ h => Or.inr h) h ⟨hP, hD0.self, va_S.rf⟩ hl
end
/-! ## DiceRoads$Row.write(II)V -/
section
variable {p : Program} {l : Launch} {e : Env} {s : State} {m : MethodId} {args : Array Value} {below : List Frame} {meth : Method} {c : Code} {dC : Nat → ClassId} {dI : Nat → Nat → Nat} {cI : ClassId} {A : Nat → Prop}
set_option maxRecDepth 100000 in
set_option maxHeartbeats 4000000 in
theorem w6_write (C : cx_M p s m args meth c RX6 cX6_write none 3) (hK : va_K (dC, dI) vwCl [(cI, .int)] s) (hA : ∀ q, s.heap.size ≤ q → A q) {a : Nat → Nat} {v : Int32} {z : Nat} {q : (Nat → Int32)} {v1 : Int32} {v2 : Int32} {S : (Nat → Int32)} (h : f6_write v z v1 v2 S = some q) {H : Heap} {locs : List Loc} {ls : Array Slot} (hG : gd_W (dC, dI) A s (wd_R cI a v z S) H locs) (hl : lv_has ls 3 [(0, .ref (a 0)), (1, .int v1), (2, .int v2)]) : W p l e RM6_write s m args below meth c H locs 0 0 (MQ below (qv_W (dC, dI) [(cI, .int)] A (wd_R cI a v z q)) args s 0 0 A) (F0 m 0 ls []) := by
  unfold f6_write at h
  obtain ⟨hx, hb, hr, hts, hown, hlocks, hml⟩ := id C
  refine lv_iload_n hx hb dX6_write_0 rfl (lv_at hl 1 rfl) ?_
  refine lv_if_lt (tgt := 20) hx hb dX6_write_1 (by decide) (fun hc => ?_) (fun hc => ?_)
  · have h := fo_it h hc
    obtain rfl := Option.some.inj h
    exact gr_v hx hb hr hlocks hK hG dX6_write_20
  · have h := fo_if h hc
    refine lv_iload_n hx hb dX6_write_4 rfl (lv_at hl 1 rfl) ?_
    refine lv_aload_n hx hb dX6_write_5 rfl (lv_at hl 0 rfl) ?_
    refine va_get (D := (dC, dI)) (ci := 5) (v := .ref (a 1)) (C := RX6) (T := TX6) (N := 2) hx hb hts inlX6 hown hK hG.1 0 rfl rfl 0 (by decide) (hts (Cond.fieldLink RX6 13 "DiceRoads$Row" "cells" "[I") wq_48) (fun _ h9 => h9) rfl dX6_write_6 ?_
    refine va_alen (v := (nI z)) hx hb hK hG.1 1 0 rfl rfl rfl dX6_write_9 ?_
    refine lv_icmp_ge (tgt := 20) hx hb dX6_write_10 (by decide) (fun hc => ?_) (fun hc => ?_)
    · have h := fo_it h hc
      obtain rfl := Option.some.inj h
      exact gr_v hx hb hr hlocks hK hG dX6_write_20
    · have h := fo_if h hc
      refine lv_aload_n hx hb dX6_write_13 rfl (lv_at hl 0 rfl) ?_
      refine va_get (D := (dC, dI)) (ci := 5) (v := .ref (a 1)) (C := RX6) (T := TX6) (N := 2) hx hb hts inlX6 hown hK hG.1 0 rfl rfl 0 (by decide) (hts (Cond.fieldLink RX6 13 "DiceRoads$Row" "cells" "[I") wq_48) (fun _ h9 => h9) rfl dX6_write_14 ?_
      refine lv_iload_n hx hb dX6_write_17 rfl (lv_at hl 1 rfl) ?_
      refine lv_iload_n hx hb dX6_write_18 rfl (lv_at hl 2 rfl) ?_
      obtain ⟨hi, h⟩ := fo_ck_some h
      refine va_iast hx hb hK hG.1 hG.2.1 hG.2.2 1 0 rfl rfl hi dX6_write_19 (fun H locs hP9 hD9 hS9 => ?_)
      have hG : gd_W (dC, dI) A s (wd_R cI a v z (upd S v1.toNatClampNeg v2)) H locs := ⟨hP9, hD9, hS9⟩
      obtain rfl := Option.some.inj h
      exact gr_v hx hb hr hlocks hK hG dX6_write_20
set_option maxRecDepth 100000 in
set_option maxHeartbeats 4000000 in
theorem c6_write (l : Launch) {dC : Nat → ClassId} {dI : Nat → Nat → Nat} {cI : ClassId} {a : Nat → Nat} {v : Int32} {z : Nat} {v1 : Int32} {v2 : Int32} {S : (Nat → Int32)} {q : (Nat → Int32)} (h : f6_write v z v1 v2 S = some q) : mv_M l yX6_write wm6_write RM6_write (dC, dI) [(cI, .int)] [.ref (a 0), .int v1, .int v2] (wd_R cI a v z S) (wd_R cI a v z q) := by
  intro sz
  refine Met.ofW (cc := cX6_write) (maxL := 3) (ret := none) (by decide) rfl ?_
  intro p e s m args below meth c s₁ B hml hv
  obtain ⟨rfl, hsz, hP, hK, hD0⟩ := hv
  subst hsz
  have hl := lv_entry ([.ref (a 0), .int v1, .int v2] : List Value) (n := 3) (Nat.le_of_ble_eq_true rfl)
  rw [lg_entry_eq]
  generalize (lg_sl ([.ref (a 0), .int v1, .int v2] : List Value) ++ List.replicate (3 - (lg_sl ([.ref (a 0), .int v1, .int v2] : List Value)).length) Slot.unset).toArray = ls at hl ⊢
  exact w6_write (a := a) ⟨B.exec, B.bytes, B.returns, fun w hw => atoms_spec (ws := wm6_write) B.pre w (List.mem_cons_of_mem _ hw), findClass_of_methodNamed B.named, B.notSynchronized, hml⟩ hK (fun _ h => Or.inr h) h ⟨hP, hD0.self, va_S.rf⟩ hl
end
/-! ## DiceRoads$Row.add(II)V -/
section
variable {p : Program} {l : Launch} {e : Env} {s : State} {m : MethodId} {args : Array Value} {below : List Frame} {meth : Method} {c : Code} {dC : Nat → ClassId} {dI : Nat → Nat → Nat} {cI : ClassId} {A : Nat → Prop}
set_option maxRecDepth 100000 in
set_option maxHeartbeats 4000000 in
theorem w6_add (C : cx_M p s m args meth c RX6 cX6_add none 3) (hK : va_K (dC, dI) vwCl [(cI, .int)] s) (hA : ∀ q, s.heap.size ≤ q → A q) {a : Nat → Nat} {v : Int32} {z : Nat} {q : (Nat → Int32)} {v1 : Int32} {v2 : Int32} {S : (Nat → Int32)} (h : f6_add v z v1 v2 S = some q) {H : Heap} {locs : List Loc} {ls : Array Slot} (hG : gd_W (dC, dI) A s (wd_R cI a v z S) H locs) (hl : lv_has ls 3 [(0, .ref (a 0)), (1, .int v1), (2, .int v2)]) : W p l e RM6_add s m args below meth c H locs 0 0 (MQ below (qv_W (dC, dI) [(cI, .int)] A (wd_R cI a v z q)) args s 0 0 A) (F0 m 0 ls []) := by
  unfold f6_add at h
  obtain ⟨hx, hb, hr, hts, hown, hlocks, hml⟩ := id C
  refine lv_iload_n hx hb dX6_add_0 rfl (lv_at hl 1 rfl) ?_
  refine lv_if_lt (tgt := 23) hx hb dX6_add_1 (by decide) (fun hc => ?_) (fun hc => ?_)
  · have h := fo_it h hc
    obtain rfl := Option.some.inj h
    exact gr_v hx hb hr hlocks hK hG dX6_add_23
  · have h := fo_if h hc
    refine lv_iload_n hx hb dX6_add_4 rfl (lv_at hl 1 rfl) ?_
    refine lv_aload_n hx hb dX6_add_5 rfl (lv_at hl 0 rfl) ?_
    refine va_get (D := (dC, dI)) (ci := 5) (v := .ref (a 1)) (C := RX6) (T := TX6) (N := 2) hx hb hts inlX6 hown hK hG.1 0 rfl rfl 0 (by decide) (hts (Cond.fieldLink RX6 13 "DiceRoads$Row" "cells" "[I") wq_48) (fun _ h9 => h9) rfl dX6_add_6 ?_
    refine va_alen (v := (nI z)) hx hb hK hG.1 1 0 rfl rfl rfl dX6_add_9 ?_
    refine lv_icmp_ge (tgt := 23) hx hb dX6_add_10 (by decide) (fun hc => ?_) (fun hc => ?_)
    · have h := fo_it h hc
      obtain rfl := Option.some.inj h
      exact gr_v hx hb hr hlocks hK hG dX6_add_23
    · have h := fo_if h hc
      refine lv_aload_n hx hb dX6_add_13 rfl (lv_at hl 0 rfl) ?_
      refine va_get (D := (dC, dI)) (ci := 5) (v := .ref (a 1)) (C := RX6) (T := TX6) (N := 2) hx hb hts inlX6 hown hK hG.1 0 rfl rfl 0 (by decide) (hts (Cond.fieldLink RX6 13 "DiceRoads$Row" "cells" "[I") wq_48) (fun _ h9 => h9) rfl dX6_add_14 ?_
      refine lv_iload_n hx hb dX6_add_17 rfl (lv_at hl 1 rfl) ?_
      refine lv_dup2_11 hx hb dX6_add_18 rfl rfl ?_
      obtain ⟨hi, h⟩ := fo_ck_some h
      refine va_iald hx hb hK hG.1 1 0 rfl rfl hi dX6_add_19 ?_
      refine lv_iload_n hx hb dX6_add_20 rfl (lv_at hl 2 rfl) ?_
      refine lv_iadd hx hb dX6_add_21 ?_
      obtain ⟨hi, h⟩ := fo_ck_some h
      refine va_iast hx hb hK hG.1 hG.2.1 hG.2.2 1 0 rfl rfl hi dX6_add_22 (fun H locs hP9 hD9 hS9 => ?_)
      have hG : gd_W (dC, dI) A s (wd_R cI a v z (upd S v1.toNatClampNeg ((S v1.toNatClampNeg) + v2))) H locs := ⟨hP9, hD9, hS9⟩
      obtain rfl := Option.some.inj h
      exact gr_v hx hb hr hlocks hK hG dX6_add_23
set_option maxRecDepth 100000 in
set_option maxHeartbeats 4000000 in
theorem c6_add (l : Launch) {dC : Nat → ClassId} {dI : Nat → Nat → Nat} {cI : ClassId} {a : Nat → Nat} {v : Int32} {z : Nat} {v1 : Int32} {v2 : Int32} {S : (Nat → Int32)} {q : (Nat → Int32)} (h : f6_add v z v1 v2 S = some q) : mv_M l yX6_add wm6_add RM6_add (dC, dI) [(cI, .int)] [.ref (a 0), .int v1, .int v2] (wd_R cI a v z S) (wd_R cI a v z q) := by
  intro sz
  refine Met.ofW (cc := cX6_add) (maxL := 3) (ret := none) (by decide) rfl ?_
  intro p e s m args below meth c s₁ B hml hv
  obtain ⟨rfl, hsz, hP, hK, hD0⟩ := hv
  subst hsz
  have hl := lv_entry ([.ref (a 0), .int v1, .int v2] : List Value) (n := 3) (Nat.le_of_ble_eq_true rfl)
  rw [lg_entry_eq]
  generalize (lg_sl ([.ref (a 0), .int v1, .int v2] : List Value) ++ List.replicate (3 - (lg_sl ([.ref (a 0), .int v1, .int v2] : List Value)).length) Slot.unset).toArray = ls at hl ⊢
  exact w6_add (a := a) ⟨B.exec, B.bytes, B.returns, fun w hw => atoms_spec (ws := wm6_add) B.pre w (List.mem_cons_of_mem _ hw), findClass_of_methodNamed B.named, B.notSynchronized, hml⟩ hK (fun _ h => Or.inr h) h ⟨hP, hD0.self, va_S.rf⟩ hl
end
/-! ## DiceRoads$Row.sum()I -/
section
variable {p : Program} {l : Launch} {e : Env} {s : State} {m : MethodId} {args : Array Value} {below : List Frame} {meth : Method} {c : Code} {dC : Nat → ClassId} {dI : Nat → Nat → Nat} {cI : ClassId} {A : Nat → Prop}
set_option maxRecDepth 100000 in
set_option maxHeartbeats 4000000 in
theorem w6_sum_b4 (C : cx_M p s m args meth c RX6 cX6_sum (some .int) 3) (hK : va_K (dC, dI) vwCl [(cI, .int)] s) (hA : ∀ q, s.heap.size ≤ q → A q) {a : Nat → Nat} {v : Int32} {z : Nat} {S : (Nat → Int32)} {q : Int32} {rec4 : Int32 → Int32 → (Nat → Int32) → Option Int32} (hrec4 : ∀ {v1 : Int32} {v2 : Int32} , rec4 v1 v2 S = some q → ∀ {H : Heap} {locs : List Loc} {ls : Array Slot}, gd_W (dC, dI) A s (wd_R cI a v z S) H locs → lv_has ls 3 [(0, .ref (a 0)), (1, .int v1), (2, .int v2)] → W p l e RM6_sum s m args below meth c H locs 0 0 (MQ below (qi_W (dC, dI) [(cI, .int)] A q (wd_R cI a v z S)) args s 0 0 A) (F0 m 4 ls [])) {v1 : Int32} {v2 : Int32} (h : f6_sum_b4 v z rec4 v1 v2 S = some q) {H : Heap} {locs : List Loc} {ls : Array Slot} (hG : gd_W (dC, dI) A s (wd_R cI a v z S) H locs) (hl : lv_has ls 3 [(0, .ref (a 0)), (1, .int v1), (2, .int v2)]) : W p l e RM6_sum s m args below meth c H locs 0 0 (MQ below (qi_W (dC, dI) [(cI, .int)] A q (wd_R cI a v z S)) args s 0 0 A) (F0 m 4 ls []) := by
  unfold f6_sum_b4 at h
  obtain ⟨hx, hb, hr, hts, hown, hlocks, hml⟩ := id C
  refine lv_iload_n hx hb dX6_sum_4 rfl (lv_at hl 2 rfl) ?_
  refine lv_aload_n hx hb dX6_sum_5 rfl (lv_at hl 0 rfl) ?_
  refine va_get (D := (dC, dI)) (ci := 5) (v := .ref (a 1)) (C := RX6) (T := TX6) (N := 2) hx hb hts inlX6 hown hK hG.1 0 rfl rfl 0 (by decide) (hts (Cond.fieldLink RX6 13 "DiceRoads$Row" "cells" "[I") wq_48) (fun _ h9 => h9) rfl dX6_sum_6 ?_
  refine va_alen (v := (nI z)) hx hb hK hG.1 1 0 rfl rfl rfl dX6_sum_9 ?_
  refine lv_icmp_ge (tgt := 28) hx hb dX6_sum_10 (by decide) (fun hc => ?_) (fun hc => ?_)
  · have h := fo_it h hc
    refine lv_iload_n hx hb dX6_sum_28 rfl (lv_at hl 1 rfl) ?_
    exact gr_i hx hb hr hlocks hK hG (Option.some.inj h) dX6_sum_29
  · have h := fo_if h hc
    refine lv_iload_n hx hb dX6_sum_13 rfl (lv_at hl 1 rfl) ?_
    refine lv_aload_n hx hb dX6_sum_14 rfl (lv_at hl 0 rfl) ?_
    refine va_get (D := (dC, dI)) (ci := 5) (v := .ref (a 1)) (C := RX6) (T := TX6) (N := 2) hx hb hts inlX6 hown hK hG.1 0 rfl rfl 0 (by decide) (hts (Cond.fieldLink RX6 13 "DiceRoads$Row" "cells" "[I") wq_48) (fun _ h9 => h9) rfl dX6_sum_15 ?_
    refine lv_iload_n hx hb dX6_sum_18 rfl (lv_at hl 2 rfl) ?_
    obtain ⟨hi, h⟩ := fo_ck_some h
    refine va_iald hx hb hK hG.1 1 0 rfl rfl hi dX6_sum_19 ?_
    refine lv_iadd hx hb dX6_sum_20 ?_
    refine lv_istore_n (lv' := [(1, .int (v1 + (S v2.toNatClampNeg))), (0, .ref (a 0)), (2, .int v2)]) hx hb dX6_sum_21 rfl hl (by decide) rfl (fun ls hl => ?_)
    refine lv_iinc (v := (v2 + (1 : Int32))) (lv' := [(2, .int (v2 + (1 : Int32))), (1, .int (v1 + (S v2.toNatClampNeg))), (0, .ref (a 0))]) hx hb dX6_sum_22 hl (k := 2) rfl rfl (by decide) rfl (fun ls hl => ?_)
    refine lv_goto (tgt := 4) hx hb dX6_sum_25 (by decide) ?_
    exact hrec4 h hG (lv_sub hl [2, 1, 0] rfl)
set_option maxRecDepth 100000 in
set_option maxHeartbeats 4000000 in
theorem w6_sum_L4 (C : cx_M p s m args meth c RX6 cX6_sum (some .int) 3) (hK : va_K (dC, dI) vwCl [(cI, .int)] s) (hA : ∀ q, s.heap.size ≤ q → A q) {a : Nat → Nat} {v : Int32} {z : Nat} {S : (Nat → Int32)} {q : Int32} : ∀ (n : Nat) {v1 : Int32} {v2 : Int32}, f6_sum_L4 v z n v1 v2 S = some q → ∀ {H : Heap} {locs : List Loc} {ls : Array Slot}, gd_W (dC, dI) A s (wd_R cI a v z S) H locs → lv_has ls 3 [(0, .ref (a 0)), (1, .int v1), (2, .int v2)] → W p l e RM6_sum s m args below meth c H locs 0 0 (MQ below (qi_W (dC, dI) [(cI, .int)] A q (wd_R cI a v z S)) args s 0 0 A) (F0 m 4 ls []) := by
  intro n
  induction n with
  | zero => intro _ _ h; exact nomatch h
  | succ n ih => intro v1 v2 h H locs ls hG hl; exact w6_sum_b4 C hK hA (fun h => ih h) (show f6_sum_b4 v z (f6_sum_L4 v z n) v1 v2 S = some q from h) hG hl
set_option maxRecDepth 100000 in
set_option maxHeartbeats 4000000 in
theorem w6_sum (C : cx_M p s m args meth c RX6 cX6_sum (some .int) 3) (hK : va_K (dC, dI) vwCl [(cI, .int)] s) (hA : ∀ q, s.heap.size ≤ q → A q) {a : Nat → Nat} {v : Int32} {z : Nat} {q : Int32} {S : (Nat → Int32)} (h : f6_sum v z S = some q) {H : Heap} {locs : List Loc} {ls : Array Slot} (hG : gd_W (dC, dI) A s (wd_R cI a v z S) H locs) (hl : lv_has ls 3 [(0, .ref (a 0))]) : W p l e RM6_sum s m args below meth c H locs 0 0 (MQ below (qi_W (dC, dI) [(cI, .int)] A q (wd_R cI a v z S)) args s 0 0 A) (F0 m 0 ls []) := by
  unfold f6_sum at h
  obtain ⟨hx, hb, hr, hts, hown, hlocks, hml⟩ := id C
  refine lv_iconst (v := (0 : Int32)) hx hb dX6_sum_0 (by decide) ?_
  refine lv_istore_n (lv' := [(1, .int (0 : Int32)), (0, .ref (a 0))]) hx hb dX6_sum_1 rfl hl (by decide) rfl (fun ls hl => ?_)
  refine lv_iconst (v := (0 : Int32)) hx hb dX6_sum_2 (by decide) ?_
  refine lv_istore_n (lv' := [(2, .int (0 : Int32)), (1, .int (0 : Int32)), (0, .ref (a 0))]) hx hb dX6_sum_3 rfl hl (by decide) rfl (fun ls hl => ?_)
  exact w6_sum_L4 C hK hA fo_fu h hG (lv_sub hl [2, 1, 0] rfl)
set_option maxRecDepth 100000 in
set_option maxHeartbeats 4000000 in
theorem c6_sum (l : Launch) {dC : Nat → ClassId} {dI : Nat → Nat → Nat} {cI : ClassId} {a : Nat → Nat} {v : Int32} {z : Nat} {S : (Nat → Int32)} {q : Int32} (h : f6_sum v z S = some q) : mi_M l yX6_sum wm6_sum RM6_sum (dC, dI) [(cI, .int)] [.ref (a 0)] (wd_R cI a v z S) q (wd_R cI a v z S) := by
  intro sz
  refine Met.ofW (cc := cX6_sum) (maxL := 3) (ret := (some .int)) (by decide) rfl ?_
  intro p e s m args below meth c s₁ B hml hv
  obtain ⟨rfl, hsz, hP, hK, hD0⟩ := hv
  subst hsz
  have hl := lv_entry ([.ref (a 0)] : List Value) (n := 3) (Nat.le_of_ble_eq_true rfl)
  rw [lg_entry_eq]
  generalize (lg_sl ([.ref (a 0)] : List Value) ++ List.replicate (3 - (lg_sl ([.ref (a 0)] : List Value)).length) Slot.unset).toArray = ls at hl ⊢
  exact w6_sum (a := a) ⟨B.exec, B.bytes, B.returns, fun w hw => atoms_spec (ws := wm6_sum) B.pre w (List.mem_cons_of_mem _ hw), findClass_of_methodNamed B.named, B.notSynchronized, hml⟩ hK (fun _ h => Or.inr h) h ⟨hP, hD0.self, va_S.rf⟩ hl
end
/-! ## DiceRoads$Row.copyFrom(LDiceRoads$Row;)V -/
section
variable {p : Program} {l : Launch} {e : Env} {s : State} {m : MethodId} {args : Array Value} {below : List Frame} {meth : Method} {c : Code} {dC : Nat → ClassId} {dI : Nat → Nat → Nat} {cI : ClassId} {A : Nat → Prop}
set_option maxRecDepth 100000 in
set_option maxHeartbeats 4000000 in
theorem w6_copyFrom_b2 (C : cx_M p s m args meth c RX6 cX6_copyFrom none 3) (hK : va_K (dC, dI) vwCl [(cI, .int)] s) (hA : ∀ q, s.heap.size ≤ q → A q) {a : Nat → Nat} {v : Int32} {w : Int32} {z : Nat} {F : Nat → Int32} {q : (Nat → Int32)} {rec2 : Int32 → (Nat → Int32) → Option (Nat → Int32)} (hrec2 : ∀ {v2 : Int32} {S : (Nat → Int32)} , rec2 v2 S = some q → ∀ {H : Heap} {locs : List Loc} {ls : Array Slot}, gd_W (dC, dI) A s (wd_RR cI a v w z F S) H locs → lv_has ls 3 [(0, .ref (a 0)), (1, .ref (a 2)), (2, .int v2)] → W p l e RM6_copyFrom s m args below meth c H locs 0 0 (MQ below (qv_W (dC, dI) [(cI, .int)] A (wd_RR cI a v w z F q)) args s 0 0 A) (F0 m 2 ls [])) {v2 : Int32} {S : (Nat → Int32)} (h : f6_copyFrom_b2 z F rec2 v2 S = some q) {H : Heap} {locs : List Loc} {ls : Array Slot} (hG : gd_W (dC, dI) A s (wd_RR cI a v w z F S) H locs) (hl : lv_has ls 3 [(0, .ref (a 0)), (1, .ref (a 2)), (2, .int v2)]) : W p l e RM6_copyFrom s m args below meth c H locs 0 0 (MQ below (qv_W (dC, dI) [(cI, .int)] A (wd_RR cI a v w z F q)) args s 0 0 A) (F0 m 2 ls []) := by
  unfold f6_copyFrom_b2 at h
  obtain ⟨hx, hb, hr, hts, hown, hlocks, hml⟩ := id C
  refine lv_iload_n hx hb dX6_copyFrom_2 rfl (lv_at hl 2 rfl) ?_
  refine lv_aload_n hx hb dX6_copyFrom_3 rfl (lv_at hl 0 rfl) ?_
  refine va_get (D := (dC, dI)) (ci := 5) (v := .ref (a 1)) (C := RX6) (T := TX6) (N := 2) hx hb hts inlX6 hown hK hG.1 0 rfl rfl 0 (by decide) (hts (Cond.fieldLink RX6 13 "DiceRoads$Row" "cells" "[I") wq_48) (fun _ h9 => h9) rfl dX6_copyFrom_4 ?_
  refine va_alen (v := (nI z)) hx hb hK hG.1 1 0 rfl rfl rfl dX6_copyFrom_7 ?_
  refine lv_icmp_ge (tgt := 38) hx hb dX6_copyFrom_8 (by decide) (fun hc => ?_) (fun hc => ?_)
  · have h := fo_it h hc
    obtain rfl := Option.some.inj h
    exact gr_v hx hb hr hlocks hK hG dX6_copyFrom_38
  · have h := fo_if h hc
    refine lv_iload_n hx hb dX6_copyFrom_11 rfl (lv_at hl 2 rfl) ?_
    refine lv_aload_n hx hb dX6_copyFrom_12 rfl (lv_at hl 1 rfl) ?_
    refine va_get (D := (dC, dI)) (ci := 5) (v := .ref (a 3)) (C := RX6) (T := TX6) (N := 2) hx hb hts inlX6 hown hK hG.1 2 rfl rfl 0 (by decide) (hts (Cond.fieldLink RX6 13 "DiceRoads$Row" "cells" "[I") wq_48) (fun _ h9 => h9) rfl dX6_copyFrom_13 ?_
    refine va_alen (v := (nI z)) hx hb hK hG.1 3 0 rfl rfl rfl dX6_copyFrom_16 ?_
    refine lv_icmp_ge (tgt := 38) hx hb dX6_copyFrom_17 (by decide) (fun hc => ?_) (fun hc => ?_)
    · have h := fo_it h hc
      obtain rfl := Option.some.inj h
      exact gr_v hx hb hr hlocks hK hG dX6_copyFrom_38
    · have h := fo_if h hc
      refine lv_aload_n hx hb dX6_copyFrom_20 rfl (lv_at hl 0 rfl) ?_
      refine va_get (D := (dC, dI)) (ci := 5) (v := .ref (a 1)) (C := RX6) (T := TX6) (N := 2) hx hb hts inlX6 hown hK hG.1 0 rfl rfl 0 (by decide) (hts (Cond.fieldLink RX6 13 "DiceRoads$Row" "cells" "[I") wq_48) (fun _ h9 => h9) rfl dX6_copyFrom_21 ?_
      refine lv_iload_n hx hb dX6_copyFrom_24 rfl (lv_at hl 2 rfl) ?_
      refine lv_aload_n hx hb dX6_copyFrom_25 rfl (lv_at hl 1 rfl) ?_
      refine va_get (D := (dC, dI)) (ci := 5) (v := .ref (a 3)) (C := RX6) (T := TX6) (N := 2) hx hb hts inlX6 hown hK hG.1 2 rfl rfl 0 (by decide) (hts (Cond.fieldLink RX6 13 "DiceRoads$Row" "cells" "[I") wq_48) (fun _ h9 => h9) rfl dX6_copyFrom_26 ?_
      refine lv_iload_n hx hb dX6_copyFrom_29 rfl (lv_at hl 2 rfl) ?_
      obtain ⟨hi, h⟩ := fo_ck_some h
      refine va_iald hx hb hK hG.1 3 0 rfl rfl hi dX6_copyFrom_30 ?_
      obtain ⟨hi, h⟩ := fo_ck_some h
      refine va_iast hx hb hK hG.1 hG.2.1 hG.2.2 1 0 rfl rfl hi dX6_copyFrom_31 (fun H locs hP9 hD9 hS9 => ?_)
      have hG : gd_W (dC, dI) A s (wd_RR cI a v w z F (upd S v2.toNatClampNeg (F v2.toNatClampNeg))) H locs := ⟨hP9, hD9, hS9⟩
      refine lv_iinc (v := (v2 + (1 : Int32))) (lv' := [(2, .int (v2 + (1 : Int32))), (0, .ref (a 0)), (1, .ref (a 2))]) hx hb dX6_copyFrom_32 hl (k := 2) rfl rfl (by decide) rfl (fun ls hl => ?_)
      refine lv_goto (tgt := 2) hx hb dX6_copyFrom_35 (by decide) ?_
      exact hrec2 h hG (lv_sub hl [1, 2, 0] rfl)
set_option maxRecDepth 100000 in
set_option maxHeartbeats 4000000 in
theorem w6_copyFrom_L2 (C : cx_M p s m args meth c RX6 cX6_copyFrom none 3) (hK : va_K (dC, dI) vwCl [(cI, .int)] s) (hA : ∀ q, s.heap.size ≤ q → A q) {a : Nat → Nat} {v : Int32} {w : Int32} {z : Nat} {F : Nat → Int32} {q : (Nat → Int32)} : ∀ (n : Nat) {v2 : Int32} {S : (Nat → Int32)}, f6_copyFrom_L2 z F n v2 S = some q → ∀ {H : Heap} {locs : List Loc} {ls : Array Slot}, gd_W (dC, dI) A s (wd_RR cI a v w z F S) H locs → lv_has ls 3 [(0, .ref (a 0)), (1, .ref (a 2)), (2, .int v2)] → W p l e RM6_copyFrom s m args below meth c H locs 0 0 (MQ below (qv_W (dC, dI) [(cI, .int)] A (wd_RR cI a v w z F q)) args s 0 0 A) (F0 m 2 ls []) := by
  intro n
  induction n with
  | zero => intro _ _ h; exact nomatch h
  | succ n ih => intro v2 S h H locs ls hG hl; exact w6_copyFrom_b2 C hK hA (fun h => ih h) (show f6_copyFrom_b2 z F (f6_copyFrom_L2 z F n) v2 S = some q from h) hG hl
set_option maxRecDepth 100000 in
set_option maxHeartbeats 4000000 in
theorem w6_copyFrom (C : cx_M p s m args meth c RX6 cX6_copyFrom none 3) (hK : va_K (dC, dI) vwCl [(cI, .int)] s) (hA : ∀ q, s.heap.size ≤ q → A q) {a : Nat → Nat} {v : Int32} {w : Int32} {z : Nat} {F : Nat → Int32} {q : (Nat → Int32)} {S : (Nat → Int32)} (h : f6_copyFrom z F S = some q) {H : Heap} {locs : List Loc} {ls : Array Slot} (hG : gd_W (dC, dI) A s (wd_RR cI a v w z F S) H locs) (hl : lv_has ls 3 [(0, .ref (a 0)), (1, .ref (a 2))]) : W p l e RM6_copyFrom s m args below meth c H locs 0 0 (MQ below (qv_W (dC, dI) [(cI, .int)] A (wd_RR cI a v w z F q)) args s 0 0 A) (F0 m 0 ls []) := by
  unfold f6_copyFrom at h
  obtain ⟨hx, hb, hr, hts, hown, hlocks, hml⟩ := id C
  refine lv_iconst (v := (0 : Int32)) hx hb dX6_copyFrom_0 (by decide) ?_
  refine lv_istore_n (lv' := [(2, .int (0 : Int32)), (0, .ref (a 0)), (1, .ref (a 2))]) hx hb dX6_copyFrom_1 rfl hl (by decide) rfl (fun ls hl => ?_)
  exact w6_copyFrom_L2 C hK hA fo_fu h hG (lv_sub hl [1, 2, 0] rfl)
set_option maxRecDepth 100000 in
set_option maxHeartbeats 4000000 in
theorem c6_copyFrom (l : Launch) {dC : Nat → ClassId} {dI : Nat → Nat → Nat} {cI : ClassId} {a : Nat → Nat} {v : Int32} {w : Int32} {z : Nat} {F : Nat → Int32} {S : (Nat → Int32)} {q : (Nat → Int32)} (h : f6_copyFrom z F S = some q) : mv_M l yX6_copyFrom wm6_copyFrom RM6_copyFrom (dC, dI) [(cI, .int)] [.ref (a 0), .ref (a 2)] (wd_RR cI a v w z F S) (wd_RR cI a v w z F q) := by
  intro sz
  refine Met.ofW (cc := cX6_copyFrom) (maxL := 3) (ret := none) (by decide) rfl ?_
  intro p e s m args below meth c s₁ B hml hv
  obtain ⟨rfl, hsz, hP, hK, hD0⟩ := hv
  subst hsz
  have hl := lv_entry ([.ref (a 0), .ref (a 2)] : List Value) (n := 3) (Nat.le_of_ble_eq_true rfl)
  rw [lg_entry_eq]
  generalize (lg_sl ([.ref (a 0), .ref (a 2)] : List Value) ++ List.replicate (3 - (lg_sl ([.ref (a 0), .ref (a 2)] : List Value)).length) Slot.unset).toArray = ls at hl ⊢
  exact w6_copyFrom (a := a) ⟨B.exec, B.bytes, B.returns, fun w hw => atoms_spec (ws := wm6_copyFrom) B.pre w (List.mem_cons_of_mem _ hw), findClass_of_methodNamed B.named, B.notSynchronized, hml⟩ hK (fun _ h => Or.inr h) h ⟨hP, hD0.self, va_S.rf⟩ hl
end
/-! ## DiceRoads$Roads.sortOf(I)I -/
section
variable {p : Program} {l : Launch} {e : Env} {s : State} {m : MethodId} {args : Array Value} {below : List Frame} {meth : Method} {c : Code} {dC : Nat → ClassId} {dI : Nat → Nat → Nat} {cI : ClassId} {A : Nat → Prop}
set_option maxRecDepth 100000 in
set_option maxHeartbeats 4000000 in
theorem w5_sortOf (C : cx_M p s m args meth c RX5 cX5_sortOf (some .int) 1) (hK : va_K (dC, dI) vwCl [] s) (hA : ∀ q, s.heap.size ≤ q → A q) {a : Nat → Nat} {q : Int32} {v0 : Int32} (h : f5_sortOf v0 = some q) {H : Heap} {locs : List Loc} {ls : Array Slot} (hG : gd_W (dC, dI) A s ([] : va_W) H locs) (hl : lv_has ls 1 [(0, .int v0)]) : W p l e RM5_sortOf s m args below meth c H locs 0 0 (MQ below (qi_W (dC, dI) [] A q ([] : va_W)) args s 0 0 A) (F0 m 0 ls []) := by
  unfold f5_sortOf at h
  obtain ⟨hx, hb, hr, hts, hown, hlocks, hml⟩ := id C
  refine lv_iload_n hx hb dX5_sortOf_0 rfl (lv_at hl 0 rfl) ?_
  refine lv_iconst (v := (5 : Int32)) hx hb dX5_sortOf_1 (by decide) ?_
  refine lv_irem hx hb dX5_sortOf_2 (by decide) ?_
  refine lv_if_eq (tgt := 8) hx hb dX5_sortOf_3 (by decide) (fun hc => ?_) (fun hc => ?_)
  · have h := fo_it h hc
    refine lv_iload_n hx hb dX5_sortOf_8 rfl (lv_at hl 0 rfl) ?_
    refine lv_bipush (v := (10 : Int32)) hx hb dX5_sortOf_9 (by decide) ?_
    refine lv_irem hx hb dX5_sortOf_11 (by decide) ?_
    refine lv_if_ne (tgt := 19) hx hb dX5_sortOf_12 (by decide) (fun hc => ?_) (fun hc => ?_)
    · have h := fo_if h hc
      refine lv_iconst (v := (2 : Int32)) hx hb dX5_sortOf_19 (by decide) ?_
      exact gr_i hx hb hr hlocks hK hG (Option.some.inj h) dX5_sortOf_20
    · have h := fo_it h hc
      refine lv_iconst (v := (0 : Int32)) hx hb dX5_sortOf_15 (by decide) ?_
      refine lv_goto (tgt := 20) hx hb dX5_sortOf_16 (by decide) ?_
      exact gr_i hx hb hr hlocks hK hG (Option.some.inj h) dX5_sortOf_20
  · have h := fo_if h hc
    refine lv_iconst (v := (1 : Int32)) hx hb dX5_sortOf_6 (by decide) ?_
    exact gr_i hx hb hr hlocks hK hG (Option.some.inj h) dX5_sortOf_7
set_option maxRecDepth 100000 in
set_option maxHeartbeats 4000000 in
theorem c5_sortOf (l : Launch) {dC : Nat → ClassId} {dI : Nat → Nat → Nat} {a : Nat → Nat} {v0 : Int32} {q : Int32} (h : f5_sortOf v0 = some q) : mi_M l yX5_sortOf wm5_sortOf RM5_sortOf (dC, dI) [] [.int v0] ([] : va_W) q ([] : va_W) := by
  intro sz
  refine Met.ofW (cc := cX5_sortOf) (maxL := 1) (ret := (some .int)) (by decide) rfl ?_
  intro p e s m args below meth c s₁ B hml hv
  obtain ⟨rfl, hsz, hP, hK, hD0⟩ := hv
  subst hsz
  have hl := lv_entry ([.int v0] : List Value) (n := 1) (Nat.le_of_ble_eq_true rfl)
  rw [lg_entry_eq]
  generalize (lg_sl ([.int v0] : List Value) ++ List.replicate (1 - (lg_sl ([.int v0] : List Value)).length) Slot.unset).toArray = ls at hl ⊢
  exact w5_sortOf (a := a) ⟨B.exec, B.bytes, B.returns, fun w hw => atoms_spec (ws := wm5_sortOf) B.pre w (List.mem_cons_of_mem _ hw), findClass_of_methodNamed B.named, B.notSynchronized, hml⟩ hK (fun _ h => Or.inr h) h ⟨hP, hD0.self, va_S.rf⟩ hl
end
/-! ## DiceRoads$Roads.firstOwner(I)I -/
section
variable {p : Program} {l : Launch} {e : Env} {s : State} {m : MethodId} {args : Array Value} {below : List Frame} {meth : Method} {c : Code} {dC : Nat → ClassId} {dI : Nat → Nat → Nat} {cI : ClassId} {A : Nat → Prop}
set_option maxRecDepth 100000 in
set_option maxHeartbeats 4000000 in
theorem w5_firstOwner (C : cx_M p s m args meth c RX5 cX5_firstOwner (some .int) 2) (hK : va_K (dC, dI) vwCl [(cI, .int)] s) (hA : ∀ q, s.heap.size ≤ q → A q) {a : Nat → Nat} {q : Int32} {v1 : Int32} {S : ms_T} (h : f5_firstOwner v1 S = some q) {H : Heap} {locs : List Loc} {ls : Array Slot} (hG : gd_W (dC, dI) A s (wd_O cI a S) H locs) (hl : lv_has ls 2 [(0, .ref (a 0)), (1, .int v1)]) : W p l e RM5_firstOwner s m args below meth c H locs 0 0 (MQ below (qi_W (dC, dI) [(cI, .int)] A q (wd_O cI a S)) args s 0 0 A) (F0 m 0 ls []) := by
  unfold f5_firstOwner at h
  obtain ⟨hx, hb, hr, hts, hown, hlocks, hml⟩ := id C
  refine lv_aload_n hx hb dX5_firstOwner_0 rfl (lv_at hl 0 rfl) ?_
  refine va_get (D := (dC, dI)) (ci := 4) (v := .ref (a 1)) (C := RX5) (T := TX5) (N := 2) hx hb hts inlX5 hown hK hG.1 0 rfl rfl 0 (by decide) (hts (Cond.fieldLink RX5 14 "DiceRoads$Roads" "first" "LDiceRoads$Row;") wq_56) (fun _ h9 => h9) rfl dX5_firstOwner_1 ?_
  refine lv_iload_n hx hb dX5_firstOwner_4 rfl (lv_at hl 1 rfl) ?_
  obtain ⟨q5, hq5, h⟩ := fo_bd_some h
  refine gc_iV (b := a 1) (C := RX6) (As := [.int v1]) (rest := []) (wc := (wd_R cI (fun k => a (k + 1)) (-6) 20 (S 0))) (w1 := (wd_R cI (fun k => a (k + 1)) (-6) 20 (S 0))) (ci := 5) (q0 := 0) ⟨hx, hb, hml, hown, hts⟩ (c6_at l (a := (fun k => a (k + 1))) (v := (-6)) (z := 20) hq5) (cwV 1 hts gv_X5_27 rfl rfl rfl hd6_at ⟨Nat.le_of_ble_eq_true rfl, Nat.le_of_ble_eq_true rfl⟩) hK [0] rfl hA hG [1, 2] rfl rfl rfl rfl rfl rfl hl.1 rfl (Nat.le_of_ble_eq_true rfl) dX5_firstOwner_5 ⟨Nat.zero_le _, Nat.zero_le _⟩ (fun H locs hG9 => ?_)
  have hG : gd_W (dC, dI) A s (wd_O cI a S) H locs := hG9
  exact gr_i hx hb hr hlocks hK hG (Option.some.inj h) dX5_firstOwner_8
set_option maxRecDepth 100000 in
set_option maxHeartbeats 4000000 in
theorem c5_firstOwner (l : Launch) {dC : Nat → ClassId} {dI : Nat → Nat → Nat} {cI : ClassId} {a : Nat → Nat} {v1 : Int32} {S : ms_T} {q : Int32} (h : f5_firstOwner v1 S = some q) : mi_M l yX5_firstOwner wm5_firstOwner RM5_firstOwner (dC, dI) [(cI, .int)] [.ref (a 0), .int v1] (wd_O cI a S) q (wd_O cI a S) := by
  intro sz
  refine Met.ofW (cc := cX5_firstOwner) (maxL := 2) (ret := (some .int)) (by decide) rfl ?_
  intro p e s m args below meth c s₁ B hml hv
  obtain ⟨rfl, hsz, hP, hK, hD0⟩ := hv
  subst hsz
  have hl := lv_entry ([.ref (a 0), .int v1] : List Value) (n := 2) (Nat.le_of_ble_eq_true rfl)
  rw [lg_entry_eq]
  generalize (lg_sl ([.ref (a 0), .int v1] : List Value) ++ List.replicate (2 - (lg_sl ([.ref (a 0), .int v1] : List Value)).length) Slot.unset).toArray = ls at hl ⊢
  exact w5_firstOwner (a := a) ⟨B.exec, B.bytes, B.returns, fun w hw => atoms_spec (ws := wm5_firstOwner) B.pre w (List.mem_cons_of_mem _ hw), findClass_of_methodNamed B.named, B.notSynchronized, hml⟩ hK (fun _ h => Or.inr h) h ⟨hP, hD0.self, va_S.rf⟩ hl
end
/-! ## DiceRoads$Roads.secondOwner(I)I -/
section
variable {p : Program} {l : Launch} {e : Env} {s : State} {m : MethodId} {args : Array Value} {below : List Frame} {meth : Method} {c : Code} {dC : Nat → ClassId} {dI : Nat → Nat → Nat} {cI : ClassId} {A : Nat → Prop}
set_option maxRecDepth 100000 in
set_option maxHeartbeats 4000000 in
theorem w5_secondOwner (C : cx_M p s m args meth c RX5 cX5_secondOwner (some .int) 2) (hK : va_K (dC, dI) vwCl [(cI, .int)] s) (hA : ∀ q, s.heap.size ≤ q → A q) {a : Nat → Nat} {q : Int32} {v1 : Int32} {S : ms_T} (h : f5_secondOwner v1 S = some q) {H : Heap} {locs : List Loc} {ls : Array Slot} (hG : gd_W (dC, dI) A s (wd_O cI a S) H locs) (hl : lv_has ls 2 [(0, .ref (a 0)), (1, .int v1)]) : W p l e RM5_secondOwner s m args below meth c H locs 0 0 (MQ below (qi_W (dC, dI) [(cI, .int)] A q (wd_O cI a S)) args s 0 0 A) (F0 m 0 ls []) := by
  unfold f5_secondOwner at h
  obtain ⟨hx, hb, hr, hts, hown, hlocks, hml⟩ := id C
  refine lv_aload_n hx hb dX5_secondOwner_0 rfl (lv_at hl 0 rfl) ?_
  refine va_get (D := (dC, dI)) (ci := 4) (v := .ref (a 3)) (C := RX5) (T := TX5) (N := 2) hx hb hts inlX5 hown hK hG.1 0 rfl rfl 1 (by decide) (hts (Cond.fieldLink RX5 20 "DiceRoads$Roads" "second" "LDiceRoads$Row;") wq_57) (fun _ h9 => h9) rfl dX5_secondOwner_1 ?_
  refine lv_iload_n hx hb dX5_secondOwner_4 rfl (lv_at hl 1 rfl) ?_
  obtain ⟨q5, hq5, h⟩ := fo_bd_some h
  refine gc_iV (b := a 3) (C := RX6) (As := [.int v1]) (rest := []) (wc := (wd_R cI (fun k => a (k + 3)) (-6) 20 (S 1))) (w1 := (wd_R cI (fun k => a (k + 3)) (-6) 20 (S 1))) (ci := 5) (q0 := 0) ⟨hx, hb, hml, hown, hts⟩ (c6_at l (a := (fun k => a (k + 3))) (v := (-6)) (z := 20) hq5) (cwV 1 hts gv_X5_27 rfl rfl rfl hd6_at ⟨Nat.le_of_ble_eq_true rfl, Nat.le_of_ble_eq_true rfl⟩) hK [0] rfl hA hG [3, 4] rfl rfl rfl rfl rfl rfl hl.1 rfl (Nat.le_of_ble_eq_true rfl) dX5_secondOwner_5 ⟨Nat.zero_le _, Nat.zero_le _⟩ (fun H locs hG9 => ?_)
  have hG : gd_W (dC, dI) A s (wd_O cI a S) H locs := hG9
  exact gr_i hx hb hr hlocks hK hG (Option.some.inj h) dX5_secondOwner_8
set_option maxRecDepth 100000 in
set_option maxHeartbeats 4000000 in
theorem c5_secondOwner (l : Launch) {dC : Nat → ClassId} {dI : Nat → Nat → Nat} {cI : ClassId} {a : Nat → Nat} {v1 : Int32} {S : ms_T} {q : Int32} (h : f5_secondOwner v1 S = some q) : mi_M l yX5_secondOwner wm5_secondOwner RM5_secondOwner (dC, dI) [(cI, .int)] [.ref (a 0), .int v1] (wd_O cI a S) q (wd_O cI a S) := by
  intro sz
  refine Met.ofW (cc := cX5_secondOwner) (maxL := 2) (ret := (some .int)) (by decide) rfl ?_
  intro p e s m args below meth c s₁ B hml hv
  obtain ⟨rfl, hsz, hP, hK, hD0⟩ := hv
  subst hsz
  have hl := lv_entry ([.ref (a 0), .int v1] : List Value) (n := 2) (Nat.le_of_ble_eq_true rfl)
  rw [lg_entry_eq]
  generalize (lg_sl ([.ref (a 0), .int v1] : List Value) ++ List.replicate (2 - (lg_sl ([.ref (a 0), .int v1] : List Value)).length) Slot.unset).toArray = ls at hl ⊢
  exact w5_secondOwner (a := a) ⟨B.exec, B.bytes, B.returns, fun w hw => atoms_spec (ws := wm5_secondOwner) B.pre w (List.mem_cons_of_mem _ hw), findClass_of_methodNamed B.named, B.notSynchronized, hml⟩ hK (fun _ h => Or.inr h) h ⟨hP, hD0.self, va_S.rf⟩ hl
end
/-! ## DiceRoads$Roads.isOwnedBy(II)Z -/
section
variable {p : Program} {l : Launch} {e : Env} {s : State} {m : MethodId} {args : Array Value} {below : List Frame} {meth : Method} {c : Code} {dC : Nat → ClassId} {dI : Nat → Nat → Nat} {cI : ClassId} {A : Nat → Prop}
set_option maxRecDepth 100000 in
set_option maxHeartbeats 4000000 in
theorem w5_isOwnedBy_b24 (C : cx_M p s m args meth c RX5 cX5_isOwnedBy (some .boolean) 3) (hK : va_K (dC, dI) vwCl [(cI, .int)] s) (hA : ∀ q, s.heap.size ≤ q → A q) {a : Nat → Nat} {S : ms_T} {q : Int32} (h : f5_isOwnedBy_b24 S = some q) {H : Heap} {locs : List Loc} {ls : Array Slot} (hG : gd_W (dC, dI) A s (wd_O cI a S) H locs) (hl : lv_has ls 3 []) : W p l e RM5_isOwnedBy s m args below meth c H locs 0 0 (MQ below (qi_W (dC, dI) [(cI, .int)] A q (wd_O cI a S)) args s 0 0 A) (F0 m 24 ls []) := by
  unfold f5_isOwnedBy_b24 at h
  obtain ⟨hx, hb, hr, hts, hown, hlocks, hml⟩ := id C
  refine lv_iconst (v := (1 : Int32)) hx hb dX5_isOwnedBy_24 (by decide) ?_
  refine lv_goto (tgt := 29) hx hb dX5_isOwnedBy_25 (by decide) ?_
  exact gr_z hx hb hr hlocks hK hG (Option.some.inj h) rfl dX5_isOwnedBy_29
set_option maxRecDepth 100000 in
set_option maxHeartbeats 4000000 in
theorem w5_isOwnedBy (C : cx_M p s m args meth c RX5 cX5_isOwnedBy (some .boolean) 3) (hK : va_K (dC, dI) vwCl [(cI, .int)] s) (hA : ∀ q, s.heap.size ≤ q → A q) {a : Nat → Nat} {q : Int32} {v1 : Int32} {v2 : Int32} {S : ms_T} (h : f5_isOwnedBy v1 v2 S = some q) {H : Heap} {locs : List Loc} {ls : Array Slot} (hG : gd_W (dC, dI) A s (wd_O cI a S) H locs) (hl : lv_has ls 3 [(0, .ref (a 0)), (1, .int v1), (2, .int v2)]) : W p l e RM5_isOwnedBy s m args below meth c H locs 0 0 (MQ below (qi_W (dC, dI) [(cI, .int)] A q (wd_O cI a S)) args s 0 0 A) (F0 m 0 ls []) := by
  unfold f5_isOwnedBy at h
  obtain ⟨hx, hb, hr, hts, hown, hlocks, hml⟩ := id C
  refine lv_aload_n hx hb dX5_isOwnedBy_0 rfl (lv_at hl 0 rfl) ?_
  refine va_get (D := (dC, dI)) (ci := 4) (v := .ref (a 1)) (C := RX5) (T := TX5) (N := 2) hx hb hts inlX5 hown hK hG.1 0 rfl rfl 0 (by decide) (hts (Cond.fieldLink RX5 14 "DiceRoads$Roads" "first" "LDiceRoads$Row;") wq_56) (fun _ h9 => h9) rfl dX5_isOwnedBy_1 ?_
  refine lv_iload_n hx hb dX5_isOwnedBy_4 rfl (lv_at hl 1 rfl) ?_
  obtain ⟨q5, hq5, h⟩ := fo_bd_some h
  refine gc_iV (b := a 1) (C := RX6) (As := [.int v1]) (rest := []) (wc := (wd_R cI (fun k => a (k + 1)) (-6) 20 (S 0))) (w1 := (wd_R cI (fun k => a (k + 1)) (-6) 20 (S 0))) (ci := 5) (q0 := 0) ⟨hx, hb, hml, hown, hts⟩ (c6_at l (a := (fun k => a (k + 1))) (v := (-6)) (z := 20) hq5) (cwV 1 hts gv_X5_27 rfl rfl rfl hd6_at ⟨Nat.le_of_ble_eq_true rfl, Nat.le_of_ble_eq_true rfl⟩) hK [0] rfl hA hG [1, 2] rfl rfl rfl rfl rfl rfl hl.1 rfl (Nat.le_of_ble_eq_true rfl) dX5_isOwnedBy_5 ⟨Nat.zero_le _, Nat.zero_le _⟩ (fun H locs hG9 => ?_)
  have hG : gd_W (dC, dI) A s (wd_O cI a S) H locs := hG9
  refine lv_iload_n hx hb dX5_isOwnedBy_8 rfl (lv_at hl 2 rfl) ?_
  refine lv_icmp_eq (tgt := 24) hx hb dX5_isOwnedBy_9 (by decide) (fun hc => ?_) (fun hc => ?_)
  · have h := fo_it h hc
    exact w5_isOwnedBy_b24 C hK hA h hG (lv_sub hl [] rfl)
  · have h := fo_if h hc
    refine lv_aload_n hx hb dX5_isOwnedBy_12 rfl (lv_at hl 0 rfl) ?_
    refine va_get (D := (dC, dI)) (ci := 4) (v := .ref (a 3)) (C := RX5) (T := TX5) (N := 2) hx hb hts inlX5 hown hK hG.1 0 rfl rfl 1 (by decide) (hts (Cond.fieldLink RX5 20 "DiceRoads$Roads" "second" "LDiceRoads$Row;") wq_57) (fun _ h9 => h9) rfl dX5_isOwnedBy_13 ?_
    refine lv_iload_n hx hb dX5_isOwnedBy_16 rfl (lv_at hl 1 rfl) ?_
    obtain ⟨q17, hq17, h⟩ := fo_bd_some h
    refine gc_iV (b := a 3) (C := RX6) (As := [.int v1]) (rest := []) (wc := (wd_R cI (fun k => a (k + 3)) (-6) 20 (S 1))) (w1 := (wd_R cI (fun k => a (k + 3)) (-6) 20 (S 1))) (ci := 5) (q0 := 0) ⟨hx, hb, hml, hown, hts⟩ (c6_at l (a := (fun k => a (k + 3))) (v := (-6)) (z := 20) hq17) (cwV 1 hts gv_X5_27 rfl rfl rfl hd6_at ⟨Nat.le_of_ble_eq_true rfl, Nat.le_of_ble_eq_true rfl⟩) hK [0] rfl hA hG [3, 4] rfl rfl rfl rfl rfl rfl hl.1 rfl (Nat.le_of_ble_eq_true rfl) dX5_isOwnedBy_17 ⟨Nat.zero_le _, Nat.zero_le _⟩ (fun H locs hG9 => ?_)
    have hG : gd_W (dC, dI) A s (wd_O cI a S) H locs := hG9
    refine lv_iload_n hx hb dX5_isOwnedBy_20 rfl (lv_at hl 2 rfl) ?_
    refine lv_icmp_ne (tgt := 28) hx hb dX5_isOwnedBy_21 (by decide) (fun hc => ?_) (fun hc => ?_)
    · have h := fo_if h hc
      refine lv_iconst (v := (0 : Int32)) hx hb dX5_isOwnedBy_28 (by decide) ?_
      exact gr_z hx hb hr hlocks hK hG (Option.some.inj h) rfl dX5_isOwnedBy_29
    · have h := fo_it h hc
      exact w5_isOwnedBy_b24 C hK hA h hG (lv_sub hl [] rfl)
set_option maxRecDepth 100000 in
set_option maxHeartbeats 4000000 in
theorem c5_isOwnedBy (l : Launch) {dC : Nat → ClassId} {dI : Nat → Nat → Nat} {cI : ClassId} {a : Nat → Nat} {v1 : Int32} {v2 : Int32} {S : ms_T} {q : Int32} (h : f5_isOwnedBy v1 v2 S = some q) : mi_M l yX5_isOwnedBy wm5_isOwnedBy RM5_isOwnedBy (dC, dI) [(cI, .int)] [.ref (a 0), .int v1, .int v2] (wd_O cI a S) q (wd_O cI a S) := by
  intro sz
  refine Met.ofW (cc := cX5_isOwnedBy) (maxL := 3) (ret := (some .boolean)) (by decide) rfl ?_
  intro p e s m args below meth c s₁ B hml hv
  obtain ⟨rfl, hsz, hP, hK, hD0⟩ := hv
  subst hsz
  have hl := lv_entry ([.ref (a 0), .int v1, .int v2] : List Value) (n := 3) (Nat.le_of_ble_eq_true rfl)
  rw [lg_entry_eq]
  generalize (lg_sl ([.ref (a 0), .int v1, .int v2] : List Value) ++ List.replicate (3 - (lg_sl ([.ref (a 0), .int v1, .int v2] : List Value)).length) Slot.unset).toArray = ls at hl ⊢
  exact w5_isOwnedBy (a := a) ⟨B.exec, B.bytes, B.returns, fun w hw => atoms_spec (ws := wm5_isOwnedBy) B.pre w (List.mem_cons_of_mem _ hw), findClass_of_methodNamed B.named, B.notSynchronized, hml⟩ hK (fun _ h => Or.inr h) h ⟨hP, hD0.self, va_S.rf⟩ hl
end
/-! ## DiceRoads$Roads.hasFreePart(I)Z -/
section
variable {p : Program} {l : Launch} {e : Env} {s : State} {m : MethodId} {args : Array Value} {below : List Frame} {meth : Method} {c : Code} {dC : Nat → ClassId} {dI : Nat → Nat → Nat} {cI : ClassId} {A : Nat → Prop}
set_option maxRecDepth 100000 in
set_option maxHeartbeats 4000000 in
theorem w5_hasFreePart_b41 (C : cx_M p s m args meth c RX5 cX5_hasFreePart (some .boolean) 3) (hK : va_K (dC, dI) vwCl [(cI, .int)] s) (hA : ∀ q, s.heap.size ≤ q → A q) {a : Nat → Nat} {S : ms_T} {q : Int32} (h : f5_hasFreePart_b41 S = some q) {H : Heap} {locs : List Loc} {ls : Array Slot} (hG : gd_W (dC, dI) A s (wd_O cI a S) H locs) (hl : lv_has ls 3 []) : W p l e RM5_hasFreePart s m args below meth c H locs 0 0 (MQ below (qi_W (dC, dI) [(cI, .int)] A q (wd_O cI a S)) args s 0 0 A) (F0 m 41 ls []) := by
  unfold f5_hasFreePart_b41 at h
  obtain ⟨hx, hb, hr, hts, hown, hlocks, hml⟩ := id C
  refine lv_iconst (v := (1 : Int32)) hx hb dX5_hasFreePart_41 (by decide) ?_
  refine lv_goto (tgt := 46) hx hb dX5_hasFreePart_42 (by decide) ?_
  exact gr_z hx hb hr hlocks hK hG (Option.some.inj h) rfl dX5_hasFreePart_46
set_option maxRecDepth 100000 in
set_option maxHeartbeats 4000000 in
theorem w5_hasFreePart_b23 (C : cx_M p s m args meth c RX5 cX5_hasFreePart (some .boolean) 3) (hK : va_K (dC, dI) vwCl [(cI, .int)] s) (hA : ∀ q, s.heap.size ≤ q → A q) {a : Nat → Nat} {S : ms_T} {q : Int32} {v1 : Int32} {v2 : Int32} (h : f5_hasFreePart_b23 v1 v2 S = some q) {H : Heap} {locs : List Loc} {ls : Array Slot} (hG : gd_W (dC, dI) A s (wd_O cI a S) H locs) (hl : lv_has ls 3 [(0, .ref (a 0)), (1, .int v1), (2, .int v2)]) : W p l e RM5_hasFreePart s m args below meth c H locs 0 0 (MQ below (qi_W (dC, dI) [(cI, .int)] A q (wd_O cI a S)) args s 0 0 A) (F0 m 23 ls []) := by
  unfold f5_hasFreePart_b23 at h
  obtain ⟨hx, hb, hr, hts, hown, hlocks, hml⟩ := id C
  refine lv_iload_n hx hb dX5_hasFreePart_23 rfl (lv_at hl 2 rfl) ?_
  refine lv_iconst (v := (2 : Int32)) hx hb dX5_hasFreePart_24 (by decide) ?_
  refine lv_icmp_ne (tgt := 45) hx hb dX5_hasFreePart_25 (by decide) (fun hc => ?_) (fun hc => ?_)
  · have h := fo_if h hc
    refine lv_iconst (v := (0 : Int32)) hx hb dX5_hasFreePart_45 (by decide) ?_
    exact gr_z hx hb hr hlocks hK hG (Option.some.inj h) rfl dX5_hasFreePart_46
  · have h := fo_it h hc
    refine lv_aload_n hx hb dX5_hasFreePart_28 rfl (lv_at hl 0 rfl) ?_
    refine va_get (D := (dC, dI)) (ci := 4) (v := .ref (a 3)) (C := RX5) (T := TX5) (N := 2) hx hb hts inlX5 hown hK hG.1 0 rfl rfl 1 (by decide) (hts (Cond.fieldLink RX5 20 "DiceRoads$Roads" "second" "LDiceRoads$Row;") wq_57) (fun _ h9 => h9) rfl dX5_hasFreePart_29 ?_
    refine lv_iload_n hx hb dX5_hasFreePart_32 rfl (lv_at hl 1 rfl) ?_
    obtain ⟨q33, hq33, h⟩ := fo_bd_some h
    refine gc_iV (b := a 3) (C := RX6) (As := [.int v1]) (rest := []) (wc := (wd_R cI (fun k => a (k + 3)) (-6) 20 (S 1))) (w1 := (wd_R cI (fun k => a (k + 3)) (-6) 20 (S 1))) (ci := 5) (q0 := 0) ⟨hx, hb, hml, hown, hts⟩ (c6_at l (a := (fun k => a (k + 3))) (v := (-6)) (z := 20) hq33) (cwV 1 hts gv_X5_27 rfl rfl rfl hd6_at ⟨Nat.le_of_ble_eq_true rfl, Nat.le_of_ble_eq_true rfl⟩) hK [0] rfl hA hG [3, 4] rfl rfl rfl rfl rfl rfl hl.1 rfl (Nat.le_of_ble_eq_true rfl) dX5_hasFreePart_33 ⟨Nat.zero_le _, Nat.zero_le _⟩ (fun H locs hG9 => ?_)
    have hG : gd_W (dC, dI) A s (wd_O cI a S) H locs := hG9
    refine lv_bipush (v := (-6 : Int32)) hx hb dX5_hasFreePart_36 (by decide) ?_
    refine lv_icmp_ne (tgt := 45) hx hb dX5_hasFreePart_38 (by decide) (fun hc => ?_) (fun hc => ?_)
    · have h := fo_if h hc
      refine lv_iconst (v := (0 : Int32)) hx hb dX5_hasFreePart_45 (by decide) ?_
      exact gr_z hx hb hr hlocks hK hG (Option.some.inj h) rfl dX5_hasFreePart_46
    · have h := fo_it h hc
      exact w5_hasFreePart_b41 C hK hA h hG (lv_sub hl [] rfl)
set_option maxRecDepth 100000 in
set_option maxHeartbeats 4000000 in
theorem w5_hasFreePart (C : cx_M p s m args meth c RX5 cX5_hasFreePart (some .boolean) 3) (hK : va_K (dC, dI) vwCl [(cI, .int)] s) (hA : ∀ q, s.heap.size ≤ q → A q) {a : Nat → Nat} {q : Int32} {v1 : Int32} {S : ms_T} (h : f5_hasFreePart v1 S = some q) {H : Heap} {locs : List Loc} {ls : Array Slot} (hG : gd_W (dC, dI) A s (wd_O cI a S) H locs) (hl : lv_has ls 3 [(0, .ref (a 0)), (1, .int v1)]) : W p l e RM5_hasFreePart s m args below meth c H locs 0 0 (MQ below (qi_W (dC, dI) [(cI, .int)] A q (wd_O cI a S)) args s 0 0 A) (F0 m 0 ls []) := by
  unfold f5_hasFreePart at h
  obtain ⟨hx, hb, hr, hts, hown, hlocks, hml⟩ := id C
  refine lv_iload_n hx hb dX5_hasFreePart_0 rfl (lv_at hl 1 rfl) ?_
  obtain ⟨q1, hq1, h⟩ := fo_bd_some h
  refine gc_iS (As := [.int v1]) (rest := []) (wc := ([] : va_W)) (w1 := ([] : va_W)) ⟨hx, hb, hml, hown, hts⟩ (c5_sortOf l (a := a) hq1) (va_cwS 1 hts gv_X5_31 rfl rfl rfl hd5_sortOf ⟨Nat.le_of_ble_eq_true rfl, Nat.le_of_ble_eq_true rfl⟩) hK [] rfl hA hG [] rfl rfl rfl rfl hl.1 rfl (Nat.le_of_ble_eq_true rfl) dX5_hasFreePart_1 ⟨Nat.zero_le _, Nat.zero_le _⟩ (fun H locs hG9 => ?_)
  have hG : gd_W (dC, dI) A s (wd_O cI a S) H locs := hG9
  refine lv_istore_n (lv' := [(2, .int q1), (0, .ref (a 0)), (1, .int v1)]) hx hb dX5_hasFreePart_4 rfl hl (by decide) rfl (fun ls hl => ?_)
  refine lv_iload_n hx hb dX5_hasFreePart_5 rfl (lv_at hl 0 rfl) ?_
  refine lv_iconst (v := (1 : Int32)) hx hb dX5_hasFreePart_6 (by decide) ?_
  refine lv_icmp_ne (tgt := 23) hx hb dX5_hasFreePart_7 (by decide) (fun hc => ?_) (fun hc => ?_)
  · have h := fo_if h hc
    exact w5_hasFreePart_b23 C hK hA h hG (lv_sub hl [1, 2, 0] rfl)
  · have h := fo_it h hc
    refine lv_aload_n hx hb dX5_hasFreePart_10 rfl (lv_at hl 1 rfl) ?_
    refine va_get (D := (dC, dI)) (ci := 4) (v := .ref (a 1)) (C := RX5) (T := TX5) (N := 2) hx hb hts inlX5 hown hK hG.1 0 rfl rfl 0 (by decide) (hts (Cond.fieldLink RX5 14 "DiceRoads$Roads" "first" "LDiceRoads$Row;") wq_56) (fun _ h9 => h9) rfl dX5_hasFreePart_11 ?_
    refine lv_iload_n hx hb dX5_hasFreePart_14 rfl (lv_at hl 2 rfl) ?_
    obtain ⟨q15, hq15, h⟩ := fo_bd_some h
    refine gc_iV (b := a 1) (C := RX6) (As := [.int v1]) (rest := []) (wc := (wd_R cI (fun k => a (k + 1)) (-6) 20 (S 0))) (w1 := (wd_R cI (fun k => a (k + 1)) (-6) 20 (S 0))) (ci := 5) (q0 := 0) ⟨hx, hb, hml, hown, hts⟩ (c6_at l (a := (fun k => a (k + 1))) (v := (-6)) (z := 20) hq15) (cwV 1 hts gv_X5_27 rfl rfl rfl hd6_at ⟨Nat.le_of_ble_eq_true rfl, Nat.le_of_ble_eq_true rfl⟩) hK [0] rfl hA hG [1, 2] rfl rfl rfl rfl rfl rfl hl.1 rfl (Nat.le_of_ble_eq_true rfl) dX5_hasFreePart_15 ⟨Nat.zero_le _, Nat.zero_le _⟩ (fun H locs hG9 => ?_)
    have hG : gd_W (dC, dI) A s (wd_O cI a S) H locs := hG9
    refine lv_bipush (v := (-6 : Int32)) hx hb dX5_hasFreePart_18 (by decide) ?_
    refine lv_icmp_eq (tgt := 41) hx hb dX5_hasFreePart_20 (by decide) (fun hc => ?_) (fun hc => ?_)
    · have h := fo_it h hc
      exact w5_hasFreePart_b41 C hK hA h hG (lv_sub hl [] rfl)
    · have h := fo_if h hc
      exact w5_hasFreePart_b23 C hK hA h hG (lv_sub hl [1, 2, 0] rfl)
set_option maxRecDepth 100000 in
set_option maxHeartbeats 4000000 in
theorem c5_hasFreePart (l : Launch) {dC : Nat → ClassId} {dI : Nat → Nat → Nat} {cI : ClassId} {a : Nat → Nat} {v1 : Int32} {S : ms_T} {q : Int32} (h : f5_hasFreePart v1 S = some q) : mi_M l yX5_hasFreePart wm5_hasFreePart RM5_hasFreePart (dC, dI) [(cI, .int)] [.ref (a 0), .int v1] (wd_O cI a S) q (wd_O cI a S) := by
  intro sz
  refine Met.ofW (cc := cX5_hasFreePart) (maxL := 3) (ret := (some .boolean)) (by decide) rfl ?_
  intro p e s m args below meth c s₁ B hml hv
  obtain ⟨rfl, hsz, hP, hK, hD0⟩ := hv
  subst hsz
  have hl := lv_entry ([.ref (a 0), .int v1] : List Value) (n := 3) (Nat.le_of_ble_eq_true rfl)
  rw [lg_entry_eq]
  generalize (lg_sl ([.ref (a 0), .int v1] : List Value) ++ List.replicate (3 - (lg_sl ([.ref (a 0), .int v1] : List Value)).length) Slot.unset).toArray = ls at hl ⊢
  exact w5_hasFreePart (a := a) ⟨B.exec, B.bytes, B.returns, fun w hw => atoms_spec (ws := wm5_hasFreePart) B.pre w (List.mem_cons_of_mem _ hw), findClass_of_methodNamed B.named, B.notSynchronized, hml⟩ hK (fun _ h => Or.inr h) h ⟨hP, hD0.self, va_S.rf⟩ hl
end
/-! ## DiceRoads$Roads.giveFreePart(II)V -/
section
variable {p : Program} {l : Launch} {e : Env} {s : State} {m : MethodId} {args : Array Value} {below : List Frame} {meth : Method} {c : Code} {dC : Nat → ClassId} {dI : Nat → Nat → Nat} {cI : ClassId} {A : Nat → Prop}
set_option maxRecDepth 100000 in
set_option maxHeartbeats 4000000 in
theorem w5_giveFreePart (C : cx_M p s m args meth c RX5 cX5_giveFreePart none 3) (hK : va_K (dC, dI) vwCl [(cI, .int)] s) (hA : ∀ q, s.heap.size ≤ q → A q) {a : Nat → Nat} {q : ms_T} {v1 : Int32} {v2 : Int32} {S : ms_T} (h : f5_giveFreePart v1 v2 S = some q) {H : Heap} {locs : List Loc} {ls : Array Slot} (hG : gd_W (dC, dI) A s (wd_O cI a S) H locs) (hl : lv_has ls 3 [(0, .ref (a 0)), (1, .int v1), (2, .int v2)]) : W p l e RM5_giveFreePart s m args below meth c H locs 0 0 (MQ below (qv_W (dC, dI) [(cI, .int)] A (wd_O cI a q)) args s 0 0 A) (F0 m 0 ls []) := by
  unfold f5_giveFreePart at h
  obtain ⟨hx, hb, hr, hts, hown, hlocks, hml⟩ := id C
  refine lv_aload_n hx hb dX5_giveFreePart_0 rfl (lv_at hl 0 rfl) ?_
  refine va_get (D := (dC, dI)) (ci := 4) (v := .ref (a 1)) (C := RX5) (T := TX5) (N := 2) hx hb hts inlX5 hown hK hG.1 0 rfl rfl 0 (by decide) (hts (Cond.fieldLink RX5 14 "DiceRoads$Roads" "first" "LDiceRoads$Row;") wq_56) (fun _ h9 => h9) rfl dX5_giveFreePart_1 ?_
  refine lv_iload_n hx hb dX5_giveFreePart_4 rfl (lv_at hl 1 rfl) ?_
  obtain ⟨q5, hq5, h⟩ := fo_bd_some h
  refine gc_iV (b := a 1) (C := RX6) (As := [.int v1]) (rest := []) (wc := (wd_R cI (fun k => a (k + 1)) (-6) 20 (S 0))) (w1 := (wd_R cI (fun k => a (k + 1)) (-6) 20 (S 0))) (ci := 5) (q0 := 0) ⟨hx, hb, hml, hown, hts⟩ (c6_at l (a := (fun k => a (k + 1))) (v := (-6)) (z := 20) hq5) (cwV 1 hts gv_X5_27 rfl rfl rfl hd6_at ⟨Nat.le_of_ble_eq_true rfl, Nat.le_of_ble_eq_true rfl⟩) hK [0] rfl hA hG [1, 2] rfl rfl rfl rfl rfl rfl hl.1 rfl (Nat.le_of_ble_eq_true rfl) dX5_giveFreePart_5 ⟨Nat.zero_le _, Nat.zero_le _⟩ (fun H locs hG9 => ?_)
  have hG : gd_W (dC, dI) A s (wd_O cI a S) H locs := hG9
  refine lv_bipush (v := (-6 : Int32)) hx hb dX5_giveFreePart_8 (by decide) ?_
  refine lv_icmp_ne (tgt := 25) hx hb dX5_giveFreePart_10 (by decide) (fun hc => ?_) (fun hc => ?_)
  · have h := fo_if h hc
    refine lv_aload_n hx hb dX5_giveFreePart_25 rfl (lv_at hl 0 rfl) ?_
    refine va_get (D := (dC, dI)) (ci := 4) (v := .ref (a 3)) (C := RX5) (T := TX5) (N := 2) hx hb hts inlX5 hown hK hG.1 0 rfl rfl 1 (by decide) (hts (Cond.fieldLink RX5 20 "DiceRoads$Roads" "second" "LDiceRoads$Row;") wq_57) (fun _ h9 => h9) rfl dX5_giveFreePart_26 ?_
    refine lv_iload_n hx hb dX5_giveFreePart_29 rfl (lv_at hl 1 rfl) ?_
    refine lv_iload_n hx hb dX5_giveFreePart_30 rfl (lv_at hl 2 rfl) ?_
    obtain ⟨q31, hq31, h⟩ := fo_bd_some h
    refine gc_vV (b := a 3) (C := RX6) (As := [.int v1, .int v2]) (rest := []) (wc := (wd_R cI (fun k => a (k + 3)) (-6) 20 (S 1))) (w1 := (wd_R cI (fun k => a (k + 3)) (-6) 20 q31)) (ci := 5) (q0 := 0) ⟨hx, hb, hml, hown, hts⟩ (c6_write l (a := (fun k => a (k + 3))) (v := (-6)) (z := 20) hq31) (cwV 2 hts gv_X5_34 rfl rfl rfl hd6_write ⟨Nat.le_of_ble_eq_true rfl, Nat.le_of_ble_eq_true rfl⟩) hK [0] rfl hA hG [3, 4] rfl rfl rfl rfl rfl rfl hl.1 rfl (Nat.le_of_ble_eq_true rfl) dX5_giveFreePart_31 ⟨Nat.zero_le _, Nat.zero_le _⟩ (fun H locs hG9 => ?_)
    have hG : gd_W (dC, dI) A s (wd_O cI a (ms_set S 1 q31)) H locs := hG9
    obtain rfl := Option.some.inj h
    exact gr_v hx hb hr hlocks hK hG dX5_giveFreePart_34
  · have h := fo_it h hc
    refine lv_aload_n hx hb dX5_giveFreePart_13 rfl (lv_at hl 0 rfl) ?_
    refine va_get (D := (dC, dI)) (ci := 4) (v := .ref (a 1)) (C := RX5) (T := TX5) (N := 2) hx hb hts inlX5 hown hK hG.1 0 rfl rfl 0 (by decide) (hts (Cond.fieldLink RX5 14 "DiceRoads$Roads" "first" "LDiceRoads$Row;") wq_56) (fun _ h9 => h9) rfl dX5_giveFreePart_14 ?_
    refine lv_iload_n hx hb dX5_giveFreePart_17 rfl (lv_at hl 1 rfl) ?_
    refine lv_iload_n hx hb dX5_giveFreePart_18 rfl (lv_at hl 2 rfl) ?_
    obtain ⟨q19, hq19, h⟩ := fo_bd_some h
    refine gc_vV (b := a 1) (C := RX6) (As := [.int v1, .int v2]) (rest := []) (wc := (wd_R cI (fun k => a (k + 1)) (-6) 20 (S 0))) (w1 := (wd_R cI (fun k => a (k + 1)) (-6) 20 q19)) (ci := 5) (q0 := 0) ⟨hx, hb, hml, hown, hts⟩ (c6_write l (a := (fun k => a (k + 1))) (v := (-6)) (z := 20) hq19) (cwV 2 hts gv_X5_34 rfl rfl rfl hd6_write ⟨Nat.le_of_ble_eq_true rfl, Nat.le_of_ble_eq_true rfl⟩) hK [0] rfl hA hG [1, 2] rfl rfl rfl rfl rfl rfl hl.1 rfl (Nat.le_of_ble_eq_true rfl) dX5_giveFreePart_19 ⟨Nat.zero_le _, Nat.zero_le _⟩ (fun H locs hG9 => ?_)
    have hG : gd_W (dC, dI) A s (wd_O cI a (ms_set S 0 q19)) H locs := hG9
    refine lv_goto (tgt := 34) hx hb dX5_giveFreePart_22 (by decide) ?_
    obtain rfl := Option.some.inj h
    exact gr_v hx hb hr hlocks hK hG dX5_giveFreePart_34
set_option maxRecDepth 100000 in
set_option maxHeartbeats 4000000 in
theorem c5_giveFreePart (l : Launch) {dC : Nat → ClassId} {dI : Nat → Nat → Nat} {cI : ClassId} {a : Nat → Nat} {v1 : Int32} {v2 : Int32} {S : ms_T} {q : ms_T} (h : f5_giveFreePart v1 v2 S = some q) : mv_M l yX5_giveFreePart wm5_giveFreePart RM5_giveFreePart (dC, dI) [(cI, .int)] [.ref (a 0), .int v1, .int v2] (wd_O cI a S) (wd_O cI a q) := by
  intro sz
  refine Met.ofW (cc := cX5_giveFreePart) (maxL := 3) (ret := none) (by decide) rfl ?_
  intro p e s m args below meth c s₁ B hml hv
  obtain ⟨rfl, hsz, hP, hK, hD0⟩ := hv
  subst hsz
  have hl := lv_entry ([.ref (a 0), .int v1, .int v2] : List Value) (n := 3) (Nat.le_of_ble_eq_true rfl)
  rw [lg_entry_eq]
  generalize (lg_sl ([.ref (a 0), .int v1, .int v2] : List Value) ++ List.replicate (3 - (lg_sl ([.ref (a 0), .int v1, .int v2] : List Value)).length) Slot.unset).toArray = ls at hl ⊢
  exact w5_giveFreePart (a := a) ⟨B.exec, B.bytes, B.returns, fun w hw => atoms_spec (ws := wm5_giveFreePart) B.pre w (List.mem_cons_of_mem _ hw), findClass_of_methodNamed B.named, B.notSynchronized, hml⟩ hK (fun _ h => Or.inr h) h ⟨hP, hD0.self, va_S.rf⟩ hl
end
/-! ## DiceRoads$Roads.handOn(III)V -/
section
variable {p : Program} {l : Launch} {e : Env} {s : State} {m : MethodId} {args : Array Value} {below : List Frame} {meth : Method} {c : Code} {dC : Nat → ClassId} {dI : Nat → Nat → Nat} {cI : ClassId} {A : Nat → Prop}
set_option maxRecDepth 100000 in
set_option maxHeartbeats 4000000 in
theorem w5_handOn_b43 (C : cx_M p s m args meth c RX5 cX5_handOn none 6) (hK : va_K (dC, dI) vwCl [(cI, .int)] s) (hA : ∀ q, s.heap.size ≤ q → A q) {a : Nat → Nat} {q : ms_T} {v1 : Int32} {v3 : Int32} {v4 : Int32} {t0 : Int32} {S : ms_T} (h : f5_handOn_b43 v1 v3 v4 t0 S = some q) {H : Heap} {locs : List Loc} {ls : Array Slot} (hG : gd_W (dC, dI) A s (wd_O cI a S) H locs) (hl : lv_has ls 6 [(0, .ref (a 0)), (1, .int v1), (3, .int v3), (4, .int v4)]) : W p l e RM5_handOn s m args below meth c H locs 0 0 (MQ below (qv_W (dC, dI) [(cI, .int)] A (wd_O cI a q)) args s 0 0 A) (F0 m 43 ls [.int t0]) := by
  unfold f5_handOn_b43 at h
  obtain ⟨hx, hb, hr, hts, hown, hlocks, hml⟩ := id C
  refine lv_istore (lv' := [(5, .int t0), (0, .ref (a 0)), (1, .int v1), (3, .int v3), (4, .int v4)]) hx hb dX5_handOn_43 hl (by decide) rfl (fun ls hl => ?_)
  refine lv_iload hx hb dX5_handOn_45 (lv_at hl 0 rfl) ?_
  refine lv_iload_n hx hb dX5_handOn_47 rfl (lv_at hl 3 rfl) ?_
  refine lv_icmp_ne (tgt := 73) hx hb dX5_handOn_48 (by decide) (fun hc => ?_) (fun hc => ?_)
  · have h := fo_if h hc
    refine lv_iload hx hb dX5_handOn_73 (lv_at hl 4 rfl) ?_
    refine lv_if_eq (tgt := 90) hx hb dX5_handOn_75 (by decide) (fun hc => ?_) (fun hc => ?_)
    · have h := fo_it h hc
      refine lv_aload_n hx hb dX5_handOn_90 rfl (lv_at hl 1 rfl) ?_
      refine va_get (D := (dC, dI)) (ci := 4) (v := .ref (a 3)) (C := RX5) (T := TX5) (N := 2) hx hb hts inlX5 hown hK hG.1 0 rfl rfl 1 (by decide) (hts (Cond.fieldLink RX5 20 "DiceRoads$Roads" "second" "LDiceRoads$Row;") wq_57) (fun _ h9 => h9) rfl dX5_handOn_91 ?_
      refine lv_iload_n hx hb dX5_handOn_94 rfl (lv_at hl 2 rfl) ?_
      refine lv_iload_n hx hb dX5_handOn_95 rfl (lv_at hl 3 rfl) ?_
      obtain ⟨q96, hq96, h⟩ := fo_bd_some h
      refine gc_vV (b := a 3) (C := RX6) (As := [.int v1, .int v3]) (rest := []) (wc := (wd_R cI (fun k => a (k + 3)) (-6) 20 (S 1))) (w1 := (wd_R cI (fun k => a (k + 3)) (-6) 20 q96)) (ci := 5) (q0 := 0) ⟨hx, hb, hml, hown, hts⟩ (c6_write l (a := (fun k => a (k + 3))) (v := (-6)) (z := 20) hq96) (cwV 2 hts gv_X5_34 rfl rfl rfl hd6_write ⟨Nat.le_of_ble_eq_true rfl, Nat.le_of_ble_eq_true rfl⟩) hK [0] rfl hA hG [3, 4] rfl rfl rfl rfl rfl rfl hl.1 rfl (Nat.le_of_ble_eq_true rfl) dX5_handOn_96 ⟨Nat.zero_le _, Nat.zero_le _⟩ (fun H locs hG9 => ?_)
      have hG : gd_W (dC, dI) A s (wd_O cI a (ms_set S 1 q96)) H locs := hG9
      obtain rfl := Option.some.inj h
      exact gr_v hx hb hr hlocks hK hG dX5_handOn_99
    · have h := fo_if h hc
      refine lv_aload_n hx hb dX5_handOn_78 rfl (lv_at hl 1 rfl) ?_
      refine va_get (D := (dC, dI)) (ci := 4) (v := .ref (a 1)) (C := RX5) (T := TX5) (N := 2) hx hb hts inlX5 hown hK hG.1 0 rfl rfl 0 (by decide) (hts (Cond.fieldLink RX5 14 "DiceRoads$Roads" "first" "LDiceRoads$Row;") wq_56) (fun _ h9 => h9) rfl dX5_handOn_79 ?_
      refine lv_iload_n hx hb dX5_handOn_82 rfl (lv_at hl 2 rfl) ?_
      refine lv_iload_n hx hb dX5_handOn_83 rfl (lv_at hl 3 rfl) ?_
      obtain ⟨q84, hq84, h⟩ := fo_bd_some h
      refine gc_vV (b := a 1) (C := RX6) (As := [.int v1, .int v3]) (rest := []) (wc := (wd_R cI (fun k => a (k + 1)) (-6) 20 (S 0))) (w1 := (wd_R cI (fun k => a (k + 1)) (-6) 20 q84)) (ci := 5) (q0 := 0) ⟨hx, hb, hml, hown, hts⟩ (c6_write l (a := (fun k => a (k + 1))) (v := (-6)) (z := 20) hq84) (cwV 2 hts gv_X5_34 rfl rfl rfl hd6_write ⟨Nat.le_of_ble_eq_true rfl, Nat.le_of_ble_eq_true rfl⟩) hK [0] rfl hA hG [1, 2] rfl rfl rfl rfl rfl rfl hl.1 rfl (Nat.le_of_ble_eq_true rfl) dX5_handOn_84 ⟨Nat.zero_le _, Nat.zero_le _⟩ (fun H locs hG9 => ?_)
      have hG : gd_W (dC, dI) A s (wd_O cI a (ms_set S 0 q84)) H locs := hG9
      refine lv_goto (tgt := 99) hx hb dX5_handOn_87 (by decide) ?_
      obtain rfl := Option.some.inj h
      exact gr_v hx hb hr hlocks hK hG dX5_handOn_99
  · have h := fo_it h hc
    refine lv_aload_n hx hb dX5_handOn_51 rfl (lv_at hl 1 rfl) ?_
    refine va_get (D := (dC, dI)) (ci := 4) (v := .ref (a 1)) (C := RX5) (T := TX5) (N := 2) hx hb hts inlX5 hown hK hG.1 0 rfl rfl 0 (by decide) (hts (Cond.fieldLink RX5 14 "DiceRoads$Roads" "first" "LDiceRoads$Row;") wq_56) (fun _ h9 => h9) rfl dX5_handOn_52 ?_
    refine lv_iload_n hx hb dX5_handOn_55 rfl (lv_at hl 2 rfl) ?_
    refine lv_iload_n hx hb dX5_handOn_56 rfl (lv_at hl 3 rfl) ?_
    obtain ⟨q57, hq57, h⟩ := fo_bd_some h
    refine gc_vV (b := a 1) (C := RX6) (As := [.int v1, .int v3]) (rest := []) (wc := (wd_R cI (fun k => a (k + 1)) (-6) 20 (S 0))) (w1 := (wd_R cI (fun k => a (k + 1)) (-6) 20 q57)) (ci := 5) (q0 := 0) ⟨hx, hb, hml, hown, hts⟩ (c6_write l (a := (fun k => a (k + 1))) (v := (-6)) (z := 20) hq57) (cwV 2 hts gv_X5_34 rfl rfl rfl hd6_write ⟨Nat.le_of_ble_eq_true rfl, Nat.le_of_ble_eq_true rfl⟩) hK [0] rfl hA hG [1, 2] rfl rfl rfl rfl rfl rfl hl.1 rfl (Nat.le_of_ble_eq_true rfl) dX5_handOn_57 ⟨Nat.zero_le _, Nat.zero_le _⟩ (fun H locs hG9 => ?_)
    have hG : gd_W (dC, dI) A s (wd_O cI a (ms_set S 0 q57)) H locs := hG9
    refine lv_aload_n hx hb dX5_handOn_60 rfl (lv_at hl 1 rfl) ?_
    refine va_get (D := (dC, dI)) (ci := 4) (v := .ref (a 3)) (C := RX5) (T := TX5) (N := 2) hx hb hts inlX5 hown hK hG.1 0 rfl rfl 1 (by decide) (hts (Cond.fieldLink RX5 20 "DiceRoads$Roads" "second" "LDiceRoads$Row;") wq_57) (fun _ h9 => h9) rfl dX5_handOn_61 ?_
    refine lv_iload_n hx hb dX5_handOn_64 rfl (lv_at hl 2 rfl) ?_
    refine lv_bipush (v := (-6 : Int32)) hx hb dX5_handOn_65 (by decide) ?_
    obtain ⟨q67, hq67, h⟩ := fo_bd_some h
    refine gc_vV (b := a 3) (C := RX6) (As := [.int v1, .int (-6 : Int32)]) (rest := []) (wc := (wd_R cI (fun k => a (k + 3)) (-6) 20 ((ms_set S 0 q57) 1))) (w1 := (wd_R cI (fun k => a (k + 3)) (-6) 20 q67)) (ci := 5) (q0 := 0) ⟨hx, hb, hml, hown, hts⟩ (c6_write l (a := (fun k => a (k + 3))) (v := (-6)) (z := 20) hq67) (cwV 2 hts gv_X5_34 rfl rfl rfl hd6_write ⟨Nat.le_of_ble_eq_true rfl, Nat.le_of_ble_eq_true rfl⟩) hK [0] rfl hA hG [3, 4] rfl rfl rfl rfl rfl rfl hl.1 rfl (Nat.le_of_ble_eq_true rfl) dX5_handOn_67 ⟨Nat.zero_le _, Nat.zero_le _⟩ (fun H locs hG9 => ?_)
    have hG : gd_W (dC, dI) A s (wd_O cI a (ms_set (ms_set S 0 q57) 1 q67)) H locs := hG9
    refine lv_goto (tgt := 99) hx hb dX5_handOn_70 (by decide) ?_
    obtain rfl := Option.some.inj h
    exact gr_v hx hb hr hlocks hK hG dX5_handOn_99
set_option maxRecDepth 100000 in
set_option maxHeartbeats 4000000 in
theorem w5_handOn_b17 (C : cx_M p s m args meth c RX5 cX5_handOn none 6) (hK : va_K (dC, dI) vwCl [(cI, .int)] s) (hA : ∀ q, s.heap.size ≤ q → A q) {a : Nat → Nat} {q : ms_T} {v1 : Int32} {v3 : Int32} {t0 : Int32} {S : ms_T} (h : f5_handOn_b17 v1 v3 t0 S = some q) {H : Heap} {locs : List Loc} {ls : Array Slot} (hG : gd_W (dC, dI) A s (wd_O cI a S) H locs) (hl : lv_has ls 6 [(0, .ref (a 0)), (1, .int v1), (3, .int v3)]) : W p l e RM5_handOn s m args below meth c H locs 0 0 (MQ below (qv_W (dC, dI) [(cI, .int)] A (wd_O cI a q)) args s 0 0 A) (F0 m 17 ls [.int t0]) := by
  unfold f5_handOn_b17 at h
  obtain ⟨hx, hb, hr, hts, hown, hlocks, hml⟩ := id C
  refine lv_istore (lv' := [(4, .int t0), (0, .ref (a 0)), (1, .int v1), (3, .int v3)]) hx hb dX5_handOn_17 hl (by decide) rfl (fun ls hl => ?_)
  refine lv_iload hx hb dX5_handOn_19 (lv_at hl 0 rfl) ?_
  refine lv_if_eq (tgt := 35) hx hb dX5_handOn_21 (by decide) (fun hc => ?_) (fun hc => ?_)
  · have h := fo_it h hc
    refine lv_aload_n hx hb dX5_handOn_35 rfl (lv_at hl 1 rfl) ?_
    refine va_get (D := (dC, dI)) (ci := 4) (v := .ref (a 1)) (C := RX5) (T := TX5) (N := 2) hx hb hts inlX5 hown hK hG.1 0 rfl rfl 0 (by decide) (hts (Cond.fieldLink RX5 14 "DiceRoads$Roads" "first" "LDiceRoads$Row;") wq_56) (fun _ h9 => h9) rfl dX5_handOn_36 ?_
    refine lv_iload_n hx hb dX5_handOn_39 rfl (lv_at hl 2 rfl) ?_
    obtain ⟨q40, hq40, h⟩ := fo_bd_some h
    refine gc_iV (b := a 1) (C := RX6) (As := [.int v1]) (rest := []) (wc := (wd_R cI (fun k => a (k + 1)) (-6) 20 (S 0))) (w1 := (wd_R cI (fun k => a (k + 1)) (-6) 20 (S 0))) (ci := 5) (q0 := 0) ⟨hx, hb, hml, hown, hts⟩ (c6_at l (a := (fun k => a (k + 1))) (v := (-6)) (z := 20) hq40) (cwV 1 hts gv_X5_27 rfl rfl rfl hd6_at ⟨Nat.le_of_ble_eq_true rfl, Nat.le_of_ble_eq_true rfl⟩) hK [0] rfl hA hG [1, 2] rfl rfl rfl rfl rfl rfl hl.1 rfl (Nat.le_of_ble_eq_true rfl) dX5_handOn_40 ⟨Nat.zero_le _, Nat.zero_le _⟩ (fun H locs hG9 => ?_)
    have hG : gd_W (dC, dI) A s (wd_O cI a S) H locs := hG9
    exact w5_handOn_b43 C hK hA h hG (lv_sub hl [1, 2, 3, 0] rfl)
  · have h := fo_if h hc
    refine lv_aload_n hx hb dX5_handOn_24 rfl (lv_at hl 1 rfl) ?_
    refine va_get (D := (dC, dI)) (ci := 4) (v := .ref (a 3)) (C := RX5) (T := TX5) (N := 2) hx hb hts inlX5 hown hK hG.1 0 rfl rfl 1 (by decide) (hts (Cond.fieldLink RX5 20 "DiceRoads$Roads" "second" "LDiceRoads$Row;") wq_57) (fun _ h9 => h9) rfl dX5_handOn_25 ?_
    refine lv_iload_n hx hb dX5_handOn_28 rfl (lv_at hl 2 rfl) ?_
    obtain ⟨q29, hq29, h⟩ := fo_bd_some h
    refine gc_iV (b := a 3) (C := RX6) (As := [.int v1]) (rest := []) (wc := (wd_R cI (fun k => a (k + 3)) (-6) 20 (S 1))) (w1 := (wd_R cI (fun k => a (k + 3)) (-6) 20 (S 1))) (ci := 5) (q0 := 0) ⟨hx, hb, hml, hown, hts⟩ (c6_at l (a := (fun k => a (k + 3))) (v := (-6)) (z := 20) hq29) (cwV 1 hts gv_X5_27 rfl rfl rfl hd6_at ⟨Nat.le_of_ble_eq_true rfl, Nat.le_of_ble_eq_true rfl⟩) hK [0] rfl hA hG [3, 4] rfl rfl rfl rfl rfl rfl hl.1 rfl (Nat.le_of_ble_eq_true rfl) dX5_handOn_29 ⟨Nat.zero_le _, Nat.zero_le _⟩ (fun H locs hG9 => ?_)
    have hG : gd_W (dC, dI) A s (wd_O cI a S) H locs := hG9
    refine lv_goto (tgt := 43) hx hb dX5_handOn_32 (by decide) ?_
    exact w5_handOn_b43 C hK hA h hG (lv_sub hl [1, 2, 3, 0] rfl)
set_option maxRecDepth 100000 in
set_option maxHeartbeats 4000000 in
theorem w5_handOn (C : cx_M p s m args meth c RX5 cX5_handOn none 6) (hK : va_K (dC, dI) vwCl [(cI, .int)] s) (hA : ∀ q, s.heap.size ≤ q → A q) {a : Nat → Nat} {q : ms_T} {v1 : Int32} {v2 : Int32} {v3 : Int32} {S : ms_T} (h : f5_handOn v1 v2 v3 S = some q) {H : Heap} {locs : List Loc} {ls : Array Slot} (hG : gd_W (dC, dI) A s (wd_O cI a S) H locs) (hl : lv_has ls 6 [(0, .ref (a 0)), (1, .int v1), (2, .int v2), (3, .int v3)]) : W p l e RM5_handOn s m args below meth c H locs 0 0 (MQ below (qv_W (dC, dI) [(cI, .int)] A (wd_O cI a q)) args s 0 0 A) (F0 m 0 ls []) := by
  unfold f5_handOn at h
  obtain ⟨hx, hb, hr, hts, hown, hlocks, hml⟩ := id C
  refine lv_aload_n hx hb dX5_handOn_0 rfl (lv_at hl 0 rfl) ?_
  refine va_get (D := (dC, dI)) (ci := 4) (v := .ref (a 1)) (C := RX5) (T := TX5) (N := 2) hx hb hts inlX5 hown hK hG.1 0 rfl rfl 0 (by decide) (hts (Cond.fieldLink RX5 14 "DiceRoads$Roads" "first" "LDiceRoads$Row;") wq_56) (fun _ h9 => h9) rfl dX5_handOn_1 ?_
  refine lv_iload_n hx hb dX5_handOn_4 rfl (lv_at hl 1 rfl) ?_
  obtain ⟨q5, hq5, h⟩ := fo_bd_some h
  refine gc_iV (b := a 1) (C := RX6) (As := [.int v1]) (rest := []) (wc := (wd_R cI (fun k => a (k + 1)) (-6) 20 (S 0))) (w1 := (wd_R cI (fun k => a (k + 1)) (-6) 20 (S 0))) (ci := 5) (q0 := 0) ⟨hx, hb, hml, hown, hts⟩ (c6_at l (a := (fun k => a (k + 1))) (v := (-6)) (z := 20) hq5) (cwV 1 hts gv_X5_27 rfl rfl rfl hd6_at ⟨Nat.le_of_ble_eq_true rfl, Nat.le_of_ble_eq_true rfl⟩) hK [0] rfl hA hG [1, 2] rfl rfl rfl rfl rfl rfl hl.1 rfl (Nat.le_of_ble_eq_true rfl) dX5_handOn_5 ⟨Nat.zero_le _, Nat.zero_le _⟩ (fun H locs hG9 => ?_)
  have hG : gd_W (dC, dI) A s (wd_O cI a S) H locs := hG9
  refine lv_iload_n hx hb dX5_handOn_8 rfl (lv_at hl 2 rfl) ?_
  refine lv_icmp_ne (tgt := 16) hx hb dX5_handOn_9 (by decide) (fun hc => ?_) (fun hc => ?_)
  · have h := fo_if h hc
    refine lv_iconst (v := (0 : Int32)) hx hb dX5_handOn_16 (by decide) ?_
    exact w5_handOn_b17 C hK hA h hG (lv_sub hl [0, 1, 3] rfl)
  · have h := fo_it h hc
    refine lv_iconst (v := (1 : Int32)) hx hb dX5_handOn_12 (by decide) ?_
    refine lv_goto (tgt := 17) hx hb dX5_handOn_13 (by decide) ?_
    exact w5_handOn_b17 C hK hA h hG (lv_sub hl [0, 1, 3] rfl)
set_option maxRecDepth 100000 in
set_option maxHeartbeats 4000000 in
theorem c5_handOn (l : Launch) {dC : Nat → ClassId} {dI : Nat → Nat → Nat} {cI : ClassId} {a : Nat → Nat} {v1 : Int32} {v2 : Int32} {v3 : Int32} {S : ms_T} {q : ms_T} (h : f5_handOn v1 v2 v3 S = some q) : mv_M l yX5_handOn wm5_handOn RM5_handOn (dC, dI) [(cI, .int)] [.ref (a 0), .int v1, .int v2, .int v3] (wd_O cI a S) (wd_O cI a q) := by
  intro sz
  refine Met.ofW (cc := cX5_handOn) (maxL := 6) (ret := none) (by decide) rfl ?_
  intro p e s m args below meth c s₁ B hml hv
  obtain ⟨rfl, hsz, hP, hK, hD0⟩ := hv
  subst hsz
  have hl := lv_entry ([.ref (a 0), .int v1, .int v2, .int v3] : List Value) (n := 6) (Nat.le_of_ble_eq_true rfl)
  rw [lg_entry_eq]
  generalize (lg_sl ([.ref (a 0), .int v1, .int v2, .int v3] : List Value) ++ List.replicate (6 - (lg_sl ([.ref (a 0), .int v1, .int v2, .int v3] : List Value)).length) Slot.unset).toArray = ls at hl ⊢
  exact w5_handOn (a := a) ⟨B.exec, B.bytes, B.returns, fun w hw => atoms_spec (ws := wm5_handOn) B.pre w (List.mem_cons_of_mem _ hw), findClass_of_methodNamed B.named, B.notSynchronized, hml⟩ hK (fun _ h => Or.inr h) h ⟨hP, hD0.self, va_S.rf⟩ hl
end
/-! ## DiceRoads$Roads.lowestOf(I)I -/
section
variable {p : Program} {l : Launch} {e : Env} {s : State} {m : MethodId} {args : Array Value} {below : List Frame} {meth : Method} {c : Code} {dC : Nat → ClassId} {dI : Nat → Nat → Nat} {cI : ClassId} {A : Nat → Prop}
set_option maxRecDepth 100000 in
set_option maxHeartbeats 4000000 in
theorem w5_lowestOf_b2 (C : cx_M p s m args meth c RX5 cX5_lowestOf (some .int) 3) (hK : va_K (dC, dI) vwCl [(cI, .int)] s) (hA : ∀ q, s.heap.size ≤ q → A q) {a : Nat → Nat} {S : ms_T} {q : Int32} {rec2 : Int32 → Int32 → ms_T → Option Int32} (hrec2 : ∀ {v1 : Int32} {v2 : Int32} , rec2 v1 v2 S = some q → ∀ {H : Heap} {locs : List Loc} {ls : Array Slot}, gd_W (dC, dI) A s (wd_O cI a S) H locs → lv_has ls 3 [(0, .ref (a 0)), (1, .int v1), (2, .int v2)] → W p l e RM5_lowestOf s m args below meth c H locs 0 0 (MQ below (qi_W (dC, dI) [(cI, .int)] A q (wd_O cI a S)) args s 0 0 A) (F0 m 2 ls [])) {v1 : Int32} {v2 : Int32} (h : f5_lowestOf_b2 rec2 v1 v2 S = some q) {H : Heap} {locs : List Loc} {ls : Array Slot} (hG : gd_W (dC, dI) A s (wd_O cI a S) H locs) (hl : lv_has ls 3 [(0, .ref (a 0)), (1, .int v1), (2, .int v2)]) : W p l e RM5_lowestOf s m args below meth c H locs 0 0 (MQ below (qi_W (dC, dI) [(cI, .int)] A q (wd_O cI a S)) args s 0 0 A) (F0 m 2 ls []) := by
  unfold f5_lowestOf_b2 at h
  obtain ⟨hx, hb, hr, hts, hown, hlocks, hml⟩ := id C
  refine lv_iload_n hx hb dX5_lowestOf_2 rfl (lv_at hl 2 rfl) ?_
  refine lv_bipush (v := (20 : Int32)) hx hb dX5_lowestOf_3 (by decide) ?_
  refine lv_icmp_ge (tgt := 40) hx hb dX5_lowestOf_5 (by decide) (fun hc => ?_) (fun hc => ?_)
  · have h := fo_it h hc
    refine lv_bipush (v := (-6 : Int32)) hx hb dX5_lowestOf_40 (by decide) ?_
    exact gr_i hx hb hr hlocks hK hG (Option.some.inj h) dX5_lowestOf_42
  · have h := fo_if h hc
    refine lv_aload_n hx hb dX5_lowestOf_8 rfl (lv_at hl 0 rfl) ?_
    refine va_get (D := (dC, dI)) (ci := 4) (v := .ref (a 1)) (C := RX5) (T := TX5) (N := 2) hx hb hts inlX5 hown hK hG.1 0 rfl rfl 0 (by decide) (hts (Cond.fieldLink RX5 14 "DiceRoads$Roads" "first" "LDiceRoads$Row;") wq_56) (fun _ h9 => h9) rfl dX5_lowestOf_9 ?_
    refine lv_iload_n hx hb dX5_lowestOf_12 rfl (lv_at hl 2 rfl) ?_
    obtain ⟨q13, hq13, h⟩ := fo_bd_some h
    refine gc_iV (b := a 1) (C := RX6) (As := [.int v2]) (rest := []) (wc := (wd_R cI (fun k => a (k + 1)) (-6) 20 (S 0))) (w1 := (wd_R cI (fun k => a (k + 1)) (-6) 20 (S 0))) (ci := 5) (q0 := 0) ⟨hx, hb, hml, hown, hts⟩ (c6_at l (a := (fun k => a (k + 1))) (v := (-6)) (z := 20) hq13) (cwV 1 hts gv_X5_27 rfl rfl rfl hd6_at ⟨Nat.le_of_ble_eq_true rfl, Nat.le_of_ble_eq_true rfl⟩) hK [0] rfl hA hG [1, 2] rfl rfl rfl rfl rfl rfl hl.1 rfl (Nat.le_of_ble_eq_true rfl) dX5_lowestOf_13 ⟨Nat.zero_le _, Nat.zero_le _⟩ (fun H locs hG9 => ?_)
    have hG : gd_W (dC, dI) A s (wd_O cI a S) H locs := hG9
    refine lv_iload_n hx hb dX5_lowestOf_16 rfl (lv_at hl 1 rfl) ?_
    refine lv_icmp_eq (tgt := 32) hx hb dX5_lowestOf_17 (by decide) (fun hc => ?_) (fun hc => ?_)
    · have h := fo_it h hc
      refine lv_iload_n hx hb dX5_lowestOf_32 rfl (lv_at hl 2 rfl) ?_
      exact gr_i hx hb hr hlocks hK hG (Option.some.inj h) dX5_lowestOf_33
    · have h := fo_if h hc
      refine lv_aload_n hx hb dX5_lowestOf_20 rfl (lv_at hl 0 rfl) ?_
      refine va_get (D := (dC, dI)) (ci := 4) (v := .ref (a 3)) (C := RX5) (T := TX5) (N := 2) hx hb hts inlX5 hown hK hG.1 0 rfl rfl 1 (by decide) (hts (Cond.fieldLink RX5 20 "DiceRoads$Roads" "second" "LDiceRoads$Row;") wq_57) (fun _ h9 => h9) rfl dX5_lowestOf_21 ?_
      refine lv_iload_n hx hb dX5_lowestOf_24 rfl (lv_at hl 2 rfl) ?_
      obtain ⟨q25, hq25, h⟩ := fo_bd_some h
      refine gc_iV (b := a 3) (C := RX6) (As := [.int v2]) (rest := []) (wc := (wd_R cI (fun k => a (k + 3)) (-6) 20 (S 1))) (w1 := (wd_R cI (fun k => a (k + 3)) (-6) 20 (S 1))) (ci := 5) (q0 := 0) ⟨hx, hb, hml, hown, hts⟩ (c6_at l (a := (fun k => a (k + 3))) (v := (-6)) (z := 20) hq25) (cwV 1 hts gv_X5_27 rfl rfl rfl hd6_at ⟨Nat.le_of_ble_eq_true rfl, Nat.le_of_ble_eq_true rfl⟩) hK [0] rfl hA hG [3, 4] rfl rfl rfl rfl rfl rfl hl.1 rfl (Nat.le_of_ble_eq_true rfl) dX5_lowestOf_25 ⟨Nat.zero_le _, Nat.zero_le _⟩ (fun H locs hG9 => ?_)
      have hG : gd_W (dC, dI) A s (wd_O cI a S) H locs := hG9
      refine lv_iload_n hx hb dX5_lowestOf_28 rfl (lv_at hl 1 rfl) ?_
      refine lv_icmp_ne (tgt := 34) hx hb dX5_lowestOf_29 (by decide) (fun hc => ?_) (fun hc => ?_)
      · have h := fo_if h hc
        refine lv_iinc (v := (v2 + (1 : Int32))) (lv' := [(2, .int (v2 + (1 : Int32))), (0, .ref (a 0)), (1, .int v1)]) hx hb dX5_lowestOf_34 hl (k := 2) rfl rfl (by decide) rfl (fun ls hl => ?_)
        refine lv_goto (tgt := 2) hx hb dX5_lowestOf_37 (by decide) ?_
        exact hrec2 h hG (lv_sub hl [1, 2, 0] rfl)
      · have h := fo_it h hc
        refine lv_iload_n hx hb dX5_lowestOf_32 rfl (lv_at hl 2 rfl) ?_
        exact gr_i hx hb hr hlocks hK hG (Option.some.inj h) dX5_lowestOf_33
set_option maxRecDepth 100000 in
set_option maxHeartbeats 4000000 in
theorem w5_lowestOf_L2 (C : cx_M p s m args meth c RX5 cX5_lowestOf (some .int) 3) (hK : va_K (dC, dI) vwCl [(cI, .int)] s) (hA : ∀ q, s.heap.size ≤ q → A q) {a : Nat → Nat} {S : ms_T} {q : Int32} : ∀ (n : Nat) {v1 : Int32} {v2 : Int32}, f5_lowestOf_L2 n v1 v2 S = some q → ∀ {H : Heap} {locs : List Loc} {ls : Array Slot}, gd_W (dC, dI) A s (wd_O cI a S) H locs → lv_has ls 3 [(0, .ref (a 0)), (1, .int v1), (2, .int v2)] → W p l e RM5_lowestOf s m args below meth c H locs 0 0 (MQ below (qi_W (dC, dI) [(cI, .int)] A q (wd_O cI a S)) args s 0 0 A) (F0 m 2 ls []) := by
  intro n
  induction n with
  | zero => intro _ _ h; exact nomatch h
  | succ n ih => intro v1 v2 h H locs ls hG hl; exact w5_lowestOf_b2 C hK hA (fun h => ih h) (show f5_lowestOf_b2 (f5_lowestOf_L2 n) v1 v2 S = some q from h) hG hl
set_option maxRecDepth 100000 in
set_option maxHeartbeats 4000000 in
theorem w5_lowestOf (C : cx_M p s m args meth c RX5 cX5_lowestOf (some .int) 3) (hK : va_K (dC, dI) vwCl [(cI, .int)] s) (hA : ∀ q, s.heap.size ≤ q → A q) {a : Nat → Nat} {q : Int32} {v1 : Int32} {S : ms_T} (h : f5_lowestOf v1 S = some q) {H : Heap} {locs : List Loc} {ls : Array Slot} (hG : gd_W (dC, dI) A s (wd_O cI a S) H locs) (hl : lv_has ls 3 [(0, .ref (a 0)), (1, .int v1)]) : W p l e RM5_lowestOf s m args below meth c H locs 0 0 (MQ below (qi_W (dC, dI) [(cI, .int)] A q (wd_O cI a S)) args s 0 0 A) (F0 m 0 ls []) := by
  unfold f5_lowestOf at h
  obtain ⟨hx, hb, hr, hts, hown, hlocks, hml⟩ := id C
  refine lv_iconst (v := (0 : Int32)) hx hb dX5_lowestOf_0 (by decide) ?_
  refine lv_istore_n (lv' := [(2, .int (0 : Int32)), (0, .ref (a 0)), (1, .int v1)]) hx hb dX5_lowestOf_1 rfl hl (by decide) rfl (fun ls hl => ?_)
  exact w5_lowestOf_L2 C hK hA fo_fu h hG (lv_sub hl [1, 2, 0] rfl)
set_option maxRecDepth 100000 in
set_option maxHeartbeats 4000000 in
theorem c5_lowestOf (l : Launch) {dC : Nat → ClassId} {dI : Nat → Nat → Nat} {cI : ClassId} {a : Nat → Nat} {v1 : Int32} {S : ms_T} {q : Int32} (h : f5_lowestOf v1 S = some q) : mi_M l yX5_lowestOf wm5_lowestOf RM5_lowestOf (dC, dI) [(cI, .int)] [.ref (a 0), .int v1] (wd_O cI a S) q (wd_O cI a S) := by
  intro sz
  refine Met.ofW (cc := cX5_lowestOf) (maxL := 3) (ret := (some .int)) (by decide) rfl ?_
  intro p e s m args below meth c s₁ B hml hv
  obtain ⟨rfl, hsz, hP, hK, hD0⟩ := hv
  subst hsz
  have hl := lv_entry ([.ref (a 0), .int v1] : List Value) (n := 3) (Nat.le_of_ble_eq_true rfl)
  rw [lg_entry_eq]
  generalize (lg_sl ([.ref (a 0), .int v1] : List Value) ++ List.replicate (3 - (lg_sl ([.ref (a 0), .int v1] : List Value)).length) Slot.unset).toArray = ls at hl ⊢
  exact w5_lowestOf (a := a) ⟨B.exec, B.bytes, B.returns, fun w hw => atoms_spec (ws := wm5_lowestOf) B.pre w (List.mem_cons_of_mem _ hw), findClass_of_methodNamed B.named, B.notSynchronized, hml⟩ hK (fun _ h => Or.inr h) h ⟨hP, hD0.self, va_S.rf⟩ hl
end
/-! ## DiceRoads$Roads.squaresOf(I)I -/
section
variable {p : Program} {l : Launch} {e : Env} {s : State} {m : MethodId} {args : Array Value} {below : List Frame} {meth : Method} {c : Code} {dC : Nat → ClassId} {dI : Nat → Nat → Nat} {cI : ClassId} {A : Nat → Prop}
set_option maxRecDepth 100000 in
set_option maxHeartbeats 4000000 in
theorem w5_squaresOf_b40 (C : cx_M p s m args meth c RX5 cX5_squaresOf (some .int) 4) (hK : va_K (dC, dI) vwCl [(cI, .int)] s) (hA : ∀ q, s.heap.size ≤ q → A q) {a : Nat → Nat} {S : ms_T} {q : Int32} {rec4 : Int32 → Int32 → Int32 → ms_T → Option Int32} (hrec4 : ∀ {v1 : Int32} {v2 : Int32} {v3 : Int32} , rec4 v1 v2 v3 S = some q → ∀ {H : Heap} {locs : List Loc} {ls : Array Slot}, gd_W (dC, dI) A s (wd_O cI a S) H locs → lv_has ls 4 [(0, .ref (a 0)), (1, .int v1), (2, .int v2), (3, .int v3)] → W p l e RM5_squaresOf s m args below meth c H locs 0 0 (MQ below (qi_W (dC, dI) [(cI, .int)] A q (wd_O cI a S)) args s 0 0 A) (F0 m 4 ls [])) {v1 : Int32} {v2 : Int32} {v3 : Int32} (h : f5_squaresOf_b40 rec4 v1 v2 v3 S = some q) {H : Heap} {locs : List Loc} {ls : Array Slot} (hG : gd_W (dC, dI) A s (wd_O cI a S) H locs) (hl : lv_has ls 4 [(0, .ref (a 0)), (1, .int v1), (2, .int v2), (3, .int v3)]) : W p l e RM5_squaresOf s m args below meth c H locs 0 0 (MQ below (qi_W (dC, dI) [(cI, .int)] A q (wd_O cI a S)) args s 0 0 A) (F0 m 40 ls []) := by
  unfold f5_squaresOf_b40 at h
  obtain ⟨hx, hb, hr, hts, hown, hlocks, hml⟩ := id C
  refine lv_iinc (v := (v3 + (1 : Int32))) (lv' := [(3, .int (v3 + (1 : Int32))), (0, .ref (a 0)), (1, .int v1), (2, .int v2)]) hx hb dX5_squaresOf_40 hl (k := 3) rfl rfl (by decide) rfl (fun ls hl => ?_)
  refine lv_goto (tgt := 4) hx hb dX5_squaresOf_43 (by decide) ?_
  exact hrec4 h hG (lv_sub hl [1, 2, 3, 0] rfl)
set_option maxRecDepth 100000 in
set_option maxHeartbeats 4000000 in
theorem w5_squaresOf_b34 (C : cx_M p s m args meth c RX5 cX5_squaresOf (some .int) 4) (hK : va_K (dC, dI) vwCl [(cI, .int)] s) (hA : ∀ q, s.heap.size ≤ q → A q) {a : Nat → Nat} {S : ms_T} {q : Int32} {rec4 : Int32 → Int32 → Int32 → ms_T → Option Int32} (hrec4 : ∀ {v1 : Int32} {v2 : Int32} {v3 : Int32} , rec4 v1 v2 v3 S = some q → ∀ {H : Heap} {locs : List Loc} {ls : Array Slot}, gd_W (dC, dI) A s (wd_O cI a S) H locs → lv_has ls 4 [(0, .ref (a 0)), (1, .int v1), (2, .int v2), (3, .int v3)] → W p l e RM5_squaresOf s m args below meth c H locs 0 0 (MQ below (qi_W (dC, dI) [(cI, .int)] A q (wd_O cI a S)) args s 0 0 A) (F0 m 4 ls [])) {v1 : Int32} {v2 : Int32} {v3 : Int32} (h : f5_squaresOf_b34 rec4 v1 v2 v3 S = some q) {H : Heap} {locs : List Loc} {ls : Array Slot} (hG : gd_W (dC, dI) A s (wd_O cI a S) H locs) (hl : lv_has ls 4 [(0, .ref (a 0)), (1, .int v1), (2, .int v2), (3, .int v3)]) : W p l e RM5_squaresOf s m args below meth c H locs 0 0 (MQ below (qi_W (dC, dI) [(cI, .int)] A q (wd_O cI a S)) args s 0 0 A) (F0 m 34 ls []) := by
  unfold f5_squaresOf_b34 at h
  obtain ⟨hx, hb, hr, hts, hown, hlocks, hml⟩ := id C
  refine lv_iload_n hx hb dX5_squaresOf_34 rfl (lv_at hl 2 rfl) ?_
  refine lv_iconst (v := (1 : Int32)) hx hb dX5_squaresOf_35 (by decide) ?_
  refine lv_iload_n hx hb dX5_squaresOf_36 rfl (lv_at hl 3 rfl) ?_
  refine lv_ishl hx hb dX5_squaresOf_37 ?_
  refine lv_ior hx hb dX5_squaresOf_38 ?_
  refine lv_istore_n (lv' := [(2, .int (v2 ||| ((1 : Int32) <<< (v3 &&& 31)))), (0, .ref (a 0)), (1, .int v1), (3, .int v3)]) hx hb dX5_squaresOf_39 rfl hl (by decide) rfl (fun ls hl => ?_)
  exact w5_squaresOf_b40 C hK hA (fun h => hrec4 h) h hG (lv_sub hl [1, 2, 0, 3] rfl)
set_option maxRecDepth 100000 in
set_option maxHeartbeats 4000000 in
theorem w5_squaresOf_b4 (C : cx_M p s m args meth c RX5 cX5_squaresOf (some .int) 4) (hK : va_K (dC, dI) vwCl [(cI, .int)] s) (hA : ∀ q, s.heap.size ≤ q → A q) {a : Nat → Nat} {S : ms_T} {q : Int32} {rec4 : Int32 → Int32 → Int32 → ms_T → Option Int32} (hrec4 : ∀ {v1 : Int32} {v2 : Int32} {v3 : Int32} , rec4 v1 v2 v3 S = some q → ∀ {H : Heap} {locs : List Loc} {ls : Array Slot}, gd_W (dC, dI) A s (wd_O cI a S) H locs → lv_has ls 4 [(0, .ref (a 0)), (1, .int v1), (2, .int v2), (3, .int v3)] → W p l e RM5_squaresOf s m args below meth c H locs 0 0 (MQ below (qi_W (dC, dI) [(cI, .int)] A q (wd_O cI a S)) args s 0 0 A) (F0 m 4 ls [])) {v1 : Int32} {v2 : Int32} {v3 : Int32} (h : f5_squaresOf_b4 rec4 v1 v2 v3 S = some q) {H : Heap} {locs : List Loc} {ls : Array Slot} (hG : gd_W (dC, dI) A s (wd_O cI a S) H locs) (hl : lv_has ls 4 [(0, .ref (a 0)), (1, .int v1), (2, .int v2), (3, .int v3)]) : W p l e RM5_squaresOf s m args below meth c H locs 0 0 (MQ below (qi_W (dC, dI) [(cI, .int)] A q (wd_O cI a S)) args s 0 0 A) (F0 m 4 ls []) := by
  unfold f5_squaresOf_b4 at h
  obtain ⟨hx, hb, hr, hts, hown, hlocks, hml⟩ := id C
  refine lv_iload_n hx hb dX5_squaresOf_4 rfl (lv_at hl 3 rfl) ?_
  refine lv_bipush (v := (20 : Int32)) hx hb dX5_squaresOf_5 (by decide) ?_
  refine lv_icmp_ge (tgt := 46) hx hb dX5_squaresOf_7 (by decide) (fun hc => ?_) (fun hc => ?_)
  · have h := fo_it h hc
    refine lv_iload_n hx hb dX5_squaresOf_46 rfl (lv_at hl 2 rfl) ?_
    exact gr_i hx hb hr hlocks hK hG (Option.some.inj h) dX5_squaresOf_47
  · have h := fo_if h hc
    refine lv_aload_n hx hb dX5_squaresOf_10 rfl (lv_at hl 0 rfl) ?_
    refine va_get (D := (dC, dI)) (ci := 4) (v := .ref (a 1)) (C := RX5) (T := TX5) (N := 2) hx hb hts inlX5 hown hK hG.1 0 rfl rfl 0 (by decide) (hts (Cond.fieldLink RX5 14 "DiceRoads$Roads" "first" "LDiceRoads$Row;") wq_56) (fun _ h9 => h9) rfl dX5_squaresOf_11 ?_
    refine lv_iload_n hx hb dX5_squaresOf_14 rfl (lv_at hl 3 rfl) ?_
    obtain ⟨q15, hq15, h⟩ := fo_bd_some h
    refine gc_iV (b := a 1) (C := RX6) (As := [.int v3]) (rest := []) (wc := (wd_R cI (fun k => a (k + 1)) (-6) 20 (S 0))) (w1 := (wd_R cI (fun k => a (k + 1)) (-6) 20 (S 0))) (ci := 5) (q0 := 0) ⟨hx, hb, hml, hown, hts⟩ (c6_at l (a := (fun k => a (k + 1))) (v := (-6)) (z := 20) hq15) (cwV 1 hts gv_X5_27 rfl rfl rfl hd6_at ⟨Nat.le_of_ble_eq_true rfl, Nat.le_of_ble_eq_true rfl⟩) hK [0] rfl hA hG [1, 2] rfl rfl rfl rfl rfl rfl hl.1 rfl (Nat.le_of_ble_eq_true rfl) dX5_squaresOf_15 ⟨Nat.zero_le _, Nat.zero_le _⟩ (fun H locs hG9 => ?_)
    have hG : gd_W (dC, dI) A s (wd_O cI a S) H locs := hG9
    refine lv_iload_n hx hb dX5_squaresOf_18 rfl (lv_at hl 1 rfl) ?_
    refine lv_icmp_eq (tgt := 34) hx hb dX5_squaresOf_19 (by decide) (fun hc => ?_) (fun hc => ?_)
    · have h := fo_it h hc
      exact w5_squaresOf_b34 C hK hA (fun h => hrec4 h) h hG (lv_sub hl [0, 1, 2, 3] rfl)
    · have h := fo_if h hc
      refine lv_aload_n hx hb dX5_squaresOf_22 rfl (lv_at hl 0 rfl) ?_
      refine va_get (D := (dC, dI)) (ci := 4) (v := .ref (a 3)) (C := RX5) (T := TX5) (N := 2) hx hb hts inlX5 hown hK hG.1 0 rfl rfl 1 (by decide) (hts (Cond.fieldLink RX5 20 "DiceRoads$Roads" "second" "LDiceRoads$Row;") wq_57) (fun _ h9 => h9) rfl dX5_squaresOf_23 ?_
      refine lv_iload_n hx hb dX5_squaresOf_26 rfl (lv_at hl 3 rfl) ?_
      obtain ⟨q27, hq27, h⟩ := fo_bd_some h
      refine gc_iV (b := a 3) (C := RX6) (As := [.int v3]) (rest := []) (wc := (wd_R cI (fun k => a (k + 3)) (-6) 20 (S 1))) (w1 := (wd_R cI (fun k => a (k + 3)) (-6) 20 (S 1))) (ci := 5) (q0 := 0) ⟨hx, hb, hml, hown, hts⟩ (c6_at l (a := (fun k => a (k + 3))) (v := (-6)) (z := 20) hq27) (cwV 1 hts gv_X5_27 rfl rfl rfl hd6_at ⟨Nat.le_of_ble_eq_true rfl, Nat.le_of_ble_eq_true rfl⟩) hK [0] rfl hA hG [3, 4] rfl rfl rfl rfl rfl rfl hl.1 rfl (Nat.le_of_ble_eq_true rfl) dX5_squaresOf_27 ⟨Nat.zero_le _, Nat.zero_le _⟩ (fun H locs hG9 => ?_)
      have hG : gd_W (dC, dI) A s (wd_O cI a S) H locs := hG9
      refine lv_iload_n hx hb dX5_squaresOf_30 rfl (lv_at hl 1 rfl) ?_
      refine lv_icmp_ne (tgt := 40) hx hb dX5_squaresOf_31 (by decide) (fun hc => ?_) (fun hc => ?_)
      · have h := fo_if h hc
        exact w5_squaresOf_b40 C hK hA (fun h => hrec4 h) h hG (lv_sub hl [0, 1, 2, 3] rfl)
      · have h := fo_it h hc
        exact w5_squaresOf_b34 C hK hA (fun h => hrec4 h) h hG (lv_sub hl [0, 1, 2, 3] rfl)
set_option maxRecDepth 100000 in
set_option maxHeartbeats 4000000 in
theorem w5_squaresOf_L4 (C : cx_M p s m args meth c RX5 cX5_squaresOf (some .int) 4) (hK : va_K (dC, dI) vwCl [(cI, .int)] s) (hA : ∀ q, s.heap.size ≤ q → A q) {a : Nat → Nat} {S : ms_T} {q : Int32} : ∀ (n : Nat) {v1 : Int32} {v2 : Int32} {v3 : Int32}, f5_squaresOf_L4 n v1 v2 v3 S = some q → ∀ {H : Heap} {locs : List Loc} {ls : Array Slot}, gd_W (dC, dI) A s (wd_O cI a S) H locs → lv_has ls 4 [(0, .ref (a 0)), (1, .int v1), (2, .int v2), (3, .int v3)] → W p l e RM5_squaresOf s m args below meth c H locs 0 0 (MQ below (qi_W (dC, dI) [(cI, .int)] A q (wd_O cI a S)) args s 0 0 A) (F0 m 4 ls []) := by
  intro n
  induction n with
  | zero => intro _ _ _ h; exact nomatch h
  | succ n ih => intro v1 v2 v3 h H locs ls hG hl; exact w5_squaresOf_b4 C hK hA (fun h => ih h) (show f5_squaresOf_b4 (f5_squaresOf_L4 n) v1 v2 v3 S = some q from h) hG hl
set_option maxRecDepth 100000 in
set_option maxHeartbeats 4000000 in
theorem w5_squaresOf (C : cx_M p s m args meth c RX5 cX5_squaresOf (some .int) 4) (hK : va_K (dC, dI) vwCl [(cI, .int)] s) (hA : ∀ q, s.heap.size ≤ q → A q) {a : Nat → Nat} {q : Int32} {v1 : Int32} {S : ms_T} (h : f5_squaresOf v1 S = some q) {H : Heap} {locs : List Loc} {ls : Array Slot} (hG : gd_W (dC, dI) A s (wd_O cI a S) H locs) (hl : lv_has ls 4 [(0, .ref (a 0)), (1, .int v1)]) : W p l e RM5_squaresOf s m args below meth c H locs 0 0 (MQ below (qi_W (dC, dI) [(cI, .int)] A q (wd_O cI a S)) args s 0 0 A) (F0 m 0 ls []) := by
  unfold f5_squaresOf at h
  obtain ⟨hx, hb, hr, hts, hown, hlocks, hml⟩ := id C
  refine lv_iconst (v := (0 : Int32)) hx hb dX5_squaresOf_0 (by decide) ?_
  refine lv_istore_n (lv' := [(2, .int (0 : Int32)), (0, .ref (a 0)), (1, .int v1)]) hx hb dX5_squaresOf_1 rfl hl (by decide) rfl (fun ls hl => ?_)
  refine lv_iconst (v := (0 : Int32)) hx hb dX5_squaresOf_2 (by decide) ?_
  refine lv_istore_n (lv' := [(3, .int (0 : Int32)), (2, .int (0 : Int32)), (0, .ref (a 0)), (1, .int v1)]) hx hb dX5_squaresOf_3 rfl hl (by decide) rfl (fun ls hl => ?_)
  exact w5_squaresOf_L4 C hK hA fo_fu h hG (lv_sub hl [2, 3, 1, 0] rfl)
set_option maxRecDepth 100000 in
set_option maxHeartbeats 4000000 in
theorem c5_squaresOf (l : Launch) {dC : Nat → ClassId} {dI : Nat → Nat → Nat} {cI : ClassId} {a : Nat → Nat} {v1 : Int32} {S : ms_T} {q : Int32} (h : f5_squaresOf v1 S = some q) : mi_M l yX5_squaresOf wm5_squaresOf RM5_squaresOf (dC, dI) [(cI, .int)] [.ref (a 0), .int v1] (wd_O cI a S) q (wd_O cI a S) := by
  intro sz
  refine Met.ofW (cc := cX5_squaresOf) (maxL := 4) (ret := (some .int)) (by decide) rfl ?_
  intro p e s m args below meth c s₁ B hml hv
  obtain ⟨rfl, hsz, hP, hK, hD0⟩ := hv
  subst hsz
  have hl := lv_entry ([.ref (a 0), .int v1] : List Value) (n := 4) (Nat.le_of_ble_eq_true rfl)
  rw [lg_entry_eq]
  generalize (lg_sl ([.ref (a 0), .int v1] : List Value) ++ List.replicate (4 - (lg_sl ([.ref (a 0), .int v1] : List Value)).length) Slot.unset).toArray = ls at hl ⊢
  exact w5_squaresOf (a := a) ⟨B.exec, B.bytes, B.returns, fun w hw => atoms_spec (ws := wm5_squaresOf) B.pre w (List.mem_cons_of_mem _ hw), findClass_of_methodNamed B.named, B.notSynchronized, hml⟩ hK (fun _ h => Or.inr h) h ⟨hP, hD0.self, va_S.rf⟩ hl
end
/-! ## DiceRoads$Roads.toll(II)I -/
section
variable {p : Program} {l : Launch} {e : Env} {s : State} {m : MethodId} {args : Array Value} {below : List Frame} {meth : Method} {c : Code} {dC : Nat → ClassId} {dI : Nat → Nat → Nat} {cI : ClassId} {A : Nat → Prop}
set_option maxRecDepth 100000 in
set_option maxHeartbeats 4000000 in
theorem w5_toll_b65 (C : cx_M p s m args meth c RX5 cX5_toll (some .int) 7) (hK : va_K (dC, dI) vwCl [(cI, .int)] s) (hA : ∀ q, s.heap.size ≤ q → A q) {a : Nat → Nat} {S : ms_T} {q : Int32} {rec31 : Int32 → Int32 → Int32 → Int32 → Int32 → ms_T → Option Int32} (hrec31 : ∀ {v2 : Int32} {v3 : Int32} {v4 : Int32} {v5 : Int32} {v6 : Int32} , rec31 v2 v3 v4 v5 v6 S = some q → ∀ {H : Heap} {locs : List Loc} {ls : Array Slot}, gd_W (dC, dI) A s (wd_O cI a S) H locs → lv_has ls 7 [(0, .ref (a 0)), (2, .int v2), (3, .int v3), (4, .int v4), (5, .int v5), (6, .int v6)] → W p l e RM5_toll s m args below meth c H locs 0 0 (MQ below (qi_W (dC, dI) [(cI, .int)] A q (wd_O cI a S)) args s 0 0 A) (F0 m 31 ls [])) {v2 : Int32} {v3 : Int32} {v4 : Int32} {v5 : Int32} {v6 : Int32} (h : f5_toll_b65 rec31 v2 v3 v4 v5 v6 S = some q) {H : Heap} {locs : List Loc} {ls : Array Slot} (hG : gd_W (dC, dI) A s (wd_O cI a S) H locs) (hl : lv_has ls 7 [(0, .ref (a 0)), (2, .int v2), (3, .int v3), (4, .int v4), (5, .int v5), (6, .int v6)]) : W p l e RM5_toll s m args below meth c H locs 0 0 (MQ below (qi_W (dC, dI) [(cI, .int)] A q (wd_O cI a S)) args s 0 0 A) (F0 m 65 ls []) := by
  unfold f5_toll_b65 at h
  obtain ⟨hx, hb, hr, hts, hown, hlocks, hml⟩ := id C
  refine lv_iinc (v := (v6 + (1 : Int32))) (lv' := [(6, .int (v6 + (1 : Int32))), (0, .ref (a 0)), (2, .int v2), (3, .int v3), (4, .int v4), (5, .int v5)]) hx hb dX5_toll_65 hl (k := 5) rfl rfl (by decide) rfl (fun ls hl => ?_)
  refine lv_goto (tgt := 31) hx hb dX5_toll_68 (by decide) ?_
  exact hrec31 h hG (lv_sub hl [1, 2, 3, 4, 5, 0] rfl)
set_option maxRecDepth 100000 in
set_option maxHeartbeats 4000000 in
theorem w5_toll_b31 (C : cx_M p s m args meth c RX5 cX5_toll (some .int) 7) (hK : va_K (dC, dI) vwCl [(cI, .int)] s) (hA : ∀ q, s.heap.size ≤ q → A q) {a : Nat → Nat} {S : ms_T} {q : Int32} {rec31 : Int32 → Int32 → Int32 → Int32 → Int32 → ms_T → Option Int32} (hrec31 : ∀ {v2 : Int32} {v3 : Int32} {v4 : Int32} {v5 : Int32} {v6 : Int32} , rec31 v2 v3 v4 v5 v6 S = some q → ∀ {H : Heap} {locs : List Loc} {ls : Array Slot}, gd_W (dC, dI) A s (wd_O cI a S) H locs → lv_has ls 7 [(0, .ref (a 0)), (2, .int v2), (3, .int v3), (4, .int v4), (5, .int v5), (6, .int v6)] → W p l e RM5_toll s m args below meth c H locs 0 0 (MQ below (qi_W (dC, dI) [(cI, .int)] A q (wd_O cI a S)) args s 0 0 A) (F0 m 31 ls [])) {v2 : Int32} {v3 : Int32} {v4 : Int32} {v5 : Int32} {v6 : Int32} (h : f5_toll_b31 rec31 v2 v3 v4 v5 v6 S = some q) {H : Heap} {locs : List Loc} {ls : Array Slot} (hG : gd_W (dC, dI) A s (wd_O cI a S) H locs) (hl : lv_has ls 7 [(0, .ref (a 0)), (2, .int v2), (3, .int v3), (4, .int v4), (5, .int v5), (6, .int v6)]) : W p l e RM5_toll s m args below meth c H locs 0 0 (MQ below (qi_W (dC, dI) [(cI, .int)] A q (wd_O cI a S)) args s 0 0 A) (F0 m 31 ls []) := by
  unfold f5_toll_b31 at h
  obtain ⟨hx, hb, hr, hts, hown, hlocks, hml⟩ := id C
  refine lv_iload hx hb dX5_toll_31 (lv_at hl 5 rfl) ?_
  refine lv_iload hx hb dX5_toll_33 (lv_at hl 3 rfl) ?_
  refine lv_iconst (v := (5 : Int32)) hx hb dX5_toll_35 (by decide) ?_
  refine lv_iadd hx hb dX5_toll_36 ?_
  refine lv_icmp_ge (tgt := 71) hx hb dX5_toll_37 (by decide) (fun hc => ?_) (fun hc => ?_)
  · have h := fo_it h hc
    refine lv_iload_n hx hb dX5_toll_71 rfl (lv_at hl 1 rfl) ?_
    refine lv_iconst (v := (1 : Int32)) hx hb dX5_toll_72 (by decide) ?_
    refine lv_iload hx hb dX5_toll_73 (lv_at hl 4 rfl) ?_
    refine lv_iadd hx hb dX5_toll_75 ?_
    refine lv_imul hx hb dX5_toll_76 ?_
    exact gr_i hx hb hr hlocks hK hG (Option.some.inj h) dX5_toll_77
  · have h := fo_if h hc
    refine lv_iload hx hb dX5_toll_40 (lv_at hl 5 rfl) ?_
    obtain ⟨q42, hq42, h⟩ := fo_bd_some h
    refine gc_iS (As := [.int v6]) (rest := []) (wc := ([] : va_W)) (w1 := ([] : va_W)) ⟨hx, hb, hml, hown, hts⟩ (c5_sortOf l (a := a) hq42) (va_cwS 1 hts gv_X5_31 rfl rfl rfl hd5_sortOf ⟨Nat.le_of_ble_eq_true rfl, Nat.le_of_ble_eq_true rfl⟩) hK [] rfl hA hG [] rfl rfl rfl rfl hl.1 rfl (Nat.le_of_ble_eq_true rfl) dX5_toll_42 ⟨Nat.zero_le _, Nat.zero_le _⟩ (fun H locs hG9 => ?_)
    have hG : gd_W (dC, dI) A s (wd_O cI a S) H locs := hG9
    refine lv_iconst (v := (1 : Int32)) hx hb dX5_toll_45 (by decide) ?_
    refine lv_icmp_ne (tgt := 65) hx hb dX5_toll_46 (by decide) (fun hc => ?_) (fun hc => ?_)
    · have h := fo_if h hc
      exact w5_toll_b65 C hK hA (fun h => hrec31 h) h hG (lv_sub hl [0, 1, 2, 3, 4, 5] rfl)
    · have h := fo_it h hc
      refine lv_aload_n hx hb dX5_toll_49 rfl (lv_at hl 0 rfl) ?_
      refine va_get (D := (dC, dI)) (ci := 4) (v := .ref (a 1)) (C := RX5) (T := TX5) (N := 2) hx hb hts inlX5 hown hK hG.1 0 rfl rfl 0 (by decide) (hts (Cond.fieldLink RX5 14 "DiceRoads$Roads" "first" "LDiceRoads$Row;") wq_56) (fun _ h9 => h9) rfl dX5_toll_50 ?_
      refine lv_iload hx hb dX5_toll_53 (lv_at hl 5 rfl) ?_
      obtain ⟨q55, hq55, h⟩ := fo_bd_some h
      refine gc_iV (b := a 1) (C := RX6) (As := [.int v6]) (rest := []) (wc := (wd_R cI (fun k => a (k + 1)) (-6) 20 (S 0))) (w1 := (wd_R cI (fun k => a (k + 1)) (-6) 20 (S 0))) (ci := 5) (q0 := 0) ⟨hx, hb, hml, hown, hts⟩ (c6_at l (a := (fun k => a (k + 1))) (v := (-6)) (z := 20) hq55) (cwV 1 hts gv_X5_27 rfl rfl rfl hd6_at ⟨Nat.le_of_ble_eq_true rfl, Nat.le_of_ble_eq_true rfl⟩) hK [0] rfl hA hG [1, 2] rfl rfl rfl rfl rfl rfl hl.1 rfl (Nat.le_of_ble_eq_true rfl) dX5_toll_55 ⟨Nat.zero_le _, Nat.zero_le _⟩ (fun H locs hG9 => ?_)
      have hG : gd_W (dC, dI) A s (wd_O cI a S) H locs := hG9
      refine lv_iload_n hx hb dX5_toll_58 rfl (lv_at hl 2 rfl) ?_
      refine lv_icmp_ne (tgt := 65) hx hb dX5_toll_59 (by decide) (fun hc => ?_) (fun hc => ?_)
      · have h := fo_if h hc
        exact w5_toll_b65 C hK hA (fun h => hrec31 h) h hG (lv_sub hl [0, 1, 2, 3, 4, 5] rfl)
      · have h := fo_it h hc
        refine lv_iinc (v := (v5 + (1 : Int32))) (lv' := [(5, .int (v5 + (1 : Int32))), (0, .ref (a 0)), (2, .int v2), (3, .int v3), (4, .int v4), (6, .int v6)]) hx hb dX5_toll_62 hl (k := 4) rfl rfl (by decide) rfl (fun ls hl => ?_)
        exact w5_toll_b65 C hK hA (fun h => hrec31 h) h hG (lv_sub hl [1, 2, 3, 4, 0, 5] rfl)
set_option maxRecDepth 100000 in
set_option maxHeartbeats 4000000 in
theorem w5_toll_L31 (C : cx_M p s m args meth c RX5 cX5_toll (some .int) 7) (hK : va_K (dC, dI) vwCl [(cI, .int)] s) (hA : ∀ q, s.heap.size ≤ q → A q) {a : Nat → Nat} {S : ms_T} {q : Int32} : ∀ (n : Nat) {v2 : Int32} {v3 : Int32} {v4 : Int32} {v5 : Int32} {v6 : Int32}, f5_toll_L31 n v2 v3 v4 v5 v6 S = some q → ∀ {H : Heap} {locs : List Loc} {ls : Array Slot}, gd_W (dC, dI) A s (wd_O cI a S) H locs → lv_has ls 7 [(0, .ref (a 0)), (2, .int v2), (3, .int v3), (4, .int v4), (5, .int v5), (6, .int v6)] → W p l e RM5_toll s m args below meth c H locs 0 0 (MQ below (qi_W (dC, dI) [(cI, .int)] A q (wd_O cI a S)) args s 0 0 A) (F0 m 31 ls []) := by
  intro n
  induction n with
  | zero => intro _ _ _ _ _ h; exact nomatch h
  | succ n ih => intro v2 v3 v4 v5 v6 h H locs ls hG hl; exact w5_toll_b31 C hK hA (fun h => ih h) (show f5_toll_b31 (f5_toll_L31 n) v2 v3 v4 v5 v6 S = some q from h) hG hl
set_option maxRecDepth 100000 in
set_option maxHeartbeats 4000000 in
theorem w5_toll (C : cx_M p s m args meth c RX5 cX5_toll (some .int) 7) (hK : va_K (dC, dI) vwCl [(cI, .int)] s) (hA : ∀ q, s.heap.size ≤ q → A q) {a : Nat → Nat} {q : Int32} {v1 : Int32} {v2 : Int32} {S : ms_T} (h : f5_toll v1 v2 S = some q) {H : Heap} {locs : List Loc} {ls : Array Slot} (hG : gd_W (dC, dI) A s (wd_O cI a S) H locs) (hl : lv_has ls 7 [(0, .ref (a 0)), (1, .int v1), (2, .int v2)]) : W p l e RM5_toll s m args below meth c H locs 0 0 (MQ below (qi_W (dC, dI) [(cI, .int)] A q (wd_O cI a S)) args s 0 0 A) (F0 m 0 ls []) := by
  unfold f5_toll at h
  obtain ⟨hx, hb, hr, hts, hown, hlocks, hml⟩ := id C
  refine lv_aload_n hx hb dX5_toll_0 rfl (lv_at hl 0 rfl) ?_
  refine va_get (D := (dC, dI)) (ci := 4) (v := .ref (a 1)) (C := RX5) (T := TX5) (N := 2) hx hb hts inlX5 hown hK hG.1 0 rfl rfl 0 (by decide) (hts (Cond.fieldLink RX5 14 "DiceRoads$Roads" "first" "LDiceRoads$Row;") wq_56) (fun _ h9 => h9) rfl dX5_toll_1 ?_
  refine lv_iload_n hx hb dX5_toll_4 rfl (lv_at hl 1 rfl) ?_
  obtain ⟨q5, hq5, h⟩ := fo_bd_some h
  refine gc_iV (b := a 1) (C := RX6) (As := [.int v1]) (rest := []) (wc := (wd_R cI (fun k => a (k + 1)) (-6) 20 (S 0))) (w1 := (wd_R cI (fun k => a (k + 1)) (-6) 20 (S 0))) (ci := 5) (q0 := 0) ⟨hx, hb, hml, hown, hts⟩ (c6_at l (a := (fun k => a (k + 1))) (v := (-6)) (z := 20) hq5) (cwV 1 hts gv_X5_27 rfl rfl rfl hd6_at ⟨Nat.le_of_ble_eq_true rfl, Nat.le_of_ble_eq_true rfl⟩) hK [0] rfl hA hG [1, 2] rfl rfl rfl rfl rfl rfl hl.1 rfl (Nat.le_of_ble_eq_true rfl) dX5_toll_5 ⟨Nat.zero_le _, Nat.zero_le _⟩ (fun H locs hG9 => ?_)
  have hG : gd_W (dC, dI) A s (wd_O cI a S) H locs := hG9
  refine lv_istore_n (lv' := [(3, .int q5), (0, .ref (a 0)), (1, .int v1), (2, .int v2)]) hx hb dX5_toll_8 rfl hl (by decide) rfl (fun ls hl => ?_)
  refine lv_iload_n hx hb dX5_toll_9 rfl (lv_at hl 0 rfl) ?_
  refine lv_bipush (v := (-6 : Int32)) hx hb dX5_toll_10 (by decide) ?_
  refine lv_icmp_ne (tgt := 17) hx hb dX5_toll_12 (by decide) (fun hc => ?_) (fun hc => ?_)
  · have h := fo_if h hc
    refine lv_iload_n hx hb dX5_toll_17 rfl (lv_at hl 2 rfl) ?_
    refine lv_iconst (v := (5 : Int32)) hx hb dX5_toll_18 (by decide) ?_
    refine lv_idiv hx hb dX5_toll_19 (by decide) ?_
    refine lv_iconst (v := (5 : Int32)) hx hb dX5_toll_20 (by decide) ?_
    refine lv_imul hx hb dX5_toll_21 ?_
    refine lv_istore (lv' := [(4, .int ((v1 / (5 : Int32)) * (5 : Int32))), (3, .int q5), (0, .ref (a 0)), (1, .int v1), (2, .int v2)]) hx hb dX5_toll_22 hl (by decide) rfl (fun ls hl => ?_)
    refine lv_iconst (v := (0 : Int32)) hx hb dX5_toll_24 (by decide) ?_
    refine lv_istore (lv' := [(5, .int (0 : Int32)), (4, .int ((v1 / (5 : Int32)) * (5 : Int32))), (3, .int q5), (0, .ref (a 0)), (1, .int v1), (2, .int v2)]) hx hb dX5_toll_25 hl (by decide) rfl (fun ls hl => ?_)
    refine lv_iload hx hb dX5_toll_27 (lv_at hl 1 rfl) ?_
    refine lv_istore (lv' := [(6, .int ((v1 / (5 : Int32)) * (5 : Int32))), (5, .int (0 : Int32)), (4, .int ((v1 / (5 : Int32)) * (5 : Int32))), (3, .int q5), (0, .ref (a 0)), (1, .int v1), (2, .int v2)]) hx hb dX5_toll_29 hl (by decide) rfl (fun ls hl => ?_)
    exact w5_toll_L31 C hK hA fo_fu h hG (lv_sub hl [4, 6, 3, 2, 1, 0] rfl)
  · have h := fo_it h hc
    refine lv_iconst (v := (0 : Int32)) hx hb dX5_toll_15 (by decide) ?_
    exact gr_i hx hb hr hlocks hK hG (Option.some.inj h) dX5_toll_16
set_option maxRecDepth 100000 in
set_option maxHeartbeats 4000000 in
theorem c5_toll (l : Launch) {dC : Nat → ClassId} {dI : Nat → Nat → Nat} {cI : ClassId} {a : Nat → Nat} {v1 : Int32} {v2 : Int32} {S : ms_T} {q : Int32} (h : f5_toll v1 v2 S = some q) : mi_M l yX5_toll wm5_toll RM5_toll (dC, dI) [(cI, .int)] [.ref (a 0), .int v1, .int v2] (wd_O cI a S) q (wd_O cI a S) := by
  intro sz
  refine Met.ofW (cc := cX5_toll) (maxL := 7) (ret := (some .int)) (by decide) rfl ?_
  intro p e s m args below meth c s₁ B hml hv
  obtain ⟨rfl, hsz, hP, hK, hD0⟩ := hv
  subst hsz
  have hl := lv_entry ([.ref (a 0), .int v1, .int v2] : List Value) (n := 7) (Nat.le_of_ble_eq_true rfl)
  rw [lg_entry_eq]
  generalize (lg_sl ([.ref (a 0), .int v1, .int v2] : List Value) ++ List.replicate (7 - (lg_sl ([.ref (a 0), .int v1, .int v2] : List Value)).length) Slot.unset).toArray = ls at hl ⊢
  exact w5_toll (a := a) ⟨B.exec, B.bytes, B.returns, fun w hw => atoms_spec (ws := wm5_toll) B.pre w (List.mem_cons_of_mem _ hw), findClass_of_methodNamed B.named, B.notSynchronized, hml⟩ hK (fun _ h => Or.inr h) h ⟨hP, hD0.self, va_S.rf⟩ hl
end
/-! ## DiceRoads$Roads.copyFrom(LDiceRoads$Roads;)V -/
section
variable {p : Program} {l : Launch} {e : Env} {s : State} {m : MethodId} {args : Array Value} {below : List Frame} {meth : Method} {c : Code} {dC : Nat → ClassId} {dI : Nat → Nat → Nat} {cI : ClassId} {A : Nat → Prop}
set_option maxRecDepth 100000 in
set_option maxHeartbeats 4000000 in
theorem w5_copyFrom (C : cx_M p s m args meth c RX5 cX5_copyFrom none 2) (hK : va_K (dC, dI) vwCl [(cI, .int)] s) (hA : ∀ q, s.heap.size ≤ q → A q) {a : Nat → Nat} {Z : ms_T} {q : ms_T} {S : ms_T} (h : f5_copyFrom Z S = some q) {H : Heap} {locs : List Loc} {ls : Array Slot} (hG : gd_W (dC, dI) A s (wd_OO cI a Z S) H locs) (hl : lv_has ls 2 [(0, .ref (a 0)), (1, .ref (a 5))]) : W p l e RM5_copyFrom s m args below meth c H locs 0 0 (MQ below (qv_W (dC, dI) [(cI, .int)] A (wd_OO cI a Z q)) args s 0 0 A) (F0 m 0 ls []) := by
  unfold f5_copyFrom at h
  obtain ⟨hx, hb, hr, hts, hown, hlocks, hml⟩ := id C
  refine lv_aload_n hx hb dX5_copyFrom_0 rfl (lv_at hl 0 rfl) ?_
  refine va_get (D := (dC, dI)) (ci := 4) (v := .ref (a 1)) (C := RX5) (T := TX5) (N := 2) hx hb hts inlX5 hown hK hG.1 0 rfl rfl 0 (by decide) (hts (Cond.fieldLink RX5 14 "DiceRoads$Roads" "first" "LDiceRoads$Row;") wq_56) (fun _ h9 => h9) rfl dX5_copyFrom_1 ?_
  refine lv_aload_n hx hb dX5_copyFrom_4 rfl (lv_at hl 1 rfl) ?_
  refine va_get (D := (dC, dI)) (ci := 4) (v := .ref (a 6)) (C := RX5) (T := TX5) (N := 2) hx hb hts inlX5 hown hK hG.1 5 rfl rfl 0 (by decide) (hts (Cond.fieldLink RX5 14 "DiceRoads$Roads" "first" "LDiceRoads$Row;") wq_56) (fun _ h9 => h9) rfl dX5_copyFrom_5 ?_
  obtain ⟨q8, hq8, h⟩ := fo_bd_some h
  refine gc_vV (b := a 1) (C := RX6) (As := [.ref (a 6)]) (rest := []) (wc := (wd_RR cI (fun k => match k with | 0 => a 1 | 1 => a 2 | 2 => a 6 | _ => a 7) (-6) (-6) 20 (Z 0) (S 0))) (w1 := (wd_RR cI (fun k => match k with | 0 => a 1 | 1 => a 2 | 2 => a 6 | _ => a 7) (-6) (-6) 20 (Z 0) q8)) (ci := 5) (q0 := 0) ⟨hx, hb, hml, hown, hts⟩ (c6_copyFrom l (a := (fun k => match k with | 0 => a 1 | 1 => a 2 | 2 => a 6 | _ => a 7)) (v := (-6)) (w := (-6)) (z := 20) (F := (Z 0)) hq8) (cwV 1 hts gv_X5_23 rfl rfl rfl hd6_copyFrom ⟨Nat.le_of_ble_eq_true rfl, Nat.le_of_ble_eq_true rfl⟩) hK [0] rfl hA hG [1, 2, 6, 7] rfl rfl rfl rfl rfl rfl hl.1 rfl (Nat.le_of_ble_eq_true rfl) dX5_copyFrom_8 ⟨Nat.zero_le _, Nat.zero_le _⟩ (fun H locs hG9 => ?_)
  have hG : gd_W (dC, dI) A s (wd_OO cI a Z (ms_set S 0 q8)) H locs := hG9
  refine lv_aload_n hx hb dX5_copyFrom_11 rfl (lv_at hl 0 rfl) ?_
  refine va_get (D := (dC, dI)) (ci := 4) (v := .ref (a 3)) (C := RX5) (T := TX5) (N := 2) hx hb hts inlX5 hown hK hG.1 0 rfl rfl 1 (by decide) (hts (Cond.fieldLink RX5 20 "DiceRoads$Roads" "second" "LDiceRoads$Row;") wq_57) (fun _ h9 => h9) rfl dX5_copyFrom_12 ?_
  refine lv_aload_n hx hb dX5_copyFrom_15 rfl (lv_at hl 1 rfl) ?_
  refine va_get (D := (dC, dI)) (ci := 4) (v := .ref (a 8)) (C := RX5) (T := TX5) (N := 2) hx hb hts inlX5 hown hK hG.1 5 rfl rfl 1 (by decide) (hts (Cond.fieldLink RX5 20 "DiceRoads$Roads" "second" "LDiceRoads$Row;") wq_57) (fun _ h9 => h9) rfl dX5_copyFrom_16 ?_
  obtain ⟨q19, hq19, h⟩ := fo_bd_some h
  refine gc_vV (b := a 3) (C := RX6) (As := [.ref (a 8)]) (rest := []) (wc := (wd_RR cI (fun k => match k with | 0 => a 3 | 1 => a 4 | 2 => a 8 | _ => a 9) (-6) (-6) 20 (Z 1) ((ms_set S 0 q8) 1))) (w1 := (wd_RR cI (fun k => match k with | 0 => a 3 | 1 => a 4 | 2 => a 8 | _ => a 9) (-6) (-6) 20 (Z 1) q19)) (ci := 5) (q0 := 0) ⟨hx, hb, hml, hown, hts⟩ (c6_copyFrom l (a := (fun k => match k with | 0 => a 3 | 1 => a 4 | 2 => a 8 | _ => a 9)) (v := (-6)) (w := (-6)) (z := 20) (F := (Z 1)) hq19) (cwV 1 hts gv_X5_23 rfl rfl rfl hd6_copyFrom ⟨Nat.le_of_ble_eq_true rfl, Nat.le_of_ble_eq_true rfl⟩) hK [0] rfl hA hG [3, 4, 8, 9] rfl rfl rfl rfl rfl rfl hl.1 rfl (Nat.le_of_ble_eq_true rfl) dX5_copyFrom_19 ⟨Nat.zero_le _, Nat.zero_le _⟩ (fun H locs hG9 => ?_)
  have hG : gd_W (dC, dI) A s (wd_OO cI a Z (ms_set (ms_set S 0 q8) 1 q19)) H locs := hG9
  obtain rfl := Option.some.inj h
  exact gr_v hx hb hr hlocks hK hG dX5_copyFrom_22
set_option maxRecDepth 100000 in
set_option maxHeartbeats 4000000 in
theorem c5_copyFrom (l : Launch) {dC : Nat → ClassId} {dI : Nat → Nat → Nat} {cI : ClassId} {a : Nat → Nat} {Z : ms_T} {S : ms_T} {q : ms_T} (h : f5_copyFrom Z S = some q) : mv_M l yX5_copyFrom wm5_copyFrom RM5_copyFrom (dC, dI) [(cI, .int)] [.ref (a 0), .ref (a 5)] (wd_OO cI a Z S) (wd_OO cI a Z q) := by
  intro sz
  refine Met.ofW (cc := cX5_copyFrom) (maxL := 2) (ret := none) (by decide) rfl ?_
  intro p e s m args below meth c s₁ B hml hv
  obtain ⟨rfl, hsz, hP, hK, hD0⟩ := hv
  subst hsz
  have hl := lv_entry ([.ref (a 0), .ref (a 5)] : List Value) (n := 2) (Nat.le_of_ble_eq_true rfl)
  rw [lg_entry_eq]
  generalize (lg_sl ([.ref (a 0), .ref (a 5)] : List Value) ++ List.replicate (2 - (lg_sl ([.ref (a 0), .ref (a 5)] : List Value)).length) Slot.unset).toArray = ls at hl ⊢
  exact w5_copyFrom (a := a) ⟨B.exec, B.bytes, B.returns, fun w hw => atoms_spec (ws := wm5_copyFrom) B.pre w (List.mem_cons_of_mem _ hw), findClass_of_methodNamed B.named, B.notSynchronized, hml⟩ hK (fun _ h => Or.inr h) h ⟨hP, hD0.self, va_S.rf⟩ hl
end
/-! ## DiceRoads$Debts.coinsOf(II)I -/
section
variable {p : Program} {l : Launch} {e : Env} {s : State} {m : MethodId} {args : Array Value} {below : List Frame} {meth : Method} {c : Code} {dC : Nat → ClassId} {dI : Nat → Nat → Nat} {cI : ClassId} {A : Nat → Prop}
set_option maxRecDepth 100000 in
set_option maxHeartbeats 4000000 in
theorem w1_coinsOf (C : cx_M p s m args meth c RX1 cX1_coinsOf (some .int) 3) (hK : va_K (dC, dI) vwCl [(cI, .int)] s) (hA : ∀ q, s.heap.size ≤ q → A q) {a : Nat → Nat} {q : Int32} {v1 : Int32} {v2 : Int32} {S : ms_T} (h : f1_coinsOf v1 v2 S = some q) {H : Heap} {locs : List Loc} {ls : Array Slot} (hG : gd_W (dC, dI) A s (wd_D cI a S) H locs) (hl : lv_has ls 3 [(0, .ref (a 0)), (1, .int v1), (2, .int v2)]) : W p l e RM1_coinsOf s m args below meth c H locs 0 0 (MQ below (qi_W (dC, dI) [(cI, .int)] A q (wd_D cI a S)) args s 0 0 A) (F0 m 0 ls []) := by
  unfold f1_coinsOf at h
  obtain ⟨hx, hb, hr, hts, hown, hlocks, hml⟩ := id C
  refine lv_aload_n hx hb dX1_coinsOf_0 rfl (lv_at hl 0 rfl) ?_
  refine va_get (D := (dC, dI)) (ci := 1) (v := .ref (a 1)) (C := RX1) (T := TX1) (N := 3) hx hb hts inlX1 hown hK hG.1 0 rfl rfl 0 (by decide) (hts (Cond.fieldLink RX1 14 "DiceRoads$Debts" "coins" "LDiceRoads$Row;") wq_71) (fun _ h9 => h9) rfl dX1_coinsOf_1 ?_
  refine lv_iload_n hx hb dX1_coinsOf_4 rfl (lv_at hl 1 rfl) ?_
  refine lv_iconst (v := (4 : Int32)) hx hb dX1_coinsOf_5 (by decide) ?_
  refine lv_imul hx hb dX1_coinsOf_6 ?_
  refine lv_iload_n hx hb dX1_coinsOf_7 rfl (lv_at hl 2 rfl) ?_
  refine lv_iadd hx hb dX1_coinsOf_8 ?_
  obtain ⟨q9, hq9, h⟩ := fo_bd_some h
  refine gc_iV (b := a 1) (C := RX6) (As := [.int ((v1 * (4 : Int32)) + v2)]) (rest := []) (wc := (wd_R cI (fun k => a (k + 1)) 0 16 (S 0))) (w1 := (wd_R cI (fun k => a (k + 1)) 0 16 (S 0))) (ci := 5) (q0 := 0) ⟨hx, hb, hml, hown, hts⟩ (c6_at l (a := (fun k => a (k + 1))) (v := 0) (z := 16) hq9) (cwV 1 hts gv_X1_30 rfl rfl rfl hd6_at ⟨Nat.le_of_ble_eq_true rfl, Nat.le_of_ble_eq_true rfl⟩) hK [0] rfl hA hG [1, 2] rfl rfl rfl rfl rfl rfl hl.1 rfl (Nat.le_of_ble_eq_true rfl) dX1_coinsOf_9 ⟨Nat.zero_le _, Nat.zero_le _⟩ (fun H locs hG9 => ?_)
  have hG : gd_W (dC, dI) A s (wd_D cI a S) H locs := hG9
  exact gr_i hx hb hr hlocks hK hG (Option.some.inj h) dX1_coinsOf_12
set_option maxRecDepth 100000 in
set_option maxHeartbeats 4000000 in
theorem c1_coinsOf (l : Launch) {dC : Nat → ClassId} {dI : Nat → Nat → Nat} {cI : ClassId} {a : Nat → Nat} {v1 : Int32} {v2 : Int32} {S : ms_T} {q : Int32} (h : f1_coinsOf v1 v2 S = some q) : mi_M l yX1_coinsOf wm1_coinsOf RM1_coinsOf (dC, dI) [(cI, .int)] [.ref (a 0), .int v1, .int v2] (wd_D cI a S) q (wd_D cI a S) := by
  intro sz
  refine Met.ofW (cc := cX1_coinsOf) (maxL := 3) (ret := (some .int)) (by decide) rfl ?_
  intro p e s m args below meth c s₁ B hml hv
  obtain ⟨rfl, hsz, hP, hK, hD0⟩ := hv
  subst hsz
  have hl := lv_entry ([.ref (a 0), .int v1, .int v2] : List Value) (n := 3) (Nat.le_of_ble_eq_true rfl)
  rw [lg_entry_eq]
  generalize (lg_sl ([.ref (a 0), .int v1, .int v2] : List Value) ++ List.replicate (3 - (lg_sl ([.ref (a 0), .int v1, .int v2] : List Value)).length) Slot.unset).toArray = ls at hl ⊢
  exact w1_coinsOf (a := a) ⟨B.exec, B.bytes, B.returns, fun w hw => atoms_spec (ws := wm1_coinsOf) B.pre w (List.mem_cons_of_mem _ hw), findClass_of_methodNamed B.named, B.notSynchronized, hml⟩ hK (fun _ h => Or.inr h) h ⟨hP, hD0.self, va_S.rf⟩ hl
end
/-! ## DiceRoads$Debts.ageOf(II)I -/
section
variable {p : Program} {l : Launch} {e : Env} {s : State} {m : MethodId} {args : Array Value} {below : List Frame} {meth : Method} {c : Code} {dC : Nat → ClassId} {dI : Nat → Nat → Nat} {cI : ClassId} {A : Nat → Prop}
set_option maxRecDepth 100000 in
set_option maxHeartbeats 4000000 in
theorem w1_ageOf (C : cx_M p s m args meth c RX1 cX1_ageOf (some .int) 3) (hK : va_K (dC, dI) vwCl [(cI, .int)] s) (hA : ∀ q, s.heap.size ≤ q → A q) {a : Nat → Nat} {q : Int32} {v1 : Int32} {v2 : Int32} {S : ms_T} (h : f1_ageOf v1 v2 S = some q) {H : Heap} {locs : List Loc} {ls : Array Slot} (hG : gd_W (dC, dI) A s (wd_D cI a S) H locs) (hl : lv_has ls 3 [(0, .ref (a 0)), (1, .int v1), (2, .int v2)]) : W p l e RM1_ageOf s m args below meth c H locs 0 0 (MQ below (qi_W (dC, dI) [(cI, .int)] A q (wd_D cI a S)) args s 0 0 A) (F0 m 0 ls []) := by
  unfold f1_ageOf at h
  obtain ⟨hx, hb, hr, hts, hown, hlocks, hml⟩ := id C
  refine lv_aload_n hx hb dX1_ageOf_0 rfl (lv_at hl 0 rfl) ?_
  refine va_get (D := (dC, dI)) (ci := 1) (v := .ref (a 3)) (C := RX1) (T := TX1) (N := 3) hx hb hts inlX1 hown hK hG.1 0 rfl rfl 1 (by decide) (hts (Cond.fieldLink RX1 20 "DiceRoads$Debts" "ages" "LDiceRoads$Row;") wq_72) (fun _ h9 => h9) rfl dX1_ageOf_1 ?_
  refine lv_iload_n hx hb dX1_ageOf_4 rfl (lv_at hl 1 rfl) ?_
  refine lv_iconst (v := (4 : Int32)) hx hb dX1_ageOf_5 (by decide) ?_
  refine lv_imul hx hb dX1_ageOf_6 ?_
  refine lv_iload_n hx hb dX1_ageOf_7 rfl (lv_at hl 2 rfl) ?_
  refine lv_iadd hx hb dX1_ageOf_8 ?_
  obtain ⟨q9, hq9, h⟩ := fo_bd_some h
  refine gc_iV (b := a 3) (C := RX6) (As := [.int ((v1 * (4 : Int32)) + v2)]) (rest := []) (wc := (wd_R cI (fun k => a (k + 3)) (-6) 16 (S 1))) (w1 := (wd_R cI (fun k => a (k + 3)) (-6) 16 (S 1))) (ci := 5) (q0 := 0) ⟨hx, hb, hml, hown, hts⟩ (c6_at l (a := (fun k => a (k + 3))) (v := (-6)) (z := 16) hq9) (cwV 1 hts gv_X1_30 rfl rfl rfl hd6_at ⟨Nat.le_of_ble_eq_true rfl, Nat.le_of_ble_eq_true rfl⟩) hK [0] rfl hA hG [3, 4] rfl rfl rfl rfl rfl rfl hl.1 rfl (Nat.le_of_ble_eq_true rfl) dX1_ageOf_9 ⟨Nat.zero_le _, Nat.zero_le _⟩ (fun H locs hG9 => ?_)
  have hG : gd_W (dC, dI) A s (wd_D cI a S) H locs := hG9
  exact gr_i hx hb hr hlocks hK hG (Option.some.inj h) dX1_ageOf_12
set_option maxRecDepth 100000 in
set_option maxHeartbeats 4000000 in
theorem c1_ageOf (l : Launch) {dC : Nat → ClassId} {dI : Nat → Nat → Nat} {cI : ClassId} {a : Nat → Nat} {v1 : Int32} {v2 : Int32} {S : ms_T} {q : Int32} (h : f1_ageOf v1 v2 S = some q) : mi_M l yX1_ageOf wm1_ageOf RM1_ageOf (dC, dI) [(cI, .int)] [.ref (a 0), .int v1, .int v2] (wd_D cI a S) q (wd_D cI a S) := by
  intro sz
  refine Met.ofW (cc := cX1_ageOf) (maxL := 3) (ret := (some .int)) (by decide) rfl ?_
  intro p e s m args below meth c s₁ B hml hv
  obtain ⟨rfl, hsz, hP, hK, hD0⟩ := hv
  subst hsz
  have hl := lv_entry ([.ref (a 0), .int v1, .int v2] : List Value) (n := 3) (Nat.le_of_ble_eq_true rfl)
  rw [lg_entry_eq]
  generalize (lg_sl ([.ref (a 0), .int v1, .int v2] : List Value) ++ List.replicate (3 - (lg_sl ([.ref (a 0), .int v1, .int v2] : List Value)).length) Slot.unset).toArray = ls at hl ⊢
  exact w1_ageOf (a := a) ⟨B.exec, B.bytes, B.returns, fun w hw => atoms_spec (ws := wm1_ageOf) B.pre w (List.mem_cons_of_mem _ hw), findClass_of_methodNamed B.named, B.notSynchronized, hml⟩ hK (fun _ h => Or.inr h) h ⟨hP, hD0.self, va_S.rf⟩ hl
end
/-! ## DiceRoads$Debts.grow(III)V -/
section
variable {p : Program} {l : Launch} {e : Env} {s : State} {m : MethodId} {args : Array Value} {below : List Frame} {meth : Method} {c : Code} {dC : Nat → ClassId} {dI : Nat → Nat → Nat} {cI : ClassId} {A : Nat → Prop}
set_option maxRecDepth 100000 in
set_option maxHeartbeats 4000000 in
theorem w1_grow_b33 (C : cx_M p s m args meth c RX1 cX1_grow none 5) (hK : va_K (dC, dI) vwCl [(cI, .int)] s) (hA : ∀ q, s.heap.size ≤ q → A q) {a : Nat → Nat} {q : ms_T} {v3 : Int32} {v4 : Int32} {S : ms_T} (h : f1_grow_b33 v3 v4 S = some q) {H : Heap} {locs : List Loc} {ls : Array Slot} (hG : gd_W (dC, dI) A s (wd_D cI a S) H locs) (hl : lv_has ls 5 [(0, .ref (a 0)), (3, .int v3), (4, .int v4)]) : W p l e RM1_grow s m args below meth c H locs 0 0 (MQ below (qv_W (dC, dI) [(cI, .int)] A (wd_D cI a q)) args s 0 0 A) (F0 m 33 ls []) := by
  unfold f1_grow_b33 at h
  obtain ⟨hx, hb, hr, hts, hown, hlocks, hml⟩ := id C
  refine lv_aload_n hx hb dX1_grow_33 rfl (lv_at hl 0 rfl) ?_
  refine va_get (D := (dC, dI)) (ci := 1) (v := .ref (a 1)) (C := RX1) (T := TX1) (N := 3) hx hb hts inlX1 hown hK hG.1 0 rfl rfl 0 (by decide) (hts (Cond.fieldLink RX1 14 "DiceRoads$Debts" "coins" "LDiceRoads$Row;") wq_71) (fun _ h9 => h9) rfl dX1_grow_34 ?_
  refine lv_iload hx hb dX1_grow_37 (lv_at hl 2 rfl) ?_
  refine lv_iload_n hx hb dX1_grow_39 rfl (lv_at hl 1 rfl) ?_
  obtain ⟨q40, hq40, h⟩ := fo_bd_some h
  refine gc_vV (b := a 1) (C := RX6) (As := [.int v4, .int v3]) (rest := []) (wc := (wd_R cI (fun k => a (k + 1)) 0 16 (S 0))) (w1 := (wd_R cI (fun k => a (k + 1)) 0 16 q40)) (ci := 5) (q0 := 0) ⟨hx, hb, hml, hown, hts⟩ (c6_add l (a := (fun k => a (k + 1))) (v := 0) (z := 16) hq40) (cwV 2 hts gv_X1_37 rfl rfl rfl hd6_add ⟨Nat.le_of_ble_eq_true rfl, Nat.le_of_ble_eq_true rfl⟩) hK [0] rfl hA hG [1, 2] rfl rfl rfl rfl rfl rfl hl.1 rfl (Nat.le_of_ble_eq_true rfl) dX1_grow_40 ⟨Nat.zero_le _, Nat.zero_le _⟩ (fun H locs hG9 => ?_)
  have hG : gd_W (dC, dI) A s (wd_D cI a (ms_set S 0 q40)) H locs := hG9
  obtain rfl := Option.some.inj h
  exact gr_v hx hb hr hlocks hK hG dX1_grow_43
set_option maxRecDepth 100000 in
set_option maxHeartbeats 4000000 in
theorem w1_grow (C : cx_M p s m args meth c RX1 cX1_grow none 5) (hK : va_K (dC, dI) vwCl [(cI, .int)] s) (hA : ∀ q, s.heap.size ≤ q → A q) {a : Nat → Nat} {q : ms_T} {v1 : Int32} {v2 : Int32} {v3 : Int32} {S : ms_T} (h : f1_grow v1 v2 v3 S = some q) {H : Heap} {locs : List Loc} {ls : Array Slot} (hG : gd_W (dC, dI) A s (wd_D cI a S) H locs) (hl : lv_has ls 5 [(0, .ref (a 0)), (1, .int v1), (2, .int v2), (3, .int v3)]) : W p l e RM1_grow s m args below meth c H locs 0 0 (MQ below (qv_W (dC, dI) [(cI, .int)] A (wd_D cI a q)) args s 0 0 A) (F0 m 0 ls []) := by
  unfold f1_grow at h
  obtain ⟨hx, hb, hr, hts, hown, hlocks, hml⟩ := id C
  refine lv_iload_n hx hb dX1_grow_0 rfl (lv_at hl 1 rfl) ?_
  refine lv_iconst (v := (4 : Int32)) hx hb dX1_grow_1 (by decide) ?_
  refine lv_imul hx hb dX1_grow_2 ?_
  refine lv_iload_n hx hb dX1_grow_3 rfl (lv_at hl 2 rfl) ?_
  refine lv_iadd hx hb dX1_grow_4 ?_
  refine lv_istore (lv' := [(4, .int ((v1 * (4 : Int32)) + v2)), (0, .ref (a 0)), (1, .int v1), (2, .int v2), (3, .int v3)]) hx hb dX1_grow_5 hl (by decide) rfl (fun ls hl => ?_)
  refine lv_iload_n hx hb dX1_grow_7 rfl (lv_at hl 4 rfl) ?_
  refine lv_if_le (tgt := 33) hx hb dX1_grow_8 (by decide) (fun hc => ?_) (fun hc => ?_)
  · have h := fo_it h hc
    exact w1_grow_b33 C hK hA h hG (lv_sub hl [1, 4, 0] rfl)
  · have h := fo_if h hc
    refine lv_aload_n hx hb dX1_grow_11 rfl (lv_at hl 1 rfl) ?_
    refine va_get (D := (dC, dI)) (ci := 1) (v := .ref (a 1)) (C := RX1) (T := TX1) (N := 3) hx hb hts inlX1 hown hK hG.1 0 rfl rfl 0 (by decide) (hts (Cond.fieldLink RX1 14 "DiceRoads$Debts" "coins" "LDiceRoads$Row;") wq_71) (fun _ h9 => h9) rfl dX1_grow_12 ?_
    refine lv_iload hx hb dX1_grow_15 (lv_at hl 0 rfl) ?_
    obtain ⟨q17, hq17, h⟩ := fo_bd_some h
    refine gc_iV (b := a 1) (C := RX6) (As := [.int ((v1 * (4 : Int32)) + v2)]) (rest := []) (wc := (wd_R cI (fun k => a (k + 1)) 0 16 (S 0))) (w1 := (wd_R cI (fun k => a (k + 1)) 0 16 (S 0))) (ci := 5) (q0 := 0) ⟨hx, hb, hml, hown, hts⟩ (c6_at l (a := (fun k => a (k + 1))) (v := 0) (z := 16) hq17) (cwV 1 hts gv_X1_30 rfl rfl rfl hd6_at ⟨Nat.le_of_ble_eq_true rfl, Nat.le_of_ble_eq_true rfl⟩) hK [0] rfl hA hG [1, 2] rfl rfl rfl rfl rfl rfl hl.1 rfl (Nat.le_of_ble_eq_true rfl) dX1_grow_17 ⟨Nat.zero_le _, Nat.zero_le _⟩ (fun H locs hG9 => ?_)
    have hG : gd_W (dC, dI) A s (wd_D cI a S) H locs := hG9
    refine lv_if_ne (tgt := 33) hx hb dX1_grow_20 (by decide) (fun hc => ?_) (fun hc => ?_)
    · have h := fo_if h hc
      exact w1_grow_b33 C hK hA h hG (lv_sub hl [1, 4, 0] rfl)
    · have h := fo_it h hc
      refine lv_aload_n hx hb dX1_grow_23 rfl (lv_at hl 1 rfl) ?_
      refine va_get (D := (dC, dI)) (ci := 1) (v := .ref (a 3)) (C := RX1) (T := TX1) (N := 3) hx hb hts inlX1 hown hK hG.1 0 rfl rfl 1 (by decide) (hts (Cond.fieldLink RX1 20 "DiceRoads$Debts" "ages" "LDiceRoads$Row;") wq_72) (fun _ h9 => h9) rfl dX1_grow_24 ?_
      refine lv_iload hx hb dX1_grow_27 (lv_at hl 0 rfl) ?_
      refine lv_iconst (v := (0 : Int32)) hx hb dX1_grow_29 (by decide) ?_
      obtain ⟨q30, hq30, h⟩ := fo_bd_some h
      refine gc_vV (b := a 3) (C := RX6) (As := [.int ((v1 * (4 : Int32)) + v2), .int (0 : Int32)]) (rest := []) (wc := (wd_R cI (fun k => a (k + 3)) (-6) 16 (S 1))) (w1 := (wd_R cI (fun k => a (k + 3)) (-6) 16 q30)) (ci := 5) (q0 := 0) ⟨hx, hb, hml, hown, hts⟩ (c6_write l (a := (fun k => a (k + 3))) (v := (-6)) (z := 16) hq30) (cwV 2 hts gv_X1_34 rfl rfl rfl hd6_write ⟨Nat.le_of_ble_eq_true rfl, Nat.le_of_ble_eq_true rfl⟩) hK [0] rfl hA hG [3, 4] rfl rfl rfl rfl rfl rfl hl.1 rfl (Nat.le_of_ble_eq_true rfl) dX1_grow_30 ⟨Nat.zero_le _, Nat.zero_le _⟩ (fun H locs hG9 => ?_)
      have hG : gd_W (dC, dI) A s (wd_D cI a (ms_set S 1 q30)) H locs := hG9
      exact w1_grow_b33 C hK hA h hG (lv_sub hl [1, 4, 0] rfl)
set_option maxRecDepth 100000 in
set_option maxHeartbeats 4000000 in
theorem c1_grow (l : Launch) {dC : Nat → ClassId} {dI : Nat → Nat → Nat} {cI : ClassId} {a : Nat → Nat} {v1 : Int32} {v2 : Int32} {v3 : Int32} {S : ms_T} {q : ms_T} (h : f1_grow v1 v2 v3 S = some q) : mv_M l yX1_grow wm1_grow RM1_grow (dC, dI) [(cI, .int)] [.ref (a 0), .int v1, .int v2, .int v3] (wd_D cI a S) (wd_D cI a q) := by
  intro sz
  refine Met.ofW (cc := cX1_grow) (maxL := 5) (ret := none) (by decide) rfl ?_
  intro p e s m args below meth c s₁ B hml hv
  obtain ⟨rfl, hsz, hP, hK, hD0⟩ := hv
  subst hsz
  have hl := lv_entry ([.ref (a 0), .int v1, .int v2, .int v3] : List Value) (n := 5) (Nat.le_of_ble_eq_true rfl)
  rw [lg_entry_eq]
  generalize (lg_sl ([.ref (a 0), .int v1, .int v2, .int v3] : List Value) ++ List.replicate (5 - (lg_sl ([.ref (a 0), .int v1, .int v2, .int v3] : List Value)).length) Slot.unset).toArray = ls at hl ⊢
  exact w1_grow (a := a) ⟨B.exec, B.bytes, B.returns, fun w hw => atoms_spec (ws := wm1_grow) B.pre w (List.mem_cons_of_mem _ hw), findClass_of_methodNamed B.named, B.notSynchronized, hml⟩ hK (fun _ h => Or.inr h) h ⟨hP, hD0.self, va_S.rf⟩ hl
end
/-! ## DiceRoads$Debts.shrink(III)V -/
section
variable {p : Program} {l : Launch} {e : Env} {s : State} {m : MethodId} {args : Array Value} {below : List Frame} {meth : Method} {c : Code} {dC : Nat → ClassId} {dI : Nat → Nat → Nat} {cI : ClassId} {A : Nat → Prop}
set_option maxRecDepth 100000 in
set_option maxHeartbeats 4000000 in
theorem w1_shrink (C : cx_M p s m args meth c RX1 cX1_shrink none 5) (hK : va_K (dC, dI) vwCl [(cI, .int)] s) (hA : ∀ q, s.heap.size ≤ q → A q) {a : Nat → Nat} {q : ms_T} {v1 : Int32} {v2 : Int32} {v3 : Int32} {S : ms_T} (h : f1_shrink v1 v2 v3 S = some q) {H : Heap} {locs : List Loc} {ls : Array Slot} (hG : gd_W (dC, dI) A s (wd_D cI a S) H locs) (hl : lv_has ls 5 [(0, .ref (a 0)), (1, .int v1), (2, .int v2), (3, .int v3)]) : W p l e RM1_shrink s m args below meth c H locs 0 0 (MQ below (qv_W (dC, dI) [(cI, .int)] A (wd_D cI a q)) args s 0 0 A) (F0 m 0 ls []) := by
  unfold f1_shrink at h
  obtain ⟨hx, hb, hr, hts, hown, hlocks, hml⟩ := id C
  refine lv_iload_n hx hb dX1_shrink_0 rfl (lv_at hl 1 rfl) ?_
  refine lv_iconst (v := (4 : Int32)) hx hb dX1_shrink_1 (by decide) ?_
  refine lv_imul hx hb dX1_shrink_2 ?_
  refine lv_iload_n hx hb dX1_shrink_3 rfl (lv_at hl 2 rfl) ?_
  refine lv_iadd hx hb dX1_shrink_4 ?_
  refine lv_istore (lv' := [(4, .int ((v1 * (4 : Int32)) + v2)), (0, .ref (a 0)), (1, .int v1), (2, .int v2), (3, .int v3)]) hx hb dX1_shrink_5 hl (by decide) rfl (fun ls hl => ?_)
  refine lv_aload_n hx hb dX1_shrink_7 rfl (lv_at hl 1 rfl) ?_
  refine va_get (D := (dC, dI)) (ci := 1) (v := .ref (a 1)) (C := RX1) (T := TX1) (N := 3) hx hb hts inlX1 hown hK hG.1 0 rfl rfl 0 (by decide) (hts (Cond.fieldLink RX1 14 "DiceRoads$Debts" "coins" "LDiceRoads$Row;") wq_71) (fun _ h9 => h9) rfl dX1_shrink_8 ?_
  refine lv_iload hx hb dX1_shrink_11 (lv_at hl 0 rfl) ?_
  refine lv_iload_n hx hb dX1_shrink_13 rfl (lv_at hl 4 rfl) ?_
  refine lv_ineg hx hb dX1_shrink_14 ?_
  obtain ⟨q15, hq15, h⟩ := fo_bd_some h
  refine gc_vV (b := a 1) (C := RX6) (As := [.int ((v1 * (4 : Int32)) + v2), .int (-v3)]) (rest := []) (wc := (wd_R cI (fun k => a (k + 1)) 0 16 (S 0))) (w1 := (wd_R cI (fun k => a (k + 1)) 0 16 q15)) (ci := 5) (q0 := 0) ⟨hx, hb, hml, hown, hts⟩ (c6_add l (a := (fun k => a (k + 1))) (v := 0) (z := 16) hq15) (cwV 2 hts gv_X1_37 rfl rfl rfl hd6_add ⟨Nat.le_of_ble_eq_true rfl, Nat.le_of_ble_eq_true rfl⟩) hK [0] rfl hA hG [1, 2] rfl rfl rfl rfl rfl rfl hl.1 rfl (Nat.le_of_ble_eq_true rfl) dX1_shrink_15 ⟨Nat.zero_le _, Nat.zero_le _⟩ (fun H locs hG9 => ?_)
  have hG : gd_W (dC, dI) A s (wd_D cI a (ms_set S 0 q15)) H locs := hG9
  refine lv_aload_n hx hb dX1_shrink_18 rfl (lv_at hl 1 rfl) ?_
  refine va_get (D := (dC, dI)) (ci := 1) (v := .ref (a 1)) (C := RX1) (T := TX1) (N := 3) hx hb hts inlX1 hown hK hG.1 0 rfl rfl 0 (by decide) (hts (Cond.fieldLink RX1 14 "DiceRoads$Debts" "coins" "LDiceRoads$Row;") wq_71) (fun _ h9 => h9) rfl dX1_shrink_19 ?_
  refine lv_iload hx hb dX1_shrink_22 (lv_at hl 0 rfl) ?_
  obtain ⟨q24, hq24, h⟩ := fo_bd_some h
  refine gc_iV (b := a 1) (C := RX6) (As := [.int ((v1 * (4 : Int32)) + v2)]) (rest := []) (wc := (wd_R cI (fun k => a (k + 1)) 0 16 ((ms_set S 0 q15) 0))) (w1 := (wd_R cI (fun k => a (k + 1)) 0 16 ((ms_set S 0 q15) 0))) (ci := 5) (q0 := 0) ⟨hx, hb, hml, hown, hts⟩ (c6_at l (a := (fun k => a (k + 1))) (v := 0) (z := 16) hq24) (cwV 1 hts gv_X1_30 rfl rfl rfl hd6_at ⟨Nat.le_of_ble_eq_true rfl, Nat.le_of_ble_eq_true rfl⟩) hK [0] rfl hA hG [1, 2] rfl rfl rfl rfl rfl rfl hl.1 rfl (Nat.le_of_ble_eq_true rfl) dX1_shrink_24 ⟨Nat.zero_le _, Nat.zero_le _⟩ (fun H locs hG9 => ?_)
  have hG : gd_W (dC, dI) A s (wd_D cI a (ms_set S 0 q15)) H locs := hG9
  refine lv_if_ne (tgt := 41) hx hb dX1_shrink_27 (by decide) (fun hc => ?_) (fun hc => ?_)
  · have h := fo_if h hc
    obtain rfl := Option.some.inj h
    exact gr_v hx hb hr hlocks hK hG dX1_shrink_41
  · have h := fo_it h hc
    refine lv_aload_n hx hb dX1_shrink_30 rfl (lv_at hl 1 rfl) ?_
    refine va_get (D := (dC, dI)) (ci := 1) (v := .ref (a 3)) (C := RX1) (T := TX1) (N := 3) hx hb hts inlX1 hown hK hG.1 0 rfl rfl 1 (by decide) (hts (Cond.fieldLink RX1 20 "DiceRoads$Debts" "ages" "LDiceRoads$Row;") wq_72) (fun _ h9 => h9) rfl dX1_shrink_31 ?_
    refine lv_iload hx hb dX1_shrink_34 (lv_at hl 0 rfl) ?_
    refine lv_bipush (v := (-6 : Int32)) hx hb dX1_shrink_36 (by decide) ?_
    obtain ⟨q38, hq38, h⟩ := fo_bd_some h
    refine gc_vV (b := a 3) (C := RX6) (As := [.int ((v1 * (4 : Int32)) + v2), .int (-6 : Int32)]) (rest := []) (wc := (wd_R cI (fun k => a (k + 3)) (-6) 16 ((ms_set S 0 q15) 1))) (w1 := (wd_R cI (fun k => a (k + 3)) (-6) 16 q38)) (ci := 5) (q0 := 0) ⟨hx, hb, hml, hown, hts⟩ (c6_write l (a := (fun k => a (k + 3))) (v := (-6)) (z := 16) hq38) (cwV 2 hts gv_X1_34 rfl rfl rfl hd6_write ⟨Nat.le_of_ble_eq_true rfl, Nat.le_of_ble_eq_true rfl⟩) hK [0] rfl hA hG [3, 4] rfl rfl rfl rfl rfl rfl hl.1 rfl (Nat.le_of_ble_eq_true rfl) dX1_shrink_38 ⟨Nat.zero_le _, Nat.zero_le _⟩ (fun H locs hG9 => ?_)
    have hG : gd_W (dC, dI) A s (wd_D cI a (ms_set (ms_set S 0 q15) 1 q38)) H locs := hG9
    obtain rfl := Option.some.inj h
    exact gr_v hx hb hr hlocks hK hG dX1_shrink_41
set_option maxRecDepth 100000 in
set_option maxHeartbeats 4000000 in
theorem c1_shrink (l : Launch) {dC : Nat → ClassId} {dI : Nat → Nat → Nat} {cI : ClassId} {a : Nat → Nat} {v1 : Int32} {v2 : Int32} {v3 : Int32} {S : ms_T} {q : ms_T} (h : f1_shrink v1 v2 v3 S = some q) : mv_M l yX1_shrink wm1_shrink RM1_shrink (dC, dI) [(cI, .int)] [.ref (a 0), .int v1, .int v2, .int v3] (wd_D cI a S) (wd_D cI a q) := by
  intro sz
  refine Met.ofW (cc := cX1_shrink) (maxL := 5) (ret := none) (by decide) rfl ?_
  intro p e s m args below meth c s₁ B hml hv
  obtain ⟨rfl, hsz, hP, hK, hD0⟩ := hv
  subst hsz
  have hl := lv_entry ([.ref (a 0), .int v1, .int v2, .int v3] : List Value) (n := 5) (Nat.le_of_ble_eq_true rfl)
  rw [lg_entry_eq]
  generalize (lg_sl ([.ref (a 0), .int v1, .int v2, .int v3] : List Value) ++ List.replicate (5 - (lg_sl ([.ref (a 0), .int v1, .int v2, .int v3] : List Value)).length) Slot.unset).toArray = ls at hl ⊢
  exact w1_shrink (a := a) ⟨B.exec, B.bytes, B.returns, fun w hw => atoms_spec (ws := wm1_shrink) B.pre w (List.mem_cons_of_mem _ hw), findClass_of_methodNamed B.named, B.notSynchronized, hml⟩ hK (fun _ h => Or.inr h) h ⟨hP, hD0.self, va_S.rf⟩ hl
end
/-! ## DiceRoads$Debts.makeOlder(I)V -/
section
variable {p : Program} {l : Launch} {e : Env} {s : State} {m : MethodId} {args : Array Value} {below : List Frame} {meth : Method} {c : Code} {dC : Nat → ClassId} {dI : Nat → Nat → Nat} {cI : ClassId} {A : Nat → Prop}
set_option maxRecDepth 100000 in
set_option maxHeartbeats 4000000 in
theorem w1_makeOlder_b33 (C : cx_M p s m args meth c RX1 cX1_makeOlder none 4) (hK : va_K (dC, dI) vwCl [(cI, .int)] s) (hA : ∀ q, s.heap.size ≤ q → A q) {a : Nat → Nat} {q : ms_T} {rec2 : Int32 → Int32 → ms_T → Option ms_T} (hrec2 : ∀ {v1 : Int32} {v2 : Int32} {S : ms_T} , rec2 v1 v2 S = some q → ∀ {H : Heap} {locs : List Loc} {ls : Array Slot}, gd_W (dC, dI) A s (wd_D cI a S) H locs → lv_has ls 4 [(0, .ref (a 0)), (1, .int v1), (2, .int v2)] → W p l e RM1_makeOlder s m args below meth c H locs 0 0 (MQ below (qv_W (dC, dI) [(cI, .int)] A (wd_D cI a q)) args s 0 0 A) (F0 m 2 ls [])) {v1 : Int32} {v2 : Int32} {S : ms_T} (h : f1_makeOlder_b33 rec2 v1 v2 S = some q) {H : Heap} {locs : List Loc} {ls : Array Slot} (hG : gd_W (dC, dI) A s (wd_D cI a S) H locs) (hl : lv_has ls 4 [(0, .ref (a 0)), (1, .int v1), (2, .int v2)]) : W p l e RM1_makeOlder s m args below meth c H locs 0 0 (MQ below (qv_W (dC, dI) [(cI, .int)] A (wd_D cI a q)) args s 0 0 A) (F0 m 33 ls []) := by
  unfold f1_makeOlder_b33 at h
  obtain ⟨hx, hb, hr, hts, hown, hlocks, hml⟩ := id C
  refine lv_iinc (v := (v2 + (1 : Int32))) (lv' := [(2, .int (v2 + (1 : Int32))), (0, .ref (a 0)), (1, .int v1)]) hx hb dX1_makeOlder_33 hl (k := 2) rfl rfl (by decide) rfl (fun ls hl => ?_)
  refine lv_goto (tgt := 2) hx hb dX1_makeOlder_36 (by decide) ?_
  exact hrec2 h hG (lv_sub hl [1, 2, 0] rfl)
set_option maxRecDepth 100000 in
set_option maxHeartbeats 4000000 in
theorem w1_makeOlder_b2 (C : cx_M p s m args meth c RX1 cX1_makeOlder none 4) (hK : va_K (dC, dI) vwCl [(cI, .int)] s) (hA : ∀ q, s.heap.size ≤ q → A q) {a : Nat → Nat} {q : ms_T} {rec2 : Int32 → Int32 → ms_T → Option ms_T} (hrec2 : ∀ {v1 : Int32} {v2 : Int32} {S : ms_T} , rec2 v1 v2 S = some q → ∀ {H : Heap} {locs : List Loc} {ls : Array Slot}, gd_W (dC, dI) A s (wd_D cI a S) H locs → lv_has ls 4 [(0, .ref (a 0)), (1, .int v1), (2, .int v2)] → W p l e RM1_makeOlder s m args below meth c H locs 0 0 (MQ below (qv_W (dC, dI) [(cI, .int)] A (wd_D cI a q)) args s 0 0 A) (F0 m 2 ls [])) {v1 : Int32} {v2 : Int32} {S : ms_T} (h : f1_makeOlder_b2 rec2 v1 v2 S = some q) {H : Heap} {locs : List Loc} {ls : Array Slot} (hG : gd_W (dC, dI) A s (wd_D cI a S) H locs) (hl : lv_has ls 4 [(0, .ref (a 0)), (1, .int v1), (2, .int v2)]) : W p l e RM1_makeOlder s m args below meth c H locs 0 0 (MQ below (qv_W (dC, dI) [(cI, .int)] A (wd_D cI a q)) args s 0 0 A) (F0 m 2 ls []) := by
  unfold f1_makeOlder_b2 at h
  obtain ⟨hx, hb, hr, hts, hown, hlocks, hml⟩ := id C
  refine lv_iload_n hx hb dX1_makeOlder_2 rfl (lv_at hl 2 rfl) ?_
  refine lv_iconst (v := (4 : Int32)) hx hb dX1_makeOlder_3 (by decide) ?_
  refine lv_icmp_ge (tgt := 39) hx hb dX1_makeOlder_4 (by decide) (fun hc => ?_) (fun hc => ?_)
  · have h := fo_it h hc
    obtain rfl := Option.some.inj h
    exact gr_v hx hb hr hlocks hK hG dX1_makeOlder_39
  · have h := fo_if h hc
    refine lv_iload_n hx hb dX1_makeOlder_7 rfl (lv_at hl 1 rfl) ?_
    refine lv_iconst (v := (4 : Int32)) hx hb dX1_makeOlder_8 (by decide) ?_
    refine lv_imul hx hb dX1_makeOlder_9 ?_
    refine lv_iload_n hx hb dX1_makeOlder_10 rfl (lv_at hl 2 rfl) ?_
    refine lv_iadd hx hb dX1_makeOlder_11 ?_
    refine lv_istore_n (lv' := [(3, .int ((v1 * (4 : Int32)) + v2)), (0, .ref (a 0)), (1, .int v1), (2, .int v2)]) hx hb dX1_makeOlder_12 rfl hl (by decide) rfl (fun ls hl => ?_)
    refine lv_aload_n hx hb dX1_makeOlder_13 rfl (lv_at hl 1 rfl) ?_
    refine va_get (D := (dC, dI)) (ci := 1) (v := .ref (a 1)) (C := RX1) (T := TX1) (N := 3) hx hb hts inlX1 hown hK hG.1 0 rfl rfl 0 (by decide) (hts (Cond.fieldLink RX1 14 "DiceRoads$Debts" "coins" "LDiceRoads$Row;") wq_71) (fun _ h9 => h9) rfl dX1_makeOlder_14 ?_
    refine lv_iload_n hx hb dX1_makeOlder_17 rfl (lv_at hl 0 rfl) ?_
    obtain ⟨q18, hq18, h⟩ := fo_bd_some h
    refine gc_iV (b := a 1) (C := RX6) (As := [.int ((v1 * (4 : Int32)) + v2)]) (rest := []) (wc := (wd_R cI (fun k => a (k + 1)) 0 16 (S 0))) (w1 := (wd_R cI (fun k => a (k + 1)) 0 16 (S 0))) (ci := 5) (q0 := 0) ⟨hx, hb, hml, hown, hts⟩ (c6_at l (a := (fun k => a (k + 1))) (v := 0) (z := 16) hq18) (cwV 1 hts gv_X1_30 rfl rfl rfl hd6_at ⟨Nat.le_of_ble_eq_true rfl, Nat.le_of_ble_eq_true rfl⟩) hK [0] rfl hA hG [1, 2] rfl rfl rfl rfl rfl rfl hl.1 rfl (Nat.le_of_ble_eq_true rfl) dX1_makeOlder_18 ⟨Nat.zero_le _, Nat.zero_le _⟩ (fun H locs hG9 => ?_)
    have hG : gd_W (dC, dI) A s (wd_D cI a S) H locs := hG9
    refine lv_if_le (tgt := 33) hx hb dX1_makeOlder_21 (by decide) (fun hc => ?_) (fun hc => ?_)
    · have h := fo_it h hc
      exact w1_makeOlder_b33 C hK hA (fun h => hrec2 h) h hG (lv_sub hl [1, 2, 3] rfl)
    · have h := fo_if h hc
      refine lv_aload_n hx hb dX1_makeOlder_24 rfl (lv_at hl 1 rfl) ?_
      refine va_get (D := (dC, dI)) (ci := 1) (v := .ref (a 3)) (C := RX1) (T := TX1) (N := 3) hx hb hts inlX1 hown hK hG.1 0 rfl rfl 1 (by decide) (hts (Cond.fieldLink RX1 20 "DiceRoads$Debts" "ages" "LDiceRoads$Row;") wq_72) (fun _ h9 => h9) rfl dX1_makeOlder_25 ?_
      refine lv_iload_n hx hb dX1_makeOlder_28 rfl (lv_at hl 0 rfl) ?_
      refine lv_iconst (v := (1 : Int32)) hx hb dX1_makeOlder_29 (by decide) ?_
      obtain ⟨q30, hq30, h⟩ := fo_bd_some h
      refine gc_vV (b := a 3) (C := RX6) (As := [.int ((v1 * (4 : Int32)) + v2), .int (1 : Int32)]) (rest := []) (wc := (wd_R cI (fun k => a (k + 3)) (-6) 16 (S 1))) (w1 := (wd_R cI (fun k => a (k + 3)) (-6) 16 q30)) (ci := 5) (q0 := 0) ⟨hx, hb, hml, hown, hts⟩ (c6_add l (a := (fun k => a (k + 3))) (v := (-6)) (z := 16) hq30) (cwV 2 hts gv_X1_37 rfl rfl rfl hd6_add ⟨Nat.le_of_ble_eq_true rfl, Nat.le_of_ble_eq_true rfl⟩) hK [0] rfl hA hG [3, 4] rfl rfl rfl rfl rfl rfl hl.1 rfl (Nat.le_of_ble_eq_true rfl) dX1_makeOlder_30 ⟨Nat.zero_le _, Nat.zero_le _⟩ (fun H locs hG9 => ?_)
      have hG : gd_W (dC, dI) A s (wd_D cI a (ms_set S 1 q30)) H locs := hG9
      exact w1_makeOlder_b33 C hK hA (fun h => hrec2 h) h hG (lv_sub hl [1, 2, 3] rfl)
set_option maxRecDepth 100000 in
set_option maxHeartbeats 4000000 in
theorem w1_makeOlder_L2 (C : cx_M p s m args meth c RX1 cX1_makeOlder none 4) (hK : va_K (dC, dI) vwCl [(cI, .int)] s) (hA : ∀ q, s.heap.size ≤ q → A q) {a : Nat → Nat} {q : ms_T} : ∀ (n : Nat) {v1 : Int32} {v2 : Int32} {S : ms_T}, f1_makeOlder_L2 n v1 v2 S = some q → ∀ {H : Heap} {locs : List Loc} {ls : Array Slot}, gd_W (dC, dI) A s (wd_D cI a S) H locs → lv_has ls 4 [(0, .ref (a 0)), (1, .int v1), (2, .int v2)] → W p l e RM1_makeOlder s m args below meth c H locs 0 0 (MQ below (qv_W (dC, dI) [(cI, .int)] A (wd_D cI a q)) args s 0 0 A) (F0 m 2 ls []) := by
  intro n
  induction n with
  | zero => intro _ _ _ h; exact nomatch h
  | succ n ih => intro v1 v2 S h H locs ls hG hl; exact w1_makeOlder_b2 C hK hA (fun h => ih h) (show f1_makeOlder_b2 (f1_makeOlder_L2 n) v1 v2 S = some q from h) hG hl
set_option maxRecDepth 100000 in
set_option maxHeartbeats 4000000 in
theorem w1_makeOlder (C : cx_M p s m args meth c RX1 cX1_makeOlder none 4) (hK : va_K (dC, dI) vwCl [(cI, .int)] s) (hA : ∀ q, s.heap.size ≤ q → A q) {a : Nat → Nat} {q : ms_T} {v1 : Int32} {S : ms_T} (h : f1_makeOlder v1 S = some q) {H : Heap} {locs : List Loc} {ls : Array Slot} (hG : gd_W (dC, dI) A s (wd_D cI a S) H locs) (hl : lv_has ls 4 [(0, .ref (a 0)), (1, .int v1)]) : W p l e RM1_makeOlder s m args below meth c H locs 0 0 (MQ below (qv_W (dC, dI) [(cI, .int)] A (wd_D cI a q)) args s 0 0 A) (F0 m 0 ls []) := by
  unfold f1_makeOlder at h
  obtain ⟨hx, hb, hr, hts, hown, hlocks, hml⟩ := id C
  refine lv_iconst (v := (0 : Int32)) hx hb dX1_makeOlder_0 (by decide) ?_
  refine lv_istore_n (lv' := [(2, .int (0 : Int32)), (0, .ref (a 0)), (1, .int v1)]) hx hb dX1_makeOlder_1 rfl hl (by decide) rfl (fun ls hl => ?_)
  exact w1_makeOlder_L2 C hK hA fo_fu h hG (lv_sub hl [1, 2, 0] rfl)
set_option maxRecDepth 100000 in
set_option maxHeartbeats 4000000 in
theorem c1_makeOlder (l : Launch) {dC : Nat → ClassId} {dI : Nat → Nat → Nat} {cI : ClassId} {a : Nat → Nat} {v1 : Int32} {S : ms_T} {q : ms_T} (h : f1_makeOlder v1 S = some q) : mv_M l yX1_makeOlder wm1_makeOlder RM1_makeOlder (dC, dI) [(cI, .int)] [.ref (a 0), .int v1] (wd_D cI a S) (wd_D cI a q) := by
  intro sz
  refine Met.ofW (cc := cX1_makeOlder) (maxL := 4) (ret := none) (by decide) rfl ?_
  intro p e s m args below meth c s₁ B hml hv
  obtain ⟨rfl, hsz, hP, hK, hD0⟩ := hv
  subst hsz
  have hl := lv_entry ([.ref (a 0), .int v1] : List Value) (n := 4) (Nat.le_of_ble_eq_true rfl)
  rw [lg_entry_eq]
  generalize (lg_sl ([.ref (a 0), .int v1] : List Value) ++ List.replicate (4 - (lg_sl ([.ref (a 0), .int v1] : List Value)).length) Slot.unset).toArray = ls at hl ⊢
  exact w1_makeOlder (a := a) ⟨B.exec, B.bytes, B.returns, fun w hw => atoms_spec (ws := wm1_makeOlder) B.pre w (List.mem_cons_of_mem _ hw), findClass_of_methodNamed B.named, B.notSynchronized, hml⟩ hK (fun _ h => Or.inr h) h ⟨hP, hD0.self, va_S.rf⟩ hl
end
/-! ## DiceRoads$Debts.oldestOf(I)I -/
section
variable {p : Program} {l : Launch} {e : Env} {s : State} {m : MethodId} {args : Array Value} {below : List Frame} {meth : Method} {c : Code} {dC : Nat → ClassId} {dI : Nat → Nat → Nat} {cI : ClassId} {A : Nat → Prop}
set_option maxRecDepth 100000 in
set_option maxHeartbeats 4000000 in
theorem w1_oldestOf_b61 (C : cx_M p s m args meth c RX1 cX1_oldestOf (some .int) 6) (hK : va_K (dC, dI) vwCl [(cI, .int)] s) (hA : ∀ q, s.heap.size ≤ q → A q) {a : Nat → Nat} {S : ms_T} {q : Int32} {rec9 : Int32 → Int32 → Int32 → Int32 → ms_T → Option Int32} (hrec9 : ∀ {v1 : Int32} {v2 : Int32} {v3 : Int32} {v4 : Int32} , rec9 v1 v2 v3 v4 S = some q → ∀ {H : Heap} {locs : List Loc} {ls : Array Slot}, gd_W (dC, dI) A s (wd_D cI a S) H locs → lv_has ls 6 [(0, .ref (a 0)), (1, .int v1), (2, .int v2), (3, .int v3), (4, .int v4)] → W p l e RM1_oldestOf s m args below meth c H locs 0 0 (MQ below (qi_W (dC, dI) [(cI, .int)] A q (wd_D cI a S)) args s 0 0 A) (F0 m 9 ls [])) {v1 : Int32} {v2 : Int32} {v3 : Int32} {v4 : Int32} (h : f1_oldestOf_b61 rec9 v1 v2 v3 v4 S = some q) {H : Heap} {locs : List Loc} {ls : Array Slot} (hG : gd_W (dC, dI) A s (wd_D cI a S) H locs) (hl : lv_has ls 6 [(0, .ref (a 0)), (1, .int v1), (2, .int v2), (3, .int v3), (4, .int v4)]) : W p l e RM1_oldestOf s m args below meth c H locs 0 0 (MQ below (qi_W (dC, dI) [(cI, .int)] A q (wd_D cI a S)) args s 0 0 A) (F0 m 61 ls []) := by
  unfold f1_oldestOf_b61 at h
  obtain ⟨hx, hb, hr, hts, hown, hlocks, hml⟩ := id C
  refine lv_iinc (v := (v4 + (1 : Int32))) (lv' := [(4, .int (v4 + (1 : Int32))), (0, .ref (a 0)), (1, .int v1), (2, .int v2), (3, .int v3)]) hx hb dX1_oldestOf_61 hl (k := 4) rfl rfl (by decide) rfl (fun ls hl => ?_)
  refine lv_goto (tgt := 9) hx hb dX1_oldestOf_64 (by decide) ?_
  exact hrec9 h hG (lv_sub hl [1, 2, 3, 4, 0] rfl)
set_option maxRecDepth 100000 in
set_option maxHeartbeats 4000000 in
theorem w1_oldestOf_b9 (C : cx_M p s m args meth c RX1 cX1_oldestOf (some .int) 6) (hK : va_K (dC, dI) vwCl [(cI, .int)] s) (hA : ∀ q, s.heap.size ≤ q → A q) {a : Nat → Nat} {S : ms_T} {q : Int32} {rec9 : Int32 → Int32 → Int32 → Int32 → ms_T → Option Int32} (hrec9 : ∀ {v1 : Int32} {v2 : Int32} {v3 : Int32} {v4 : Int32} , rec9 v1 v2 v3 v4 S = some q → ∀ {H : Heap} {locs : List Loc} {ls : Array Slot}, gd_W (dC, dI) A s (wd_D cI a S) H locs → lv_has ls 6 [(0, .ref (a 0)), (1, .int v1), (2, .int v2), (3, .int v3), (4, .int v4)] → W p l e RM1_oldestOf s m args below meth c H locs 0 0 (MQ below (qi_W (dC, dI) [(cI, .int)] A q (wd_D cI a S)) args s 0 0 A) (F0 m 9 ls [])) {v1 : Int32} {v2 : Int32} {v3 : Int32} {v4 : Int32} (h : f1_oldestOf_b9 rec9 v1 v2 v3 v4 S = some q) {H : Heap} {locs : List Loc} {ls : Array Slot} (hG : gd_W (dC, dI) A s (wd_D cI a S) H locs) (hl : lv_has ls 6 [(0, .ref (a 0)), (1, .int v1), (2, .int v2), (3, .int v3), (4, .int v4)]) : W p l e RM1_oldestOf s m args below meth c H locs 0 0 (MQ below (qi_W (dC, dI) [(cI, .int)] A q (wd_D cI a S)) args s 0 0 A) (F0 m 9 ls []) := by
  unfold f1_oldestOf_b9 at h
  obtain ⟨hx, hb, hr, hts, hown, hlocks, hml⟩ := id C
  refine lv_iload hx hb dX1_oldestOf_9 (lv_at hl 4 rfl) ?_
  refine lv_iconst (v := (4 : Int32)) hx hb dX1_oldestOf_11 (by decide) ?_
  refine lv_icmp_ge (tgt := 67) hx hb dX1_oldestOf_12 (by decide) (fun hc => ?_) (fun hc => ?_)
  · have h := fo_it h hc
    refine lv_iload_n hx hb dX1_oldestOf_67 rfl (lv_at hl 2 rfl) ?_
    exact gr_i hx hb hr hlocks hK hG (Option.some.inj h) dX1_oldestOf_68
  · have h := fo_if h hc
    refine lv_iload_n hx hb dX1_oldestOf_15 rfl (lv_at hl 1 rfl) ?_
    refine lv_iconst (v := (4 : Int32)) hx hb dX1_oldestOf_16 (by decide) ?_
    refine lv_imul hx hb dX1_oldestOf_17 ?_
    refine lv_iload hx hb dX1_oldestOf_18 (lv_at hl 4 rfl) ?_
    refine lv_iadd hx hb dX1_oldestOf_20 ?_
    refine lv_istore (lv' := [(5, .int ((v1 * (4 : Int32)) + v4)), (0, .ref (a 0)), (1, .int v1), (2, .int v2), (3, .int v3), (4, .int v4)]) hx hb dX1_oldestOf_21 hl (by decide) rfl (fun ls hl => ?_)
    refine lv_aload_n hx hb dX1_oldestOf_23 rfl (lv_at hl 1 rfl) ?_
    refine va_get (D := (dC, dI)) (ci := 1) (v := .ref (a 1)) (C := RX1) (T := TX1) (N := 3) hx hb hts inlX1 hown hK hG.1 0 rfl rfl 0 (by decide) (hts (Cond.fieldLink RX1 14 "DiceRoads$Debts" "coins" "LDiceRoads$Row;") wq_71) (fun _ h9 => h9) rfl dX1_oldestOf_24 ?_
    refine lv_iload hx hb dX1_oldestOf_27 (lv_at hl 0 rfl) ?_
    obtain ⟨q29, hq29, h⟩ := fo_bd_some h
    refine gc_iV (b := a 1) (C := RX6) (As := [.int ((v1 * (4 : Int32)) + v4)]) (rest := []) (wc := (wd_R cI (fun k => a (k + 1)) 0 16 (S 0))) (w1 := (wd_R cI (fun k => a (k + 1)) 0 16 (S 0))) (ci := 5) (q0 := 0) ⟨hx, hb, hml, hown, hts⟩ (c6_at l (a := (fun k => a (k + 1))) (v := 0) (z := 16) hq29) (cwV 1 hts gv_X1_30 rfl rfl rfl hd6_at ⟨Nat.le_of_ble_eq_true rfl, Nat.le_of_ble_eq_true rfl⟩) hK [0] rfl hA hG [1, 2] rfl rfl rfl rfl rfl rfl hl.1 rfl (Nat.le_of_ble_eq_true rfl) dX1_oldestOf_29 ⟨Nat.zero_le _, Nat.zero_le _⟩ (fun H locs hG9 => ?_)
    have hG : gd_W (dC, dI) A s (wd_D cI a S) H locs := hG9
    refine lv_if_le (tgt := 61) hx hb dX1_oldestOf_32 (by decide) (fun hc => ?_) (fun hc => ?_)
    · have h := fo_it h hc
      exact w1_oldestOf_b61 C hK hA (fun h => hrec9 h) h hG (lv_sub hl [1, 2, 3, 4, 5] rfl)
    · have h := fo_if h hc
      refine lv_aload_n hx hb dX1_oldestOf_35 rfl (lv_at hl 1 rfl) ?_
      refine va_get (D := (dC, dI)) (ci := 1) (v := .ref (a 3)) (C := RX1) (T := TX1) (N := 3) hx hb hts inlX1 hown hK hG.1 0 rfl rfl 1 (by decide) (hts (Cond.fieldLink RX1 20 "DiceRoads$Debts" "ages" "LDiceRoads$Row;") wq_72) (fun _ h9 => h9) rfl dX1_oldestOf_36 ?_
      refine lv_iload hx hb dX1_oldestOf_39 (lv_at hl 0 rfl) ?_
      obtain ⟨q41, hq41, h⟩ := fo_bd_some h
      refine gc_iV (b := a 3) (C := RX6) (As := [.int ((v1 * (4 : Int32)) + v4)]) (rest := []) (wc := (wd_R cI (fun k => a (k + 3)) (-6) 16 (S 1))) (w1 := (wd_R cI (fun k => a (k + 3)) (-6) 16 (S 1))) (ci := 5) (q0 := 0) ⟨hx, hb, hml, hown, hts⟩ (c6_at l (a := (fun k => a (k + 3))) (v := (-6)) (z := 16) hq41) (cwV 1 hts gv_X1_30 rfl rfl rfl hd6_at ⟨Nat.le_of_ble_eq_true rfl, Nat.le_of_ble_eq_true rfl⟩) hK [0] rfl hA hG [3, 4] rfl rfl rfl rfl rfl rfl hl.1 rfl (Nat.le_of_ble_eq_true rfl) dX1_oldestOf_41 ⟨Nat.zero_le _, Nat.zero_le _⟩ (fun H locs hG9 => ?_)
      have hG : gd_W (dC, dI) A s (wd_D cI a S) H locs := hG9
      refine lv_iload_n hx hb dX1_oldestOf_44 rfl (lv_at hl 4 rfl) ?_
      refine lv_icmp_le (tgt := 61) hx hb dX1_oldestOf_45 (by decide) (fun hc => ?_) (fun hc => ?_)
      · have h := fo_it h hc
        exact w1_oldestOf_b61 C hK hA (fun h => hrec9 h) h hG (lv_sub hl [1, 2, 3, 4, 5] rfl)
      · have h := fo_if h hc
        refine lv_iload hx hb dX1_oldestOf_48 (lv_at hl 5 rfl) ?_
        refine lv_istore_n (lv' := [(2, .int v4), (5, .int ((v1 * (4 : Int32)) + v4)), (0, .ref (a 0)), (1, .int v1), (3, .int v3), (4, .int v4)]) hx hb dX1_oldestOf_50 rfl hl (by decide) rfl (fun ls hl => ?_)
        refine lv_aload_n hx hb dX1_oldestOf_51 rfl (lv_at hl 2 rfl) ?_
        refine va_get (D := (dC, dI)) (ci := 1) (v := .ref (a 3)) (C := RX1) (T := TX1) (N := 3) hx hb hts inlX1 hown hK hG.1 0 rfl rfl 1 (by decide) (hts (Cond.fieldLink RX1 20 "DiceRoads$Debts" "ages" "LDiceRoads$Row;") wq_72) (fun _ h9 => h9) rfl dX1_oldestOf_52 ?_
        refine lv_iload hx hb dX1_oldestOf_55 (lv_at hl 1 rfl) ?_
        obtain ⟨q57, hq57, h⟩ := fo_bd_some h
        refine gc_iV (b := a 3) (C := RX6) (As := [.int ((v1 * (4 : Int32)) + v4)]) (rest := []) (wc := (wd_R cI (fun k => a (k + 3)) (-6) 16 (S 1))) (w1 := (wd_R cI (fun k => a (k + 3)) (-6) 16 (S 1))) (ci := 5) (q0 := 0) ⟨hx, hb, hml, hown, hts⟩ (c6_at l (a := (fun k => a (k + 3))) (v := (-6)) (z := 16) hq57) (cwV 1 hts gv_X1_30 rfl rfl rfl hd6_at ⟨Nat.le_of_ble_eq_true rfl, Nat.le_of_ble_eq_true rfl⟩) hK [0] rfl hA hG [3, 4] rfl rfl rfl rfl rfl rfl hl.1 rfl (Nat.le_of_ble_eq_true rfl) dX1_oldestOf_57 ⟨Nat.zero_le _, Nat.zero_le _⟩ (fun H locs hG9 => ?_)
        have hG : gd_W (dC, dI) A s (wd_D cI a S) H locs := hG9
        refine lv_istore_n (lv' := [(3, .int q57), (2, .int v4), (5, .int ((v1 * (4 : Int32)) + v4)), (0, .ref (a 0)), (1, .int v1), (4, .int v4)]) hx hb dX1_oldestOf_60 rfl hl (by decide) rfl (fun ls hl => ?_)
        exact w1_oldestOf_b61 C hK hA (fun h => hrec9 h) h hG (lv_sub hl [3, 4, 1, 0, 5] rfl)
set_option maxRecDepth 100000 in
set_option maxHeartbeats 4000000 in
theorem w1_oldestOf_L9 (C : cx_M p s m args meth c RX1 cX1_oldestOf (some .int) 6) (hK : va_K (dC, dI) vwCl [(cI, .int)] s) (hA : ∀ q, s.heap.size ≤ q → A q) {a : Nat → Nat} {S : ms_T} {q : Int32} : ∀ (n : Nat) {v1 : Int32} {v2 : Int32} {v3 : Int32} {v4 : Int32}, f1_oldestOf_L9 n v1 v2 v3 v4 S = some q → ∀ {H : Heap} {locs : List Loc} {ls : Array Slot}, gd_W (dC, dI) A s (wd_D cI a S) H locs → lv_has ls 6 [(0, .ref (a 0)), (1, .int v1), (2, .int v2), (3, .int v3), (4, .int v4)] → W p l e RM1_oldestOf s m args below meth c H locs 0 0 (MQ below (qi_W (dC, dI) [(cI, .int)] A q (wd_D cI a S)) args s 0 0 A) (F0 m 9 ls []) := by
  intro n
  induction n with
  | zero => intro _ _ _ _ h; exact nomatch h
  | succ n ih => intro v1 v2 v3 v4 h H locs ls hG hl; exact w1_oldestOf_b9 C hK hA (fun h => ih h) (show f1_oldestOf_b9 (f1_oldestOf_L9 n) v1 v2 v3 v4 S = some q from h) hG hl
set_option maxRecDepth 100000 in
set_option maxHeartbeats 4000000 in
theorem w1_oldestOf (C : cx_M p s m args meth c RX1 cX1_oldestOf (some .int) 6) (hK : va_K (dC, dI) vwCl [(cI, .int)] s) (hA : ∀ q, s.heap.size ≤ q → A q) {a : Nat → Nat} {q : Int32} {v1 : Int32} {S : ms_T} (h : f1_oldestOf v1 S = some q) {H : Heap} {locs : List Loc} {ls : Array Slot} (hG : gd_W (dC, dI) A s (wd_D cI a S) H locs) (hl : lv_has ls 6 [(0, .ref (a 0)), (1, .int v1)]) : W p l e RM1_oldestOf s m args below meth c H locs 0 0 (MQ below (qi_W (dC, dI) [(cI, .int)] A q (wd_D cI a S)) args s 0 0 A) (F0 m 0 ls []) := by
  unfold f1_oldestOf at h
  obtain ⟨hx, hb, hr, hts, hown, hlocks, hml⟩ := id C
  refine lv_bipush (v := (-6 : Int32)) hx hb dX1_oldestOf_0 (by decide) ?_
  refine lv_istore_n (lv' := [(2, .int (-6 : Int32)), (0, .ref (a 0)), (1, .int v1)]) hx hb dX1_oldestOf_2 rfl hl (by decide) rfl (fun ls hl => ?_)
  refine lv_bipush (v := (-6 : Int32)) hx hb dX1_oldestOf_3 (by decide) ?_
  refine lv_istore_n (lv' := [(3, .int (-6 : Int32)), (2, .int (-6 : Int32)), (0, .ref (a 0)), (1, .int v1)]) hx hb dX1_oldestOf_5 rfl hl (by decide) rfl (fun ls hl => ?_)
  refine lv_iconst (v := (0 : Int32)) hx hb dX1_oldestOf_6 (by decide) ?_
  refine lv_istore (lv' := [(4, .int (0 : Int32)), (3, .int (-6 : Int32)), (2, .int (-6 : Int32)), (0, .ref (a 0)), (1, .int v1)]) hx hb dX1_oldestOf_7 hl (by decide) rfl (fun ls hl => ?_)
  exact w1_oldestOf_L9 C hK hA fo_fu h hG (lv_sub hl [3, 4, 2, 1, 0] rfl)
set_option maxRecDepth 100000 in
set_option maxHeartbeats 4000000 in
theorem c1_oldestOf (l : Launch) {dC : Nat → ClassId} {dI : Nat → Nat → Nat} {cI : ClassId} {a : Nat → Nat} {v1 : Int32} {S : ms_T} {q : Int32} (h : f1_oldestOf v1 S = some q) : mi_M l yX1_oldestOf wm1_oldestOf RM1_oldestOf (dC, dI) [(cI, .int)] [.ref (a 0), .int v1] (wd_D cI a S) q (wd_D cI a S) := by
  intro sz
  refine Met.ofW (cc := cX1_oldestOf) (maxL := 6) (ret := (some .int)) (by decide) rfl ?_
  intro p e s m args below meth c s₁ B hml hv
  obtain ⟨rfl, hsz, hP, hK, hD0⟩ := hv
  subst hsz
  have hl := lv_entry ([.ref (a 0), .int v1] : List Value) (n := 6) (Nat.le_of_ble_eq_true rfl)
  rw [lg_entry_eq]
  generalize (lg_sl ([.ref (a 0), .int v1] : List Value) ++ List.replicate (6 - (lg_sl ([.ref (a 0), .int v1] : List Value)).length) Slot.unset).toArray = ls at hl ⊢
  exact w1_oldestOf (a := a) ⟨B.exec, B.bytes, B.returns, fun w hw => atoms_spec (ws := wm1_oldestOf) B.pre w (List.mem_cons_of_mem _ hw), findClass_of_methodNamed B.named, B.notSynchronized, hml⟩ hK (fun _ h => Or.inr h) h ⟨hP, hD0.self, va_S.rf⟩ hl
end
/-! ## DiceRoads$Debts.owedBy(I)I -/
section
variable {p : Program} {l : Launch} {e : Env} {s : State} {m : MethodId} {args : Array Value} {below : List Frame} {meth : Method} {c : Code} {dC : Nat → ClassId} {dI : Nat → Nat → Nat} {cI : ClassId} {A : Nat → Prop}
set_option maxRecDepth 100000 in
set_option maxHeartbeats 4000000 in
theorem w1_owedBy_b4 (C : cx_M p s m args meth c RX1 cX1_owedBy (some .int) 4) (hK : va_K (dC, dI) vwCl [(cI, .int)] s) (hA : ∀ q, s.heap.size ≤ q → A q) {a : Nat → Nat} {S : ms_T} {q : Int32} {rec4 : Int32 → Int32 → Int32 → ms_T → Option Int32} (hrec4 : ∀ {v1 : Int32} {v2 : Int32} {v3 : Int32} , rec4 v1 v2 v3 S = some q → ∀ {H : Heap} {locs : List Loc} {ls : Array Slot}, gd_W (dC, dI) A s (wd_D cI a S) H locs → lv_has ls 4 [(0, .ref (a 0)), (1, .int v1), (2, .int v2), (3, .int v3)] → W p l e RM1_owedBy s m args below meth c H locs 0 0 (MQ below (qi_W (dC, dI) [(cI, .int)] A q (wd_D cI a S)) args s 0 0 A) (F0 m 4 ls [])) {v1 : Int32} {v2 : Int32} {v3 : Int32} (h : f1_owedBy_b4 rec4 v1 v2 v3 S = some q) {H : Heap} {locs : List Loc} {ls : Array Slot} (hG : gd_W (dC, dI) A s (wd_D cI a S) H locs) (hl : lv_has ls 4 [(0, .ref (a 0)), (1, .int v1), (2, .int v2), (3, .int v3)]) : W p l e RM1_owedBy s m args below meth c H locs 0 0 (MQ below (qi_W (dC, dI) [(cI, .int)] A q (wd_D cI a S)) args s 0 0 A) (F0 m 4 ls []) := by
  unfold f1_owedBy_b4 at h
  obtain ⟨hx, hb, hr, hts, hown, hlocks, hml⟩ := id C
  refine lv_iload_n hx hb dX1_owedBy_4 rfl (lv_at hl 3 rfl) ?_
  refine lv_iconst (v := (4 : Int32)) hx hb dX1_owedBy_5 (by decide) ?_
  refine lv_icmp_ge (tgt := 30) hx hb dX1_owedBy_6 (by decide) (fun hc => ?_) (fun hc => ?_)
  · have h := fo_it h hc
    refine lv_iload_n hx hb dX1_owedBy_30 rfl (lv_at hl 2 rfl) ?_
    exact gr_i hx hb hr hlocks hK hG (Option.some.inj h) dX1_owedBy_31
  · have h := fo_if h hc
    refine lv_iload_n hx hb dX1_owedBy_9 rfl (lv_at hl 2 rfl) ?_
    refine lv_aload_n hx hb dX1_owedBy_10 rfl (lv_at hl 0 rfl) ?_
    refine va_get (D := (dC, dI)) (ci := 1) (v := .ref (a 1)) (C := RX1) (T := TX1) (N := 3) hx hb hts inlX1 hown hK hG.1 0 rfl rfl 0 (by decide) (hts (Cond.fieldLink RX1 14 "DiceRoads$Debts" "coins" "LDiceRoads$Row;") wq_71) (fun _ h9 => h9) rfl dX1_owedBy_11 ?_
    refine lv_iload_n hx hb dX1_owedBy_14 rfl (lv_at hl 1 rfl) ?_
    refine lv_iconst (v := (4 : Int32)) hx hb dX1_owedBy_15 (by decide) ?_
    refine lv_imul hx hb dX1_owedBy_16 ?_
    refine lv_iload_n hx hb dX1_owedBy_17 rfl (lv_at hl 3 rfl) ?_
    refine lv_iadd hx hb dX1_owedBy_18 ?_
    obtain ⟨q19, hq19, h⟩ := fo_bd_some h
    refine gc_iV (b := a 1) (C := RX6) (As := [.int ((v1 * (4 : Int32)) + v3)]) (rest := [.int v2]) (wc := (wd_R cI (fun k => a (k + 1)) 0 16 (S 0))) (w1 := (wd_R cI (fun k => a (k + 1)) 0 16 (S 0))) (ci := 5) (q0 := 0) ⟨hx, hb, hml, hown, hts⟩ (c6_at l (a := (fun k => a (k + 1))) (v := 0) (z := 16) hq19) (cwV 1 hts gv_X1_30 rfl rfl rfl hd6_at ⟨Nat.le_of_ble_eq_true rfl, Nat.le_of_ble_eq_true rfl⟩) hK [0] rfl hA hG [1, 2] rfl rfl rfl rfl rfl rfl hl.1 rfl (Nat.le_of_ble_eq_true rfl) dX1_owedBy_19 ⟨Nat.zero_le _, Nat.zero_le _⟩ (fun H locs hG9 => ?_)
    have hG : gd_W (dC, dI) A s (wd_D cI a S) H locs := hG9
    refine lv_iadd hx hb dX1_owedBy_22 ?_
    refine lv_istore_n (lv' := [(2, .int (v2 + q19)), (0, .ref (a 0)), (1, .int v1), (3, .int v3)]) hx hb dX1_owedBy_23 rfl hl (by decide) rfl (fun ls hl => ?_)
    refine lv_iinc (v := (v3 + (1 : Int32))) (lv' := [(3, .int (v3 + (1 : Int32))), (2, .int (v2 + q19)), (0, .ref (a 0)), (1, .int v1)]) hx hb dX1_owedBy_24 hl (k := 3) rfl rfl (by decide) rfl (fun ls hl => ?_)
    refine lv_goto (tgt := 4) hx hb dX1_owedBy_27 (by decide) ?_
    exact hrec4 h hG (lv_sub hl [2, 3, 1, 0] rfl)
set_option maxRecDepth 100000 in
set_option maxHeartbeats 4000000 in
theorem w1_owedBy_L4 (C : cx_M p s m args meth c RX1 cX1_owedBy (some .int) 4) (hK : va_K (dC, dI) vwCl [(cI, .int)] s) (hA : ∀ q, s.heap.size ≤ q → A q) {a : Nat → Nat} {S : ms_T} {q : Int32} : ∀ (n : Nat) {v1 : Int32} {v2 : Int32} {v3 : Int32}, f1_owedBy_L4 n v1 v2 v3 S = some q → ∀ {H : Heap} {locs : List Loc} {ls : Array Slot}, gd_W (dC, dI) A s (wd_D cI a S) H locs → lv_has ls 4 [(0, .ref (a 0)), (1, .int v1), (2, .int v2), (3, .int v3)] → W p l e RM1_owedBy s m args below meth c H locs 0 0 (MQ below (qi_W (dC, dI) [(cI, .int)] A q (wd_D cI a S)) args s 0 0 A) (F0 m 4 ls []) := by
  intro n
  induction n with
  | zero => intro _ _ _ h; exact nomatch h
  | succ n ih => intro v1 v2 v3 h H locs ls hG hl; exact w1_owedBy_b4 C hK hA (fun h => ih h) (show f1_owedBy_b4 (f1_owedBy_L4 n) v1 v2 v3 S = some q from h) hG hl
set_option maxRecDepth 100000 in
set_option maxHeartbeats 4000000 in
theorem w1_owedBy (C : cx_M p s m args meth c RX1 cX1_owedBy (some .int) 4) (hK : va_K (dC, dI) vwCl [(cI, .int)] s) (hA : ∀ q, s.heap.size ≤ q → A q) {a : Nat → Nat} {q : Int32} {v1 : Int32} {S : ms_T} (h : f1_owedBy v1 S = some q) {H : Heap} {locs : List Loc} {ls : Array Slot} (hG : gd_W (dC, dI) A s (wd_D cI a S) H locs) (hl : lv_has ls 4 [(0, .ref (a 0)), (1, .int v1)]) : W p l e RM1_owedBy s m args below meth c H locs 0 0 (MQ below (qi_W (dC, dI) [(cI, .int)] A q (wd_D cI a S)) args s 0 0 A) (F0 m 0 ls []) := by
  unfold f1_owedBy at h
  obtain ⟨hx, hb, hr, hts, hown, hlocks, hml⟩ := id C
  refine lv_iconst (v := (0 : Int32)) hx hb dX1_owedBy_0 (by decide) ?_
  refine lv_istore_n (lv' := [(2, .int (0 : Int32)), (0, .ref (a 0)), (1, .int v1)]) hx hb dX1_owedBy_1 rfl hl (by decide) rfl (fun ls hl => ?_)
  refine lv_iconst (v := (0 : Int32)) hx hb dX1_owedBy_2 (by decide) ?_
  refine lv_istore_n (lv' := [(3, .int (0 : Int32)), (2, .int (0 : Int32)), (0, .ref (a 0)), (1, .int v1)]) hx hb dX1_owedBy_3 rfl hl (by decide) rfl (fun ls hl => ?_)
  exact w1_owedBy_L4 C hK hA fo_fu h hG (lv_sub hl [2, 3, 1, 0] rfl)
set_option maxRecDepth 100000 in
set_option maxHeartbeats 4000000 in
theorem c1_owedBy (l : Launch) {dC : Nat → ClassId} {dI : Nat → Nat → Nat} {cI : ClassId} {a : Nat → Nat} {v1 : Int32} {S : ms_T} {q : Int32} (h : f1_owedBy v1 S = some q) : mi_M l yX1_owedBy wm1_owedBy RM1_owedBy (dC, dI) [(cI, .int)] [.ref (a 0), .int v1] (wd_D cI a S) q (wd_D cI a S) := by
  intro sz
  refine Met.ofW (cc := cX1_owedBy) (maxL := 4) (ret := (some .int)) (by decide) rfl ?_
  intro p e s m args below meth c s₁ B hml hv
  obtain ⟨rfl, hsz, hP, hK, hD0⟩ := hv
  subst hsz
  have hl := lv_entry ([.ref (a 0), .int v1] : List Value) (n := 4) (Nat.le_of_ble_eq_true rfl)
  rw [lg_entry_eq]
  generalize (lg_sl ([.ref (a 0), .int v1] : List Value) ++ List.replicate (4 - (lg_sl ([.ref (a 0), .int v1] : List Value)).length) Slot.unset).toArray = ls at hl ⊢
  exact w1_owedBy (a := a) ⟨B.exec, B.bytes, B.returns, fun w hw => atoms_spec (ws := wm1_owedBy) B.pre w (List.mem_cons_of_mem _ hw), findClass_of_methodNamed B.named, B.notSynchronized, hml⟩ hK (fun _ h => Or.inr h) h ⟨hP, hD0.self, va_S.rf⟩ hl
end
/-! ## DiceRoads$Debts.owedTo(I)I -/
section
variable {p : Program} {l : Launch} {e : Env} {s : State} {m : MethodId} {args : Array Value} {below : List Frame} {meth : Method} {c : Code} {dC : Nat → ClassId} {dI : Nat → Nat → Nat} {cI : ClassId} {A : Nat → Prop}
set_option maxRecDepth 100000 in
set_option maxHeartbeats 4000000 in
theorem w1_owedTo_b4 (C : cx_M p s m args meth c RX1 cX1_owedTo (some .int) 4) (hK : va_K (dC, dI) vwCl [(cI, .int)] s) (hA : ∀ q, s.heap.size ≤ q → A q) {a : Nat → Nat} {S : ms_T} {q : Int32} {rec4 : Int32 → Int32 → Int32 → ms_T → Option Int32} (hrec4 : ∀ {v1 : Int32} {v2 : Int32} {v3 : Int32} , rec4 v1 v2 v3 S = some q → ∀ {H : Heap} {locs : List Loc} {ls : Array Slot}, gd_W (dC, dI) A s (wd_D cI a S) H locs → lv_has ls 4 [(0, .ref (a 0)), (1, .int v1), (2, .int v2), (3, .int v3)] → W p l e RM1_owedTo s m args below meth c H locs 0 0 (MQ below (qi_W (dC, dI) [(cI, .int)] A q (wd_D cI a S)) args s 0 0 A) (F0 m 4 ls [])) {v1 : Int32} {v2 : Int32} {v3 : Int32} (h : f1_owedTo_b4 rec4 v1 v2 v3 S = some q) {H : Heap} {locs : List Loc} {ls : Array Slot} (hG : gd_W (dC, dI) A s (wd_D cI a S) H locs) (hl : lv_has ls 4 [(0, .ref (a 0)), (1, .int v1), (2, .int v2), (3, .int v3)]) : W p l e RM1_owedTo s m args below meth c H locs 0 0 (MQ below (qi_W (dC, dI) [(cI, .int)] A q (wd_D cI a S)) args s 0 0 A) (F0 m 4 ls []) := by
  unfold f1_owedTo_b4 at h
  obtain ⟨hx, hb, hr, hts, hown, hlocks, hml⟩ := id C
  refine lv_iload_n hx hb dX1_owedTo_4 rfl (lv_at hl 3 rfl) ?_
  refine lv_iconst (v := (4 : Int32)) hx hb dX1_owedTo_5 (by decide) ?_
  refine lv_icmp_ge (tgt := 30) hx hb dX1_owedTo_6 (by decide) (fun hc => ?_) (fun hc => ?_)
  · have h := fo_it h hc
    refine lv_iload_n hx hb dX1_owedTo_30 rfl (lv_at hl 2 rfl) ?_
    exact gr_i hx hb hr hlocks hK hG (Option.some.inj h) dX1_owedTo_31
  · have h := fo_if h hc
    refine lv_iload_n hx hb dX1_owedTo_9 rfl (lv_at hl 2 rfl) ?_
    refine lv_aload_n hx hb dX1_owedTo_10 rfl (lv_at hl 0 rfl) ?_
    refine va_get (D := (dC, dI)) (ci := 1) (v := .ref (a 1)) (C := RX1) (T := TX1) (N := 3) hx hb hts inlX1 hown hK hG.1 0 rfl rfl 0 (by decide) (hts (Cond.fieldLink RX1 14 "DiceRoads$Debts" "coins" "LDiceRoads$Row;") wq_71) (fun _ h9 => h9) rfl dX1_owedTo_11 ?_
    refine lv_iload_n hx hb dX1_owedTo_14 rfl (lv_at hl 3 rfl) ?_
    refine lv_iconst (v := (4 : Int32)) hx hb dX1_owedTo_15 (by decide) ?_
    refine lv_imul hx hb dX1_owedTo_16 ?_
    refine lv_iload_n hx hb dX1_owedTo_17 rfl (lv_at hl 1 rfl) ?_
    refine lv_iadd hx hb dX1_owedTo_18 ?_
    obtain ⟨q19, hq19, h⟩ := fo_bd_some h
    refine gc_iV (b := a 1) (C := RX6) (As := [.int ((v3 * (4 : Int32)) + v1)]) (rest := [.int v2]) (wc := (wd_R cI (fun k => a (k + 1)) 0 16 (S 0))) (w1 := (wd_R cI (fun k => a (k + 1)) 0 16 (S 0))) (ci := 5) (q0 := 0) ⟨hx, hb, hml, hown, hts⟩ (c6_at l (a := (fun k => a (k + 1))) (v := 0) (z := 16) hq19) (cwV 1 hts gv_X1_30 rfl rfl rfl hd6_at ⟨Nat.le_of_ble_eq_true rfl, Nat.le_of_ble_eq_true rfl⟩) hK [0] rfl hA hG [1, 2] rfl rfl rfl rfl rfl rfl hl.1 rfl (Nat.le_of_ble_eq_true rfl) dX1_owedTo_19 ⟨Nat.zero_le _, Nat.zero_le _⟩ (fun H locs hG9 => ?_)
    have hG : gd_W (dC, dI) A s (wd_D cI a S) H locs := hG9
    refine lv_iadd hx hb dX1_owedTo_22 ?_
    refine lv_istore_n (lv' := [(2, .int (v2 + q19)), (0, .ref (a 0)), (1, .int v1), (3, .int v3)]) hx hb dX1_owedTo_23 rfl hl (by decide) rfl (fun ls hl => ?_)
    refine lv_iinc (v := (v3 + (1 : Int32))) (lv' := [(3, .int (v3 + (1 : Int32))), (2, .int (v2 + q19)), (0, .ref (a 0)), (1, .int v1)]) hx hb dX1_owedTo_24 hl (k := 3) rfl rfl (by decide) rfl (fun ls hl => ?_)
    refine lv_goto (tgt := 4) hx hb dX1_owedTo_27 (by decide) ?_
    exact hrec4 h hG (lv_sub hl [2, 3, 1, 0] rfl)
set_option maxRecDepth 100000 in
set_option maxHeartbeats 4000000 in
theorem w1_owedTo_L4 (C : cx_M p s m args meth c RX1 cX1_owedTo (some .int) 4) (hK : va_K (dC, dI) vwCl [(cI, .int)] s) (hA : ∀ q, s.heap.size ≤ q → A q) {a : Nat → Nat} {S : ms_T} {q : Int32} : ∀ (n : Nat) {v1 : Int32} {v2 : Int32} {v3 : Int32}, f1_owedTo_L4 n v1 v2 v3 S = some q → ∀ {H : Heap} {locs : List Loc} {ls : Array Slot}, gd_W (dC, dI) A s (wd_D cI a S) H locs → lv_has ls 4 [(0, .ref (a 0)), (1, .int v1), (2, .int v2), (3, .int v3)] → W p l e RM1_owedTo s m args below meth c H locs 0 0 (MQ below (qi_W (dC, dI) [(cI, .int)] A q (wd_D cI a S)) args s 0 0 A) (F0 m 4 ls []) := by
  intro n
  induction n with
  | zero => intro _ _ _ h; exact nomatch h
  | succ n ih => intro v1 v2 v3 h H locs ls hG hl; exact w1_owedTo_b4 C hK hA (fun h => ih h) (show f1_owedTo_b4 (f1_owedTo_L4 n) v1 v2 v3 S = some q from h) hG hl
set_option maxRecDepth 100000 in
set_option maxHeartbeats 4000000 in
theorem w1_owedTo (C : cx_M p s m args meth c RX1 cX1_owedTo (some .int) 4) (hK : va_K (dC, dI) vwCl [(cI, .int)] s) (hA : ∀ q, s.heap.size ≤ q → A q) {a : Nat → Nat} {q : Int32} {v1 : Int32} {S : ms_T} (h : f1_owedTo v1 S = some q) {H : Heap} {locs : List Loc} {ls : Array Slot} (hG : gd_W (dC, dI) A s (wd_D cI a S) H locs) (hl : lv_has ls 4 [(0, .ref (a 0)), (1, .int v1)]) : W p l e RM1_owedTo s m args below meth c H locs 0 0 (MQ below (qi_W (dC, dI) [(cI, .int)] A q (wd_D cI a S)) args s 0 0 A) (F0 m 0 ls []) := by
  unfold f1_owedTo at h
  obtain ⟨hx, hb, hr, hts, hown, hlocks, hml⟩ := id C
  refine lv_iconst (v := (0 : Int32)) hx hb dX1_owedTo_0 (by decide) ?_
  refine lv_istore_n (lv' := [(2, .int (0 : Int32)), (0, .ref (a 0)), (1, .int v1)]) hx hb dX1_owedTo_1 rfl hl (by decide) rfl (fun ls hl => ?_)
  refine lv_iconst (v := (0 : Int32)) hx hb dX1_owedTo_2 (by decide) ?_
  refine lv_istore_n (lv' := [(3, .int (0 : Int32)), (2, .int (0 : Int32)), (0, .ref (a 0)), (1, .int v1)]) hx hb dX1_owedTo_3 rfl hl (by decide) rfl (fun ls hl => ?_)
  exact w1_owedTo_L4 C hK hA fo_fu h hG (lv_sub hl [2, 3, 1, 0] rfl)
set_option maxRecDepth 100000 in
set_option maxHeartbeats 4000000 in
theorem c1_owedTo (l : Launch) {dC : Nat → ClassId} {dI : Nat → Nat → Nat} {cI : ClassId} {a : Nat → Nat} {v1 : Int32} {S : ms_T} {q : Int32} (h : f1_owedTo v1 S = some q) : mi_M l yX1_owedTo wm1_owedTo RM1_owedTo (dC, dI) [(cI, .int)] [.ref (a 0), .int v1] (wd_D cI a S) q (wd_D cI a S) := by
  intro sz
  refine Met.ofW (cc := cX1_owedTo) (maxL := 4) (ret := (some .int)) (by decide) rfl ?_
  intro p e s m args below meth c s₁ B hml hv
  obtain ⟨rfl, hsz, hP, hK, hD0⟩ := hv
  subst hsz
  have hl := lv_entry ([.ref (a 0), .int v1] : List Value) (n := 4) (Nat.le_of_ble_eq_true rfl)
  rw [lg_entry_eq]
  generalize (lg_sl ([.ref (a 0), .int v1] : List Value) ++ List.replicate (4 - (lg_sl ([.ref (a 0), .int v1] : List Value)).length) Slot.unset).toArray = ls at hl ⊢
  exact w1_owedTo (a := a) ⟨B.exec, B.bytes, B.returns, fun w hw => atoms_spec (ws := wm1_owedTo) B.pre w (List.mem_cons_of_mem _ hw), findClass_of_methodNamed B.named, B.notSynchronized, hml⟩ hK (fun _ h => Or.inr h) h ⟨hP, hD0.self, va_S.rf⟩ hl
end
/-! ## DiceRoads$Debts.inAll()I -/
section
variable {p : Program} {l : Launch} {e : Env} {s : State} {m : MethodId} {args : Array Value} {below : List Frame} {meth : Method} {c : Code} {dC : Nat → ClassId} {dI : Nat → Nat → Nat} {cI : ClassId} {A : Nat → Prop}
set_option maxRecDepth 100000 in
set_option maxHeartbeats 4000000 in
theorem w1_inAll (C : cx_M p s m args meth c RX1 cX1_inAll (some .int) 1) (hK : va_K (dC, dI) vwCl [(cI, .int)] s) (hA : ∀ q, s.heap.size ≤ q → A q) {a : Nat → Nat} {q : Int32} {S : ms_T} (h : f1_inAll S = some q) {H : Heap} {locs : List Loc} {ls : Array Slot} (hG : gd_W (dC, dI) A s (wd_D cI a S) H locs) (hl : lv_has ls 1 [(0, .ref (a 0))]) : W p l e RM1_inAll s m args below meth c H locs 0 0 (MQ below (qi_W (dC, dI) [(cI, .int)] A q (wd_D cI a S)) args s 0 0 A) (F0 m 0 ls []) := by
  unfold f1_inAll at h
  obtain ⟨hx, hb, hr, hts, hown, hlocks, hml⟩ := id C
  refine lv_aload_n hx hb dX1_inAll_0 rfl (lv_at hl 0 rfl) ?_
  refine va_get (D := (dC, dI)) (ci := 1) (v := .ref (a 1)) (C := RX1) (T := TX1) (N := 3) hx hb hts inlX1 hown hK hG.1 0 rfl rfl 0 (by decide) (hts (Cond.fieldLink RX1 14 "DiceRoads$Debts" "coins" "LDiceRoads$Row;") wq_71) (fun _ h9 => h9) rfl dX1_inAll_1 ?_
  obtain ⟨q4, hq4, h⟩ := fo_bd_some h
  refine gc_iV (b := a 1) (C := RX6) (As := []) (rest := []) (wc := (wd_R cI (fun k => a (k + 1)) 0 16 (S 0))) (w1 := (wd_R cI (fun k => a (k + 1)) 0 16 (S 0))) (ci := 5) (q0 := 0) ⟨hx, hb, hml, hown, hts⟩ (c6_sum l (a := (fun k => a (k + 1))) (v := 0) (z := 16) hq4) (cwV 0 hts gv_X1_40 rfl rfl rfl hd6_sum ⟨Nat.le_of_ble_eq_true rfl, Nat.le_of_ble_eq_true rfl⟩) hK [0] rfl hA hG [1, 2] rfl rfl rfl rfl rfl rfl hl.1 rfl (Nat.le_of_ble_eq_true rfl) dX1_inAll_4 ⟨Nat.zero_le _, Nat.zero_le _⟩ (fun H locs hG9 => ?_)
  have hG : gd_W (dC, dI) A s (wd_D cI a S) H locs := hG9
  exact gr_i hx hb hr hlocks hK hG (Option.some.inj h) dX1_inAll_7
set_option maxRecDepth 100000 in
set_option maxHeartbeats 4000000 in
theorem c1_inAll (l : Launch) {dC : Nat → ClassId} {dI : Nat → Nat → Nat} {cI : ClassId} {a : Nat → Nat} {S : ms_T} {q : Int32} (h : f1_inAll S = some q) : mi_M l yX1_inAll wm1_inAll RM1_inAll (dC, dI) [(cI, .int)] [.ref (a 0)] (wd_D cI a S) q (wd_D cI a S) := by
  intro sz
  refine Met.ofW (cc := cX1_inAll) (maxL := 1) (ret := (some .int)) (by decide) rfl ?_
  intro p e s m args below meth c s₁ B hml hv
  obtain ⟨rfl, hsz, hP, hK, hD0⟩ := hv
  subst hsz
  have hl := lv_entry ([.ref (a 0)] : List Value) (n := 1) (Nat.le_of_ble_eq_true rfl)
  rw [lg_entry_eq]
  generalize (lg_sl ([.ref (a 0)] : List Value) ++ List.replicate (1 - (lg_sl ([.ref (a 0)] : List Value)).length) Slot.unset).toArray = ls at hl ⊢
  exact w1_inAll (a := a) ⟨B.exec, B.bytes, B.returns, fun w hw => atoms_spec (ws := wm1_inAll) B.pre w (List.mem_cons_of_mem _ hw), findClass_of_methodNamed B.named, B.notSynchronized, hml⟩ hK (fun _ h => Or.inr h) h ⟨hP, hD0.self, va_S.rf⟩ hl
end
/-! ## DiceRoads$Debts.howMany()I -/
section
variable {p : Program} {l : Launch} {e : Env} {s : State} {m : MethodId} {args : Array Value} {below : List Frame} {meth : Method} {c : Code} {dC : Nat → ClassId} {dI : Nat → Nat → Nat} {cI : ClassId} {A : Nat → Prop}
set_option maxRecDepth 100000 in
set_option maxHeartbeats 4000000 in
theorem w1_howMany_b27 (C : cx_M p s m args meth c RX1 cX1_howMany (some .int) 3) (hK : va_K (dC, dI) vwCl [(cI, .int)] s) (hA : ∀ q, s.heap.size ≤ q → A q) {a : Nat → Nat} {S : ms_T} {q : Int32} {rec4 : Int32 → Int32 → ms_T → Option Int32} (hrec4 : ∀ {v1 : Int32} {v2 : Int32} , rec4 v1 v2 S = some q → ∀ {H : Heap} {locs : List Loc} {ls : Array Slot}, gd_W (dC, dI) A s (wd_D cI a S) H locs → lv_has ls 3 [(0, .ref (a 0)), (1, .int v1), (2, .int v2)] → W p l e RM1_howMany s m args below meth c H locs 0 0 (MQ below (qi_W (dC, dI) [(cI, .int)] A q (wd_D cI a S)) args s 0 0 A) (F0 m 4 ls [])) {v2 : Int32} {t0 : Int32} {t1 : Int32} (h : f1_howMany_b27 rec4 v2 t0 t1 S = some q) {H : Heap} {locs : List Loc} {ls : Array Slot} (hG : gd_W (dC, dI) A s (wd_D cI a S) H locs) (hl : lv_has ls 3 [(0, .ref (a 0)), (2, .int v2)]) : W p l e RM1_howMany s m args below meth c H locs 0 0 (MQ below (qi_W (dC, dI) [(cI, .int)] A q (wd_D cI a S)) args s 0 0 A) (F0 m 27 ls [.int t1, .int t0]) := by
  unfold f1_howMany_b27 at h
  obtain ⟨hx, hb, hr, hts, hown, hlocks, hml⟩ := id C
  refine lv_iadd hx hb dX1_howMany_27 ?_
  refine lv_istore_n (lv' := [(1, .int (t0 + t1)), (0, .ref (a 0)), (2, .int v2)]) hx hb dX1_howMany_28 rfl hl (by decide) rfl (fun ls hl => ?_)
  refine lv_iinc (v := (v2 + (1 : Int32))) (lv' := [(2, .int (v2 + (1 : Int32))), (1, .int (t0 + t1)), (0, .ref (a 0))]) hx hb dX1_howMany_29 hl (k := 2) rfl rfl (by decide) rfl (fun ls hl => ?_)
  refine lv_goto (tgt := 4) hx hb dX1_howMany_32 (by decide) ?_
  exact hrec4 h hG (lv_sub hl [2, 1, 0] rfl)
set_option maxRecDepth 100000 in
set_option maxHeartbeats 4000000 in
theorem w1_howMany_b4 (C : cx_M p s m args meth c RX1 cX1_howMany (some .int) 3) (hK : va_K (dC, dI) vwCl [(cI, .int)] s) (hA : ∀ q, s.heap.size ≤ q → A q) {a : Nat → Nat} {S : ms_T} {q : Int32} {rec4 : Int32 → Int32 → ms_T → Option Int32} (hrec4 : ∀ {v1 : Int32} {v2 : Int32} , rec4 v1 v2 S = some q → ∀ {H : Heap} {locs : List Loc} {ls : Array Slot}, gd_W (dC, dI) A s (wd_D cI a S) H locs → lv_has ls 3 [(0, .ref (a 0)), (1, .int v1), (2, .int v2)] → W p l e RM1_howMany s m args below meth c H locs 0 0 (MQ below (qi_W (dC, dI) [(cI, .int)] A q (wd_D cI a S)) args s 0 0 A) (F0 m 4 ls [])) {v1 : Int32} {v2 : Int32} (h : f1_howMany_b4 rec4 v1 v2 S = some q) {H : Heap} {locs : List Loc} {ls : Array Slot} (hG : gd_W (dC, dI) A s (wd_D cI a S) H locs) (hl : lv_has ls 3 [(0, .ref (a 0)), (1, .int v1), (2, .int v2)]) : W p l e RM1_howMany s m args below meth c H locs 0 0 (MQ below (qi_W (dC, dI) [(cI, .int)] A q (wd_D cI a S)) args s 0 0 A) (F0 m 4 ls []) := by
  unfold f1_howMany_b4 at h
  obtain ⟨hx, hb, hr, hts, hown, hlocks, hml⟩ := id C
  refine lv_iload_n hx hb dX1_howMany_4 rfl (lv_at hl 2 rfl) ?_
  refine lv_bipush (v := (16 : Int32)) hx hb dX1_howMany_5 (by decide) ?_
  refine lv_icmp_ge (tgt := 35) hx hb dX1_howMany_7 (by decide) (fun hc => ?_) (fun hc => ?_)
  · have h := fo_it h hc
    refine lv_iload_n hx hb dX1_howMany_35 rfl (lv_at hl 1 rfl) ?_
    exact gr_i hx hb hr hlocks hK hG (Option.some.inj h) dX1_howMany_36
  · have h := fo_if h hc
    refine lv_iload_n hx hb dX1_howMany_10 rfl (lv_at hl 1 rfl) ?_
    refine lv_aload_n hx hb dX1_howMany_11 rfl (lv_at hl 0 rfl) ?_
    refine va_get (D := (dC, dI)) (ci := 1) (v := .ref (a 1)) (C := RX1) (T := TX1) (N := 3) hx hb hts inlX1 hown hK hG.1 0 rfl rfl 0 (by decide) (hts (Cond.fieldLink RX1 14 "DiceRoads$Debts" "coins" "LDiceRoads$Row;") wq_71) (fun _ h9 => h9) rfl dX1_howMany_12 ?_
    refine lv_iload_n hx hb dX1_howMany_15 rfl (lv_at hl 2 rfl) ?_
    obtain ⟨q16, hq16, h⟩ := fo_bd_some h
    refine gc_iV (b := a 1) (C := RX6) (As := [.int v2]) (rest := [.int v1]) (wc := (wd_R cI (fun k => a (k + 1)) 0 16 (S 0))) (w1 := (wd_R cI (fun k => a (k + 1)) 0 16 (S 0))) (ci := 5) (q0 := 0) ⟨hx, hb, hml, hown, hts⟩ (c6_at l (a := (fun k => a (k + 1))) (v := 0) (z := 16) hq16) (cwV 1 hts gv_X1_30 rfl rfl rfl hd6_at ⟨Nat.le_of_ble_eq_true rfl, Nat.le_of_ble_eq_true rfl⟩) hK [0] rfl hA hG [1, 2] rfl rfl rfl rfl rfl rfl hl.1 rfl (Nat.le_of_ble_eq_true rfl) dX1_howMany_16 ⟨Nat.zero_le _, Nat.zero_le _⟩ (fun H locs hG9 => ?_)
    have hG : gd_W (dC, dI) A s (wd_D cI a S) H locs := hG9
    refine lv_if_le (tgt := 26) hx hb dX1_howMany_19 (by decide) (fun hc => ?_) (fun hc => ?_)
    · have h := fo_it h hc
      refine lv_iconst (v := (0 : Int32)) hx hb dX1_howMany_26 (by decide) ?_
      exact w1_howMany_b27 C hK hA (fun h => hrec4 h) h hG (lv_sub hl [0, 2] rfl)
    · have h := fo_if h hc
      refine lv_iconst (v := (1 : Int32)) hx hb dX1_howMany_22 (by decide) ?_
      refine lv_goto (tgt := 27) hx hb dX1_howMany_23 (by decide) ?_
      exact w1_howMany_b27 C hK hA (fun h => hrec4 h) h hG (lv_sub hl [0, 2] rfl)
set_option maxRecDepth 100000 in
set_option maxHeartbeats 4000000 in
theorem w1_howMany_L4 (C : cx_M p s m args meth c RX1 cX1_howMany (some .int) 3) (hK : va_K (dC, dI) vwCl [(cI, .int)] s) (hA : ∀ q, s.heap.size ≤ q → A q) {a : Nat → Nat} {S : ms_T} {q : Int32} : ∀ (n : Nat) {v1 : Int32} {v2 : Int32}, f1_howMany_L4 n v1 v2 S = some q → ∀ {H : Heap} {locs : List Loc} {ls : Array Slot}, gd_W (dC, dI) A s (wd_D cI a S) H locs → lv_has ls 3 [(0, .ref (a 0)), (1, .int v1), (2, .int v2)] → W p l e RM1_howMany s m args below meth c H locs 0 0 (MQ below (qi_W (dC, dI) [(cI, .int)] A q (wd_D cI a S)) args s 0 0 A) (F0 m 4 ls []) := by
  intro n
  induction n with
  | zero => intro _ _ h; exact nomatch h
  | succ n ih => intro v1 v2 h H locs ls hG hl; exact w1_howMany_b4 C hK hA (fun h => ih h) (show f1_howMany_b4 (f1_howMany_L4 n) v1 v2 S = some q from h) hG hl
set_option maxRecDepth 100000 in
set_option maxHeartbeats 4000000 in
theorem w1_howMany (C : cx_M p s m args meth c RX1 cX1_howMany (some .int) 3) (hK : va_K (dC, dI) vwCl [(cI, .int)] s) (hA : ∀ q, s.heap.size ≤ q → A q) {a : Nat → Nat} {q : Int32} {S : ms_T} (h : f1_howMany S = some q) {H : Heap} {locs : List Loc} {ls : Array Slot} (hG : gd_W (dC, dI) A s (wd_D cI a S) H locs) (hl : lv_has ls 3 [(0, .ref (a 0))]) : W p l e RM1_howMany s m args below meth c H locs 0 0 (MQ below (qi_W (dC, dI) [(cI, .int)] A q (wd_D cI a S)) args s 0 0 A) (F0 m 0 ls []) := by
  unfold f1_howMany at h
  obtain ⟨hx, hb, hr, hts, hown, hlocks, hml⟩ := id C
  refine lv_iconst (v := (0 : Int32)) hx hb dX1_howMany_0 (by decide) ?_
  refine lv_istore_n (lv' := [(1, .int (0 : Int32)), (0, .ref (a 0))]) hx hb dX1_howMany_1 rfl hl (by decide) rfl (fun ls hl => ?_)
  refine lv_iconst (v := (0 : Int32)) hx hb dX1_howMany_2 (by decide) ?_
  refine lv_istore_n (lv' := [(2, .int (0 : Int32)), (1, .int (0 : Int32)), (0, .ref (a 0))]) hx hb dX1_howMany_3 rfl hl (by decide) rfl (fun ls hl => ?_)
  exact w1_howMany_L4 C hK hA fo_fu h hG (lv_sub hl [2, 1, 0] rfl)
set_option maxRecDepth 100000 in
set_option maxHeartbeats 4000000 in
theorem c1_howMany (l : Launch) {dC : Nat → ClassId} {dI : Nat → Nat → Nat} {cI : ClassId} {a : Nat → Nat} {S : ms_T} {q : Int32} (h : f1_howMany S = some q) : mi_M l yX1_howMany wm1_howMany RM1_howMany (dC, dI) [(cI, .int)] [.ref (a 0)] (wd_D cI a S) q (wd_D cI a S) := by
  intro sz
  refine Met.ofW (cc := cX1_howMany) (maxL := 3) (ret := (some .int)) (by decide) rfl ?_
  intro p e s m args below meth c s₁ B hml hv
  obtain ⟨rfl, hsz, hP, hK, hD0⟩ := hv
  subst hsz
  have hl := lv_entry ([.ref (a 0)] : List Value) (n := 3) (Nat.le_of_ble_eq_true rfl)
  rw [lg_entry_eq]
  generalize (lg_sl ([.ref (a 0)] : List Value) ++ List.replicate (3 - (lg_sl ([.ref (a 0)] : List Value)).length) Slot.unset).toArray = ls at hl ⊢
  exact w1_howMany (a := a) ⟨B.exec, B.bytes, B.returns, fun w hw => atoms_spec (ws := wm1_howMany) B.pre w (List.mem_cons_of_mem _ hw), findClass_of_methodNamed B.named, B.notSynchronized, hml⟩ hK (fun _ h => Or.inr h) h ⟨hP, hD0.self, va_S.rf⟩ hl
end
/-! ## DiceRoads$Debts.distance(II)I -/
section
variable {p : Program} {l : Launch} {e : Env} {s : State} {m : MethodId} {args : Array Value} {below : List Frame} {meth : Method} {c : Code} {dC : Nat → ClassId} {dI : Nat → Nat → Nat} {cI : ClassId} {A : Nat → Prop}
set_option maxRecDepth 100000 in
set_option maxHeartbeats 4000000 in
theorem w1_distance_b61 (C : cx_M p s m args meth c RX1 cX1_distance (some .int) 7) (hK : va_K (dC, dI) vwCl [(cI, .int)] s) (hA : ∀ q, s.heap.size ≤ q → A q) {a : Nat → Nat} {S : ms_T} {q : Int32} {rec7 : Int32 → Int32 → Int32 → ms_T → Option Int32} (hrec7 : ∀ {v2 : Int32} {v3 : Int32} {v4 : Int32} , rec7 v2 v3 v4 S = some q → ∀ {H : Heap} {locs : List Loc} {ls : Array Slot}, gd_W (dC, dI) A s (wd_D cI a S) H locs → lv_has ls 7 [(0, .ref (a 0)), (2, .int v2), (3, .int v3), (4, .int v4)] → W p l e RM1_distance s m args below meth c H locs 0 0 (MQ below (qi_W (dC, dI) [(cI, .int)] A q (wd_D cI a S)) args s 0 0 A) (F0 m 7 ls [])) {rec19 : Int32 → Int32 → Int32 → Int32 → Int32 → ms_T → Option Int32} (hrec19 : ∀ {v2 : Int32} {v3 : Int32} {v4 : Int32} {v5 : Int32} {v6 : Int32} , rec19 v2 v3 v4 v5 v6 S = some q → ∀ {H : Heap} {locs : List Loc} {ls : Array Slot}, gd_W (dC, dI) A s (wd_D cI a S) H locs → lv_has ls 7 [(0, .ref (a 0)), (2, .int v2), (3, .int v3), (4, .int v4), (5, .int v5), (6, .int v6)] → W p l e RM1_distance s m args below meth c H locs 0 0 (MQ below (qi_W (dC, dI) [(cI, .int)] A q (wd_D cI a S)) args s 0 0 A) (F0 m 19 ls [])) {v2 : Int32} {v3 : Int32} {v4 : Int32} {v5 : Int32} {v6 : Int32} (h : f1_distance_b61 rec7 rec19 v2 v3 v4 v5 v6 S = some q) {H : Heap} {locs : List Loc} {ls : Array Slot} (hG : gd_W (dC, dI) A s (wd_D cI a S) H locs) (hl : lv_has ls 7 [(0, .ref (a 0)), (2, .int v2), (3, .int v3), (4, .int v4), (5, .int v5), (6, .int v6)]) : W p l e RM1_distance s m args below meth c H locs 0 0 (MQ below (qi_W (dC, dI) [(cI, .int)] A q (wd_D cI a S)) args s 0 0 A) (F0 m 61 ls []) := by
  unfold f1_distance_b61 at h
  obtain ⟨hx, hb, hr, hts, hown, hlocks, hml⟩ := id C
  refine lv_iinc (v := (v6 + (1 : Int32))) (lv' := [(6, .int (v6 + (1 : Int32))), (0, .ref (a 0)), (2, .int v2), (3, .int v3), (4, .int v4), (5, .int v5)]) hx hb dX1_distance_61 hl (k := 5) rfl rfl (by decide) rfl (fun ls hl => ?_)
  refine lv_goto (tgt := 19) hx hb dX1_distance_64 (by decide) ?_
  exact hrec19 h hG (lv_sub hl [1, 2, 3, 4, 5, 0] rfl)
set_option maxRecDepth 100000 in
set_option maxHeartbeats 4000000 in
theorem w1_distance_b19 (C : cx_M p s m args meth c RX1 cX1_distance (some .int) 7) (hK : va_K (dC, dI) vwCl [(cI, .int)] s) (hA : ∀ q, s.heap.size ≤ q → A q) {a : Nat → Nat} {S : ms_T} {q : Int32} {rec7 : Int32 → Int32 → Int32 → ms_T → Option Int32} (hrec7 : ∀ {v2 : Int32} {v3 : Int32} {v4 : Int32} , rec7 v2 v3 v4 S = some q → ∀ {H : Heap} {locs : List Loc} {ls : Array Slot}, gd_W (dC, dI) A s (wd_D cI a S) H locs → lv_has ls 7 [(0, .ref (a 0)), (2, .int v2), (3, .int v3), (4, .int v4)] → W p l e RM1_distance s m args below meth c H locs 0 0 (MQ below (qi_W (dC, dI) [(cI, .int)] A q (wd_D cI a S)) args s 0 0 A) (F0 m 7 ls [])) {rec19 : Int32 → Int32 → Int32 → Int32 → Int32 → ms_T → Option Int32} (hrec19 : ∀ {v2 : Int32} {v3 : Int32} {v4 : Int32} {v5 : Int32} {v6 : Int32} , rec19 v2 v3 v4 v5 v6 S = some q → ∀ {H : Heap} {locs : List Loc} {ls : Array Slot}, gd_W (dC, dI) A s (wd_D cI a S) H locs → lv_has ls 7 [(0, .ref (a 0)), (2, .int v2), (3, .int v3), (4, .int v4), (5, .int v5), (6, .int v6)] → W p l e RM1_distance s m args below meth c H locs 0 0 (MQ below (qi_W (dC, dI) [(cI, .int)] A q (wd_D cI a S)) args s 0 0 A) (F0 m 19 ls [])) {v2 : Int32} {v3 : Int32} {v4 : Int32} {v5 : Int32} {v6 : Int32} (h : f1_distance_b19 rec7 rec19 v2 v3 v4 v5 v6 S = some q) {H : Heap} {locs : List Loc} {ls : Array Slot} (hG : gd_W (dC, dI) A s (wd_D cI a S) H locs) (hl : lv_has ls 7 [(0, .ref (a 0)), (2, .int v2), (3, .int v3), (4, .int v4), (5, .int v5), (6, .int v6)]) : W p l e RM1_distance s m args below meth c H locs 0 0 (MQ below (qi_W (dC, dI) [(cI, .int)] A q (wd_D cI a S)) args s 0 0 A) (F0 m 19 ls []) := by
  unfold f1_distance_b19 at h
  obtain ⟨hx, hb, hr, hts, hown, hlocks, hml⟩ := id C
  refine lv_iload hx hb dX1_distance_19 (lv_at hl 5 rfl) ?_
  refine lv_bipush (v := (16 : Int32)) hx hb dX1_distance_21 (by decide) ?_
  refine lv_icmp_ge (tgt := 67) hx hb dX1_distance_23 (by decide) (fun hc => ?_) (fun hc => ?_)
  · have h := fo_it h hc
    refine lv_iload hx hb dX1_distance_67 (lv_at hl 4 rfl) ?_
    refine lv_iload_n hx hb dX1_distance_69 rfl (lv_at hl 1 rfl) ?_
    refine lv_ishr hx hb dX1_distance_70 ?_
    refine lv_iconst (v := (1 : Int32)) hx hb dX1_distance_71 (by decide) ?_
    refine lv_iand hx hb dX1_distance_72 ?_
    refine lv_iconst (v := (1 : Int32)) hx hb dX1_distance_73 (by decide) ?_
    refine lv_icmp_ne (tgt := 80) hx hb dX1_distance_74 (by decide) (fun hc => ?_) (fun hc => ?_)
    · have h := fo_if h hc
      refine lv_iload hx hb dX1_distance_80 (lv_at hl 4 rfl) ?_
      refine lv_istore_n (lv' := [(3, .int v5), (0, .ref (a 0)), (2, .int v2), (4, .int v4), (5, .int v5), (6, .int v6)]) hx hb dX1_distance_82 rfl hl (by decide) rfl (fun ls hl => ?_)
      refine lv_iinc (v := (v4 + (1 : Int32))) (lv' := [(4, .int (v4 + (1 : Int32))), (3, .int v5), (0, .ref (a 0)), (2, .int v2), (5, .int v5), (6, .int v6)]) hx hb dX1_distance_83 hl (k := 3) rfl rfl (by decide) rfl (fun ls hl => ?_)
      refine lv_goto (tgt := 7) hx hb dX1_distance_86 (by decide) ?_
      exact hrec7 h hG (lv_sub hl [2, 3, 1, 0] rfl)
    · have h := fo_it h hc
      refine lv_iload hx hb dX1_distance_77 (lv_at hl 3 rfl) ?_
      exact gr_i hx hb hr hlocks hK hG (Option.some.inj h) dX1_distance_79
  · have h := fo_if h hc
    refine lv_iload_n hx hb dX1_distance_26 rfl (lv_at hl 2 rfl) ?_
    refine lv_iload hx hb dX1_distance_27 (lv_at hl 5 rfl) ?_
    refine lv_iconst (v := (4 : Int32)) hx hb dX1_distance_29 (by decide) ?_
    refine lv_idiv hx hb dX1_distance_30 (by decide) ?_
    refine lv_ishr hx hb dX1_distance_31 ?_
    refine lv_iconst (v := (1 : Int32)) hx hb dX1_distance_32 (by decide) ?_
    refine lv_iand hx hb dX1_distance_33 ?_
    refine lv_iconst (v := (1 : Int32)) hx hb dX1_distance_34 (by decide) ?_
    refine lv_icmp_ne (tgt := 61) hx hb dX1_distance_35 (by decide) (fun hc => ?_) (fun hc => ?_)
    · have h := fo_if h hc
      exact w1_distance_b61 C hK hA (fun h => hrec7 h) (fun h => hrec19 h) h hG (lv_sub hl [0, 1, 2, 3, 4, 5] rfl)
    · have h := fo_it h hc
      refine lv_aload_n hx hb dX1_distance_38 rfl (lv_at hl 0 rfl) ?_
      refine va_get (D := (dC, dI)) (ci := 1) (v := .ref (a 1)) (C := RX1) (T := TX1) (N := 3) hx hb hts inlX1 hown hK hG.1 0 rfl rfl 0 (by decide) (hts (Cond.fieldLink RX1 14 "DiceRoads$Debts" "coins" "LDiceRoads$Row;") wq_71) (fun _ h9 => h9) rfl dX1_distance_39 ?_
      refine lv_iload hx hb dX1_distance_42 (lv_at hl 5 rfl) ?_
      obtain ⟨q44, hq44, h⟩ := fo_bd_some h
      refine gc_iV (b := a 1) (C := RX6) (As := [.int v6]) (rest := []) (wc := (wd_R cI (fun k => a (k + 1)) 0 16 (S 0))) (w1 := (wd_R cI (fun k => a (k + 1)) 0 16 (S 0))) (ci := 5) (q0 := 0) ⟨hx, hb, hml, hown, hts⟩ (c6_at l (a := (fun k => a (k + 1))) (v := 0) (z := 16) hq44) (cwV 1 hts gv_X1_30 rfl rfl rfl hd6_at ⟨Nat.le_of_ble_eq_true rfl, Nat.le_of_ble_eq_true rfl⟩) hK [0] rfl hA hG [1, 2] rfl rfl rfl rfl rfl rfl hl.1 rfl (Nat.le_of_ble_eq_true rfl) dX1_distance_44 ⟨Nat.zero_le _, Nat.zero_le _⟩ (fun H locs hG9 => ?_)
      have hG : gd_W (dC, dI) A s (wd_D cI a S) H locs := hG9
      refine lv_if_le (tgt := 61) hx hb dX1_distance_47 (by decide) (fun hc => ?_) (fun hc => ?_)
      · have h := fo_it h hc
        exact w1_distance_b61 C hK hA (fun h => hrec7 h) (fun h => hrec19 h) h hG (lv_sub hl [0, 1, 2, 3, 4, 5] rfl)
      · have h := fo_if h hc
        refine lv_iload hx hb dX1_distance_50 (lv_at hl 4 rfl) ?_
        refine lv_iconst (v := (1 : Int32)) hx hb dX1_distance_52 (by decide) ?_
        refine lv_iload hx hb dX1_distance_53 (lv_at hl 5 rfl) ?_
        refine lv_iconst (v := (4 : Int32)) hx hb dX1_distance_55 (by decide) ?_
        refine lv_irem hx hb dX1_distance_56 (by decide) ?_
        refine lv_ishl hx hb dX1_distance_57 ?_
        refine lv_ior hx hb dX1_distance_58 ?_
        refine lv_istore (lv' := [(5, .int (v5 ||| ((1 : Int32) <<< ((v6 - v6 / (4 : Int32) * (4 : Int32)) &&& 31)))), (0, .ref (a 0)), (2, .int v2), (3, .int v3), (4, .int v4), (6, .int v6)]) hx hb dX1_distance_59 hl (by decide) rfl (fun ls hl => ?_)
        exact w1_distance_b61 C hK hA (fun h => hrec7 h) (fun h => hrec19 h) h hG (lv_sub hl [1, 2, 3, 4, 0, 5] rfl)
set_option maxRecDepth 100000 in
set_option maxHeartbeats 4000000 in
theorem w1_distance_L19 (C : cx_M p s m args meth c RX1 cX1_distance (some .int) 7) (hK : va_K (dC, dI) vwCl [(cI, .int)] s) (hA : ∀ q, s.heap.size ≤ q → A q) {a : Nat → Nat} {S : ms_T} {q : Int32} {rec7 : Int32 → Int32 → Int32 → ms_T → Option Int32} (hrec7 : ∀ {v2 : Int32} {v3 : Int32} {v4 : Int32} , rec7 v2 v3 v4 S = some q → ∀ {H : Heap} {locs : List Loc} {ls : Array Slot}, gd_W (dC, dI) A s (wd_D cI a S) H locs → lv_has ls 7 [(0, .ref (a 0)), (2, .int v2), (3, .int v3), (4, .int v4)] → W p l e RM1_distance s m args below meth c H locs 0 0 (MQ below (qi_W (dC, dI) [(cI, .int)] A q (wd_D cI a S)) args s 0 0 A) (F0 m 7 ls [])) : ∀ (n : Nat) {v2 : Int32} {v3 : Int32} {v4 : Int32} {v5 : Int32} {v6 : Int32}, f1_distance_L19 rec7 n v2 v3 v4 v5 v6 S = some q → ∀ {H : Heap} {locs : List Loc} {ls : Array Slot}, gd_W (dC, dI) A s (wd_D cI a S) H locs → lv_has ls 7 [(0, .ref (a 0)), (2, .int v2), (3, .int v3), (4, .int v4), (5, .int v5), (6, .int v6)] → W p l e RM1_distance s m args below meth c H locs 0 0 (MQ below (qi_W (dC, dI) [(cI, .int)] A q (wd_D cI a S)) args s 0 0 A) (F0 m 19 ls []) := by
  intro n
  induction n with
  | zero => intro _ _ _ _ _ h; exact nomatch h
  | succ n ih => intro v2 v3 v4 v5 v6 h H locs ls hG hl; exact w1_distance_b19 C hK hA (fun h => hrec7 h) (fun h => ih h) (show f1_distance_b19 rec7 (f1_distance_L19 rec7 n) v2 v3 v4 v5 v6 S = some q from h) hG hl
set_option maxRecDepth 100000 in
set_option maxHeartbeats 4000000 in
theorem w1_distance_b7 (C : cx_M p s m args meth c RX1 cX1_distance (some .int) 7) (hK : va_K (dC, dI) vwCl [(cI, .int)] s) (hA : ∀ q, s.heap.size ≤ q → A q) {a : Nat → Nat} {S : ms_T} {q : Int32} {rec7 : Int32 → Int32 → Int32 → ms_T → Option Int32} (hrec7 : ∀ {v2 : Int32} {v3 : Int32} {v4 : Int32} , rec7 v2 v3 v4 S = some q → ∀ {H : Heap} {locs : List Loc} {ls : Array Slot}, gd_W (dC, dI) A s (wd_D cI a S) H locs → lv_has ls 7 [(0, .ref (a 0)), (2, .int v2), (3, .int v3), (4, .int v4)] → W p l e RM1_distance s m args below meth c H locs 0 0 (MQ below (qi_W (dC, dI) [(cI, .int)] A q (wd_D cI a S)) args s 0 0 A) (F0 m 7 ls [])) {v2 : Int32} {v3 : Int32} {v4 : Int32} (h : f1_distance_b7 rec7 v2 v3 v4 S = some q) {H : Heap} {locs : List Loc} {ls : Array Slot} (hG : gd_W (dC, dI) A s (wd_D cI a S) H locs) (hl : lv_has ls 7 [(0, .ref (a 0)), (2, .int v2), (3, .int v3), (4, .int v4)]) : W p l e RM1_distance s m args below meth c H locs 0 0 (MQ below (qi_W (dC, dI) [(cI, .int)] A q (wd_D cI a S)) args s 0 0 A) (F0 m 7 ls []) := by
  unfold f1_distance_b7 at h
  obtain ⟨hx, hb, hr, hts, hown, hlocks, hml⟩ := id C
  refine lv_iload hx hb dX1_distance_7 (lv_at hl 3 rfl) ?_
  refine lv_iconst (v := (4 : Int32)) hx hb dX1_distance_9 (by decide) ?_
  refine lv_icmp_gt (tgt := 89) hx hb dX1_distance_10 (by decide) (fun hc => ?_) (fun hc => ?_)
  · have h := fo_it h hc
    refine lv_bipush (v := (-6 : Int32)) hx hb dX1_distance_89 (by decide) ?_
    exact gr_i hx hb hr hlocks hK hG (Option.some.inj h) dX1_distance_91
  · have h := fo_if h hc
    refine lv_iconst (v := (0 : Int32)) hx hb dX1_distance_13 (by decide) ?_
    refine lv_istore (lv' := [(5, .int (0 : Int32)), (0, .ref (a 0)), (2, .int v2), (3, .int v3), (4, .int v4)]) hx hb dX1_distance_14 hl (by decide) rfl (fun ls hl => ?_)
    refine lv_iconst (v := (0 : Int32)) hx hb dX1_distance_16 (by decide) ?_
    refine lv_istore (lv' := [(6, .int (0 : Int32)), (5, .int (0 : Int32)), (0, .ref (a 0)), (2, .int v2), (3, .int v3), (4, .int v4)]) hx hb dX1_distance_17 hl (by decide) rfl (fun ls hl => ?_)
    exact w1_distance_L19 C hK hA (fun h => hrec7 h) fo_fu h hG (lv_sub hl [2, 3, 4, 5, 1, 0] rfl)
set_option maxRecDepth 100000 in
set_option maxHeartbeats 4000000 in
theorem w1_distance_L7 (C : cx_M p s m args meth c RX1 cX1_distance (some .int) 7) (hK : va_K (dC, dI) vwCl [(cI, .int)] s) (hA : ∀ q, s.heap.size ≤ q → A q) {a : Nat → Nat} {S : ms_T} {q : Int32} : ∀ (n : Nat) {v2 : Int32} {v3 : Int32} {v4 : Int32}, f1_distance_L7 n v2 v3 v4 S = some q → ∀ {H : Heap} {locs : List Loc} {ls : Array Slot}, gd_W (dC, dI) A s (wd_D cI a S) H locs → lv_has ls 7 [(0, .ref (a 0)), (2, .int v2), (3, .int v3), (4, .int v4)] → W p l e RM1_distance s m args below meth c H locs 0 0 (MQ below (qi_W (dC, dI) [(cI, .int)] A q (wd_D cI a S)) args s 0 0 A) (F0 m 7 ls []) := by
  intro n
  induction n with
  | zero => intro _ _ _ h; exact nomatch h
  | succ n ih => intro v2 v3 v4 h H locs ls hG hl; exact w1_distance_b7 C hK hA (fun h => ih h) (show f1_distance_b7 (f1_distance_L7 n) v2 v3 v4 S = some q from h) hG hl
set_option maxRecDepth 100000 in
set_option maxHeartbeats 4000000 in
theorem w1_distance (C : cx_M p s m args meth c RX1 cX1_distance (some .int) 7) (hK : va_K (dC, dI) vwCl [(cI, .int)] s) (hA : ∀ q, s.heap.size ≤ q → A q) {a : Nat → Nat} {q : Int32} {v1 : Int32} {v2 : Int32} {S : ms_T} (h : f1_distance v1 v2 S = some q) {H : Heap} {locs : List Loc} {ls : Array Slot} (hG : gd_W (dC, dI) A s (wd_D cI a S) H locs) (hl : lv_has ls 7 [(0, .ref (a 0)), (1, .int v1), (2, .int v2)]) : W p l e RM1_distance s m args below meth c H locs 0 0 (MQ below (qi_W (dC, dI) [(cI, .int)] A q (wd_D cI a S)) args s 0 0 A) (F0 m 0 ls []) := by
  unfold f1_distance at h
  obtain ⟨hx, hb, hr, hts, hown, hlocks, hml⟩ := id C
  refine lv_iconst (v := (1 : Int32)) hx hb dX1_distance_0 (by decide) ?_
  refine lv_iload_n hx hb dX1_distance_1 rfl (lv_at hl 1 rfl) ?_
  refine lv_ishl hx hb dX1_distance_2 ?_
  refine lv_istore_n (lv' := [(3, .int ((1 : Int32) <<< (v1 &&& 31))), (0, .ref (a 0)), (1, .int v1), (2, .int v2)]) hx hb dX1_distance_3 rfl hl (by decide) rfl (fun ls hl => ?_)
  refine lv_iconst (v := (1 : Int32)) hx hb dX1_distance_4 (by decide) ?_
  refine lv_istore (lv' := [(4, .int (1 : Int32)), (3, .int ((1 : Int32) <<< (v1 &&& 31))), (0, .ref (a 0)), (1, .int v1), (2, .int v2)]) hx hb dX1_distance_5 hl (by decide) rfl (fun ls hl => ?_)
  exact w1_distance_L7 C hK hA fo_fu h hG (lv_sub hl [2, 4, 1, 0] rfl)
set_option maxRecDepth 100000 in
set_option maxHeartbeats 4000000 in
theorem c1_distance (l : Launch) {dC : Nat → ClassId} {dI : Nat → Nat → Nat} {cI : ClassId} {a : Nat → Nat} {v1 : Int32} {v2 : Int32} {S : ms_T} {q : Int32} (h : f1_distance v1 v2 S = some q) : mi_M l yX1_distance wm1_distance RM1_distance (dC, dI) [(cI, .int)] [.ref (a 0), .int v1, .int v2] (wd_D cI a S) q (wd_D cI a S) := by
  intro sz
  refine Met.ofW (cc := cX1_distance) (maxL := 7) (ret := (some .int)) (by decide) rfl ?_
  intro p e s m args below meth c s₁ B hml hv
  obtain ⟨rfl, hsz, hP, hK, hD0⟩ := hv
  subst hsz
  have hl := lv_entry ([.ref (a 0), .int v1, .int v2] : List Value) (n := 7) (Nat.le_of_ble_eq_true rfl)
  rw [lg_entry_eq]
  generalize (lg_sl ([.ref (a 0), .int v1, .int v2] : List Value) ++ List.replicate (7 - (lg_sl ([.ref (a 0), .int v1, .int v2] : List Value)).length) Slot.unset).toArray = ls at hl ⊢
  exact w1_distance (a := a) ⟨B.exec, B.bytes, B.returns, fun w hw => atoms_spec (ws := wm1_distance) B.pre w (List.mem_cons_of_mem _ hw), findClass_of_methodNamed B.named, B.notSynchronized, hml⟩ hK (fun _ h => Or.inr h) h ⟨hP, hD0.self, va_S.rf⟩ hl
end
