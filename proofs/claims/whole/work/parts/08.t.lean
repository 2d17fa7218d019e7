/-! ## DiceRoadsModel.within(III)Z -/
section
variable {p : Program} {l : Launch} {e : Env} {s : State} {m : MethodId} {args : Array Value} {below : List Frame} {meth : Method} {c : Code} {dC : Nat → ClassId} {dI : Nat → Nat → Nat} {cI : ClassId} {A : Nat → Prop}
set_option maxRecDepth 100000 in
set_option maxHeartbeats 4000000 in
theorem w8_within (C : cx_M p s m args meth c RX8 cX8_within (some .boolean) 3) (hK : va_K (dC, dI) vwCl [] s) (hA : ∀ q, s.heap.size ≤ q → A q) {a : Nat → Nat} {q : Int32} {v0 : Int32} {v1 : Int32} {v2 : Int32} (h : f8_within v0 v1 v2 = some q) {H : Heap} {locs : List Loc} {ls : Array Slot} (hG : gd_W (dC, dI) A s ([] : va_W) H locs) (hl : lv_has ls 3 [(0, .int v0), (1, .int v1), (2, .int v2)]) : W p l e RM8_within s m args below meth c H locs 0 0 (MQ below (qi_W (dC, dI) [] A q ([] : va_W)) args s 0 0 A) (F0 m 0 ls []) := by
  unfold f8_within at h
  obtain ⟨hx, hb, hr, hts, hown, hlocks, hml⟩ := id C
  refine lv_iload_n hx hb dX8_within_0 rfl (lv_at hl 0 rfl) ?_
  refine lv_iload_n hx hb dX8_within_1 rfl (lv_at hl 1 rfl) ?_
  refine lv_icmp_lt (tgt := 14) hx hb dX8_within_2 (by decide) (fun hc => ?_) (fun hc => ?_)
  · have h := fo_it h hc
    refine lv_iconst (v := (0 : Int32)) hx hb dX8_within_14 (by decide) ?_
    exact gr_z hx hb hr hlocks hK hG (Option.some.inj h) rfl dX8_within_15
  · have h := fo_if h hc
    refine lv_iload_n hx hb dX8_within_5 rfl (lv_at hl 0 rfl) ?_
    refine lv_iload_n hx hb dX8_within_6 rfl (lv_at hl 2 rfl) ?_
    refine lv_icmp_gt (tgt := 14) hx hb dX8_within_7 (by decide) (fun hc => ?_) (fun hc => ?_)
    · have h := fo_it h hc
      refine lv_iconst (v := (0 : Int32)) hx hb dX8_within_14 (by decide) ?_
      exact gr_z hx hb hr hlocks hK hG (Option.some.inj h) rfl dX8_within_15
    · have h := fo_if h hc
      refine lv_iconst (v := (1 : Int32)) hx hb dX8_within_10 (by decide) ?_
      refine lv_goto (tgt := 15) hx hb dX8_within_11 (by decide) ?_
      exact gr_z hx hb hr hlocks hK hG (Option.some.inj h) rfl dX8_within_15
set_option maxRecDepth 100000 in
set_option maxHeartbeats 4000000 in
theorem c8_within (l : Launch) {dC : Nat → ClassId} {dI : Nat → Nat → Nat} {a : Nat → Nat} {v0 : Int32} {v1 : Int32} {v2 : Int32} {q : Int32} (h : f8_within v0 v1 v2 = some q) : mi_M l yX8_within wm8_within RM8_within (dC, dI) [] [.int v0, .int v1, .int v2] ([] : va_W) q ([] : va_W) := by
  intro sz
  refine Met.ofW (cc := cX8_within) (maxL := 3) (ret := (some .boolean)) (by decide) rfl ?_
  intro p e s m args below meth c s₁ B hml hv
  obtain ⟨rfl, hsz, hP, hK, hD0⟩ := hv
  subst hsz
  have hl := lv_entry ([.int v0, .int v1, .int v2] : List Value) (n := 3) (Nat.le_of_ble_eq_true rfl)
  rw [lg_entry_eq]
  generalize (lg_sl ([.int v0, .int v1, .int v2] : List Value) ++ List.replicate (3 - (lg_sl ([.int v0, .int v1, .int v2] : List Value)).length) Slot.unset).toArray = ls at hl ⊢
  exact w8_within (a := a) ⟨B.exec, B.bytes, B.returns, fun w hw => atoms_spec (ws := wm8_within) B.pre w (List.mem_cons_of_mem _ hw), findClass_of_methodNamed B.named, B.notSynchronized, hml⟩ hK (fun _ h => Or.inr h) h ⟨hP, hD0.self, va_S.rf⟩ hl
end
/-! ## DiceRoadsModel.playerPart(II)I -/
section
variable {p : Program} {l : Launch} {e : Env} {s : State} {m : MethodId} {args : Array Value} {below : List Frame} {meth : Method} {c : Code} {dC : Nat → ClassId} {dI : Nat → Nat → Nat} {cI : ClassId} {A : Nat → Prop}
set_option maxRecDepth 100000 in
set_option maxHeartbeats 4000000 in
theorem w8_playerPart (C : cx_M p s m args meth c RX8 cX8_playerPart (some .int) 3) (hK : va_K (dC, dI) vwCl [(cI, .int)] s) (hA : ∀ q, s.heap.size ≤ q → A q) {a : Nat → Nat} {X : Nat → Int32} {q : Int32} {v1 : Int32} {v2 : Int32} {S : (Nat → Int32)} (h : f8_playerPart v1 v2 S = some q) {H : Heap} {locs : List Loc} {ls : Array Slot} (hG : gd_W (dC, dI) A s (wd_M0 cI a X S) H locs) (hl : lv_has ls 3 [(0, .ref (a 0)), (1, .int v1), (2, .int v2)]) : W p l e RM8_playerPart s m args below meth c H locs 0 0 (MQ below (qi_W (dC, dI) [(cI, .int)] A q (wd_M0 cI a X S)) args s 0 0 A) (F0 m 0 ls []) := by
  unfold f8_playerPart at h
  obtain ⟨hx, hb, hr, hts, hown, hlocks, hml⟩ := id C
  refine lv_aload_n hx hb dX8_playerPart_0 rfl (lv_at hl 0 rfl) ?_
  refine va_get (D := (dC, dI)) (ci := 7) (v := .ref (a 1)) (C := RX8) (T := TX8) (N := 17) hx hb hts inlX8 hown hK hG.1 0 rfl rfl 0 (by decide) (hts (Cond.fieldLink RX8 7 "DiceRoadsModel" "state" "[I") wq_637) (fun _ h9 => h9) rfl dX8_playerPart_1 ?_
  refine lv_bipush (v := (51 : Int32)) hx hb dX8_playerPart_4 (by decide) ?_
  refine lv_bipush (v := (6 : Int32)) hx hb dX8_playerPart_6 (by decide) ?_
  refine lv_iload_n hx hb dX8_playerPart_8 rfl (lv_at hl 1 rfl) ?_
  refine lv_imul hx hb dX8_playerPart_9 ?_
  refine lv_iadd hx hb dX8_playerPart_10 ?_
  refine lv_iload_n hx hb dX8_playerPart_11 rfl (lv_at hl 2 rfl) ?_
  refine lv_iadd hx hb dX8_playerPart_12 ?_
  obtain ⟨hi, h⟩ := fo_ck_some h
  refine va_iald hx hb hK hG.1 1 0 rfl rfl hi dX8_playerPart_13 ?_
  exact gr_i hx hb hr hlocks hK hG (Option.some.inj h) dX8_playerPart_14
set_option maxRecDepth 100000 in
set_option maxHeartbeats 4000000 in
theorem c8_playerPart (l : Launch) {dC : Nat → ClassId} {dI : Nat → Nat → Nat} {cI : ClassId} {a : Nat → Nat} {X : Nat → Int32} {v1 : Int32} {v2 : Int32} {S : (Nat → Int32)} {q : Int32} (h : f8_playerPart v1 v2 S = some q) : mi_M l yX8_playerPart wm8_playerPart RM8_playerPart (dC, dI) [(cI, .int)] [.ref (a 0), .int v1, .int v2] (wd_M0 cI a X S) q (wd_M0 cI a X S) := by
  intro sz
  refine Met.ofW (cc := cX8_playerPart) (maxL := 3) (ret := (some .int)) (by decide) rfl ?_
  intro p e s m args below meth c s₁ B hml hv
  obtain ⟨rfl, hsz, hP, hK, hD0⟩ := hv
  subst hsz
  have hl := lv_entry ([.ref (a 0), .int v1, .int v2] : List Value) (n := 3) (Nat.le_of_ble_eq_true rfl)
  rw [lg_entry_eq]
  generalize (lg_sl ([.ref (a 0), .int v1, .int v2] : List Value) ++ List.replicate (3 - (lg_sl ([.ref (a 0), .int v1, .int v2] : List Value)).length) Slot.unset).toArray = ls at hl ⊢
  exact w8_playerPart (a := a) ⟨B.exec, B.bytes, B.returns, fun w hw => atoms_spec (ws := wm8_playerPart) B.pre w (List.mem_cons_of_mem _ hw), findClass_of_methodNamed B.named, B.notSynchronized, hml⟩ hK (fun _ h => Or.inr h) h ⟨hP, hD0.self, va_S.rf⟩ hl
end
/-! ## DiceRoadsModel.isPlayer(I)Z -/
section
variable {p : Program} {l : Launch} {e : Env} {s : State} {m : MethodId} {args : Array Value} {below : List Frame} {meth : Method} {c : Code} {dC : Nat → ClassId} {dI : Nat → Nat → Nat} {cI : ClassId} {A : Nat → Prop}
set_option maxRecDepth 100000 in
set_option maxHeartbeats 4000000 in
theorem w8_isPlayer (C : cx_M p s m args meth c RX8 cX8_isPlayer (some .boolean) 2) (hK : va_K (dC, dI) vwCl [(cI, .int)] s) (hA : ∀ q, s.heap.size ≤ q → A q) {a : Nat → Nat} {X : Nat → Int32} {q : Int32} {v1 : Int32} {S : (Nat → Int32)} (h : f8_isPlayer v1 S = some q) {H : Heap} {locs : List Loc} {ls : Array Slot} (hG : gd_W (dC, dI) A s (wd_M0 cI a X S) H locs) (hl : lv_has ls 2 [(0, .ref (a 0)), (1, .int v1)]) : W p l e RM8_isPlayer s m args below meth c H locs 0 0 (MQ below (qi_W (dC, dI) [(cI, .int)] A q (wd_M0 cI a X S)) args s 0 0 A) (F0 m 0 ls []) := by
  unfold f8_isPlayer at h
  obtain ⟨hx, hb, hr, hts, hown, hlocks, hml⟩ := id C
  refine lv_iload_n hx hb dX8_isPlayer_0 rfl (lv_at hl 1 rfl) ?_
  refine lv_iconst (v := (0 : Int32)) hx hb dX8_isPlayer_1 (by decide) ?_
  refine lv_aload_n hx hb dX8_isPlayer_2 rfl (lv_at hl 0 rfl) ?_
  refine va_get (D := (dC, dI)) (ci := 7) (v := .ref (a 1)) (C := RX8) (T := TX8) (N := 17) hx hb hts inlX8 hown hK hG.1 0 rfl rfl 0 (by decide) (hts (Cond.fieldLink RX8 7 "DiceRoadsModel" "state" "[I") wq_637) (fun _ h9 => h9) rfl dX8_isPlayer_3 ?_
  refine lv_bipush (v := (6 : Int32)) hx hb dX8_isPlayer_6 (by decide) ?_
  obtain ⟨hi, h⟩ := fo_ck_some h
  refine va_iald hx hb hK hG.1 1 0 rfl rfl hi dX8_isPlayer_8 ?_
  refine lv_iconst (v := (1 : Int32)) hx hb dX8_isPlayer_9 (by decide) ?_
  refine lv_isub hx hb dX8_isPlayer_10 ?_
  obtain ⟨q11, hq11, h⟩ := fo_bd_some h
  refine gc_iS (As := [.int v1, .int (0 : Int32), .int ((S (6 : Int32).toNatClampNeg) - (1 : Int32))]) (rest := []) (wc := ([] : va_W)) (w1 := ([] : va_W)) ⟨hx, hb, hml, hown, hts⟩ (c8_within l (a := a) hq11) (va_cwS 3 hts gv_X8_42 rfl rfl rfl hd8_within ⟨Nat.le_of_ble_eq_true rfl, Nat.le_of_ble_eq_true rfl⟩) hK [] rfl hA hG [] rfl rfl rfl rfl hl.1 rfl (by decide) dX8_isPlayer_11 ⟨Nat.zero_le _, Nat.zero_le _⟩ (fun H locs hG9 => ?_)
  have hG : gd_W (dC, dI) A s (wd_M0 cI a X S) H locs := hG9
  obtain ⟨hz, h⟩ := fo_zz_some h
  exact gr_z hx hb hr hlocks hK hG (Option.some.inj h) (nar_b hz) dX8_isPlayer_14
set_option maxRecDepth 100000 in
set_option maxHeartbeats 4000000 in
theorem c8_isPlayer (l : Launch) {dC : Nat → ClassId} {dI : Nat → Nat → Nat} {cI : ClassId} {a : Nat → Nat} {X : Nat → Int32} {v1 : Int32} {S : (Nat → Int32)} {q : Int32} (h : f8_isPlayer v1 S = some q) : mi_M l yX8_isPlayer wm8_isPlayer RM8_isPlayer (dC, dI) [(cI, .int)] [.ref (a 0), .int v1] (wd_M0 cI a X S) q (wd_M0 cI a X S) := by
  intro sz
  refine Met.ofW (cc := cX8_isPlayer) (maxL := 2) (ret := (some .boolean)) (by decide) rfl ?_
  intro p e s m args below meth c s₁ B hml hv
  obtain ⟨rfl, hsz, hP, hK, hD0⟩ := hv
  subst hsz
  have hl := lv_entry ([.ref (a 0), .int v1] : List Value) (n := 2) (Nat.le_of_ble_eq_true rfl)
  rw [lg_entry_eq]
  generalize (lg_sl ([.ref (a 0), .int v1] : List Value) ++ List.replicate (2 - (lg_sl ([.ref (a 0), .int v1] : List Value)).length) Slot.unset).toArray = ls at hl ⊢
  exact w8_isPlayer (a := a) ⟨B.exec, B.bytes, B.returns, fun w hw => atoms_spec (ws := wm8_isPlayer) B.pre w (List.mem_cons_of_mem _ hw), findClass_of_methodNamed B.named, B.notSynchronized, hml⟩ hK (fun _ h => Or.inr h) h ⟨hP, hD0.self, va_S.rf⟩ hl
end
/-! ## DiceRoadsModel.adds(III)V -/
section
variable {p : Program} {l : Launch} {e : Env} {s : State} {m : MethodId} {args : Array Value} {below : List Frame} {meth : Method} {c : Code} {dC : Nat → ClassId} {dI : Nat → Nat → Nat} {cI : ClassId} {A : Nat → Prop}
set_option maxRecDepth 100000 in
set_option maxHeartbeats 4000000 in
theorem w8_adds (C : cx_M p s m args meth c RX8 cX8_adds none 4) (hK : va_K (dC, dI) vwCl [(cI, .int)] s) (hA : ∀ q, s.heap.size ≤ q → A q) {a : Nat → Nat} {X : Nat → Int32} {q : (Nat → Int32)} {v1 : Int32} {v2 : Int32} {v3 : Int32} {S : (Nat → Int32)} (h : f8_adds v1 v2 v3 S = some q) {H : Heap} {locs : List Loc} {ls : Array Slot} (hG : gd_W (dC, dI) A s (wd_M0 cI a X S) H locs) (hl : lv_has ls 4 [(0, .ref (a 0)), (1, .int v1), (2, .int v2), (3, .int v3)]) : W p l e RM8_adds s m args below meth c H locs 0 0 (MQ below (qv_W (dC, dI) [(cI, .int)] A (wd_M0 cI a X q)) args s 0 0 A) (F0 m 0 ls []) := by
  unfold f8_adds at h
  obtain ⟨hx, hb, hr, hts, hown, hlocks, hml⟩ := id C
  refine lv_aload_n hx hb dX8_adds_0 rfl (lv_at hl 0 rfl) ?_
  refine va_get (D := (dC, dI)) (ci := 7) (v := .ref (a 1)) (C := RX8) (T := TX8) (N := 17) hx hb hts inlX8 hown hK hG.1 0 rfl rfl 0 (by decide) (hts (Cond.fieldLink RX8 7 "DiceRoadsModel" "state" "[I") wq_637) (fun _ h9 => h9) rfl dX8_adds_1 ?_
  refine lv_bipush (v := (51 : Int32)) hx hb dX8_adds_4 (by decide) ?_
  refine lv_bipush (v := (6 : Int32)) hx hb dX8_adds_6 (by decide) ?_
  refine lv_iload_n hx hb dX8_adds_8 rfl (lv_at hl 1 rfl) ?_
  refine lv_imul hx hb dX8_adds_9 ?_
  refine lv_iadd hx hb dX8_adds_10 ?_
  refine lv_iload_n hx hb dX8_adds_11 rfl (lv_at hl 2 rfl) ?_
  refine lv_iadd hx hb dX8_adds_12 ?_
  refine lv_dup2_11 hx hb dX8_adds_13 rfl rfl ?_
  obtain ⟨hi, h⟩ := fo_ck_some h
  refine va_iald hx hb hK hG.1 1 0 rfl rfl hi dX8_adds_14 ?_
  refine lv_iload_n hx hb dX8_adds_15 rfl (lv_at hl 3 rfl) ?_
  refine lv_iadd hx hb dX8_adds_16 ?_
  obtain ⟨hi, h⟩ := fo_ck_some h
  refine va_iast hx hb hK hG.1 hG.2.1 hG.2.2 1 0 rfl rfl hi dX8_adds_17 (fun H locs hP9 hD9 hS9 => ?_)
  have hG : gd_W (dC, dI) A s (wd_M0 cI a X (upd S (((51 : Int32) + ((6 : Int32) * v1)) + v2).toNatClampNeg ((S (((51 : Int32) + ((6 : Int32) * v1)) + v2).toNatClampNeg) + v3))) H locs := ⟨hP9, hD9, hS9⟩
  obtain rfl := Option.some.inj h
  exact gr_v hx hb hr hlocks hK hG dX8_adds_18
set_option maxRecDepth 100000 in
set_option maxHeartbeats 4000000 in
theorem c8_adds (l : Launch) {dC : Nat → ClassId} {dI : Nat → Nat → Nat} {cI : ClassId} {a : Nat → Nat} {X : Nat → Int32} {v1 : Int32} {v2 : Int32} {v3 : Int32} {S : (Nat → Int32)} {q : (Nat → Int32)} (h : f8_adds v1 v2 v3 S = some q) : mv_M l yX8_adds wm8_adds RM8_adds (dC, dI) [(cI, .int)] [.ref (a 0), .int v1, .int v2, .int v3] (wd_M0 cI a X S) (wd_M0 cI a X q) := by
  intro sz
  refine Met.ofW (cc := cX8_adds) (maxL := 4) (ret := none) (by decide) rfl ?_
  intro p e s m args below meth c s₁ B hml hv
  obtain ⟨rfl, hsz, hP, hK, hD0⟩ := hv
  subst hsz
  have hl := lv_entry ([.ref (a 0), .int v1, .int v2, .int v3] : List Value) (n := 4) (Nat.le_of_ble_eq_true rfl)
  rw [lg_entry_eq]
  generalize (lg_sl ([.ref (a 0), .int v1, .int v2, .int v3] : List Value) ++ List.replicate (4 - (lg_sl ([.ref (a 0), .int v1, .int v2, .int v3] : List Value)).length) Slot.unset).toArray = ls at hl ⊢
  exact w8_adds (a := a) ⟨B.exec, B.bytes, B.returns, fun w hw => atoms_spec (ws := wm8_adds) B.pre w (List.mem_cons_of_mem _ hw), findClass_of_methodNamed B.named, B.notSynchronized, hml⟩ hK (fun _ h => Or.inr h) h ⟨hP, hD0.self, va_S.rf⟩ hl
end
/-! ## DiceRoadsModel.debtOf(II)I -/
section
variable {p : Program} {l : Launch} {e : Env} {s : State} {m : MethodId} {args : Array Value} {below : List Frame} {meth : Method} {c : Code} {dC : Nat → ClassId} {dI : Nat → Nat → Nat} {cI : ClassId} {A : Nat → Prop}
set_option maxRecDepth 100000 in
set_option maxHeartbeats 4000000 in
theorem w8_debtOf (C : cx_M p s m args meth c RX8 cX8_debtOf (some .int) 3) (hK : va_K (dC, dI) vwCl [(cI, .int)] s) (hA : ∀ q, s.heap.size ≤ q → A q) {a : Nat → Nat} {X : Nat → Int32} {q : Int32} {v1 : Int32} {v2 : Int32} {S : (Nat → Int32)} (h : f8_debtOf v1 v2 S = some q) {H : Heap} {locs : List Loc} {ls : Array Slot} (hG : gd_W (dC, dI) A s (wd_M0 cI a X S) H locs) (hl : lv_has ls 3 [(0, .ref (a 0)), (1, .int v1), (2, .int v2)]) : W p l e RM8_debtOf s m args below meth c H locs 0 0 (MQ below (qi_W (dC, dI) [(cI, .int)] A q (wd_M0 cI a X S)) args s 0 0 A) (F0 m 0 ls []) := by
  unfold f8_debtOf at h
  obtain ⟨hx, hb, hr, hts, hown, hlocks, hml⟩ := id C
  refine lv_aload_n hx hb dX8_debtOf_0 rfl (lv_at hl 0 rfl) ?_
  refine va_get (D := (dC, dI)) (ci := 7) (v := .ref (a 1)) (C := RX8) (T := TX8) (N := 17) hx hb hts inlX8 hown hK hG.1 0 rfl rfl 0 (by decide) (hts (Cond.fieldLink RX8 7 "DiceRoadsModel" "state" "[I") wq_637) (fun _ h9 => h9) rfl dX8_debtOf_1 ?_
  refine lv_bipush (v := (75 : Int32)) hx hb dX8_debtOf_4 (by decide) ?_
  refine lv_iconst (v := (4 : Int32)) hx hb dX8_debtOf_6 (by decide) ?_
  refine lv_iload_n hx hb dX8_debtOf_7 rfl (lv_at hl 1 rfl) ?_
  refine lv_imul hx hb dX8_debtOf_8 ?_
  refine lv_iadd hx hb dX8_debtOf_9 ?_
  refine lv_iload_n hx hb dX8_debtOf_10 rfl (lv_at hl 2 rfl) ?_
  refine lv_iadd hx hb dX8_debtOf_11 ?_
  obtain ⟨hi, h⟩ := fo_ck_some h
  refine va_iald hx hb hK hG.1 1 0 rfl rfl hi dX8_debtOf_12 ?_
  exact gr_i hx hb hr hlocks hK hG (Option.some.inj h) dX8_debtOf_13
set_option maxRecDepth 100000 in
set_option maxHeartbeats 4000000 in
theorem c8_debtOf (l : Launch) {dC : Nat → ClassId} {dI : Nat → Nat → Nat} {cI : ClassId} {a : Nat → Nat} {X : Nat → Int32} {v1 : Int32} {v2 : Int32} {S : (Nat → Int32)} {q : Int32} (h : f8_debtOf v1 v2 S = some q) : mi_M l yX8_debtOf wm8_debtOf RM8_debtOf (dC, dI) [(cI, .int)] [.ref (a 0), .int v1, .int v2] (wd_M0 cI a X S) q (wd_M0 cI a X S) := by
  intro sz
  refine Met.ofW (cc := cX8_debtOf) (maxL := 3) (ret := (some .int)) (by decide) rfl ?_
  intro p e s m args below meth c s₁ B hml hv
  obtain ⟨rfl, hsz, hP, hK, hD0⟩ := hv
  subst hsz
  have hl := lv_entry ([.ref (a 0), .int v1, .int v2] : List Value) (n := 3) (Nat.le_of_ble_eq_true rfl)
  rw [lg_entry_eq]
  generalize (lg_sl ([.ref (a 0), .int v1, .int v2] : List Value) ++ List.replicate (3 - (lg_sl ([.ref (a 0), .int v1, .int v2] : List Value)).length) Slot.unset).toArray = ls at hl ⊢
  exact w8_debtOf (a := a) ⟨B.exec, B.bytes, B.returns, fun w hw => atoms_spec (ws := wm8_debtOf) B.pre w (List.mem_cons_of_mem _ hw), findClass_of_methodNamed B.named, B.notSynchronized, hml⟩ hK (fun _ h => Or.inr h) h ⟨hP, hD0.self, va_S.rf⟩ hl
end
/-! ## DiceRoadsModel.ageOf(II)I -/
section
variable {p : Program} {l : Launch} {e : Env} {s : State} {m : MethodId} {args : Array Value} {below : List Frame} {meth : Method} {c : Code} {dC : Nat → ClassId} {dI : Nat → Nat → Nat} {cI : ClassId} {A : Nat → Prop}
set_option maxRecDepth 100000 in
set_option maxHeartbeats 4000000 in
theorem w8_ageOf (C : cx_M p s m args meth c RX8 cX8_ageOf (some .int) 3) (hK : va_K (dC, dI) vwCl [(cI, .int)] s) (hA : ∀ q, s.heap.size ≤ q → A q) {a : Nat → Nat} {X : Nat → Int32} {q : Int32} {v1 : Int32} {v2 : Int32} {S : (Nat → Int32)} (h : f8_ageOf v1 v2 S = some q) {H : Heap} {locs : List Loc} {ls : Array Slot} (hG : gd_W (dC, dI) A s (wd_M0 cI a X S) H locs) (hl : lv_has ls 3 [(0, .ref (a 0)), (1, .int v1), (2, .int v2)]) : W p l e RM8_ageOf s m args below meth c H locs 0 0 (MQ below (qi_W (dC, dI) [(cI, .int)] A q (wd_M0 cI a X S)) args s 0 0 A) (F0 m 0 ls []) := by
  unfold f8_ageOf at h
  obtain ⟨hx, hb, hr, hts, hown, hlocks, hml⟩ := id C
  refine lv_aload_n hx hb dX8_ageOf_0 rfl (lv_at hl 0 rfl) ?_
  refine va_get (D := (dC, dI)) (ci := 7) (v := .ref (a 1)) (C := RX8) (T := TX8) (N := 17) hx hb hts inlX8 hown hK hG.1 0 rfl rfl 0 (by decide) (hts (Cond.fieldLink RX8 7 "DiceRoadsModel" "state" "[I") wq_637) (fun _ h9 => h9) rfl dX8_ageOf_1 ?_
  refine lv_bipush (v := (91 : Int32)) hx hb dX8_ageOf_4 (by decide) ?_
  refine lv_iconst (v := (4 : Int32)) hx hb dX8_ageOf_6 (by decide) ?_
  refine lv_iload_n hx hb dX8_ageOf_7 rfl (lv_at hl 1 rfl) ?_
  refine lv_imul hx hb dX8_ageOf_8 ?_
  refine lv_iadd hx hb dX8_ageOf_9 ?_
  refine lv_iload_n hx hb dX8_ageOf_10 rfl (lv_at hl 2 rfl) ?_
  refine lv_iadd hx hb dX8_ageOf_11 ?_
  obtain ⟨hi, h⟩ := fo_ck_some h
  refine va_iald hx hb hK hG.1 1 0 rfl rfl hi dX8_ageOf_12 ?_
  exact gr_i hx hb hr hlocks hK hG (Option.some.inj h) dX8_ageOf_13
set_option maxRecDepth 100000 in
set_option maxHeartbeats 4000000 in
theorem c8_ageOf (l : Launch) {dC : Nat → ClassId} {dI : Nat → Nat → Nat} {cI : ClassId} {a : Nat → Nat} {X : Nat → Int32} {v1 : Int32} {v2 : Int32} {S : (Nat → Int32)} {q : Int32} (h : f8_ageOf v1 v2 S = some q) : mi_M l yX8_ageOf wm8_ageOf RM8_ageOf (dC, dI) [(cI, .int)] [.ref (a 0), .int v1, .int v2] (wd_M0 cI a X S) q (wd_M0 cI a X S) := by
  intro sz
  refine Met.ofW (cc := cX8_ageOf) (maxL := 3) (ret := (some .int)) (by decide) rfl ?_
  intro p e s m args below meth c s₁ B hml hv
  obtain ⟨rfl, hsz, hP, hK, hD0⟩ := hv
  subst hsz
  have hl := lv_entry ([.ref (a 0), .int v1, .int v2] : List Value) (n := 3) (Nat.le_of_ble_eq_true rfl)
  rw [lg_entry_eq]
  generalize (lg_sl ([.ref (a 0), .int v1, .int v2] : List Value) ++ List.replicate (3 - (lg_sl ([.ref (a 0), .int v1, .int v2] : List Value)).length) Slot.unset).toArray = ls at hl ⊢
  exact w8_ageOf (a := a) ⟨B.exec, B.bytes, B.returns, fun w hw => atoms_spec (ws := wm8_ageOf) B.pre w (List.mem_cons_of_mem _ hw), findClass_of_methodNamed B.named, B.notSynchronized, hml⟩ hK (fun _ h => Or.inr h) h ⟨hP, hD0.self, va_S.rf⟩ hl
end
/-! ## DiceRoadsModel.addsDebt(III)V -/
section
variable {p : Program} {l : Launch} {e : Env} {s : State} {m : MethodId} {args : Array Value} {below : List Frame} {meth : Method} {c : Code} {dC : Nat → ClassId} {dI : Nat → Nat → Nat} {cI : ClassId} {A : Nat → Prop}
set_option maxRecDepth 100000 in
set_option maxHeartbeats 4000000 in
theorem w8_addsDebt_b37 (C : cx_M p s m args meth c RX8 cX8_addsDebt none 5) (hK : va_K (dC, dI) vwCl [(cI, .int)] s) (hA : ∀ q, s.heap.size ≤ q → A q) {a : Nat → Nat} {X : Nat → Int32} {q : (Nat → Int32)} {v1 : Int32} {v2 : Int32} {S : (Nat → Int32)} (h : f8_addsDebt_b37 v1 v2 S = some q) {H : Heap} {locs : List Loc} {ls : Array Slot} (hG : gd_W (dC, dI) A s (wd_M0 cI a X S) H locs) (hl : lv_has ls 5 [(0, .ref (a 0)), (1, .int v1), (2, .int v2)]) : W p l e RM8_addsDebt s m args below meth c H locs 0 0 (MQ below (qv_W (dC, dI) [(cI, .int)] A (wd_M0 cI a X q)) args s 0 0 A) (F0 m 37 ls []) := by
  unfold f8_addsDebt_b37 at h
  obtain ⟨hx, hb, hr, hts, hown, hlocks, hml⟩ := id C
  refine lv_aload_n hx hb dX8_addsDebt_37 rfl (lv_at hl 0 rfl) ?_
  refine va_get (D := (dC, dI)) (ci := 7) (v := .ref (a 1)) (C := RX8) (T := TX8) (N := 17) hx hb hts inlX8 hown hK hG.1 0 rfl rfl 0 (by decide) (hts (Cond.fieldLink RX8 7 "DiceRoadsModel" "state" "[I") wq_637) (fun _ h9 => h9) rfl dX8_addsDebt_38 ?_
  refine lv_bipush (v := (91 : Int32)) hx hb dX8_addsDebt_41 (by decide) ?_
  refine lv_iconst (v := (4 : Int32)) hx hb dX8_addsDebt_43 (by decide) ?_
  refine lv_iload_n hx hb dX8_addsDebt_44 rfl (lv_at hl 1 rfl) ?_
  refine lv_imul hx hb dX8_addsDebt_45 ?_
  refine lv_iadd hx hb dX8_addsDebt_46 ?_
  refine lv_iload_n hx hb dX8_addsDebt_47 rfl (lv_at hl 2 rfl) ?_
  refine lv_iadd hx hb dX8_addsDebt_48 ?_
  refine lv_iconst (v := (0 : Int32)) hx hb dX8_addsDebt_49 (by decide) ?_
  obtain ⟨hi, h⟩ := fo_ck_some h
  refine va_iast hx hb hK hG.1 hG.2.1 hG.2.2 1 0 rfl rfl hi dX8_addsDebt_50 (fun H locs hP9 hD9 hS9 => ?_)
  have hG : gd_W (dC, dI) A s (wd_M0 cI a X (upd S (((91 : Int32) + ((4 : Int32) * v1)) + v2).toNatClampNeg (0 : Int32))) H locs := ⟨hP9, hD9, hS9⟩
  obtain rfl := Option.some.inj h
  exact gr_v hx hb hr hlocks hK hG dX8_addsDebt_51
set_option maxRecDepth 100000 in
set_option maxHeartbeats 4000000 in
theorem w8_addsDebt (C : cx_M p s m args meth c RX8 cX8_addsDebt none 5) (hK : va_K (dC, dI) vwCl [(cI, .int)] s) (hA : ∀ q, s.heap.size ≤ q → A q) {a : Nat → Nat} {X : Nat → Int32} {q : (Nat → Int32)} {v1 : Int32} {v2 : Int32} {v3 : Int32} {S : (Nat → Int32)} (h : f8_addsDebt v1 v2 v3 S = some q) {H : Heap} {locs : List Loc} {ls : Array Slot} (hG : gd_W (dC, dI) A s (wd_M0 cI a X S) H locs) (hl : lv_has ls 5 [(0, .ref (a 0)), (1, .int v1), (2, .int v2), (3, .int v3)]) : W p l e RM8_addsDebt s m args below meth c H locs 0 0 (MQ below (qv_W (dC, dI) [(cI, .int)] A (wd_M0 cI a X q)) args s 0 0 A) (F0 m 0 ls []) := by
  unfold f8_addsDebt at h
  obtain ⟨hx, hb, hr, hts, hown, hlocks, hml⟩ := id C
  refine lv_aload_n hx hb dX8_addsDebt_0 rfl (lv_at hl 0 rfl) ?_
  refine lv_iload_n hx hb dX8_addsDebt_1 rfl (lv_at hl 1 rfl) ?_
  refine lv_iload_n hx hb dX8_addsDebt_2 rfl (lv_at hl 2 rfl) ?_
  obtain ⟨q3, hq3, h⟩ := fo_bd_some h
  refine gc_iV (b := a 0) (C := RX8) (As := [.int v1, .int v2]) (rest := []) (wc := (wd_M0 cI a X S)) (w1 := (wd_M0 cI a X S)) (ci := 7) (q0 := 0) ⟨hx, hb, hml, hown, hts⟩ (c8_debtOf l (a := a) (X := X) hq3) (cwV 2 hts gv_X8_46 rfl rfl rfl hd8_debtOf ⟨Nat.le_of_ble_eq_true rfl, Nat.le_of_ble_eq_true rfl⟩) hK [0] rfl hA hG [0, 1] rfl rfl rfl rfl rfl rfl hl.1 rfl (by decide) dX8_addsDebt_3 ⟨Nat.zero_le _, Nat.zero_le _⟩ (fun H locs hG9 => ?_)
  have hG : gd_W (dC, dI) A s (wd_M0 cI a X S) H locs := hG9
  refine lv_istore (lv' := [(4, .int q3), (0, .ref (a 0)), (1, .int v1), (2, .int v2), (3, .int v3)]) hx hb dX8_addsDebt_6 hl (by decide) rfl (fun ls hl => ?_)
  refine lv_aload_n hx hb dX8_addsDebt_8 rfl (lv_at hl 1 rfl) ?_
  refine va_get (D := (dC, dI)) (ci := 7) (v := .ref (a 1)) (C := RX8) (T := TX8) (N := 17) hx hb hts inlX8 hown hK hG.1 0 rfl rfl 0 (by decide) (hts (Cond.fieldLink RX8 7 "DiceRoadsModel" "state" "[I") wq_637) (fun _ h9 => h9) rfl dX8_addsDebt_9 ?_
  refine lv_bipush (v := (75 : Int32)) hx hb dX8_addsDebt_12 (by decide) ?_
  refine lv_iconst (v := (4 : Int32)) hx hb dX8_addsDebt_14 (by decide) ?_
  refine lv_iload_n hx hb dX8_addsDebt_15 rfl (lv_at hl 2 rfl) ?_
  refine lv_imul hx hb dX8_addsDebt_16 ?_
  refine lv_iadd hx hb dX8_addsDebt_17 ?_
  refine lv_iload_n hx hb dX8_addsDebt_18 rfl (lv_at hl 3 rfl) ?_
  refine lv_iadd hx hb dX8_addsDebt_19 ?_
  refine lv_iload hx hb dX8_addsDebt_20 (lv_at hl 0 rfl) ?_
  refine lv_iload_n hx hb dX8_addsDebt_22 rfl (lv_at hl 4 rfl) ?_
  refine lv_iadd hx hb dX8_addsDebt_23 ?_
  obtain ⟨hi, h⟩ := fo_ck_some h
  refine va_iast hx hb hK hG.1 hG.2.1 hG.2.2 1 0 rfl rfl hi dX8_addsDebt_24 (fun H locs hP9 hD9 hS9 => ?_)
  have hG : gd_W (dC, dI) A s (wd_M0 cI a X (upd S (((75 : Int32) + ((4 : Int32) * v1)) + v2).toNatClampNeg (q3 + v3))) H locs := ⟨hP9, hD9, hS9⟩
  refine lv_iload hx hb dX8_addsDebt_25 (lv_at hl 0 rfl) ?_
  refine lv_if_eq (tgt := 37) hx hb dX8_addsDebt_27 (by decide) (fun hc => ?_) (fun hc => ?_)
  · have h := fo_it h hc
    exact w8_addsDebt_b37 C hK hA h hG (lv_sub hl [1, 2, 3] rfl)
  · have h := fo_if h hc
    refine lv_iload hx hb dX8_addsDebt_30 (lv_at hl 0 rfl) ?_
    refine lv_iload_n hx hb dX8_addsDebt_32 rfl (lv_at hl 4 rfl) ?_
    refine lv_iadd hx hb dX8_addsDebt_33 ?_
    refine lv_if_ne (tgt := 51) hx hb dX8_addsDebt_34 (by decide) (fun hc => ?_) (fun hc => ?_)
    · have h := fo_if h hc
      obtain rfl := Option.some.inj h
      exact gr_v hx hb hr hlocks hK hG dX8_addsDebt_51
    · have h := fo_it h hc
      exact w8_addsDebt_b37 C hK hA h hG (lv_sub hl [1, 2, 3] rfl)
set_option maxRecDepth 100000 in
set_option maxHeartbeats 4000000 in
theorem c8_addsDebt (l : Launch) {dC : Nat → ClassId} {dI : Nat → Nat → Nat} {cI : ClassId} {a : Nat → Nat} {X : Nat → Int32} {v1 : Int32} {v2 : Int32} {v3 : Int32} {S : (Nat → Int32)} {q : (Nat → Int32)} (h : f8_addsDebt v1 v2 v3 S = some q) : mv_M l yX8_addsDebt wm8_addsDebt RM8_addsDebt (dC, dI) [(cI, .int)] [.ref (a 0), .int v1, .int v2, .int v3] (wd_M0 cI a X S) (wd_M0 cI a X q) := by
  intro sz
  refine Met.ofW (cc := cX8_addsDebt) (maxL := 5) (ret := none) (by decide) rfl ?_
  intro p e s m args below meth c s₁ B hml hv
  obtain ⟨rfl, hsz, hP, hK, hD0⟩ := hv
  subst hsz
  have hl := lv_entry ([.ref (a 0), .int v1, .int v2, .int v3] : List Value) (n := 5) (Nat.le_of_ble_eq_true rfl)
  rw [lg_entry_eq]
  generalize (lg_sl ([.ref (a 0), .int v1, .int v2, .int v3] : List Value) ++ List.replicate (5 - (lg_sl ([.ref (a 0), .int v1, .int v2, .int v3] : List Value)).length) Slot.unset).toArray = ls at hl ⊢
  exact w8_addsDebt (a := a) ⟨B.exec, B.bytes, B.returns, fun w hw => atoms_spec (ws := wm8_addsDebt) B.pre w (List.mem_cons_of_mem _ hw), findClass_of_methodNamed B.named, B.notSynchronized, hml⟩ hK (fun _ h => Or.inr h) h ⟨hP, hD0.self, va_S.rf⟩ hl
end
/-! ## DiceRoadsModel.oldest(II)I -/
section
variable {p : Program} {l : Launch} {e : Env} {s : State} {m : MethodId} {args : Array Value} {below : List Frame} {meth : Method} {c : Code} {dC : Nat → ClassId} {dI : Nat → Nat → Nat} {cI : ClassId} {A : Nat → Prop}
set_option maxRecDepth 100000 in
set_option maxHeartbeats 4000000 in
theorem w8_oldest_b77 (C : cx_M p s m args meth c RX8 cX8_oldest (some .int) 6) (hK : va_K (dC, dI) vwCl [(cI, .int)] s) (hA : ∀ q, s.heap.size ≤ q → A q) {a : Nat → Nat} {X : Nat → Int32} {S : (Nat → Int32)} {q : Int32} {rec6 : Int32 → Int32 → Int32 → Int32 → (Nat → Int32) → Option Int32} (hrec6 : ∀ {v1 : Int32} {v2 : Int32} {v3 : Int32} {v4 : Int32} , rec6 v1 v2 v3 v4 S = some q → ∀ {H : Heap} {locs : List Loc} {ls : Array Slot}, gd_W (dC, dI) A s (wd_M0 cI a X S) H locs → lv_has ls 6 [(0, .ref (a 0)), (1, .int v1), (2, .int v2), (3, .int v3), (4, .int v4)] → W p l e RM8_oldest s m args below meth c H locs 0 0 (MQ below (qi_W (dC, dI) [(cI, .int)] A q (wd_M0 cI a X S)) args s 0 0 A) (F0 m 6 ls [])) {v1 : Int32} {v2 : Int32} {v4 : Int32} {t0 : Int32} (h : f8_oldest_b77 rec6 v1 v2 v4 t0 S = some q) {H : Heap} {locs : List Loc} {ls : Array Slot} (hG : gd_W (dC, dI) A s (wd_M0 cI a X S) H locs) (hl : lv_has ls 6 [(0, .ref (a 0)), (1, .int v1), (2, .int v2), (4, .int v4)]) : W p l e RM8_oldest s m args below meth c H locs 0 0 (MQ below (qi_W (dC, dI) [(cI, .int)] A q (wd_M0 cI a X S)) args s 0 0 A) (F0 m 77 ls [.int t0]) := by
  unfold f8_oldest_b77 at h
  obtain ⟨hx, hb, hr, hts, hown, hlocks, hml⟩ := id C
  refine lv_istore_n (lv' := [(3, .int t0), (0, .ref (a 0)), (1, .int v1), (2, .int v2), (4, .int v4)]) hx hb dX8_oldest_77 rfl hl (by decide) rfl (fun ls hl => ?_)
  refine lv_iinc (v := (v4 + (1 : Int32))) (lv' := [(4, .int (v4 + (1 : Int32))), (3, .int t0), (0, .ref (a 0)), (1, .int v1), (2, .int v2)]) hx hb dX8_oldest_78 hl (k := 4) rfl rfl (by decide) rfl (fun ls hl => ?_)
  refine lv_goto (tgt := 6) hx hb dX8_oldest_81 (by decide) ?_
  exact hrec6 h hG (lv_sub hl [2, 3, 4, 1, 0] rfl)
set_option maxRecDepth 100000 in
set_option maxHeartbeats 4000000 in
theorem w8_oldest_b64 (C : cx_M p s m args meth c RX8 cX8_oldest (some .int) 6) (hK : va_K (dC, dI) vwCl [(cI, .int)] s) (hA : ∀ q, s.heap.size ≤ q → A q) {a : Nat → Nat} {X : Nat → Int32} {S : (Nat → Int32)} {q : Int32} {rec6 : Int32 → Int32 → Int32 → Int32 → (Nat → Int32) → Option Int32} (hrec6 : ∀ {v1 : Int32} {v2 : Int32} {v3 : Int32} {v4 : Int32} , rec6 v1 v2 v3 v4 S = some q → ∀ {H : Heap} {locs : List Loc} {ls : Array Slot}, gd_W (dC, dI) A s (wd_M0 cI a X S) H locs → lv_has ls 6 [(0, .ref (a 0)), (1, .int v1), (2, .int v2), (3, .int v3), (4, .int v4)] → W p l e RM8_oldest s m args below meth c H locs 0 0 (MQ below (qi_W (dC, dI) [(cI, .int)] A q (wd_M0 cI a X S)) args s 0 0 A) (F0 m 6 ls [])) {v1 : Int32} {v2 : Int32} {v3 : Int32} {v4 : Int32} {t0 : Int32} (h : f8_oldest_b64 rec6 v1 v2 v3 v4 t0 S = some q) {H : Heap} {locs : List Loc} {ls : Array Slot} (hG : gd_W (dC, dI) A s (wd_M0 cI a X S) H locs) (hl : lv_has ls 6 [(0, .ref (a 0)), (1, .int v1), (2, .int v2), (3, .int v3), (4, .int v4)]) : W p l e RM8_oldest s m args below meth c H locs 0 0 (MQ below (qi_W (dC, dI) [(cI, .int)] A q (wd_M0 cI a X S)) args s 0 0 A) (F0 m 64 ls [.int t0]) := by
  unfold f8_oldest_b64 at h
  obtain ⟨hx, hb, hr, hts, hown, hlocks, hml⟩ := id C
  refine lv_istore (lv' := [(5, .int t0), (0, .ref (a 0)), (1, .int v1), (2, .int v2), (3, .int v3), (4, .int v4)]) hx hb dX8_oldest_64 hl (by decide) rfl (fun ls hl => ?_)
  refine lv_iload hx hb dX8_oldest_66 (lv_at hl 0 rfl) ?_
  refine lv_if_eq (tgt := 76) hx hb dX8_oldest_68 (by decide) (fun hc => ?_) (fun hc => ?_)
  · have h := fo_it h hc
    refine lv_iload_n hx hb dX8_oldest_76 rfl (lv_at hl 4 rfl) ?_
    exact w8_oldest_b77 C hK hA (fun h => hrec6 h) h hG (lv_sub hl [1, 2, 3, 5] rfl)
  · have h := fo_if h hc
    refine lv_iload hx hb dX8_oldest_71 (lv_at hl 5 rfl) ?_
    refine lv_goto (tgt := 77) hx hb dX8_oldest_73 (by decide) ?_
    exact w8_oldest_b77 C hK hA (fun h => hrec6 h) h hG (lv_sub hl [1, 2, 3, 5] rfl)
set_option maxRecDepth 100000 in
set_option maxHeartbeats 4000000 in
theorem w8_oldest_b63 (C : cx_M p s m args meth c RX8 cX8_oldest (some .int) 6) (hK : va_K (dC, dI) vwCl [(cI, .int)] s) (hA : ∀ q, s.heap.size ≤ q → A q) {a : Nat → Nat} {X : Nat → Int32} {S : (Nat → Int32)} {q : Int32} {rec6 : Int32 → Int32 → Int32 → Int32 → (Nat → Int32) → Option Int32} (hrec6 : ∀ {v1 : Int32} {v2 : Int32} {v3 : Int32} {v4 : Int32} , rec6 v1 v2 v3 v4 S = some q → ∀ {H : Heap} {locs : List Loc} {ls : Array Slot}, gd_W (dC, dI) A s (wd_M0 cI a X S) H locs → lv_has ls 6 [(0, .ref (a 0)), (1, .int v1), (2, .int v2), (3, .int v3), (4, .int v4)] → W p l e RM8_oldest s m args below meth c H locs 0 0 (MQ below (qi_W (dC, dI) [(cI, .int)] A q (wd_M0 cI a X S)) args s 0 0 A) (F0 m 6 ls [])) {v1 : Int32} {v2 : Int32} {v3 : Int32} {v4 : Int32} (h : f8_oldest_b63 rec6 v1 v2 v3 v4 S = some q) {H : Heap} {locs : List Loc} {ls : Array Slot} (hG : gd_W (dC, dI) A s (wd_M0 cI a X S) H locs) (hl : lv_has ls 6 [(0, .ref (a 0)), (1, .int v1), (2, .int v2), (3, .int v3), (4, .int v4)]) : W p l e RM8_oldest s m args below meth c H locs 0 0 (MQ below (qi_W (dC, dI) [(cI, .int)] A q (wd_M0 cI a X S)) args s 0 0 A) (F0 m 63 ls []) := by
  unfold f8_oldest_b63 at h
  obtain ⟨hx, hb, hr, hts, hown, hlocks, hml⟩ := id C
  refine lv_iconst (v := (0 : Int32)) hx hb dX8_oldest_63 (by decide) ?_
  exact w8_oldest_b64 C hK hA (fun h => hrec6 h) h hG (lv_sub hl [0, 1, 2, 3, 4] rfl)
set_option maxRecDepth 100000 in
set_option maxHeartbeats 4000000 in
theorem w8_oldest_b59 (C : cx_M p s m args meth c RX8 cX8_oldest (some .int) 6) (hK : va_K (dC, dI) vwCl [(cI, .int)] s) (hA : ∀ q, s.heap.size ≤ q → A q) {a : Nat → Nat} {X : Nat → Int32} {S : (Nat → Int32)} {q : Int32} {rec6 : Int32 → Int32 → Int32 → Int32 → (Nat → Int32) → Option Int32} (hrec6 : ∀ {v1 : Int32} {v2 : Int32} {v3 : Int32} {v4 : Int32} , rec6 v1 v2 v3 v4 S = some q → ∀ {H : Heap} {locs : List Loc} {ls : Array Slot}, gd_W (dC, dI) A s (wd_M0 cI a X S) H locs → lv_has ls 6 [(0, .ref (a 0)), (1, .int v1), (2, .int v2), (3, .int v3), (4, .int v4)] → W p l e RM8_oldest s m args below meth c H locs 0 0 (MQ below (qi_W (dC, dI) [(cI, .int)] A q (wd_M0 cI a X S)) args s 0 0 A) (F0 m 6 ls [])) {v1 : Int32} {v2 : Int32} {v3 : Int32} {v4 : Int32} (h : f8_oldest_b59 rec6 v1 v2 v3 v4 S = some q) {H : Heap} {locs : List Loc} {ls : Array Slot} (hG : gd_W (dC, dI) A s (wd_M0 cI a X S) H locs) (hl : lv_has ls 6 [(0, .ref (a 0)), (1, .int v1), (2, .int v2), (3, .int v3), (4, .int v4)]) : W p l e RM8_oldest s m args below meth c H locs 0 0 (MQ below (qi_W (dC, dI) [(cI, .int)] A q (wd_M0 cI a X S)) args s 0 0 A) (F0 m 59 ls []) := by
  unfold f8_oldest_b59 at h
  obtain ⟨hx, hb, hr, hts, hown, hlocks, hml⟩ := id C
  refine lv_iconst (v := (1 : Int32)) hx hb dX8_oldest_59 (by decide) ?_
  refine lv_goto (tgt := 64) hx hb dX8_oldest_60 (by decide) ?_
  exact w8_oldest_b64 C hK hA (fun h => hrec6 h) h hG (lv_sub hl [0, 1, 2, 3, 4] rfl)
set_option maxRecDepth 100000 in
set_option maxHeartbeats 4000000 in
theorem w8_oldest_b6 (C : cx_M p s m args meth c RX8 cX8_oldest (some .int) 6) (hK : va_K (dC, dI) vwCl [(cI, .int)] s) (hA : ∀ q, s.heap.size ≤ q → A q) {a : Nat → Nat} {X : Nat → Int32} {S : (Nat → Int32)} {q : Int32} {rec6 : Int32 → Int32 → Int32 → Int32 → (Nat → Int32) → Option Int32} (hrec6 : ∀ {v1 : Int32} {v2 : Int32} {v3 : Int32} {v4 : Int32} , rec6 v1 v2 v3 v4 S = some q → ∀ {H : Heap} {locs : List Loc} {ls : Array Slot}, gd_W (dC, dI) A s (wd_M0 cI a X S) H locs → lv_has ls 6 [(0, .ref (a 0)), (1, .int v1), (2, .int v2), (3, .int v3), (4, .int v4)] → W p l e RM8_oldest s m args below meth c H locs 0 0 (MQ below (qi_W (dC, dI) [(cI, .int)] A q (wd_M0 cI a X S)) args s 0 0 A) (F0 m 6 ls [])) {v1 : Int32} {v2 : Int32} {v3 : Int32} {v4 : Int32} (h : f8_oldest_b6 rec6 v1 v2 v3 v4 S = some q) {H : Heap} {locs : List Loc} {ls : Array Slot} (hG : gd_W (dC, dI) A s (wd_M0 cI a X S) H locs) (hl : lv_has ls 6 [(0, .ref (a 0)), (1, .int v1), (2, .int v2), (3, .int v3), (4, .int v4)]) : W p l e RM8_oldest s m args below meth c H locs 0 0 (MQ below (qi_W (dC, dI) [(cI, .int)] A q (wd_M0 cI a X S)) args s 0 0 A) (F0 m 6 ls []) := by
  unfold f8_oldest_b6 at h
  obtain ⟨hx, hb, hr, hts, hown, hlocks, hml⟩ := id C
  refine lv_iload hx hb dX8_oldest_6 (lv_at hl 4 rfl) ?_
  refine lv_aload_n hx hb dX8_oldest_8 rfl (lv_at hl 0 rfl) ?_
  refine va_get (D := (dC, dI)) (ci := 7) (v := .ref (a 1)) (C := RX8) (T := TX8) (N := 17) hx hb hts inlX8 hown hK hG.1 0 rfl rfl 0 (by decide) (hts (Cond.fieldLink RX8 7 "DiceRoadsModel" "state" "[I") wq_637) (fun _ h9 => h9) rfl dX8_oldest_9 ?_
  refine lv_bipush (v := (6 : Int32)) hx hb dX8_oldest_12 (by decide) ?_
  obtain ⟨hi, h⟩ := fo_ck_some h
  refine va_iald hx hb hK hG.1 1 0 rfl rfl hi dX8_oldest_14 ?_
  refine lv_icmp_ge (tgt := 84) hx hb dX8_oldest_15 (by decide) (fun hc => ?_) (fun hc => ?_)
  · have h := fo_it h hc
    refine lv_iload_n hx hb dX8_oldest_84 rfl (lv_at hl 3 rfl) ?_
    exact gr_i hx hb hr hlocks hK hG (Option.some.inj h) dX8_oldest_85
  · have h := fo_if h hc
    refine lv_aload_n hx hb dX8_oldest_18 rfl (lv_at hl 0 rfl) ?_
    refine lv_iload_n hx hb dX8_oldest_19 rfl (lv_at hl 1 rfl) ?_
    refine lv_iload hx hb dX8_oldest_20 (lv_at hl 4 rfl) ?_
    obtain ⟨q22, hq22, h⟩ := fo_bd_some h
    refine gc_iV (b := a 0) (C := RX8) (As := [.int v1, .int v4]) (rest := []) (wc := (wd_M0 cI a X S)) (w1 := (wd_M0 cI a X S)) (ci := 7) (q0 := 0) ⟨hx, hb, hml, hown, hts⟩ (c8_debtOf l (a := a) (X := X) hq22) (cwV 2 hts gv_X8_46 rfl rfl rfl hd8_debtOf ⟨Nat.le_of_ble_eq_true rfl, Nat.le_of_ble_eq_true rfl⟩) hK [0] rfl hA hG [0, 1] rfl rfl rfl rfl rfl rfl hl.1 rfl (by decide) dX8_oldest_22 ⟨Nat.zero_le _, Nat.zero_le _⟩ (fun H locs hG9 => ?_)
    have hG : gd_W (dC, dI) A s (wd_M0 cI a X S) H locs := hG9
    refine lv_if_le (tgt := 63) hx hb dX8_oldest_25 (by decide) (fun hc => ?_) (fun hc => ?_)
    · have h := fo_it h hc
      exact w8_oldest_b63 C hK hA (fun h => hrec6 h) h hG (lv_sub hl [0, 1, 2, 3, 4] rfl)
    · have h := fo_if h hc
      refine lv_iload_n hx hb dX8_oldest_28 rfl (lv_at hl 2 rfl) ?_
      refine lv_iload hx hb dX8_oldest_29 (lv_at hl 4 rfl) ?_
      refine lv_ishr hx hb dX8_oldest_31 ?_
      refine lv_iconst (v := (1 : Int32)) hx hb dX8_oldest_32 (by decide) ?_
      refine lv_iand hx hb dX8_oldest_33 ?_
      refine lv_if_ne (tgt := 63) hx hb dX8_oldest_34 (by decide) (fun hc => ?_) (fun hc => ?_)
      · have h := fo_if h hc
        exact w8_oldest_b63 C hK hA (fun h => hrec6 h) h hG (lv_sub hl [0, 1, 2, 3, 4] rfl)
      · have h := fo_it h hc
        refine lv_iload_n hx hb dX8_oldest_37 rfl (lv_at hl 3 rfl) ?_
        refine lv_bipush (v := (-6 : Int32)) hx hb dX8_oldest_38 (by decide) ?_
        refine lv_icmp_eq (tgt := 59) hx hb dX8_oldest_40 (by decide) (fun hc => ?_) (fun hc => ?_)
        · have h := fo_it h hc
          exact w8_oldest_b59 C hK hA (fun h => hrec6 h) h hG (lv_sub hl [0, 1, 2, 3, 4] rfl)
        · have h := fo_if h hc
          refine lv_aload_n hx hb dX8_oldest_43 rfl (lv_at hl 0 rfl) ?_
          refine lv_iload_n hx hb dX8_oldest_44 rfl (lv_at hl 1 rfl) ?_
          refine lv_iload hx hb dX8_oldest_45 (lv_at hl 4 rfl) ?_
          obtain ⟨q47, hq47, h⟩ := fo_bd_some h
          refine gc_iV (b := a 0) (C := RX8) (As := [.int v1, .int v4]) (rest := []) (wc := (wd_M0 cI a X S)) (w1 := (wd_M0 cI a X S)) (ci := 7) (q0 := 0) ⟨hx, hb, hml, hown, hts⟩ (c8_ageOf l (a := a) (X := X) hq47) (cwV 2 hts gv_X8_65 rfl rfl rfl hd8_ageOf ⟨Nat.le_of_ble_eq_true rfl, Nat.le_of_ble_eq_true rfl⟩) hK [0] rfl hA hG [0, 1] rfl rfl rfl rfl rfl rfl hl.1 rfl (by decide) dX8_oldest_47 ⟨Nat.zero_le _, Nat.zero_le _⟩ (fun H locs hG9 => ?_)
          have hG : gd_W (dC, dI) A s (wd_M0 cI a X S) H locs := hG9
          refine lv_aload_n hx hb dX8_oldest_50 rfl (lv_at hl 0 rfl) ?_
          refine lv_iload_n hx hb dX8_oldest_51 rfl (lv_at hl 1 rfl) ?_
          refine lv_iload_n hx hb dX8_oldest_52 rfl (lv_at hl 3 rfl) ?_
          obtain ⟨q53, hq53, h⟩ := fo_bd_some h
          refine gc_iV (b := a 0) (C := RX8) (As := [.int v1, .int v3]) (rest := [.int q47]) (wc := (wd_M0 cI a X S)) (w1 := (wd_M0 cI a X S)) (ci := 7) (q0 := 0) ⟨hx, hb, hml, hown, hts⟩ (c8_ageOf l (a := a) (X := X) hq53) (cwV 2 hts gv_X8_65 rfl rfl rfl hd8_ageOf ⟨Nat.le_of_ble_eq_true rfl, Nat.le_of_ble_eq_true rfl⟩) hK [0] rfl hA hG [0, 1] rfl rfl rfl rfl rfl rfl hl.1 rfl (by decide) dX8_oldest_53 ⟨Nat.zero_le _, Nat.zero_le _⟩ (fun H locs hG9 => ?_)
          have hG : gd_W (dC, dI) A s (wd_M0 cI a X S) H locs := hG9
          refine lv_icmp_le (tgt := 63) hx hb dX8_oldest_56 (by decide) (fun hc => ?_) (fun hc => ?_)
          · have h := fo_it h hc
            exact w8_oldest_b63 C hK hA (fun h => hrec6 h) h hG (lv_sub hl [0, 1, 2, 3, 4] rfl)
          · have h := fo_if h hc
            exact w8_oldest_b59 C hK hA (fun h => hrec6 h) h hG (lv_sub hl [0, 1, 2, 3, 4] rfl)
set_option maxRecDepth 100000 in
set_option maxHeartbeats 4000000 in
theorem w8_oldest_L6 (C : cx_M p s m args meth c RX8 cX8_oldest (some .int) 6) (hK : va_K (dC, dI) vwCl [(cI, .int)] s) (hA : ∀ q, s.heap.size ≤ q → A q) {a : Nat → Nat} {X : Nat → Int32} {S : (Nat → Int32)} {q : Int32} : ∀ (n : Nat) {v1 : Int32} {v2 : Int32} {v3 : Int32} {v4 : Int32}, f8_oldest_L6 n v1 v2 v3 v4 S = some q → ∀ {H : Heap} {locs : List Loc} {ls : Array Slot}, gd_W (dC, dI) A s (wd_M0 cI a X S) H locs → lv_has ls 6 [(0, .ref (a 0)), (1, .int v1), (2, .int v2), (3, .int v3), (4, .int v4)] → W p l e RM8_oldest s m args below meth c H locs 0 0 (MQ below (qi_W (dC, dI) [(cI, .int)] A q (wd_M0 cI a X S)) args s 0 0 A) (F0 m 6 ls []) := by
  intro n
  induction n with
  | zero => intro _ _ _ _ h; exact nomatch h
  | succ n ih => intro v1 v2 v3 v4 h H locs ls hG hl; exact w8_oldest_b6 C hK hA (fun h => ih h) (show f8_oldest_b6 (f8_oldest_L6 n) v1 v2 v3 v4 S = some q from h) hG hl
set_option maxRecDepth 100000 in
set_option maxHeartbeats 4000000 in
theorem w8_oldest (C : cx_M p s m args meth c RX8 cX8_oldest (some .int) 6) (hK : va_K (dC, dI) vwCl [(cI, .int)] s) (hA : ∀ q, s.heap.size ≤ q → A q) {a : Nat → Nat} {X : Nat → Int32} {q : Int32} {v1 : Int32} {v2 : Int32} {S : (Nat → Int32)} (h : f8_oldest v1 v2 S = some q) {H : Heap} {locs : List Loc} {ls : Array Slot} (hG : gd_W (dC, dI) A s (wd_M0 cI a X S) H locs) (hl : lv_has ls 6 [(0, .ref (a 0)), (1, .int v1), (2, .int v2)]) : W p l e RM8_oldest s m args below meth c H locs 0 0 (MQ below (qi_W (dC, dI) [(cI, .int)] A q (wd_M0 cI a X S)) args s 0 0 A) (F0 m 0 ls []) := by
  unfold f8_oldest at h
  obtain ⟨hx, hb, hr, hts, hown, hlocks, hml⟩ := id C
  refine lv_bipush (v := (-6 : Int32)) hx hb dX8_oldest_0 (by decide) ?_
  refine lv_istore_n (lv' := [(3, .int (-6 : Int32)), (0, .ref (a 0)), (1, .int v1), (2, .int v2)]) hx hb dX8_oldest_2 rfl hl (by decide) rfl (fun ls hl => ?_)
  refine lv_iconst (v := (0 : Int32)) hx hb dX8_oldest_3 (by decide) ?_
  refine lv_istore (lv' := [(4, .int (0 : Int32)), (3, .int (-6 : Int32)), (0, .ref (a 0)), (1, .int v1), (2, .int v2)]) hx hb dX8_oldest_4 hl (by decide) rfl (fun ls hl => ?_)
  exact w8_oldest_L6 C hK hA fo_fu h hG (lv_sub hl [2, 3, 4, 1, 0] rfl)
set_option maxRecDepth 100000 in
set_option maxHeartbeats 4000000 in
theorem c8_oldest (l : Launch) {dC : Nat → ClassId} {dI : Nat → Nat → Nat} {cI : ClassId} {a : Nat → Nat} {X : Nat → Int32} {v1 : Int32} {v2 : Int32} {S : (Nat → Int32)} {q : Int32} (h : f8_oldest v1 v2 S = some q) : mi_M l yX8_oldest wm8_oldest RM8_oldest (dC, dI) [(cI, .int)] [.ref (a 0), .int v1, .int v2] (wd_M0 cI a X S) q (wd_M0 cI a X S) := by
  intro sz
  refine Met.ofW (cc := cX8_oldest) (maxL := 6) (ret := (some .int)) (by decide) rfl ?_
  intro p e s m args below meth c s₁ B hml hv
  obtain ⟨rfl, hsz, hP, hK, hD0⟩ := hv
  subst hsz
  have hl := lv_entry ([.ref (a 0), .int v1, .int v2] : List Value) (n := 6) (Nat.le_of_ble_eq_true rfl)
  rw [lg_entry_eq]
  generalize (lg_sl ([.ref (a 0), .int v1, .int v2] : List Value) ++ List.replicate (6 - (lg_sl ([.ref (a 0), .int v1, .int v2] : List Value)).length) Slot.unset).toArray = ls at hl ⊢
  exact w8_oldest (a := a) ⟨B.exec, B.bytes, B.returns, fun w hw => atoms_spec (ws := wm8_oldest) B.pre w (List.mem_cons_of_mem _ hw), findClass_of_methodNamed B.named, B.notSynchronized, hml⟩ hK (fun _ h => Or.inr h) h ⟨hP, hD0.self, va_S.rf⟩ hl
end
