/-! ## DiceRoadsLaw.low(II)I -/
section
variable {p : Program} {l : Launch} {e : Env} {s : State} {m : MethodId} {args : Array Value} {below : List Frame} {meth : Method} {c : Code} {dC : Nat → ClassId} {dI : Nat → Nat → Nat} {cI cB : ClassId} {A : Nat → Prop}
set_option maxRecDepth 100000 in
set_option maxHeartbeats 4000000 in
theorem w9_low (C : cx_M p s m args meth c RL cL_low (some .int) 2) (hK : va_K (dC, dI) vwCl [] s) (hA : ∀ q, s.heap.size ≤ q → A q) {a : Nat → Nat} {q : Int32} {v0 : Int32} {v1 : Int32} (h : f9_low v0 v1 = some q) {H : Heap} {locs : List Loc} {ls : Array Slot} (hG : gd_W (dC, dI) A s ([] : va_W) H locs) (hl : lv_has ls 2 [(0, .int v0), (1, .int v1)]) : W p l e RM9_low s m args below meth c H locs 0 0 (MQ below (qi_W (dC, dI) [] A q ([] : va_W)) args s 0 0 A) (F0 m 0 ls []) := by
  unfold f9_low at h
  obtain ⟨hx, hb, hr, hts, hown, hlocks, hml⟩ := id C
  refine lv_iload_n hx hb dL_low_0 rfl (lv_at hl 0 rfl) ?_
  refine lv_ldc (v := (2147483647 : Int32)) hx hb hown (hts (Cond.constant RL 9 (2147483647)) wr_406) dL_low_1 ?_
  refine lv_iand hx hb dL_low_3 ?_
  refine lv_iload_n hx hb dL_low_4 rfl (lv_at hl 1 rfl) ?_
  obtain ⟨hz, h⟩ := fo_nz_some h
  refine lv_irem hx hb dL_low_5 hz ?_
  exact gr_i hx hb hr hlocks hK hG (Option.some.inj h) dL_low_6
set_option maxRecDepth 100000 in
set_option maxHeartbeats 4000000 in
theorem c9_low (l : Launch) {dC : Nat → ClassId} {dI : Nat → Nat → Nat} {a : Nat → Nat} {v0 : Int32} {v1 : Int32} {q : Int32} (h : f9_low v0 v1 = some q) : mi_M l yL_low wm9_low RM9_low (dC, dI) [] [.int v0, .int v1] ([] : va_W) q ([] : va_W) := by
  intro sz
  refine Met.ofW (cc := cL_low) (maxL := 2) (ret := (some .int)) (by decide) rfl ?_
  intro p e s m args below meth c s₁ B hml hv
  obtain ⟨rfl, hsz, hP, hK, hD0⟩ := hv
  subst hsz
  have hl := lv_entry ([.int v0, .int v1] : List Value) (n := 2) (Nat.le_of_ble_eq_true rfl)
  rw [lg_entry_eq]
  generalize (lg_sl ([.int v0, .int v1] : List Value) ++ List.replicate (2 - (lg_sl ([.int v0, .int v1] : List Value)).length) Slot.unset).toArray = ls at hl ⊢
  exact w9_low (a := a) ⟨B.exec, B.bytes, B.returns, fun w hw => atoms_spec (ws := wm9_low) B.pre w (List.mem_cons_of_mem _ hw), findClass_of_methodNamed B.named, B.notSynchronized, hml⟩ hK (fun _ h => Or.inr h) h ⟨hP, hD0.self, va_S.rf⟩ hl
end
/-! ## DiceRoadsLaw.die([I)I -/
section
variable {p : Program} {l : Launch} {e : Env} {s : State} {m : MethodId} {args : Array Value} {below : List Frame} {meth : Method} {c : Code} {dC : Nat → ClassId} {dI : Nat → Nat → Nat} {cI cB : ClassId} {A : Nat → Prop}
set_option maxRecDepth 100000 in
set_option maxHeartbeats 4000000 in
theorem w9_die (C : cx_M p s m args meth c RL cL_die (some .int) 1) (hK : va_K (dC, dI) vwCl [(cI, .int)] s) (hA : ∀ q, s.heap.size ≤ q → A q) {a : Nat → Nat} {q : (Int32 × ms_T)} {S : ms_T} (h : f9_die S = some q) {H : Heap} {locs : List Loc} {ls : Array Slot} (hG : gd_W (dC, dI) A s (wd_G cI a S) H locs) (hl : lv_has ls 1 [(0, .ref (a 0))]) : W p l e RM9_die s m args below meth c H locs 0 0 (MQ below (qi_W (dC, dI) [(cI, .int)] A q.1 (wd_G cI a q.2)) args s 0 0 A) (F0 m 0 ls []) := by
  unfold f9_die at h
  obtain ⟨hx, hb, hr, hts, hown, hlocks, hml⟩ := id C
  refine lv_aload_n hx hb dL_die_0 rfl (lv_at hl 0 rfl) ?_
  refine lv_bipush (v := (8 : Int32)) hx hb dL_die_1 (by decide) ?_
  refine lv_bipush (v := (75 : Int32)) hx hb dL_die_3 (by decide) ?_
  refine lv_aload_n hx hb dL_die_5 rfl (lv_at hl 0 rfl) ?_
  refine lv_bipush (v := (8 : Int32)) hx hb dL_die_6 (by decide) ?_
  obtain ⟨hi, h⟩ := fo_ck_some h
  refine va_iald hx hb hK hG.1 0 0 rfl rfl hi dL_die_8 ?_
  refine lv_imul hx hb dL_die_9 ?_
  refine lv_bipush (v := (74 : Int32)) hx hb dL_die_10 (by decide) ?_
  refine lv_iadd hx hb dL_die_12 ?_
  refine lv_ldc (v := (65537 : Int32)) hx hb hown (hts (Cond.constant RL 10 (65537)) wr_419) dL_die_13 ?_
  refine lv_irem hx hb dL_die_15 (by decide) ?_
  obtain ⟨hi, h⟩ := fo_ck_some h
  obtain ⟨s16, es16, h⟩ := fo_bd_some h
  have es16 := Option.some.inj es16
  refine va_iast hx hb hK hG.1 hG.2.1 hG.2.2 0 0 rfl rfl hi dL_die_16 (fun H locs hP9 hD9 hS9 => ?_)
  have hG : gd_W (dC, dI) A s (wd_G cI a (ms_set S 0 (upd (S 0) (8 : Int32).toNatClampNeg ((((75 : Int32) * ((S 0) (8 : Int32).toNatClampNeg)) + (74 : Int32)) - (((75 : Int32) * ((S 0) (8 : Int32).toNatClampNeg)) + (74 : Int32)) / (65537 : Int32) * (65537 : Int32))))) H locs := ⟨hP9, hD9, hS9⟩
  rw [es16] at hG
  refine lv_aload_n hx hb dL_die_17 rfl (lv_at hl 0 rfl) ?_
  refine lv_bipush (v := (8 : Int32)) hx hb dL_die_18 (by decide) ?_
  obtain ⟨hi, h⟩ := fo_ck_some h
  refine va_iald hx hb hK hG.1 0 0 rfl rfl hi dL_die_20 ?_
  refine lv_bipush (v := (8 : Int32)) hx hb dL_die_21 (by decide) ?_
  refine lv_idiv hx hb dL_die_23 (by decide) ?_
  refine lv_bipush (v := (6 : Int32)) hx hb dL_die_24 (by decide) ?_
  refine lv_irem hx hb dL_die_26 (by decide) ?_
  refine lv_iconst (v := (1 : Int32)) hx hb dL_die_27 (by decide) ?_
  refine lv_iadd hx hb dL_die_28 ?_
  obtain rfl := Option.some.inj h
  exact gr_i hx hb hr hlocks hK hG rfl dL_die_29
set_option maxRecDepth 100000 in
set_option maxHeartbeats 4000000 in
theorem c9_die (l : Launch) {dC : Nat → ClassId} {dI : Nat → Nat → Nat} {cI : ClassId} {a : Nat → Nat} {S : ms_T} {q : (Int32 × ms_T)} (h : f9_die S = some q) : mi_M l yL_die wm9_die RM9_die (dC, dI) [(cI, .int)] [.ref (a 0)] (wd_G cI a S) q.1 (wd_G cI a q.2) := by
  intro sz
  refine Met.ofW (cc := cL_die) (maxL := 1) (ret := (some .int)) (by decide) rfl ?_
  intro p e s m args below meth c s₁ B hml hv
  obtain ⟨rfl, hsz, hP, hK, hD0⟩ := hv
  subst hsz
  have hl := lv_entry ([.ref (a 0)] : List Value) (n := 1) (Nat.le_of_ble_eq_true rfl)
  rw [lg_entry_eq]
  generalize (lg_sl ([.ref (a 0)] : List Value) ++ List.replicate (1 - (lg_sl ([.ref (a 0)] : List Value)).length) Slot.unset).toArray = ls at hl ⊢
  exact w9_die (a := a) ⟨B.exec, B.bytes, B.returns, fun w hw => atoms_spec (ws := wm9_die) B.pre w (List.mem_cons_of_mem _ hw), findClass_of_methodNamed B.named, B.notSynchronized, hml⟩ hK (fun _ h => Or.inr h) h ⟨hP, hD0.self, va_S.rf⟩ hl
end
/-! ## DiceRoadsLaw.toll(I[I[I)I -/
section
variable {p : Program} {l : Launch} {e : Env} {s : State} {m : MethodId} {args : Array Value} {below : List Frame} {meth : Method} {c : Code} {dC : Nat → ClassId} {dI : Nat → Nat → Nat} {cI cB : ClassId} {A : Nat → Prop}
set_option maxRecDepth 100000 in
set_option maxHeartbeats 4000000 in
theorem w9_toll_b48 (C : cx_M p s m args meth c RL cL_toll (some .int) 6) (hK : va_K (dC, dI) vwCl [(cI, .int)] s) (hA : ∀ q, s.heap.size ≤ q → A q) {a : Nat → Nat} {S : ms_T} {q : Int32} {rec23 : Int32 → Int32 → Int32 → Int32 → ms_T → Option Int32} (hrec23 : ∀ {v0 : Int32} {v3 : Int32} {v4 : Int32} {v5 : Int32} , rec23 v0 v3 v4 v5 S = some q → ∀ {H : Heap} {locs : List Loc} {ls : Array Slot}, gd_W (dC, dI) A s (wd_G cI a S) H locs → lv_has ls 6 [(0, .int v0), (1, .ref (a 0)), (2, .ref (a 2)), (3, .int v3), (4, .int v4), (5, .int v5)] → W p l e RM9_toll s m args below meth c H locs 0 0 (MQ below (qi_W (dC, dI) [(cI, .int)] A q (wd_G cI a S)) args s 0 0 A) (F0 m 23 ls [])) {v0 : Int32} {v4 : Int32} {v5 : Int32} {t0 : Int32} {t1 : Int32} (h : f9_toll_b48 rec23 v0 v4 v5 t0 t1 S = some q) {H : Heap} {locs : List Loc} {ls : Array Slot} (hG : gd_W (dC, dI) A s (wd_G cI a S) H locs) (hl : lv_has ls 6 [(0, .int v0), (1, .ref (a 0)), (2, .ref (a 2)), (4, .int v4), (5, .int v5)]) : W p l e RM9_toll s m args below meth c H locs 0 0 (MQ below (qi_W (dC, dI) [(cI, .int)] A q (wd_G cI a S)) args s 0 0 A) (F0 m 48 ls [.int t1, .int t0]) := by
  unfold f9_toll_b48 at h
  obtain ⟨hx, hb, hr, hts, hown, hlocks, hml⟩ := id C
  refine lv_iadd hx hb dL_toll_48 ?_
  refine lv_istore_n (lv' := [(3, .int (t0 + t1)), (0, .int v0), (1, .ref (a 0)), (2, .ref (a 2)), (4, .int v4), (5, .int v5)]) hx hb dL_toll_49 rfl hl (by decide) rfl (fun ls hl => ?_)
  refine lv_iinc (v := (v5 + (1 : Int32))) (lv' := [(5, .int (v5 + (1 : Int32))), (3, .int (t0 + t1)), (0, .int v0), (1, .ref (a 0)), (2, .ref (a 2)), (4, .int v4)]) hx hb dL_toll_50 hl (k := 5) rfl rfl (by decide) rfl (fun ls hl => ?_)
  refine lv_goto (tgt := 23) hx hb dL_toll_53 (by decide) ?_
  exact hrec23 h hG (lv_sub hl [2, 3, 4, 1, 5, 0] rfl)
set_option maxRecDepth 100000 in
set_option maxHeartbeats 4000000 in
theorem w9_toll_b23 (C : cx_M p s m args meth c RL cL_toll (some .int) 6) (hK : va_K (dC, dI) vwCl [(cI, .int)] s) (hA : ∀ q, s.heap.size ≤ q → A q) {a : Nat → Nat} {S : ms_T} {q : Int32} {rec23 : Int32 → Int32 → Int32 → Int32 → ms_T → Option Int32} (hrec23 : ∀ {v0 : Int32} {v3 : Int32} {v4 : Int32} {v5 : Int32} , rec23 v0 v3 v4 v5 S = some q → ∀ {H : Heap} {locs : List Loc} {ls : Array Slot}, gd_W (dC, dI) A s (wd_G cI a S) H locs → lv_has ls 6 [(0, .int v0), (1, .ref (a 0)), (2, .ref (a 2)), (3, .int v3), (4, .int v4), (5, .int v5)] → W p l e RM9_toll s m args below meth c H locs 0 0 (MQ below (qi_W (dC, dI) [(cI, .int)] A q (wd_G cI a S)) args s 0 0 A) (F0 m 23 ls [])) {v0 : Int32} {v3 : Int32} {v4 : Int32} {v5 : Int32} (h : f9_toll_b23 rec23 v0 v3 v4 v5 S = some q) {H : Heap} {locs : List Loc} {ls : Array Slot} (hG : gd_W (dC, dI) A s (wd_G cI a S) H locs) (hl : lv_has ls 6 [(0, .int v0), (1, .ref (a 0)), (2, .ref (a 2)), (3, .int v3), (4, .int v4), (5, .int v5)]) : W p l e RM9_toll s m args below meth c H locs 0 0 (MQ below (qi_W (dC, dI) [(cI, .int)] A q (wd_G cI a S)) args s 0 0 A) (F0 m 23 ls []) := by
  unfold f9_toll_b23 at h
  obtain ⟨hx, hb, hr, hts, hown, hlocks, hml⟩ := id C
  refine lv_iload hx hb dL_toll_23 (lv_at hl 5 rfl) ?_
  refine lv_iload hx hb dL_toll_25 (lv_at hl 4 rfl) ?_
  refine lv_iconst (v := (5 : Int32)) hx hb dL_toll_27 (by decide) ?_
  refine lv_iadd hx hb dL_toll_28 ?_
  refine lv_icmp_ge (tgt := 56) hx hb dL_toll_29 (by decide) (fun hc => ?_) (fun hc => ?_)
  · have h := fo_it h hc
    refine lv_iload_n hx hb dL_toll_56 rfl (lv_at hl 3 rfl) ?_
    refine lv_aload_n hx hb dL_toll_57 rfl (lv_at hl 1 rfl) ?_
    refine lv_iconst (v := (2 : Int32)) hx hb dL_toll_58 (by decide) ?_
    obtain ⟨hi, h⟩ := fo_ck_some h
    refine va_iald hx hb hK hG.1 0 0 rfl rfl hi dL_toll_59 ?_
    refine lv_imul hx hb dL_toll_60 ?_
    exact gr_i hx hb hr hlocks hK hG (Option.some.inj h) dL_toll_61
  · have h := fo_if h hc
    refine lv_iload_n hx hb dL_toll_32 rfl (lv_at hl 3 rfl) ?_
    refine lv_aload_n hx hb dL_toll_33 rfl (lv_at hl 2 rfl) ?_
    refine lv_iload hx hb dL_toll_34 (lv_at hl 5 rfl) ?_
    obtain ⟨hi, h⟩ := fo_ck_some h
    refine va_iald hx hb hK hG.1 2 0 rfl rfl hi dL_toll_36 ?_
    refine lv_aload_n hx hb dL_toll_37 rfl (lv_at hl 2 rfl) ?_
    refine lv_iload_n hx hb dL_toll_38 rfl (lv_at hl 0 rfl) ?_
    obtain ⟨hi, h⟩ := fo_ck_some h
    refine va_iald hx hb hK hG.1 2 0 rfl rfl hi dL_toll_39 ?_
    refine lv_icmp_ne (tgt := 47) hx hb dL_toll_40 (by decide) (fun hc => ?_) (fun hc => ?_)
    · have h := fo_if h hc
      refine lv_iconst (v := (0 : Int32)) hx hb dL_toll_47 (by decide) ?_
      exact w9_toll_b48 C hK hA (fun h => hrec23 h) h hG (lv_sub hl [0, 1, 2, 4, 5] rfl)
    · have h := fo_it h hc
      refine lv_iconst (v := (1 : Int32)) hx hb dL_toll_43 (by decide) ?_
      refine lv_goto (tgt := 48) hx hb dL_toll_44 (by decide) ?_
      exact w9_toll_b48 C hK hA (fun h => hrec23 h) h hG (lv_sub hl [0, 1, 2, 4, 5] rfl)
set_option maxRecDepth 100000 in
set_option maxHeartbeats 4000000 in
theorem w9_toll_L23 (C : cx_M p s m args meth c RL cL_toll (some .int) 6) (hK : va_K (dC, dI) vwCl [(cI, .int)] s) (hA : ∀ q, s.heap.size ≤ q → A q) {a : Nat → Nat} {S : ms_T} {q : Int32} : ∀ (n : Nat) {v0 : Int32} {v3 : Int32} {v4 : Int32} {v5 : Int32}, f9_toll_L23 n v0 v3 v4 v5 S = some q → ∀ {H : Heap} {locs : List Loc} {ls : Array Slot}, gd_W (dC, dI) A s (wd_G cI a S) H locs → lv_has ls 6 [(0, .int v0), (1, .ref (a 0)), (2, .ref (a 2)), (3, .int v3), (4, .int v4), (5, .int v5)] → W p l e RM9_toll s m args below meth c H locs 0 0 (MQ below (qi_W (dC, dI) [(cI, .int)] A q (wd_G cI a S)) args s 0 0 A) (F0 m 23 ls []) := by
  intro n
  induction n with
  | zero => intro _ _ _ _ h; exact nomatch h
  | succ n ih => intro v0 v3 v4 v5 h H locs ls hG hl; exact w9_toll_b23 C hK hA (fun h => ih h) (show f9_toll_b23 (f9_toll_L23 n) v0 v3 v4 v5 S = some q from h) hG hl
set_option maxRecDepth 100000 in
set_option maxHeartbeats 4000000 in
theorem w9_toll (C : cx_M p s m args meth c RL cL_toll (some .int) 6) (hK : va_K (dC, dI) vwCl [(cI, .int)] s) (hA : ∀ q, s.heap.size ≤ q → A q) {a : Nat → Nat} {q : Int32} {v0 : Int32} {S : ms_T} (h : f9_toll v0 S = some q) {H : Heap} {locs : List Loc} {ls : Array Slot} (hG : gd_W (dC, dI) A s (wd_G cI a S) H locs) (hl : lv_has ls 6 [(0, .int v0), (1, .ref (a 0)), (2, .ref (a 2))]) : W p l e RM9_toll s m args below meth c H locs 0 0 (MQ below (qi_W (dC, dI) [(cI, .int)] A q (wd_G cI a S)) args s 0 0 A) (F0 m 0 ls []) := by
  unfold f9_toll at h
  obtain ⟨hx, hb, hr, hts, hown, hlocks, hml⟩ := id C
  refine lv_aload_n hx hb dL_toll_0 rfl (lv_at hl 2 rfl) ?_
  refine lv_iload_n hx hb dL_toll_1 rfl (lv_at hl 0 rfl) ?_
  obtain ⟨hi, h⟩ := fo_ck_some h
  refine va_iald hx hb hK hG.1 2 0 rfl rfl hi dL_toll_2 ?_
  refine lv_if_ge (tgt := 8) hx hb dL_toll_3 (by decide) (fun hc => ?_) (fun hc => ?_)
  · have h := fo_it h hc
    refine lv_iconst (v := (1 : Int32)) hx hb dL_toll_8 (by decide) ?_
    refine lv_istore_n (lv' := [(3, .int (1 : Int32)), (0, .int v0), (1, .ref (a 0)), (2, .ref (a 2))]) hx hb dL_toll_9 rfl hl (by decide) rfl (fun ls hl => ?_)
    refine lv_iload_n hx hb dL_toll_10 rfl (lv_at hl 1 rfl) ?_
    refine lv_iload_n hx hb dL_toll_11 rfl (lv_at hl 1 rfl) ?_
    refine lv_iconst (v := (5 : Int32)) hx hb dL_toll_12 (by decide) ?_
    refine lv_irem hx hb dL_toll_13 (by decide) ?_
    refine lv_isub hx hb dL_toll_14 ?_
    refine lv_istore (lv' := [(4, .int (v0 - (v0 - v0 / (5 : Int32) * (5 : Int32)))), (3, .int (1 : Int32)), (0, .int v0), (1, .ref (a 0)), (2, .ref (a 2))]) hx hb dL_toll_15 hl (by decide) rfl (fun ls hl => ?_)
    refine lv_iload hx hb dL_toll_17 (lv_at hl 0 rfl) ?_
    refine lv_iconst (v := (1 : Int32)) hx hb dL_toll_19 (by decide) ?_
    refine lv_iadd hx hb dL_toll_20 ?_
    refine lv_istore (lv' := [(5, .int ((v0 - (v0 - v0 / (5 : Int32) * (5 : Int32))) + (1 : Int32))), (4, .int (v0 - (v0 - v0 / (5 : Int32) * (5 : Int32)))), (3, .int (1 : Int32)), (0, .int v0), (1, .ref (a 0)), (2, .ref (a 2))]) hx hb dL_toll_21 hl (by decide) rfl (fun ls hl => ?_)
    exact w9_toll_L23 C hK hA fo_fu h hG (lv_sub hl [3, 4, 5, 2, 1, 0] rfl)
  · have h := fo_if h hc
    refine lv_iconst (v := (0 : Int32)) hx hb dL_toll_6 (by decide) ?_
    exact gr_i hx hb hr hlocks hK hG (Option.some.inj h) dL_toll_7
set_option maxRecDepth 100000 in
set_option maxHeartbeats 4000000 in
theorem c9_toll (l : Launch) {dC : Nat → ClassId} {dI : Nat → Nat → Nat} {cI : ClassId} {a : Nat → Nat} {v0 : Int32} {S : ms_T} {q : Int32} (h : f9_toll v0 S = some q) : mi_M l yL_toll wm9_toll RM9_toll (dC, dI) [(cI, .int)] [.int v0, .ref (a 0), .ref (a 2)] (wd_G cI a S) q (wd_G cI a S) := by
  intro sz
  refine Met.ofW (cc := cL_toll) (maxL := 6) (ret := (some .int)) (by decide) rfl ?_
  intro p e s m args below meth c s₁ B hml hv
  obtain ⟨rfl, hsz, hP, hK, hD0⟩ := hv
  subst hsz
  have hl := lv_entry ([.int v0, .ref (a 0), .ref (a 2)] : List Value) (n := 6) (Nat.le_of_ble_eq_true rfl)
  rw [lg_entry_eq]
  generalize (lg_sl ([.int v0, .ref (a 0), .ref (a 2)] : List Value) ++ List.replicate (6 - (lg_sl ([.int v0, .ref (a 0), .ref (a 2)] : List Value)).length) Slot.unset).toArray = ls at hl ⊢
  exact w9_toll (a := a) ⟨B.exec, B.bytes, B.returns, fun w hw => atoms_spec (ws := wm9_toll) B.pre w (List.mem_cons_of_mem _ hw), findClass_of_methodNamed B.named, B.notSynchronized, hml⟩ hK (fun _ h => Or.inr h) h ⟨hP, hD0.self, va_S.rf⟩ hl
end
/-! ## DiceRoadsLaw.pay(III[I[I[I)V -/
section
variable {p : Program} {l : Launch} {e : Env} {s : State} {m : MethodId} {args : Array Value} {below : List Frame} {meth : Method} {c : Code} {dC : Nat → ClassId} {dI : Nat → Nat → Nat} {cI cB : ClassId} {A : Nat → Prop}
set_option maxRecDepth 100000 in
set_option maxHeartbeats 4000000 in
theorem w9_pay_b97 (C : cx_M p s m args meth c RL cL_pay none 7) (hK : va_K (dC, dI) vwCl [(cI, .int)] s) (hA : ∀ q, s.heap.size ≤ q → A q) {a : Nat → Nat} {q : ms_T} {v0 : Int32} {v1 : Int32} {v2 : Int32} {v6 : Int32} {S : ms_T} (h : f9_pay_b97 v0 v1 v2 v6 S = some q) {H : Heap} {locs : List Loc} {ls : Array Slot} (hG : gd_W (dC, dI) A s (wd_G cI a S) H locs) (hl : lv_has ls 7 [(0, .int v0), (1, .int v1), (2, .int v2), (4, .ref (a 3)), (6, .int v6)]) : W p l e RM9_pay s m args below meth c H locs 0 0 (MQ below (qv_W (dC, dI) [(cI, .int)] A (wd_G cI a q)) args s 0 0 A) (F0 m 97 ls []) := by
  unfold f9_pay_b97 at h
  obtain ⟨hx, hb, hr, hts, hown, hlocks, hml⟩ := id C
  refine lv_aload hx hb dL_pay_97 (lv_at hl 3 rfl) ?_
  refine lv_iconst (v := (4 : Int32)) hx hb dL_pay_99 (by decide) ?_
  refine lv_iload_n hx hb dL_pay_100 rfl (lv_at hl 0 rfl) ?_
  refine lv_imul hx hb dL_pay_101 ?_
  refine lv_iload_n hx hb dL_pay_102 rfl (lv_at hl 1 rfl) ?_
  refine lv_iadd hx hb dL_pay_103 ?_
  refine lv_dup2_11 hx hb dL_pay_104 rfl rfl ?_
  obtain ⟨hi, h⟩ := fo_ck_some h
  refine va_iald hx hb hK hG.1 3 0 rfl rfl hi dL_pay_105 ?_
  refine lv_iload_n hx hb dL_pay_106 rfl (lv_at hl 2 rfl) ?_
  refine lv_iload hx hb dL_pay_107 (lv_at hl 4 rfl) ?_
  refine lv_isub hx hb dL_pay_109 ?_
  refine lv_iadd hx hb dL_pay_110 ?_
  obtain ⟨hi, h⟩ := fo_ck_some h
  obtain ⟨s111, es111, h⟩ := fo_bd_some h
  have es111 := Option.some.inj es111
  refine va_iast hx hb hK hG.1 hG.2.1 hG.2.2 3 0 rfl rfl hi dL_pay_111 (fun H locs hP9 hD9 hS9 => ?_)
  have hG : gd_W (dC, dI) A s (wd_G cI a (ms_set S 3 (upd (S 3) (((4 : Int32) * v0) + v1).toNatClampNeg (((S 3) (((4 : Int32) * v0) + v1).toNatClampNeg) + (v2 - v6))))) H locs := ⟨hP9, hD9, hS9⟩
  rw [es111] at hG
  obtain rfl := Option.some.inj h
  exact gr_v hx hb hr hlocks hK hG dL_pay_112
set_option maxRecDepth 100000 in
set_option maxHeartbeats 4000000 in
theorem w9_pay_b20 (C : cx_M p s m args meth c RL cL_pay none 7) (hK : va_K (dC, dI) vwCl [(cI, .int)] s) (hA : ∀ q, s.heap.size ≤ q → A q) {a : Nat → Nat} {q : ms_T} {v0 : Int32} {v1 : Int32} {v2 : Int32} {t0 : Int32} {S : ms_T} (h : f9_pay_b20 v0 v1 v2 t0 S = some q) {H : Heap} {locs : List Loc} {ls : Array Slot} (hG : gd_W (dC, dI) A s (wd_G cI a S) H locs) (hl : lv_has ls 7 [(0, .int v0), (1, .int v1), (2, .int v2), (3, .ref (a 1)), (4, .ref (a 3)), (5, .ref (a 4))]) : W p l e RM9_pay s m args below meth c H locs 0 0 (MQ below (qv_W (dC, dI) [(cI, .int)] A (wd_G cI a q)) args s 0 0 A) (F0 m 20 ls [.int t0]) := by
  unfold f9_pay_b20 at h
  obtain ⟨hx, hb, hr, hts, hown, hlocks, hml⟩ := id C
  refine lv_istore (lv' := [(6, .int t0), (0, .int v0), (1, .int v1), (2, .int v2), (3, .ref (a 1)), (4, .ref (a 3)), (5, .ref (a 4))]) hx hb dL_pay_20 hl (by decide) rfl (fun ls hl => ?_)
  refine lv_aload_n hx hb dL_pay_22 rfl (lv_at hl 4 rfl) ?_
  refine lv_bipush (v := (6 : Int32)) hx hb dL_pay_23 (by decide) ?_
  refine lv_iload_n hx hb dL_pay_25 rfl (lv_at hl 1 rfl) ?_
  refine lv_imul hx hb dL_pay_26 ?_
  refine lv_dup2_11 hx hb dL_pay_27 rfl rfl ?_
  obtain ⟨hi, h⟩ := fo_ck_some h
  refine va_iald hx hb hK hG.1 1 0 rfl rfl hi dL_pay_28 ?_
  refine lv_iload hx hb dL_pay_29 (lv_at hl 0 rfl) ?_
  refine lv_isub hx hb dL_pay_31 ?_
  obtain ⟨hi, h⟩ := fo_ck_some h
  obtain ⟨s32, es32, h⟩ := fo_bd_some h
  have es32 := Option.some.inj es32
  refine va_iast hx hb hK hG.1 hG.2.1 hG.2.2 1 0 rfl rfl hi dL_pay_32 (fun H locs hP9 hD9 hS9 => ?_)
  have hG : gd_W (dC, dI) A s (wd_G cI a (ms_set S 1 (upd (S 1) ((6 : Int32) * v0).toNatClampNeg (((S 1) ((6 : Int32) * v0).toNatClampNeg) - t0)))) H locs := ⟨hP9, hD9, hS9⟩
  rw [es32] at hG
  refine lv_aload_n hx hb dL_pay_33 rfl (lv_at hl 4 rfl) ?_
  refine lv_bipush (v := (6 : Int32)) hx hb dL_pay_34 (by decide) ?_
  refine lv_iload_n hx hb dL_pay_36 rfl (lv_at hl 1 rfl) ?_
  refine lv_imul hx hb dL_pay_37 ?_
  refine lv_iconst (v := (2 : Int32)) hx hb dL_pay_38 (by decide) ?_
  refine lv_iadd hx hb dL_pay_39 ?_
  refine lv_dup2_11 hx hb dL_pay_40 rfl rfl ?_
  obtain ⟨hi, h⟩ := fo_ck_some h
  refine va_iald hx hb hK hG.1 1 0 rfl rfl hi dL_pay_41 ?_
  refine lv_iload hx hb dL_pay_42 (lv_at hl 0 rfl) ?_
  refine lv_iadd hx hb dL_pay_44 ?_
  obtain ⟨hi, h⟩ := fo_ck_some h
  obtain ⟨s45, es45, h⟩ := fo_bd_some h
  have es45 := Option.some.inj es45
  refine va_iast hx hb hK hG.1 hG.2.1 hG.2.2 1 0 rfl rfl hi dL_pay_45 (fun H locs hP9 hD9 hS9 => ?_)
  have hG : gd_W (dC, dI) A s (wd_G cI a (ms_set s32 1 (upd (s32 1) (((6 : Int32) * v0) + (2 : Int32)).toNatClampNeg (((s32 1) (((6 : Int32) * v0) + (2 : Int32)).toNatClampNeg) + t0)))) H locs := ⟨hP9, hD9, hS9⟩
  rw [es45] at hG
  refine lv_aload_n hx hb dL_pay_46 rfl (lv_at hl 4 rfl) ?_
  refine lv_bipush (v := (6 : Int32)) hx hb dL_pay_47 (by decide) ?_
  refine lv_iload_n hx hb dL_pay_49 rfl (lv_at hl 2 rfl) ?_
  refine lv_imul hx hb dL_pay_50 ?_
  refine lv_dup2_11 hx hb dL_pay_51 rfl rfl ?_
  obtain ⟨hi, h⟩ := fo_ck_some h
  refine va_iald hx hb hK hG.1 1 0 rfl rfl hi dL_pay_52 ?_
  refine lv_iload hx hb dL_pay_53 (lv_at hl 0 rfl) ?_
  refine lv_iadd hx hb dL_pay_55 ?_
  obtain ⟨hi, h⟩ := fo_ck_some h
  obtain ⟨s56, es56, h⟩ := fo_bd_some h
  have es56 := Option.some.inj es56
  refine va_iast hx hb hK hG.1 hG.2.1 hG.2.2 1 0 rfl rfl hi dL_pay_56 (fun H locs hP9 hD9 hS9 => ?_)
  have hG : gd_W (dC, dI) A s (wd_G cI a (ms_set s45 1 (upd (s45 1) ((6 : Int32) * v1).toNatClampNeg (((s45 1) ((6 : Int32) * v1).toNatClampNeg) + t0)))) H locs := ⟨hP9, hD9, hS9⟩
  rw [es56] at hG
  refine lv_aload_n hx hb dL_pay_57 rfl (lv_at hl 4 rfl) ?_
  refine lv_bipush (v := (6 : Int32)) hx hb dL_pay_58 (by decide) ?_
  refine lv_iload_n hx hb dL_pay_60 rfl (lv_at hl 2 rfl) ?_
  refine lv_imul hx hb dL_pay_61 ?_
  refine lv_iconst (v := (3 : Int32)) hx hb dL_pay_62 (by decide) ?_
  refine lv_iadd hx hb dL_pay_63 ?_
  refine lv_dup2_11 hx hb dL_pay_64 rfl rfl ?_
  obtain ⟨hi, h⟩ := fo_ck_some h
  refine va_iald hx hb hK hG.1 1 0 rfl rfl hi dL_pay_65 ?_
  refine lv_iload hx hb dL_pay_66 (lv_at hl 0 rfl) ?_
  refine lv_iadd hx hb dL_pay_68 ?_
  obtain ⟨hi, h⟩ := fo_ck_some h
  obtain ⟨s69, es69, h⟩ := fo_bd_some h
  have es69 := Option.some.inj es69
  refine va_iast hx hb hK hG.1 hG.2.1 hG.2.2 1 0 rfl rfl hi dL_pay_69 (fun H locs hP9 hD9 hS9 => ?_)
  have hG : gd_W (dC, dI) A s (wd_G cI a (ms_set s56 1 (upd (s56 1) (((6 : Int32) * v1) + (3 : Int32)).toNatClampNeg (((s56 1) (((6 : Int32) * v1) + (3 : Int32)).toNatClampNeg) + t0)))) H locs := ⟨hP9, hD9, hS9⟩
  rw [es69] at hG
  refine lv_iload hx hb dL_pay_70 (lv_at hl 0 rfl) ?_
  refine lv_iload_n hx hb dL_pay_72 rfl (lv_at hl 3 rfl) ?_
  refine lv_icmp_ne (tgt := 77) hx hb dL_pay_73 (by decide) (fun hc => ?_) (fun hc => ?_)
  · have h := fo_if h hc
    refine lv_aload hx hb dL_pay_77 (lv_at hl 5 rfl) ?_
    refine lv_iconst (v := (4 : Int32)) hx hb dL_pay_79 (by decide) ?_
    refine lv_iload_n hx hb dL_pay_80 rfl (lv_at hl 1 rfl) ?_
    refine lv_imul hx hb dL_pay_81 ?_
    refine lv_iload_n hx hb dL_pay_82 rfl (lv_at hl 2 rfl) ?_
    refine lv_iadd hx hb dL_pay_83 ?_
    obtain ⟨hi, h⟩ := fo_ck_some h
    refine va_iald hx hb hK hG.1 3 0 rfl rfl hi dL_pay_84 ?_
    refine lv_if_ne (tgt := 97) hx hb dL_pay_85 (by decide) (fun hc => ?_) (fun hc => ?_)
    · have h := fo_if h hc
      exact w9_pay_b97 C hK hA h hG (lv_sub hl [1, 2, 3, 5, 0] rfl)
    · have h := fo_it h hc
      refine lv_aload hx hb dL_pay_88 (lv_at hl 6 rfl) ?_
      refine lv_iconst (v := (4 : Int32)) hx hb dL_pay_90 (by decide) ?_
      refine lv_iload_n hx hb dL_pay_91 rfl (lv_at hl 1 rfl) ?_
      refine lv_imul hx hb dL_pay_92 ?_
      refine lv_iload_n hx hb dL_pay_93 rfl (lv_at hl 2 rfl) ?_
      refine lv_iadd hx hb dL_pay_94 ?_
      refine lv_iconst (v := (0 : Int32)) hx hb dL_pay_95 (by decide) ?_
      obtain ⟨hi, h⟩ := fo_ck_some h
      obtain ⟨s96, es96, h⟩ := fo_bd_some h
      have es96 := Option.some.inj es96
      refine va_iast hx hb hK hG.1 hG.2.1 hG.2.2 4 0 rfl rfl hi dL_pay_96 (fun H locs hP9 hD9 hS9 => ?_)
      have hG : gd_W (dC, dI) A s (wd_G cI a (ms_set s69 4 (upd (s69 4) (((4 : Int32) * v0) + v1).toNatClampNeg (0 : Int32)))) H locs := ⟨hP9, hD9, hS9⟩
      rw [es96] at hG
      exact w9_pay_b97 C hK hA h hG (lv_sub hl [1, 2, 3, 5, 0] rfl)
  · have h := fo_it h hc
    obtain rfl := Option.some.inj h
    exact gr_v hx hb hr hlocks hK hG dL_pay_76
set_option maxRecDepth 100000 in
set_option maxHeartbeats 4000000 in
theorem w9_pay (C : cx_M p s m args meth c RL cL_pay none 7) (hK : va_K (dC, dI) vwCl [(cI, .int)] s) (hA : ∀ q, s.heap.size ≤ q → A q) {a : Nat → Nat} {q : ms_T} {v0 : Int32} {v1 : Int32} {v2 : Int32} {S : ms_T} (h : f9_pay v0 v1 v2 S = some q) {H : Heap} {locs : List Loc} {ls : Array Slot} (hG : gd_W (dC, dI) A s (wd_G cI a S) H locs) (hl : lv_has ls 7 [(0, .int v0), (1, .int v1), (2, .int v2), (3, .ref (a 1)), (4, .ref (a 3)), (5, .ref (a 4))]) : W p l e RM9_pay s m args below meth c H locs 0 0 (MQ below (qv_W (dC, dI) [(cI, .int)] A (wd_G cI a q)) args s 0 0 A) (F0 m 0 ls []) := by
  unfold f9_pay at h
  obtain ⟨hx, hb, hr, hts, hown, hlocks, hml⟩ := id C
  refine lv_aload_n hx hb dL_pay_0 rfl (lv_at hl 3 rfl) ?_
  refine lv_bipush (v := (6 : Int32)) hx hb dL_pay_1 (by decide) ?_
  refine lv_iload_n hx hb dL_pay_3 rfl (lv_at hl 0 rfl) ?_
  refine lv_imul hx hb dL_pay_4 ?_
  obtain ⟨hi, h⟩ := fo_ck_some h
  refine va_iald hx hb hK hG.1 1 0 rfl rfl hi dL_pay_5 ?_
  refine lv_iload_n hx hb dL_pay_6 rfl (lv_at hl 2 rfl) ?_
  refine lv_icmp_ge (tgt := 19) hx hb dL_pay_7 (by decide) (fun hc => ?_) (fun hc => ?_)
  · have h := fo_it h hc
    refine lv_iload_n hx hb dL_pay_19 rfl (lv_at hl 2 rfl) ?_
    exact w9_pay_b20 C hK hA h hG (lv_sub hl [0, 1, 2, 3, 4, 5] rfl)
  · have h := fo_if h hc
    refine lv_aload_n hx hb dL_pay_10 rfl (lv_at hl 3 rfl) ?_
    refine lv_bipush (v := (6 : Int32)) hx hb dL_pay_11 (by decide) ?_
    refine lv_iload_n hx hb dL_pay_13 rfl (lv_at hl 0 rfl) ?_
    refine lv_imul hx hb dL_pay_14 ?_
    obtain ⟨hi, h⟩ := fo_ck_some h
    refine va_iald hx hb hK hG.1 1 0 rfl rfl hi dL_pay_15 ?_
    refine lv_goto (tgt := 20) hx hb dL_pay_16 (by decide) ?_
    exact w9_pay_b20 C hK hA h hG (lv_sub hl [0, 1, 2, 3, 4, 5] rfl)
set_option maxRecDepth 100000 in
set_option maxHeartbeats 4000000 in
theorem c9_pay (l : Launch) {dC : Nat → ClassId} {dI : Nat → Nat → Nat} {cI : ClassId} {a : Nat → Nat} {v0 : Int32} {v1 : Int32} {v2 : Int32} {S : ms_T} {q : ms_T} (h : f9_pay v0 v1 v2 S = some q) : mv_M l yL_pay wm9_pay RM9_pay (dC, dI) [(cI, .int)] [.int v0, .int v1, .int v2, .ref (a 1), .ref (a 3), .ref (a 4)] (wd_G cI a S) (wd_G cI a q) := by
  intro sz
  refine Met.ofW (cc := cL_pay) (maxL := 7) (ret := none) (by decide) rfl ?_
  intro p e s m args below meth c s₁ B hml hv
  obtain ⟨rfl, hsz, hP, hK, hD0⟩ := hv
  subst hsz
  have hl := lv_entry ([.int v0, .int v1, .int v2, .ref (a 1), .ref (a 3), .ref (a 4)] : List Value) (n := 7) (Nat.le_of_ble_eq_true rfl)
  rw [lg_entry_eq]
  generalize (lg_sl ([.int v0, .int v1, .int v2, .ref (a 1), .ref (a 3), .ref (a 4)] : List Value) ++ List.replicate (7 - (lg_sl ([.int v0, .int v1, .int v2, .ref (a 1), .ref (a 3), .ref (a 4)] : List Value)).length) Slot.unset).toArray = ls at hl ⊢
  exact w9_pay (a := a) ⟨B.exec, B.bytes, B.returns, fun w hw => atoms_spec (ws := wm9_pay) B.pre w (List.mem_cons_of_mem _ hw), findClass_of_methodNamed B.named, B.notSynchronized, hml⟩ hK (fun _ h => Or.inr h) h ⟨hP, hD0.self, va_S.rf⟩ hl
end
/-! ## DiceRoadsLaw.creditors(I[I[I)I -/
section
variable {p : Program} {l : Launch} {e : Env} {s : State} {m : MethodId} {args : Array Value} {below : List Frame} {meth : Method} {c : Code} {dC : Nat → ClassId} {dI : Nat → Nat → Nat} {cI cB : ClassId} {A : Nat → Prop}
set_option maxRecDepth 100000 in
set_option maxHeartbeats 4000000 in
theorem w9_creditors_b81 (C : cx_M p s m args meth c RL cL_creditors (some .int) 9) (hK : va_K (dC, dI) vwCl [(cI, .int)] s) (hA : ∀ q, s.heap.size ≤ q → A q) {a : Nat → Nat} {S : ms_T} {q : Int32} {rec8 : Int32 → Int32 → Int32 → Int32 → ms_T → Option Int32} (hrec8 : ∀ {v0 : Int32} {v3 : Int32} {v4 : Int32} {v5 : Int32} , rec8 v0 v3 v4 v5 S = some q → ∀ {H : Heap} {locs : List Loc} {ls : Array Slot}, gd_W (dC, dI) A s (wd_G cI a S) H locs → lv_has ls 9 [(0, .int v0), (1, .ref (a 3)), (2, .ref (a 4)), (3, .int v3), (4, .int v4), (5, .int v5)] → W p l e RM9_creditors s m args below meth c H locs 0 0 (MQ below (qi_W (dC, dI) [(cI, .int)] A q (wd_G cI a S)) args s 0 0 A) (F0 m 8 ls [])) {rec14 : Int32 → Int32 → Int32 → Int32 → Int32 → Int32 → ms_T → Option Int32} (hrec14 : ∀ {v0 : Int32} {v3 : Int32} {v4 : Int32} {v5 : Int32} {v6 : Int32} {v7 : Int32} , rec14 v0 v3 v4 v5 v6 v7 S = some q → ∀ {H : Heap} {locs : List Loc} {ls : Array Slot}, gd_W (dC, dI) A s (wd_G cI a S) H locs → lv_has ls 9 [(0, .int v0), (1, .ref (a 3)), (2, .ref (a 4)), (3, .int v3), (4, .int v4), (5, .int v5), (6, .int v6), (7, .int v7)] → W p l e RM9_creditors s m args below meth c H locs 0 0 (MQ below (qi_W (dC, dI) [(cI, .int)] A q (wd_G cI a S)) args s 0 0 A) (F0 m 14 ls [])) {v0 : Int32} {v3 : Int32} {v4 : Int32} {v5 : Int32} {v6 : Int32} {v7 : Int32} (h : f9_creditors_b81 rec8 rec14 v0 v3 v4 v5 v6 v7 S = some q) {H : Heap} {locs : List Loc} {ls : Array Slot} (hG : gd_W (dC, dI) A s (wd_G cI a S) H locs) (hl : lv_has ls 9 [(0, .int v0), (1, .ref (a 3)), (2, .ref (a 4)), (3, .int v3), (4, .int v4), (5, .int v5), (6, .int v6), (7, .int v7)]) : W p l e RM9_creditors s m args below meth c H locs 0 0 (MQ below (qi_W (dC, dI) [(cI, .int)] A q (wd_G cI a S)) args s 0 0 A) (F0 m 81 ls []) := by
  unfold f9_creditors_b81 at h
  obtain ⟨hx, hb, hr, hts, hown, hlocks, hml⟩ := id C
  refine lv_iinc (v := (v7 + (1 : Int32))) (lv' := [(7, .int (v7 + (1 : Int32))), (0, .int v0), (1, .ref (a 3)), (2, .ref (a 4)), (3, .int v3), (4, .int v4), (5, .int v5), (6, .int v6)]) hx hb dL_creditors_81 hl (k := 7) rfl rfl (by decide) rfl (fun ls hl => ?_)
  refine lv_goto (tgt := 14) hx hb dL_creditors_84 (by decide) ?_
  exact hrec14 h hG (lv_sub hl [1, 2, 3, 4, 5, 6, 7, 0] rfl)
set_option maxRecDepth 100000 in
set_option maxHeartbeats 4000000 in
theorem w9_creditors_b77 (C : cx_M p s m args meth c RL cL_creditors (some .int) 9) (hK : va_K (dC, dI) vwCl [(cI, .int)] s) (hA : ∀ q, s.heap.size ≤ q → A q) {a : Nat → Nat} {S : ms_T} {q : Int32} {rec8 : Int32 → Int32 → Int32 → Int32 → ms_T → Option Int32} (hrec8 : ∀ {v0 : Int32} {v3 : Int32} {v4 : Int32} {v5 : Int32} , rec8 v0 v3 v4 v5 S = some q → ∀ {H : Heap} {locs : List Loc} {ls : Array Slot}, gd_W (dC, dI) A s (wd_G cI a S) H locs → lv_has ls 9 [(0, .int v0), (1, .ref (a 3)), (2, .ref (a 4)), (3, .int v3), (4, .int v4), (5, .int v5)] → W p l e RM9_creditors s m args below meth c H locs 0 0 (MQ below (qi_W (dC, dI) [(cI, .int)] A q (wd_G cI a S)) args s 0 0 A) (F0 m 8 ls [])) {rec14 : Int32 → Int32 → Int32 → Int32 → Int32 → Int32 → ms_T → Option Int32} (hrec14 : ∀ {v0 : Int32} {v3 : Int32} {v4 : Int32} {v5 : Int32} {v6 : Int32} {v7 : Int32} , rec14 v0 v3 v4 v5 v6 v7 S = some q → ∀ {H : Heap} {locs : List Loc} {ls : Array Slot}, gd_W (dC, dI) A s (wd_G cI a S) H locs → lv_has ls 9 [(0, .int v0), (1, .ref (a 3)), (2, .ref (a 4)), (3, .int v3), (4, .int v4), (5, .int v5), (6, .int v6), (7, .int v7)] → W p l e RM9_creditors s m args below meth c H locs 0 0 (MQ below (qi_W (dC, dI) [(cI, .int)] A q (wd_G cI a S)) args s 0 0 A) (F0 m 14 ls [])) {v0 : Int32} {v3 : Int32} {v4 : Int32} {v5 : Int32} {v7 : Int32} (h : f9_creditors_b77 rec8 rec14 v0 v3 v4 v5 v7 S = some q) {H : Heap} {locs : List Loc} {ls : Array Slot} (hG : gd_W (dC, dI) A s (wd_G cI a S) H locs) (hl : lv_has ls 9 [(0, .int v0), (1, .ref (a 3)), (2, .ref (a 4)), (3, .int v3), (4, .int v4), (5, .int v5), (7, .int v7)]) : W p l e RM9_creditors s m args below meth c H locs 0 0 (MQ below (qi_W (dC, dI) [(cI, .int)] A q (wd_G cI a S)) args s 0 0 A) (F0 m 77 ls []) := by
  unfold f9_creditors_b77 at h
  obtain ⟨hx, hb, hr, hts, hown, hlocks, hml⟩ := id C
  refine lv_iload hx hb dL_creditors_77 (lv_at hl 6 rfl) ?_
  refine lv_istore (lv' := [(6, .int v7), (0, .int v0), (1, .ref (a 3)), (2, .ref (a 4)), (3, .int v3), (4, .int v4), (5, .int v5), (7, .int v7)]) hx hb dL_creditors_79 hl (by decide) rfl (fun ls hl => ?_)
  exact w9_creditors_b81 C hK hA (fun h => hrec8 h) (fun h => hrec14 h) h hG (lv_sub hl [1, 2, 3, 4, 5, 6, 0, 7] rfl)
set_option maxRecDepth 100000 in
set_option maxHeartbeats 4000000 in
theorem w9_creditors_b46 (C : cx_M p s m args meth c RL cL_creditors (some .int) 9) (hK : va_K (dC, dI) vwCl [(cI, .int)] s) (hA : ∀ q, s.heap.size ≤ q → A q) {a : Nat → Nat} {S : ms_T} {q : Int32} {rec8 : Int32 → Int32 → Int32 → Int32 → ms_T → Option Int32} (hrec8 : ∀ {v0 : Int32} {v3 : Int32} {v4 : Int32} {v5 : Int32} , rec8 v0 v3 v4 v5 S = some q → ∀ {H : Heap} {locs : List Loc} {ls : Array Slot}, gd_W (dC, dI) A s (wd_G cI a S) H locs → lv_has ls 9 [(0, .int v0), (1, .ref (a 3)), (2, .ref (a 4)), (3, .int v3), (4, .int v4), (5, .int v5)] → W p l e RM9_creditors s m args below meth c H locs 0 0 (MQ below (qi_W (dC, dI) [(cI, .int)] A q (wd_G cI a S)) args s 0 0 A) (F0 m 8 ls [])) {rec14 : Int32 → Int32 → Int32 → Int32 → Int32 → Int32 → ms_T → Option Int32} (hrec14 : ∀ {v0 : Int32} {v3 : Int32} {v4 : Int32} {v5 : Int32} {v6 : Int32} {v7 : Int32} , rec14 v0 v3 v4 v5 v6 v7 S = some q → ∀ {H : Heap} {locs : List Loc} {ls : Array Slot}, gd_W (dC, dI) A s (wd_G cI a S) H locs → lv_has ls 9 [(0, .int v0), (1, .ref (a 3)), (2, .ref (a 4)), (3, .int v3), (4, .int v4), (5, .int v5), (6, .int v6), (7, .int v7)] → W p l e RM9_creditors s m args below meth c H locs 0 0 (MQ below (qi_W (dC, dI) [(cI, .int)] A q (wd_G cI a S)) args s 0 0 A) (F0 m 14 ls [])) {v0 : Int32} {v3 : Int32} {v4 : Int32} {v5 : Int32} {v6 : Int32} {v7 : Int32} {t0 : Int32} (h : f9_creditors_b46 rec8 rec14 v0 v3 v4 v5 v6 v7 t0 S = some q) {H : Heap} {locs : List Loc} {ls : Array Slot} (hG : gd_W (dC, dI) A s (wd_G cI a S) H locs) (hl : lv_has ls 9 [(0, .int v0), (1, .ref (a 3)), (2, .ref (a 4)), (3, .int v3), (4, .int v4), (5, .int v5), (6, .int v6), (7, .int v7)]) : W p l e RM9_creditors s m args below meth c H locs 0 0 (MQ below (qi_W (dC, dI) [(cI, .int)] A q (wd_G cI a S)) args s 0 0 A) (F0 m 46 ls [.int t0]) := by
  unfold f9_creditors_b46 at h
  obtain ⟨hx, hb, hr, hts, hown, hlocks, hml⟩ := id C
  refine lv_istore (lv' := [(8, .int t0), (0, .int v0), (1, .ref (a 3)), (2, .ref (a 4)), (3, .int v3), (4, .int v4), (5, .int v5), (6, .int v6), (7, .int v7)]) hx hb dL_creditors_46 hl (by decide) rfl (fun ls hl => ?_)
  refine lv_iload hx hb dL_creditors_48 (lv_at hl 0 rfl) ?_
  refine lv_if_eq (tgt := 81) hx hb dL_creditors_50 (by decide) (fun hc => ?_) (fun hc => ?_)
  · have h := fo_it h hc
    exact w9_creditors_b81 C hK hA (fun h => hrec8 h) (fun h => hrec14 h) h hG (lv_sub hl [1, 2, 3, 4, 5, 6, 7, 8] rfl)
  · have h := fo_if h hc
    refine lv_iload hx hb dL_creditors_53 (lv_at hl 7 rfl) ?_
    refine lv_if_lt (tgt := 77) hx hb dL_creditors_55 (by decide) (fun hc => ?_) (fun hc => ?_)
    · have h := fo_it h hc
      exact w9_creditors_b77 C hK hA (fun h => hrec8 h) (fun h => hrec14 h) h hG (lv_sub hl [1, 2, 3, 4, 5, 6, 8] rfl)
    · have h := fo_if h hc
      refine lv_aload_n hx hb dL_creditors_58 rfl (lv_at hl 3 rfl) ?_
      refine lv_iconst (v := (4 : Int32)) hx hb dL_creditors_59 (by decide) ?_
      refine lv_iload_n hx hb dL_creditors_60 rfl (lv_at hl 1 rfl) ?_
      refine lv_imul hx hb dL_creditors_61 ?_
      refine lv_iload hx hb dL_creditors_62 (lv_at hl 8 rfl) ?_
      refine lv_iadd hx hb dL_creditors_64 ?_
      obtain ⟨hi, h⟩ := fo_ck_some h
      refine va_iald hx hb hK hG.1 4 0 rfl rfl hi dL_creditors_65 ?_
      refine lv_aload_n hx hb dL_creditors_66 rfl (lv_at hl 3 rfl) ?_
      refine lv_iconst (v := (4 : Int32)) hx hb dL_creditors_67 (by decide) ?_
      refine lv_iload_n hx hb dL_creditors_68 rfl (lv_at hl 1 rfl) ?_
      refine lv_imul hx hb dL_creditors_69 ?_
      refine lv_iload hx hb dL_creditors_70 (lv_at hl 7 rfl) ?_
      refine lv_iadd hx hb dL_creditors_72 ?_
      obtain ⟨hi, h⟩ := fo_ck_some h
      refine va_iald hx hb hK hG.1 4 0 rfl rfl hi dL_creditors_73 ?_
      refine lv_icmp_le (tgt := 81) hx hb dL_creditors_74 (by decide) (fun hc => ?_) (fun hc => ?_)
      · have h := fo_it h hc
        exact w9_creditors_b81 C hK hA (fun h => hrec8 h) (fun h => hrec14 h) h hG (lv_sub hl [1, 2, 3, 4, 5, 6, 7, 8] rfl)
      · have h := fo_if h hc
        exact w9_creditors_b77 C hK hA (fun h => hrec8 h) (fun h => hrec14 h) h hG (lv_sub hl [1, 2, 3, 4, 5, 6, 8] rfl)
set_option maxRecDepth 100000 in
set_option maxHeartbeats 4000000 in
theorem w9_creditors_b45 (C : cx_M p s m args meth c RL cL_creditors (some .int) 9) (hK : va_K (dC, dI) vwCl [(cI, .int)] s) (hA : ∀ q, s.heap.size ≤ q → A q) {a : Nat → Nat} {S : ms_T} {q : Int32} {rec8 : Int32 → Int32 → Int32 → Int32 → ms_T → Option Int32} (hrec8 : ∀ {v0 : Int32} {v3 : Int32} {v4 : Int32} {v5 : Int32} , rec8 v0 v3 v4 v5 S = some q → ∀ {H : Heap} {locs : List Loc} {ls : Array Slot}, gd_W (dC, dI) A s (wd_G cI a S) H locs → lv_has ls 9 [(0, .int v0), (1, .ref (a 3)), (2, .ref (a 4)), (3, .int v3), (4, .int v4), (5, .int v5)] → W p l e RM9_creditors s m args below meth c H locs 0 0 (MQ below (qi_W (dC, dI) [(cI, .int)] A q (wd_G cI a S)) args s 0 0 A) (F0 m 8 ls [])) {rec14 : Int32 → Int32 → Int32 → Int32 → Int32 → Int32 → ms_T → Option Int32} (hrec14 : ∀ {v0 : Int32} {v3 : Int32} {v4 : Int32} {v5 : Int32} {v6 : Int32} {v7 : Int32} , rec14 v0 v3 v4 v5 v6 v7 S = some q → ∀ {H : Heap} {locs : List Loc} {ls : Array Slot}, gd_W (dC, dI) A s (wd_G cI a S) H locs → lv_has ls 9 [(0, .int v0), (1, .ref (a 3)), (2, .ref (a 4)), (3, .int v3), (4, .int v4), (5, .int v5), (6, .int v6), (7, .int v7)] → W p l e RM9_creditors s m args below meth c H locs 0 0 (MQ below (qi_W (dC, dI) [(cI, .int)] A q (wd_G cI a S)) args s 0 0 A) (F0 m 14 ls [])) {v0 : Int32} {v3 : Int32} {v4 : Int32} {v5 : Int32} {v6 : Int32} {v7 : Int32} (h : f9_creditors_b45 rec8 rec14 v0 v3 v4 v5 v6 v7 S = some q) {H : Heap} {locs : List Loc} {ls : Array Slot} (hG : gd_W (dC, dI) A s (wd_G cI a S) H locs) (hl : lv_has ls 9 [(0, .int v0), (1, .ref (a 3)), (2, .ref (a 4)), (3, .int v3), (4, .int v4), (5, .int v5), (6, .int v6), (7, .int v7)]) : W p l e RM9_creditors s m args below meth c H locs 0 0 (MQ below (qi_W (dC, dI) [(cI, .int)] A q (wd_G cI a S)) args s 0 0 A) (F0 m 45 ls []) := by
  unfold f9_creditors_b45 at h
  obtain ⟨hx, hb, hr, hts, hown, hlocks, hml⟩ := id C
  refine lv_iconst (v := (0 : Int32)) hx hb dL_creditors_45 (by decide) ?_
  exact w9_creditors_b46 C hK hA (fun h => hrec8 h) (fun h => hrec14 h) h hG (lv_sub hl [0, 1, 2, 3, 4, 5, 6, 7] rfl)
set_option maxRecDepth 100000 in
set_option maxHeartbeats 4000000 in
theorem w9_creditors_b14 (C : cx_M p s m args meth c RL cL_creditors (some .int) 9) (hK : va_K (dC, dI) vwCl [(cI, .int)] s) (hA : ∀ q, s.heap.size ≤ q → A q) {a : Nat → Nat} {S : ms_T} {q : Int32} {rec8 : Int32 → Int32 → Int32 → Int32 → ms_T → Option Int32} (hrec8 : ∀ {v0 : Int32} {v3 : Int32} {v4 : Int32} {v5 : Int32} , rec8 v0 v3 v4 v5 S = some q → ∀ {H : Heap} {locs : List Loc} {ls : Array Slot}, gd_W (dC, dI) A s (wd_G cI a S) H locs → lv_has ls 9 [(0, .int v0), (1, .ref (a 3)), (2, .ref (a 4)), (3, .int v3), (4, .int v4), (5, .int v5)] → W p l e RM9_creditors s m args below meth c H locs 0 0 (MQ below (qi_W (dC, dI) [(cI, .int)] A q (wd_G cI a S)) args s 0 0 A) (F0 m 8 ls [])) {rec14 : Int32 → Int32 → Int32 → Int32 → Int32 → Int32 → ms_T → Option Int32} (hrec14 : ∀ {v0 : Int32} {v3 : Int32} {v4 : Int32} {v5 : Int32} {v6 : Int32} {v7 : Int32} , rec14 v0 v3 v4 v5 v6 v7 S = some q → ∀ {H : Heap} {locs : List Loc} {ls : Array Slot}, gd_W (dC, dI) A s (wd_G cI a S) H locs → lv_has ls 9 [(0, .int v0), (1, .ref (a 3)), (2, .ref (a 4)), (3, .int v3), (4, .int v4), (5, .int v5), (6, .int v6), (7, .int v7)] → W p l e RM9_creditors s m args below meth c H locs 0 0 (MQ below (qi_W (dC, dI) [(cI, .int)] A q (wd_G cI a S)) args s 0 0 A) (F0 m 14 ls [])) {v0 : Int32} {v3 : Int32} {v4 : Int32} {v5 : Int32} {v6 : Int32} {v7 : Int32} (h : f9_creditors_b14 rec8 rec14 v0 v3 v4 v5 v6 v7 S = some q) {H : Heap} {locs : List Loc} {ls : Array Slot} (hG : gd_W (dC, dI) A s (wd_G cI a S) H locs) (hl : lv_has ls 9 [(0, .int v0), (1, .ref (a 3)), (2, .ref (a 4)), (3, .int v3), (4, .int v4), (5, .int v5), (6, .int v6), (7, .int v7)]) : W p l e RM9_creditors s m args below meth c H locs 0 0 (MQ below (qi_W (dC, dI) [(cI, .int)] A q (wd_G cI a S)) args s 0 0 A) (F0 m 14 ls []) := by
  unfold f9_creditors_b14 at h
  obtain ⟨hx, hb, hr, hts, hown, hlocks, hml⟩ := id C
  refine lv_iload hx hb dL_creditors_14 (lv_at hl 7 rfl) ?_
  refine lv_iconst (v := (4 : Int32)) hx hb dL_creditors_16 (by decide) ?_
  refine lv_icmp_ge (tgt := 87) hx hb dL_creditors_17 (by decide) (fun hc => ?_) (fun hc => ?_)
  · have h := fo_it h hc
    refine lv_iload hx hb dL_creditors_87 (lv_at hl 6 rfl) ?_
    refine lv_if_ge (tgt := 100) hx hb dL_creditors_89 (by decide) (fun hc => ?_) (fun hc => ?_)
    · have h := fo_it h hc
      refine lv_iload_n hx hb dL_creditors_100 rfl (lv_at hl 3 rfl) ?_
      refine lv_iload hx hb dL_creditors_101 (lv_at hl 6 rfl) ?_
      refine lv_iconst (v := (2 : Int32)) hx hb dL_creditors_103 (by decide) ?_
      refine lv_iload hx hb dL_creditors_104 (lv_at hl 4 rfl) ?_
      refine lv_imul hx hb dL_creditors_106 ?_
      refine lv_ishl hx hb dL_creditors_107 ?_
      refine lv_ior hx hb dL_creditors_108 ?_
      refine lv_istore_n (lv' := [(3, .int (v3 ||| (v6 <<< (((2 : Int32) * v4) &&& 31)))), (0, .int v0), (1, .ref (a 3)), (2, .ref (a 4)), (4, .int v4), (5, .int v5), (6, .int v6), (7, .int v7)]) hx hb dL_creditors_109 rfl hl (by decide) rfl (fun ls hl => ?_)
      refine lv_iload hx hb dL_creditors_110 (lv_at hl 5 rfl) ?_
      refine lv_iconst (v := (1 : Int32)) hx hb dL_creditors_112 (by decide) ?_
      refine lv_iload hx hb dL_creditors_113 (lv_at hl 6 rfl) ?_
      refine lv_ishl hx hb dL_creditors_115 ?_
      refine lv_ior hx hb dL_creditors_116 ?_
      refine lv_istore (lv' := [(5, .int (v5 ||| ((1 : Int32) <<< (v6 &&& 31)))), (3, .int (v3 ||| (v6 <<< (((2 : Int32) * v4) &&& 31)))), (0, .int v0), (1, .ref (a 3)), (2, .ref (a 4)), (4, .int v4), (6, .int v6), (7, .int v7)]) hx hb dL_creditors_117 hl (by decide) rfl (fun ls hl => ?_)
      refine lv_iinc (v := (v4 + (1 : Int32))) (lv' := [(4, .int (v4 + (1 : Int32))), (5, .int (v5 ||| ((1 : Int32) <<< (v6 &&& 31)))), (3, .int (v3 ||| (v6 <<< (((2 : Int32) * v4) &&& 31)))), (0, .int v0), (1, .ref (a 3)), (2, .ref (a 4)), (6, .int v6), (7, .int v7)]) hx hb dL_creditors_119 hl (k := 5) rfl rfl (by decide) rfl (fun ls hl => ?_)
      refine lv_goto (tgt := 8) hx hb dL_creditors_122 (by decide) ?_
      exact hrec8 h hG (lv_sub hl [3, 4, 5, 2, 0, 1] rfl)
    · have h := fo_if h hc
      refine lv_iload_n hx hb dL_creditors_92 rfl (lv_at hl 3 rfl) ?_
      refine lv_iload hx hb dL_creditors_93 (lv_at hl 4 rfl) ?_
      refine lv_bipush (v := (8 : Int32)) hx hb dL_creditors_95 (by decide) ?_
      refine lv_ishl hx hb dL_creditors_97 ?_
      refine lv_ior hx hb dL_creditors_98 ?_
      exact gr_i hx hb hr hlocks hK hG (Option.some.inj h) dL_creditors_99
  · have h := fo_if h hc
    refine lv_aload_n hx hb dL_creditors_20 rfl (lv_at hl 1 rfl) ?_
    refine lv_iconst (v := (4 : Int32)) hx hb dL_creditors_21 (by decide) ?_
    refine lv_iload_n hx hb dL_creditors_22 rfl (lv_at hl 0 rfl) ?_
    refine lv_imul hx hb dL_creditors_23 ?_
    refine lv_iload hx hb dL_creditors_24 (lv_at hl 7 rfl) ?_
    refine lv_iadd hx hb dL_creditors_26 ?_
    obtain ⟨hi, h⟩ := fo_ck_some h
    refine va_iald hx hb hK hG.1 3 0 rfl rfl hi dL_creditors_27 ?_
    refine lv_if_le (tgt := 45) hx hb dL_creditors_28 (by decide) (fun hc => ?_) (fun hc => ?_)
    · have h := fo_it h hc
      exact w9_creditors_b45 C hK hA (fun h => hrec8 h) (fun h => hrec14 h) h hG (lv_sub hl [0, 1, 2, 3, 4, 5, 6, 7] rfl)
    · have h := fo_if h hc
      refine lv_iload hx hb dL_creditors_31 (lv_at hl 5 rfl) ?_
      refine lv_iload hx hb dL_creditors_33 (lv_at hl 7 rfl) ?_
      refine lv_ishr hx hb dL_creditors_35 ?_
      refine lv_iconst (v := (1 : Int32)) hx hb dL_creditors_36 (by decide) ?_
      refine lv_iand hx hb dL_creditors_37 ?_
      refine lv_if_ne (tgt := 45) hx hb dL_creditors_38 (by decide) (fun hc => ?_) (fun hc => ?_)
      · have h := fo_if h hc
        exact w9_creditors_b45 C hK hA (fun h => hrec8 h) (fun h => hrec14 h) h hG (lv_sub hl [0, 1, 2, 3, 4, 5, 6, 7] rfl)
      · have h := fo_it h hc
        refine lv_iconst (v := (1 : Int32)) hx hb dL_creditors_41 (by decide) ?_
        refine lv_goto (tgt := 46) hx hb dL_creditors_42 (by decide) ?_
        exact w9_creditors_b46 C hK hA (fun h => hrec8 h) (fun h => hrec14 h) h hG (lv_sub hl [0, 1, 2, 3, 4, 5, 6, 7] rfl)
set_option maxRecDepth 100000 in
set_option maxHeartbeats 4000000 in
theorem w9_creditors_L14 (C : cx_M p s m args meth c RL cL_creditors (some .int) 9) (hK : va_K (dC, dI) vwCl [(cI, .int)] s) (hA : ∀ q, s.heap.size ≤ q → A q) {a : Nat → Nat} {S : ms_T} {q : Int32} {rec8 : Int32 → Int32 → Int32 → Int32 → ms_T → Option Int32} (hrec8 : ∀ {v0 : Int32} {v3 : Int32} {v4 : Int32} {v5 : Int32} , rec8 v0 v3 v4 v5 S = some q → ∀ {H : Heap} {locs : List Loc} {ls : Array Slot}, gd_W (dC, dI) A s (wd_G cI a S) H locs → lv_has ls 9 [(0, .int v0), (1, .ref (a 3)), (2, .ref (a 4)), (3, .int v3), (4, .int v4), (5, .int v5)] → W p l e RM9_creditors s m args below meth c H locs 0 0 (MQ below (qi_W (dC, dI) [(cI, .int)] A q (wd_G cI a S)) args s 0 0 A) (F0 m 8 ls [])) : ∀ (n : Nat) {v0 : Int32} {v3 : Int32} {v4 : Int32} {v5 : Int32} {v6 : Int32} {v7 : Int32}, f9_creditors_L14 rec8 n v0 v3 v4 v5 v6 v7 S = some q → ∀ {H : Heap} {locs : List Loc} {ls : Array Slot}, gd_W (dC, dI) A s (wd_G cI a S) H locs → lv_has ls 9 [(0, .int v0), (1, .ref (a 3)), (2, .ref (a 4)), (3, .int v3), (4, .int v4), (5, .int v5), (6, .int v6), (7, .int v7)] → W p l e RM9_creditors s m args below meth c H locs 0 0 (MQ below (qi_W (dC, dI) [(cI, .int)] A q (wd_G cI a S)) args s 0 0 A) (F0 m 14 ls []) := by
  intro n
  induction n with
  | zero => intro _ _ _ _ _ _ h; exact nomatch h
  | succ n ih => intro v0 v3 v4 v5 v6 v7 h H locs ls hG hl; exact w9_creditors_b14 C hK hA (fun h => hrec8 h) (fun h => ih h) (show f9_creditors_b14 rec8 (f9_creditors_L14 rec8 n) v0 v3 v4 v5 v6 v7 S = some q from h) hG hl
set_option maxRecDepth 100000 in
set_option maxHeartbeats 4000000 in
theorem w9_creditors_b8 (C : cx_M p s m args meth c RL cL_creditors (some .int) 9) (hK : va_K (dC, dI) vwCl [(cI, .int)] s) (hA : ∀ q, s.heap.size ≤ q → A q) {a : Nat → Nat} {S : ms_T} {q : Int32} {rec8 : Int32 → Int32 → Int32 → Int32 → ms_T → Option Int32} (hrec8 : ∀ {v0 : Int32} {v3 : Int32} {v4 : Int32} {v5 : Int32} , rec8 v0 v3 v4 v5 S = some q → ∀ {H : Heap} {locs : List Loc} {ls : Array Slot}, gd_W (dC, dI) A s (wd_G cI a S) H locs → lv_has ls 9 [(0, .int v0), (1, .ref (a 3)), (2, .ref (a 4)), (3, .int v3), (4, .int v4), (5, .int v5)] → W p l e RM9_creditors s m args below meth c H locs 0 0 (MQ below (qi_W (dC, dI) [(cI, .int)] A q (wd_G cI a S)) args s 0 0 A) (F0 m 8 ls [])) {v0 : Int32} {v3 : Int32} {v4 : Int32} {v5 : Int32} (h : f9_creditors_b8 rec8 v0 v3 v4 v5 S = some q) {H : Heap} {locs : List Loc} {ls : Array Slot} (hG : gd_W (dC, dI) A s (wd_G cI a S) H locs) (hl : lv_has ls 9 [(0, .int v0), (1, .ref (a 3)), (2, .ref (a 4)), (3, .int v3), (4, .int v4), (5, .int v5)]) : W p l e RM9_creditors s m args below meth c H locs 0 0 (MQ below (qi_W (dC, dI) [(cI, .int)] A q (wd_G cI a S)) args s 0 0 A) (F0 m 8 ls []) := by
  unfold f9_creditors_b8 at h
  obtain ⟨hx, hb, hr, hts, hown, hlocks, hml⟩ := id C
  refine lv_iconst (v := (-1 : Int32)) hx hb dL_creditors_8 (by decide) ?_
  refine lv_istore (lv' := [(6, .int (-1 : Int32)), (0, .int v0), (1, .ref (a 3)), (2, .ref (a 4)), (3, .int v3), (4, .int v4), (5, .int v5)]) hx hb dL_creditors_9 hl (by decide) rfl (fun ls hl => ?_)
  refine lv_iconst (v := (0 : Int32)) hx hb dL_creditors_11 (by decide) ?_
  refine lv_istore (lv' := [(7, .int (0 : Int32)), (6, .int (-1 : Int32)), (0, .int v0), (1, .ref (a 3)), (2, .ref (a 4)), (3, .int v3), (4, .int v4), (5, .int v5)]) hx hb dL_creditors_12 hl (by decide) rfl (fun ls hl => ?_)
  exact w9_creditors_L14 C hK hA (fun h => hrec8 h) fo_fu h hG (lv_sub hl [2, 3, 4, 5, 6, 7, 1, 0] rfl)
set_option maxRecDepth 100000 in
set_option maxHeartbeats 4000000 in
theorem w9_creditors_L8 (C : cx_M p s m args meth c RL cL_creditors (some .int) 9) (hK : va_K (dC, dI) vwCl [(cI, .int)] s) (hA : ∀ q, s.heap.size ≤ q → A q) {a : Nat → Nat} {S : ms_T} {q : Int32} : ∀ (n : Nat) {v0 : Int32} {v3 : Int32} {v4 : Int32} {v5 : Int32}, f9_creditors_L8 n v0 v3 v4 v5 S = some q → ∀ {H : Heap} {locs : List Loc} {ls : Array Slot}, gd_W (dC, dI) A s (wd_G cI a S) H locs → lv_has ls 9 [(0, .int v0), (1, .ref (a 3)), (2, .ref (a 4)), (3, .int v3), (4, .int v4), (5, .int v5)] → W p l e RM9_creditors s m args below meth c H locs 0 0 (MQ below (qi_W (dC, dI) [(cI, .int)] A q (wd_G cI a S)) args s 0 0 A) (F0 m 8 ls []) := by
  intro n
  induction n with
  | zero => intro _ _ _ _ h; exact nomatch h
  | succ n ih => intro v0 v3 v4 v5 h H locs ls hG hl; exact w9_creditors_b8 C hK hA (fun h => ih h) (show f9_creditors_b8 (f9_creditors_L8 n) v0 v3 v4 v5 S = some q from h) hG hl
set_option maxRecDepth 100000 in
set_option maxHeartbeats 4000000 in
theorem w9_creditors (C : cx_M p s m args meth c RL cL_creditors (some .int) 9) (hK : va_K (dC, dI) vwCl [(cI, .int)] s) (hA : ∀ q, s.heap.size ≤ q → A q) {a : Nat → Nat} {q : Int32} {v0 : Int32} {S : ms_T} (h : f9_creditors v0 S = some q) {H : Heap} {locs : List Loc} {ls : Array Slot} (hG : gd_W (dC, dI) A s (wd_G cI a S) H locs) (hl : lv_has ls 9 [(0, .int v0), (1, .ref (a 3)), (2, .ref (a 4))]) : W p l e RM9_creditors s m args below meth c H locs 0 0 (MQ below (qi_W (dC, dI) [(cI, .int)] A q (wd_G cI a S)) args s 0 0 A) (F0 m 0 ls []) := by
  unfold f9_creditors at h
  obtain ⟨hx, hb, hr, hts, hown, hlocks, hml⟩ := id C
  refine lv_iconst (v := (0 : Int32)) hx hb dL_creditors_0 (by decide) ?_
  refine lv_istore_n (lv' := [(3, .int (0 : Int32)), (0, .int v0), (1, .ref (a 3)), (2, .ref (a 4))]) hx hb dL_creditors_1 rfl hl (by decide) rfl (fun ls hl => ?_)
  refine lv_iconst (v := (0 : Int32)) hx hb dL_creditors_2 (by decide) ?_
  refine lv_istore (lv' := [(4, .int (0 : Int32)), (3, .int (0 : Int32)), (0, .int v0), (1, .ref (a 3)), (2, .ref (a 4))]) hx hb dL_creditors_3 hl (by decide) rfl (fun ls hl => ?_)
  refine lv_iconst (v := (0 : Int32)) hx hb dL_creditors_5 (by decide) ?_
  refine lv_istore (lv' := [(5, .int (0 : Int32)), (4, .int (0 : Int32)), (3, .int (0 : Int32)), (0, .int v0), (1, .ref (a 3)), (2, .ref (a 4))]) hx hb dL_creditors_6 hl (by decide) rfl (fun ls hl => ?_)
  exact w9_creditors_L8 C hK hA fo_fu h hG (lv_sub hl [3, 4, 5, 2, 1, 0] rfl)
set_option maxRecDepth 100000 in
set_option maxHeartbeats 4000000 in
theorem c9_creditors (l : Launch) {dC : Nat → ClassId} {dI : Nat → Nat → Nat} {cI : ClassId} {a : Nat → Nat} {v0 : Int32} {S : ms_T} {q : Int32} (h : f9_creditors v0 S = some q) : mi_M l yL_creditors wm9_creditors RM9_creditors (dC, dI) [(cI, .int)] [.int v0, .ref (a 3), .ref (a 4)] (wd_G cI a S) q (wd_G cI a S) := by
  intro sz
  refine Met.ofW (cc := cL_creditors) (maxL := 9) (ret := (some .int)) (by decide) rfl ?_
  intro p e s m args below meth c s₁ B hml hv
  obtain ⟨rfl, hsz, hP, hK, hD0⟩ := hv
  subst hsz
  have hl := lv_entry ([.int v0, .ref (a 3), .ref (a 4)] : List Value) (n := 9) (Nat.le_of_ble_eq_true rfl)
  rw [lg_entry_eq]
  generalize (lg_sl ([.int v0, .ref (a 3), .ref (a 4)] : List Value) ++ List.replicate (9 - (lg_sl ([.int v0, .ref (a 3), .ref (a 4)] : List Value)).length) Slot.unset).toArray = ls at hl ⊢
  exact w9_creditors (a := a) ⟨B.exec, B.bytes, B.returns, fun w hw => atoms_spec (ws := wm9_creditors) B.pre w (List.mem_cons_of_mem _ hw), findClass_of_methodNamed B.named, B.notSynchronized, hml⟩ hK (fun _ h => Or.inr h) h ⟨hP, hD0.self, va_S.rf⟩ hl
end
/-! ## DiceRoadsLaw.turn([I[I[I[I[I)V -/
section
variable {p : Program} {l : Launch} {e : Env} {s : State} {m : MethodId} {args : Array Value} {below : List Frame} {meth : Method} {c : Code} {dC : Nat → ClassId} {dI : Nat → Nat → Nat} {cI cB : ClassId} {A : Nat → Prop}
set_option maxRecDepth 100000 in
set_option maxHeartbeats 4000000 in
theorem w9_turn_b695 (C : cx_M p s m args meth c RL cL_turn none 16) (hK : va_K (dC, dI) vwCl [(cI, .int)] s) (hA : ∀ q, s.heap.size ≤ q → A q) {a : Nat → Nat} {q : ms_T} {rec498 : Int32 → Int32 → Int32 → ms_T → Option ms_T} (hrec498 : ∀ {v5 : Int32} {v6 : Int32} {v11 : Int32} {S : ms_T} , rec498 v5 v6 v11 S = some q → ∀ {H : Heap} {locs : List Loc} {ls : Array Slot}, gd_W (dC, dI) A s (wd_G cI a S) H locs → lv_has ls 16 [(0, .ref (a 0)), (1, .ref (a 1)), (2, .ref (a 2)), (3, .ref (a 3)), (4, .ref (a 4)), (5, .int v5), (6, .int v6), (11, .int v11)] → W p l e RM9_turn s m args below meth c H locs 0 0 (MQ below (qv_W (dC, dI) [(cI, .int)] A (wd_G cI a q)) args s 0 0 A) (F0 m 498 ls [])) {v5 : Int32} {v6 : Int32} {v11 : Int32} {S : ms_T} (h : f9_turn_b695 rec498 v5 v6 v11 S = some q) {H : Heap} {locs : List Loc} {ls : Array Slot} (hG : gd_W (dC, dI) A s (wd_G cI a S) H locs) (hl : lv_has ls 16 [(0, .ref (a 0)), (1, .ref (a 1)), (2, .ref (a 2)), (3, .ref (a 3)), (4, .ref (a 4)), (5, .int v5), (6, .int v6), (11, .int v11)]) : W p l e RM9_turn s m args below meth c H locs 0 0 (MQ below (qv_W (dC, dI) [(cI, .int)] A (wd_G cI a q)) args s 0 0 A) (F0 m 695 ls []) := by
  unfold f9_turn_b695 at h
  obtain ⟨hx, hb, hr, hts, hown, hlocks, hml⟩ := id C
  refine lv_iinc (v := (v11 + (1 : Int32))) (lv' := [(11, .int (v11 + (1 : Int32))), (0, .ref (a 0)), (1, .ref (a 1)), (2, .ref (a 2)), (3, .ref (a 3)), (4, .ref (a 4)), (5, .int v5), (6, .int v6)]) hx hb dL_turn_695 hl (k := 7) rfl rfl (by decide) rfl (fun ls hl => ?_)
  refine lv_goto (tgt := 498) hx hb dL_turn_698 (by decide) ?_
  exact hrec498 h hG (lv_sub hl [1, 2, 3, 4, 5, 6, 7, 0] rfl)
set_option maxRecDepth 100000 in
set_option maxHeartbeats 4000000 in
theorem w9_turn_b651 (C : cx_M p s m args meth c RL cL_turn none 16) (hK : va_K (dC, dI) vwCl [(cI, .int)] s) (hA : ∀ q, s.heap.size ≤ q → A q) {a : Nat → Nat} {q : ms_T} {rec498 : Int32 → Int32 → Int32 → ms_T → Option ms_T} (hrec498 : ∀ {v5 : Int32} {v6 : Int32} {v11 : Int32} {S : ms_T} , rec498 v5 v6 v11 S = some q → ∀ {H : Heap} {locs : List Loc} {ls : Array Slot}, gd_W (dC, dI) A s (wd_G cI a S) H locs → lv_has ls 16 [(0, .ref (a 0)), (1, .ref (a 1)), (2, .ref (a 2)), (3, .ref (a 3)), (4, .ref (a 4)), (5, .int v5), (6, .int v6), (11, .int v11)] → W p l e RM9_turn s m args below meth c H locs 0 0 (MQ below (qv_W (dC, dI) [(cI, .int)] A (wd_G cI a q)) args s 0 0 A) (F0 m 498 ls [])) {v5 : Int32} {v6 : Int32} {v11 : Int32} {v12 : Int32} {t1 : Int32} {t2 : Int32} {S : ms_T} (h : f9_turn_b651 rec498 v5 v6 v11 v12 t1 t2 S = some q) {H : Heap} {locs : List Loc} {ls : Array Slot} (hG : gd_W (dC, dI) A s (wd_G cI a S) H locs) (hl : lv_has ls 16 [(0, .ref (a 0)), (1, .ref (a 1)), (2, .ref (a 2)), (3, .ref (a 3)), (4, .ref (a 4)), (5, .int v5), (6, .int v6), (11, .int v11), (12, .int v12)]) : W p l e RM9_turn s m args below meth c H locs 0 0 (MQ below (qv_W (dC, dI) [(cI, .int)] A (wd_G cI a q)) args s 0 0 A) (F0 m 651 ls [.int t2, .int t1, .ref (a 2)]) := by
  unfold f9_turn_b651 at h
  obtain ⟨hx, hb, hr, hts, hown, hlocks, hml⟩ := id C
  obtain ⟨hi, h⟩ := fo_ck_some h
  obtain ⟨s651, es651, h⟩ := fo_bd_some h
  have es651 := Option.some.inj es651
  refine va_iast hx hb hK hG.1 hG.2.1 hG.2.2 2 0 rfl rfl hi dL_turn_651 (fun H locs hP9 hD9 hS9 => ?_)
  have hG : gd_W (dC, dI) A s (wd_G cI a (ms_set S 2 (upd (S 2) t1.toNatClampNeg t2))) H locs := ⟨hP9, hD9, hS9⟩
  rw [es651] at hG
  refine lv_aload_n hx hb dL_turn_652 rfl (lv_at hl 3 rfl) ?_
  refine lv_iconst (v := (4 : Int32)) hx hb dL_turn_653 (by decide) ?_
  refine lv_iload hx hb dL_turn_654 (lv_at hl 5 rfl) ?_
  refine lv_imul hx hb dL_turn_656 ?_
  refine lv_iload hx hb dL_turn_657 (lv_at hl 8 rfl) ?_
  refine lv_iadd hx hb dL_turn_659 ?_
  refine lv_iconst (v := (0 : Int32)) hx hb dL_turn_660 (by decide) ?_
  obtain ⟨hi, h⟩ := fo_ck_some h
  obtain ⟨s661, es661, h⟩ := fo_bd_some h
  have es661 := Option.some.inj es661
  refine va_iast hx hb hK hG.1 hG.2.1 hG.2.2 3 0 rfl rfl hi dL_turn_661 (fun H locs hP9 hD9 hS9 => ?_)
  have hG : gd_W (dC, dI) A s (wd_G cI a (ms_set s651 3 (upd (s651 3) (((4 : Int32) * v5) + v12).toNatClampNeg (0 : Int32)))) H locs := ⟨hP9, hD9, hS9⟩
  rw [es661] at hG
  refine lv_aload hx hb dL_turn_662 (lv_at hl 4 rfl) ?_
  refine lv_iconst (v := (4 : Int32)) hx hb dL_turn_664 (by decide) ?_
  refine lv_iload hx hb dL_turn_665 (lv_at hl 5 rfl) ?_
  refine lv_imul hx hb dL_turn_667 ?_
  refine lv_iload hx hb dL_turn_668 (lv_at hl 8 rfl) ?_
  refine lv_iadd hx hb dL_turn_670 ?_
  refine lv_iconst (v := (0 : Int32)) hx hb dL_turn_671 (by decide) ?_
  obtain ⟨hi, h⟩ := fo_ck_some h
  obtain ⟨s672, es672, h⟩ := fo_bd_some h
  have es672 := Option.some.inj es672
  refine va_iast hx hb hK hG.1 hG.2.1 hG.2.2 4 0 rfl rfl hi dL_turn_672 (fun H locs hP9 hD9 hS9 => ?_)
  have hG : gd_W (dC, dI) A s (wd_G cI a (ms_set s661 4 (upd (s661 4) (((4 : Int32) * v5) + v12).toNatClampNeg (0 : Int32)))) H locs := ⟨hP9, hD9, hS9⟩
  rw [es672] at hG
  refine lv_aload_n hx hb dL_turn_673 rfl (lv_at hl 1 rfl) ?_
  refine lv_bipush (v := (6 : Int32)) hx hb dL_turn_674 (by decide) ?_
  refine lv_iload hx hb dL_turn_676 (lv_at hl 5 rfl) ?_
  refine lv_imul hx hb dL_turn_678 ?_
  refine lv_iconst (v := (5 : Int32)) hx hb dL_turn_679 (by decide) ?_
  refine lv_iadd hx hb dL_turn_680 ?_
  refine lv_dup2_11 hx hb dL_turn_681 rfl rfl ?_
  obtain ⟨hi, h⟩ := fo_ck_some h
  refine va_iald hx hb hK hG.1 1 0 rfl rfl hi dL_turn_682 ?_
  refine lv_iconst (v := (1 : Int32)) hx hb dL_turn_683 (by decide) ?_
  refine lv_iadd hx hb dL_turn_684 ?_
  obtain ⟨hi, h⟩ := fo_ck_some h
  obtain ⟨s685, es685, h⟩ := fo_bd_some h
  have es685 := Option.some.inj es685
  refine va_iast hx hb hK hG.1 hG.2.1 hG.2.2 1 0 rfl rfl hi dL_turn_685 (fun H locs hP9 hD9 hS9 => ?_)
  have hG : gd_W (dC, dI) A s (wd_G cI a (ms_set s672 1 (upd (s672 1) (((6 : Int32) * v5) + (5 : Int32)).toNatClampNeg (((s672 1) (((6 : Int32) * v5) + (5 : Int32)).toNatClampNeg) + (1 : Int32))))) H locs := ⟨hP9, hD9, hS9⟩
  rw [es685] at hG
  refine lv_goto (tgt := 695) hx hb dL_turn_686 (by decide) ?_
  exact w9_turn_b695 C hK hA (fun h => hrec498 h) h hG (lv_sub hl [0, 1, 2, 3, 4, 5, 6, 7] rfl)
set_option maxRecDepth 100000 in
set_option maxHeartbeats 4000000 in
theorem w9_turn_b620 (C : cx_M p s m args meth c RL cL_turn none 16) (hK : va_K (dC, dI) vwCl [(cI, .int)] s) (hA : ∀ q, s.heap.size ≤ q → A q) {a : Nat → Nat} {q : ms_T} {rec498 : Int32 → Int32 → Int32 → ms_T → Option ms_T} (hrec498 : ∀ {v5 : Int32} {v6 : Int32} {v11 : Int32} {S : ms_T} , rec498 v5 v6 v11 S = some q → ∀ {H : Heap} {locs : List Loc} {ls : Array Slot}, gd_W (dC, dI) A s (wd_G cI a S) H locs → lv_has ls 16 [(0, .ref (a 0)), (1, .ref (a 1)), (2, .ref (a 2)), (3, .ref (a 3)), (4, .ref (a 4)), (5, .int v5), (6, .int v6), (11, .int v11)] → W p l e RM9_turn s m args below meth c H locs 0 0 (MQ below (qv_W (dC, dI) [(cI, .int)] A (wd_G cI a q)) args s 0 0 A) (F0 m 498 ls [])) {v5 : Int32} {v6 : Int32} {v11 : Int32} {v12 : Int32} {v13 : Int32} {v14 : Int32} {v15 : Int32} {t1 : Int32} {t2 : Int32} {S : ms_T} (h : f9_turn_b620 rec498 v5 v6 v11 v12 v13 v14 v15 t1 t2 S = some q) {H : Heap} {locs : List Loc} {ls : Array Slot} (hG : gd_W (dC, dI) A s (wd_G cI a S) H locs) (hl : lv_has ls 16 [(0, .ref (a 0)), (1, .ref (a 1)), (2, .ref (a 2)), (3, .ref (a 3)), (4, .ref (a 4)), (5, .int v5), (6, .int v6), (11, .int v11), (12, .int v12), (13, .int v13), (14, .int v14), (15, .int v15)]) : W p l e RM9_turn s m args below meth c H locs 0 0 (MQ below (qv_W (dC, dI) [(cI, .int)] A (wd_G cI a q)) args s 0 0 A) (F0 m 620 ls [.int t2, .int t1, .ref (a 2)]) := by
  unfold f9_turn_b620 at h
  obtain ⟨hx, hb, hr, hts, hown, hlocks, hml⟩ := id C
  obtain ⟨hi, h⟩ := fo_ck_some h
  obtain ⟨s620, es620, h⟩ := fo_bd_some h
  have es620 := Option.some.inj es620
  refine va_iast hx hb hK hG.1 hG.2.1 hG.2.2 2 0 rfl rfl hi dL_turn_620 (fun H locs hP9 hD9 hS9 => ?_)
  have hG : gd_W (dC, dI) A s (wd_G cI a (ms_set S 2 (upd (S 2) t1.toNatClampNeg t2))) H locs := ⟨hP9, hD9, hS9⟩
  rw [es620] at hG
  refine lv_aload_n hx hb dL_turn_621 rfl (lv_at hl 2 rfl) ?_
  refine lv_bipush (v := (20 : Int32)) hx hb dL_turn_622 (by decide) ?_
  refine lv_iload hx hb dL_turn_624 (lv_at hl 9 rfl) ?_
  refine lv_iadd hx hb dL_turn_626 ?_
  refine lv_iload hx hb dL_turn_627 (lv_at hl 11 rfl) ?_
  refine lv_iload hx hb dL_turn_629 (lv_at hl 8 rfl) ?_
  refine lv_icmp_ne (tgt := 639) hx hb dL_turn_631 (by decide) (fun hc => ?_) (fun hc => ?_)
  · have h := fo_if h hc
    refine lv_iload hx hb dL_turn_639 (lv_at hl 10 rfl) ?_
    refine lv_if_eq (tgt := 649) hx hb dL_turn_641 (by decide) (fun hc => ?_) (fun hc => ?_)
    · have h := fo_it h hc
      refine lv_iload hx hb dL_turn_649 (lv_at hl 8 rfl) ?_
      exact w9_turn_b651 C hK hA (fun h => hrec498 h) h hG (lv_sub hl [0, 1, 2, 3, 4, 5, 6, 7, 8] rfl)
    · have h := fo_if h hc
      refine lv_iload hx hb dL_turn_644 (lv_at hl 11 rfl) ?_
      refine lv_goto (tgt := 651) hx hb dL_turn_646 (by decide) ?_
      exact w9_turn_b651 C hK hA (fun h => hrec498 h) h hG (lv_sub hl [0, 1, 2, 3, 4, 5, 6, 7, 8] rfl)
  · have h := fo_it h hc
    refine lv_bipush (v := (-6 : Int32)) hx hb dL_turn_634 (by decide) ?_
    refine lv_goto (tgt := 651) hx hb dL_turn_636 (by decide) ?_
    exact w9_turn_b651 C hK hA (fun h => hrec498 h) h hG (lv_sub hl [0, 1, 2, 3, 4, 5, 6, 7, 8] rfl)
set_option maxRecDepth 100000 in
set_option maxHeartbeats 4000000 in
theorem w9_turn_b603 (C : cx_M p s m args meth c RL cL_turn none 16) (hK : va_K (dC, dI) vwCl [(cI, .int)] s) (hA : ∀ q, s.heap.size ≤ q → A q) {a : Nat → Nat} {q : ms_T} {rec498 : Int32 → Int32 → Int32 → ms_T → Option ms_T} (hrec498 : ∀ {v5 : Int32} {v6 : Int32} {v11 : Int32} {S : ms_T} , rec498 v5 v6 v11 S = some q → ∀ {H : Heap} {locs : List Loc} {ls : Array Slot}, gd_W (dC, dI) A s (wd_G cI a S) H locs → lv_has ls 16 [(0, .ref (a 0)), (1, .ref (a 1)), (2, .ref (a 2)), (3, .ref (a 3)), (4, .ref (a 4)), (5, .int v5), (6, .int v6), (11, .int v11)] → W p l e RM9_turn s m args below meth c H locs 0 0 (MQ below (qv_W (dC, dI) [(cI, .int)] A (wd_G cI a q)) args s 0 0 A) (F0 m 498 ls [])) {v5 : Int32} {v6 : Int32} {v11 : Int32} {v12 : Int32} {v13 : Int32} {v14 : Int32} {t0 : Int32} {S : ms_T} (h : f9_turn_b603 rec498 v5 v6 v11 v12 v13 v14 t0 S = some q) {H : Heap} {locs : List Loc} {ls : Array Slot} (hG : gd_W (dC, dI) A s (wd_G cI a S) H locs) (hl : lv_has ls 16 [(0, .ref (a 0)), (1, .ref (a 1)), (2, .ref (a 2)), (3, .ref (a 3)), (4, .ref (a 4)), (5, .int v5), (6, .int v6), (11, .int v11), (12, .int v12), (13, .int v13), (14, .int v14)]) : W p l e RM9_turn s m args below meth c H locs 0 0 (MQ below (qv_W (dC, dI) [(cI, .int)] A (wd_G cI a q)) args s 0 0 A) (F0 m 603 ls [.int t0]) := by
  unfold f9_turn_b603 at h
  obtain ⟨hx, hb, hr, hts, hown, hlocks, hml⟩ := id C
  refine lv_istore (lv' := [(15, .int t0), (0, .ref (a 0)), (1, .ref (a 1)), (2, .ref (a 2)), (3, .ref (a 3)), (4, .ref (a 4)), (5, .int v5), (6, .int v6), (11, .int v11), (12, .int v12), (13, .int v13), (14, .int v14)]) hx hb dL_turn_603 hl (by decide) rfl (fun ls hl => ?_)
  refine lv_aload_n hx hb dL_turn_605 rfl (lv_at hl 3 rfl) ?_
  refine lv_iload hx hb dL_turn_606 (lv_at hl 10 rfl) ?_
  refine lv_iload hx hb dL_turn_608 (lv_at hl 11 rfl) ?_
  refine lv_if_eq (tgt := 618) hx hb dL_turn_610 (by decide) (fun hc => ?_) (fun hc => ?_)
  · have h := fo_it h hc
    refine lv_iload hx hb dL_turn_618 (lv_at hl 0 rfl) ?_
    exact w9_turn_b620 C hK hA (fun h => hrec498 h) h hG (lv_sub hl [1, 2, 3, 4, 5, 6, 7, 8, 9, 10, 11, 0] rfl)
  · have h := fo_if h hc
    refine lv_iload hx hb dL_turn_613 (lv_at hl 9 rfl) ?_
    refine lv_goto (tgt := 620) hx hb dL_turn_615 (by decide) ?_
    exact w9_turn_b620 C hK hA (fun h => hrec498 h) h hG (lv_sub hl [1, 2, 3, 4, 5, 6, 7, 8, 9, 10, 11, 0] rfl)
set_option maxRecDepth 100000 in
set_option maxHeartbeats 4000000 in
theorem w9_turn_b584 (C : cx_M p s m args meth c RL cL_turn none 16) (hK : va_K (dC, dI) vwCl [(cI, .int)] s) (hA : ∀ q, s.heap.size ≤ q → A q) {a : Nat → Nat} {q : ms_T} {rec498 : Int32 → Int32 → Int32 → ms_T → Option ms_T} (hrec498 : ∀ {v5 : Int32} {v6 : Int32} {v11 : Int32} {S : ms_T} , rec498 v5 v6 v11 S = some q → ∀ {H : Heap} {locs : List Loc} {ls : Array Slot}, gd_W (dC, dI) A s (wd_G cI a S) H locs → lv_has ls 16 [(0, .ref (a 0)), (1, .ref (a 1)), (2, .ref (a 2)), (3, .ref (a 3)), (4, .ref (a 4)), (5, .int v5), (6, .int v6), (11, .int v11)] → W p l e RM9_turn s m args below meth c H locs 0 0 (MQ below (qv_W (dC, dI) [(cI, .int)] A (wd_G cI a q)) args s 0 0 A) (F0 m 498 ls [])) {v5 : Int32} {v6 : Int32} {v11 : Int32} {v12 : Int32} {v13 : Int32} {v14 : Int32} {S : ms_T} (h : f9_turn_b584 rec498 v5 v6 v11 v12 v13 v14 S = some q) {H : Heap} {locs : List Loc} {ls : Array Slot} (hG : gd_W (dC, dI) A s (wd_G cI a S) H locs) (hl : lv_has ls 16 [(0, .ref (a 0)), (1, .ref (a 1)), (2, .ref (a 2)), (3, .ref (a 3)), (4, .ref (a 4)), (5, .int v5), (6, .int v6), (11, .int v11), (12, .int v12), (13, .int v13), (14, .int v14)]) : W p l e RM9_turn s m args below meth c H locs 0 0 (MQ below (qv_W (dC, dI) [(cI, .int)] A (wd_G cI a q)) args s 0 0 A) (F0 m 584 ls []) := by
  unfold f9_turn_b584 at h
  obtain ⟨hx, hb, hr, hts, hown, hlocks, hml⟩ := id C
  refine lv_iload hx hb dL_turn_584 (lv_at hl 10 rfl) ?_
  refine lv_if_eq (tgt := 599) hx hb dL_turn_586 (by decide) (fun hc => ?_) (fun hc => ?_)
  · have h := fo_it h hc
    refine lv_aload_n hx hb dL_turn_599 rfl (lv_at hl 2 rfl) ?_
    refine lv_iload hx hb dL_turn_600 (lv_at hl 9 rfl) ?_
    obtain ⟨hi, h⟩ := fo_ck_some h
    refine va_iald hx hb hK hG.1 2 0 rfl rfl hi dL_turn_602 ?_
    exact w9_turn_b603 C hK hA (fun h => hrec498 h) h hG (lv_sub hl [0, 1, 2, 3, 4, 5, 6, 7, 8, 9, 10] rfl)
  · have h := fo_if h hc
    refine lv_aload_n hx hb dL_turn_589 rfl (lv_at hl 2 rfl) ?_
    refine lv_bipush (v := (20 : Int32)) hx hb dL_turn_590 (by decide) ?_
    refine lv_iload hx hb dL_turn_592 (lv_at hl 9 rfl) ?_
    refine lv_iadd hx hb dL_turn_594 ?_
    obtain ⟨hi, h⟩ := fo_ck_some h
    refine va_iald hx hb hK hG.1 2 0 rfl rfl hi dL_turn_595 ?_
    refine lv_goto (tgt := 603) hx hb dL_turn_596 (by decide) ?_
    exact w9_turn_b603 C hK hA (fun h => hrec498 h) h hG (lv_sub hl [0, 1, 2, 3, 4, 5, 6, 7, 8, 9, 10] rfl)
set_option maxRecDepth 100000 in
set_option maxHeartbeats 4000000 in
theorem w9_turn_b562 (C : cx_M p s m args meth c RL cL_turn none 16) (hK : va_K (dC, dI) vwCl [(cI, .int)] s) (hA : ∀ q, s.heap.size ≤ q → A q) {a : Nat → Nat} {q : ms_T} {rec498 : Int32 → Int32 → Int32 → ms_T → Option ms_T} (hrec498 : ∀ {v5 : Int32} {v6 : Int32} {v11 : Int32} {S : ms_T} , rec498 v5 v6 v11 S = some q → ∀ {H : Heap} {locs : List Loc} {ls : Array Slot}, gd_W (dC, dI) A s (wd_G cI a S) H locs → lv_has ls 16 [(0, .ref (a 0)), (1, .ref (a 1)), (2, .ref (a 2)), (3, .ref (a 3)), (4, .ref (a 4)), (5, .int v5), (6, .int v6), (11, .int v11)] → W p l e RM9_turn s m args below meth c H locs 0 0 (MQ below (qv_W (dC, dI) [(cI, .int)] A (wd_G cI a q)) args s 0 0 A) (F0 m 498 ls [])) {rec541 : Int32 → Int32 → Int32 → Int32 → Int32 → ms_T → Option ms_T} (hrec541 : ∀ {v5 : Int32} {v6 : Int32} {v11 : Int32} {v12 : Int32} {v13 : Int32} {S : ms_T} , rec541 v5 v6 v11 v12 v13 S = some q → ∀ {H : Heap} {locs : List Loc} {ls : Array Slot}, gd_W (dC, dI) A s (wd_G cI a S) H locs → lv_has ls 16 [(0, .ref (a 0)), (1, .ref (a 1)), (2, .ref (a 2)), (3, .ref (a 3)), (4, .ref (a 4)), (5, .int v5), (6, .int v6), (11, .int v11), (12, .int v12), (13, .int v13)] → W p l e RM9_turn s m args below meth c H locs 0 0 (MQ below (qv_W (dC, dI) [(cI, .int)] A (wd_G cI a q)) args s 0 0 A) (F0 m 541 ls [])) {v5 : Int32} {v6 : Int32} {v11 : Int32} {v12 : Int32} {v13 : Int32} {t0 : Int32} {S : ms_T} (h : f9_turn_b562 rec498 rec541 v5 v6 v11 v12 v13 t0 S = some q) {H : Heap} {locs : List Loc} {ls : Array Slot} (hG : gd_W (dC, dI) A s (wd_G cI a S) H locs) (hl : lv_has ls 16 [(0, .ref (a 0)), (1, .ref (a 1)), (2, .ref (a 2)), (3, .ref (a 3)), (4, .ref (a 4)), (5, .int v5), (6, .int v6), (11, .int v11), (12, .int v12), (13, .int v13)]) : W p l e RM9_turn s m args below meth c H locs 0 0 (MQ below (qv_W (dC, dI) [(cI, .int)] A (wd_G cI a q)) args s 0 0 A) (F0 m 562 ls [.int t0]) := by
  unfold f9_turn_b562 at h
  obtain ⟨hx, hb, hr, hts, hown, hlocks, hml⟩ := id C
  refine lv_istore (lv' := [(14, .int t0), (0, .ref (a 0)), (1, .ref (a 1)), (2, .ref (a 2)), (3, .ref (a 3)), (4, .ref (a 4)), (5, .int v5), (6, .int v6), (11, .int v11), (12, .int v12), (13, .int v13)]) hx hb dL_turn_562 hl (by decide) rfl (fun ls hl => ?_)
  refine lv_iload hx hb dL_turn_564 (lv_at hl 0 rfl) ?_
  refine lv_if_ne (tgt := 584) hx hb dL_turn_566 (by decide) (fun hc => ?_) (fun hc => ?_)
  · have h := fo_if h hc
    exact w9_turn_b584 C hK hA (fun h => hrec498 h) h hG (lv_sub hl [1, 2, 3, 4, 5, 6, 7, 8, 9, 10, 0] rfl)
  · have h := fo_it h hc
    refine lv_aload_n hx hb dL_turn_569 rfl (lv_at hl 3 rfl) ?_
    refine lv_bipush (v := (20 : Int32)) hx hb dL_turn_570 (by decide) ?_
    refine lv_iload hx hb dL_turn_572 (lv_at hl 10 rfl) ?_
    refine lv_iadd hx hb dL_turn_574 ?_
    obtain ⟨hi, h⟩ := fo_ck_some h
    refine va_iald hx hb hK hG.1 2 0 rfl rfl hi dL_turn_575 ?_
    refine lv_iload hx hb dL_turn_576 (lv_at hl 6 rfl) ?_
    refine lv_icmp_eq (tgt := 584) hx hb dL_turn_578 (by decide) (fun hc => ?_) (fun hc => ?_)
    · have h := fo_it h hc
      exact w9_turn_b584 C hK hA (fun h => hrec498 h) h hG (lv_sub hl [1, 2, 3, 4, 5, 6, 7, 8, 9, 10, 0] rfl)
    · have h := fo_if h hc
      refine lv_goto (tgt := 689) hx hb dL_turn_581 (by decide) ?_
      refine lv_iinc (v := (v13 + (1 : Int32))) (lv' := [(13, .int (v13 + (1 : Int32))), (14, .int t0), (0, .ref (a 0)), (1, .ref (a 1)), (2, .ref (a 2)), (3, .ref (a 3)), (4, .ref (a 4)), (5, .int v5), (6, .int v6), (11, .int v11), (12, .int v12)]) hx hb dL_turn_689 hl (k := 10) rfl rfl (by decide) rfl (fun ls hl => ?_)
      refine lv_goto (tgt := 541) hx hb dL_turn_692 (by decide) ?_
      exact hrec541 h hG (lv_sub hl [2, 3, 4, 5, 6, 7, 8, 9, 10, 0] rfl)
set_option maxRecDepth 100000 in
set_option maxHeartbeats 4000000 in
theorem w9_turn_b541 (C : cx_M p s m args meth c RL cL_turn none 16) (hK : va_K (dC, dI) vwCl [(cI, .int)] s) (hA : ∀ q, s.heap.size ≤ q → A q) {a : Nat → Nat} {q : ms_T} {rec498 : Int32 → Int32 → Int32 → ms_T → Option ms_T} (hrec498 : ∀ {v5 : Int32} {v6 : Int32} {v11 : Int32} {S : ms_T} , rec498 v5 v6 v11 S = some q → ∀ {H : Heap} {locs : List Loc} {ls : Array Slot}, gd_W (dC, dI) A s (wd_G cI a S) H locs → lv_has ls 16 [(0, .ref (a 0)), (1, .ref (a 1)), (2, .ref (a 2)), (3, .ref (a 3)), (4, .ref (a 4)), (5, .int v5), (6, .int v6), (11, .int v11)] → W p l e RM9_turn s m args below meth c H locs 0 0 (MQ below (qv_W (dC, dI) [(cI, .int)] A (wd_G cI a q)) args s 0 0 A) (F0 m 498 ls [])) {rec541 : Int32 → Int32 → Int32 → Int32 → Int32 → ms_T → Option ms_T} (hrec541 : ∀ {v5 : Int32} {v6 : Int32} {v11 : Int32} {v12 : Int32} {v13 : Int32} {S : ms_T} , rec541 v5 v6 v11 v12 v13 S = some q → ∀ {H : Heap} {locs : List Loc} {ls : Array Slot}, gd_W (dC, dI) A s (wd_G cI a S) H locs → lv_has ls 16 [(0, .ref (a 0)), (1, .ref (a 1)), (2, .ref (a 2)), (3, .ref (a 3)), (4, .ref (a 4)), (5, .int v5), (6, .int v6), (11, .int v11), (12, .int v12), (13, .int v13)] → W p l e RM9_turn s m args below meth c H locs 0 0 (MQ below (qv_W (dC, dI) [(cI, .int)] A (wd_G cI a q)) args s 0 0 A) (F0 m 541 ls [])) {v5 : Int32} {v6 : Int32} {v11 : Int32} {v12 : Int32} {v13 : Int32} {S : ms_T} (h : f9_turn_b541 rec498 rec541 v5 v6 v11 v12 v13 S = some q) {H : Heap} {locs : List Loc} {ls : Array Slot} (hG : gd_W (dC, dI) A s (wd_G cI a S) H locs) (hl : lv_has ls 16 [(0, .ref (a 0)), (1, .ref (a 1)), (2, .ref (a 2)), (3, .ref (a 3)), (4, .ref (a 4)), (5, .int v5), (6, .int v6), (11, .int v11), (12, .int v12), (13, .int v13)]) : W p l e RM9_turn s m args below meth c H locs 0 0 (MQ below (qv_W (dC, dI) [(cI, .int)] A (wd_G cI a q)) args s 0 0 A) (F0 m 541 ls []) := by
  unfold f9_turn_b541 at h
  obtain ⟨hx, hb, hr, hts, hown, hlocks, hml⟩ := id C
  refine lv_iload hx hb dL_turn_541 (lv_at hl 9 rfl) ?_
  refine lv_bipush (v := (20 : Int32)) hx hb dL_turn_543 (by decide) ?_
  refine lv_icmp_ge (tgt := 695) hx hb dL_turn_545 (by decide) (fun hc => ?_) (fun hc => ?_)
  · have h := fo_it h hc
    exact w9_turn_b695 C hK hA (fun h => hrec498 h) h hG (lv_sub hl [0, 1, 2, 3, 4, 5, 6, 7] rfl)
  · have h := fo_if h hc
    refine lv_aload_n hx hb dL_turn_548 rfl (lv_at hl 2 rfl) ?_
    refine lv_iload hx hb dL_turn_549 (lv_at hl 9 rfl) ?_
    obtain ⟨hi, h⟩ := fo_ck_some h
    refine va_iald hx hb hK hG.1 2 0 rfl rfl hi dL_turn_551 ?_
    refine lv_iload hx hb dL_turn_552 (lv_at hl 5 rfl) ?_
    refine lv_icmp_ne (tgt := 561) hx hb dL_turn_554 (by decide) (fun hc => ?_) (fun hc => ?_)
    · have h := fo_if h hc
      refine lv_iconst (v := (0 : Int32)) hx hb dL_turn_561 (by decide) ?_
      exact w9_turn_b562 C hK hA (fun h => hrec498 h) (fun h => hrec541 h) h hG (lv_sub hl [0, 1, 2, 3, 4, 5, 6, 7, 8, 9] rfl)
    · have h := fo_it h hc
      refine lv_iconst (v := (1 : Int32)) hx hb dL_turn_557 (by decide) ?_
      refine lv_goto (tgt := 562) hx hb dL_turn_558 (by decide) ?_
      exact w9_turn_b562 C hK hA (fun h => hrec498 h) (fun h => hrec541 h) h hG (lv_sub hl [0, 1, 2, 3, 4, 5, 6, 7, 8, 9] rfl)
set_option maxRecDepth 100000 in
set_option maxHeartbeats 4000000 in
theorem w9_turn_L541 (C : cx_M p s m args meth c RL cL_turn none 16) (hK : va_K (dC, dI) vwCl [(cI, .int)] s) (hA : ∀ q, s.heap.size ≤ q → A q) {a : Nat → Nat} {q : ms_T} {rec498 : Int32 → Int32 → Int32 → ms_T → Option ms_T} (hrec498 : ∀ {v5 : Int32} {v6 : Int32} {v11 : Int32} {S : ms_T} , rec498 v5 v6 v11 S = some q → ∀ {H : Heap} {locs : List Loc} {ls : Array Slot}, gd_W (dC, dI) A s (wd_G cI a S) H locs → lv_has ls 16 [(0, .ref (a 0)), (1, .ref (a 1)), (2, .ref (a 2)), (3, .ref (a 3)), (4, .ref (a 4)), (5, .int v5), (6, .int v6), (11, .int v11)] → W p l e RM9_turn s m args below meth c H locs 0 0 (MQ below (qv_W (dC, dI) [(cI, .int)] A (wd_G cI a q)) args s 0 0 A) (F0 m 498 ls [])) : ∀ (n : Nat) {v5 : Int32} {v6 : Int32} {v11 : Int32} {v12 : Int32} {v13 : Int32} {S : ms_T}, f9_turn_L541 rec498 n v5 v6 v11 v12 v13 S = some q → ∀ {H : Heap} {locs : List Loc} {ls : Array Slot}, gd_W (dC, dI) A s (wd_G cI a S) H locs → lv_has ls 16 [(0, .ref (a 0)), (1, .ref (a 1)), (2, .ref (a 2)), (3, .ref (a 3)), (4, .ref (a 4)), (5, .int v5), (6, .int v6), (11, .int v11), (12, .int v12), (13, .int v13)] → W p l e RM9_turn s m args below meth c H locs 0 0 (MQ below (qv_W (dC, dI) [(cI, .int)] A (wd_G cI a q)) args s 0 0 A) (F0 m 541 ls []) := by
  intro n
  induction n with
  | zero => intro _ _ _ _ _ _ h; exact nomatch h
  | succ n ih => intro v5 v6 v11 v12 v13 S h H locs ls hG hl; exact w9_turn_b541 C hK hA (fun h => hrec498 h) (fun h => ih h) (show f9_turn_b541 rec498 (f9_turn_L541 rec498 n) v5 v6 v11 v12 v13 S = some q from h) hG hl
set_option maxRecDepth 100000 in
set_option maxHeartbeats 4000000 in
theorem w9_turn_b498 (C : cx_M p s m args meth c RL cL_turn none 16) (hK : va_K (dC, dI) vwCl [(cI, .int)] s) (hA : ∀ q, s.heap.size ≤ q → A q) {a : Nat → Nat} {q : ms_T} {rec498 : Int32 → Int32 → Int32 → ms_T → Option ms_T} (hrec498 : ∀ {v5 : Int32} {v6 : Int32} {v11 : Int32} {S : ms_T} , rec498 v5 v6 v11 S = some q → ∀ {H : Heap} {locs : List Loc} {ls : Array Slot}, gd_W (dC, dI) A s (wd_G cI a S) H locs → lv_has ls 16 [(0, .ref (a 0)), (1, .ref (a 1)), (2, .ref (a 2)), (3, .ref (a 3)), (4, .ref (a 4)), (5, .int v5), (6, .int v6), (11, .int v11)] → W p l e RM9_turn s m args below meth c H locs 0 0 (MQ below (qv_W (dC, dI) [(cI, .int)] A (wd_G cI a q)) args s 0 0 A) (F0 m 498 ls [])) {v5 : Int32} {v6 : Int32} {v11 : Int32} {S : ms_T} (h : f9_turn_b498 rec498 v5 v6 v11 S = some q) {H : Heap} {locs : List Loc} {ls : Array Slot} (hG : gd_W (dC, dI) A s (wd_G cI a S) H locs) (hl : lv_has ls 16 [(0, .ref (a 0)), (1, .ref (a 1)), (2, .ref (a 2)), (3, .ref (a 3)), (4, .ref (a 4)), (5, .int v5), (6, .int v6), (11, .int v11)]) : W p l e RM9_turn s m args below meth c H locs 0 0 (MQ below (qv_W (dC, dI) [(cI, .int)] A (wd_G cI a q)) args s 0 0 A) (F0 m 498 ls []) := by
  unfold f9_turn_b498 at h
  obtain ⟨hx, hb, hr, hts, hown, hlocks, hml⟩ := id C
  refine lv_iload hx hb dL_turn_498 (lv_at hl 7 rfl) ?_
  refine lv_iload hx hb dL_turn_500 (lv_at hl 6 rfl) ?_
  refine lv_bipush (v := (8 : Int32)) hx hb dL_turn_502 (by decide) ?_
  refine lv_ishr hx hb dL_turn_504 ?_
  refine lv_icmp_ge (tgt := 701) hx hb dL_turn_505 (by decide) (fun hc => ?_) (fun hc => ?_)
  · have h := fo_it h hc
    refine lv_aload_n hx hb dL_turn_701 rfl (lv_at hl 1 rfl) ?_
    refine lv_bipush (v := (6 : Int32)) hx hb dL_turn_702 (by decide) ?_
    refine lv_iload hx hb dL_turn_704 (lv_at hl 5 rfl) ?_
    refine lv_imul hx hb dL_turn_706 ?_
    refine lv_iconst (v := (4 : Int32)) hx hb dL_turn_707 (by decide) ?_
    refine lv_iadd hx hb dL_turn_708 ?_
    refine lv_dup2_11 hx hb dL_turn_709 rfl rfl ?_
    obtain ⟨hi, h⟩ := fo_ck_some h
    refine va_iald hx hb hK hG.1 1 0 rfl rfl hi dL_turn_710 ?_
    refine lv_iconst (v := (1 : Int32)) hx hb dL_turn_711 (by decide) ?_
    refine lv_iadd hx hb dL_turn_712 ?_
    obtain ⟨hi, h⟩ := fo_ck_some h
    obtain ⟨s713, es713, h⟩ := fo_bd_some h
    have es713 := Option.some.inj es713
    refine va_iast hx hb hK hG.1 hG.2.1 hG.2.2 1 0 rfl rfl hi dL_turn_713 (fun H locs hP9 hD9 hS9 => ?_)
    have hG : gd_W (dC, dI) A s (wd_G cI a (ms_set S 1 (upd (S 1) (((6 : Int32) * v5) + (4 : Int32)).toNatClampNeg (((S 1) (((6 : Int32) * v5) + (4 : Int32)).toNatClampNeg) + (1 : Int32))))) H locs := ⟨hP9, hD9, hS9⟩
    rw [es713] at hG
    refine lv_aload_n hx hb dL_turn_714 rfl (lv_at hl 0 rfl) ?_
    refine lv_bipush (v := (7 : Int32)) hx hb dL_turn_715 (by decide) ?_
    refine lv_iload hx hb dL_turn_717 (lv_at hl 5 rfl) ?_
    refine lv_iconst (v := (1 : Int32)) hx hb dL_turn_719 (by decide) ?_
    refine lv_iadd hx hb dL_turn_720 ?_
    refine lv_aload_n hx hb dL_turn_721 rfl (lv_at hl 0 rfl) ?_
    refine lv_bipush (v := (6 : Int32)) hx hb dL_turn_722 (by decide) ?_
    obtain ⟨hi, h⟩ := fo_ck_some h
    refine va_iald hx hb hK hG.1 0 0 rfl rfl hi dL_turn_724 ?_
    obtain ⟨hz, h⟩ := fo_nz_some h
    refine lv_irem hx hb dL_turn_725 hz ?_
    obtain ⟨hi, h⟩ := fo_ck_some h
    obtain ⟨s726, es726, h⟩ := fo_bd_some h
    have es726 := Option.some.inj es726
    refine va_iast hx hb hK hG.1 hG.2.1 hG.2.2 0 0 rfl rfl hi dL_turn_726 (fun H locs hP9 hD9 hS9 => ?_)
    have hG : gd_W (dC, dI) A s (wd_G cI a (ms_set s713 0 (upd (s713 0) (7 : Int32).toNatClampNeg ((v5 + (1 : Int32)) - (v5 + (1 : Int32)) / ((s713 0) (6 : Int32).toNatClampNeg) * ((s713 0) (6 : Int32).toNatClampNeg))))) H locs := ⟨hP9, hD9, hS9⟩
    rw [es726] at hG
    refine lv_aload_n hx hb dL_turn_727 rfl (lv_at hl 0 rfl) ?_
    refine lv_iconst (v := (5 : Int32)) hx hb dL_turn_728 (by decide) ?_
    refine lv_dup2_11 hx hb dL_turn_729 rfl rfl ?_
    obtain ⟨hi, h⟩ := fo_ck_some h
    refine va_iald hx hb hK hG.1 0 0 rfl rfl hi dL_turn_730 ?_
    refine lv_iconst (v := (1 : Int32)) hx hb dL_turn_731 (by decide) ?_
    refine lv_iadd hx hb dL_turn_732 ?_
    obtain ⟨hi, h⟩ := fo_ck_some h
    obtain ⟨s733, es733, h⟩ := fo_bd_some h
    have es733 := Option.some.inj es733
    refine va_iast hx hb hK hG.1 hG.2.1 hG.2.2 0 0 rfl rfl hi dL_turn_733 (fun H locs hP9 hD9 hS9 => ?_)
    have hG : gd_W (dC, dI) A s (wd_G cI a (ms_set s726 0 (upd (s726 0) (5 : Int32).toNatClampNeg (((s726 0) (5 : Int32).toNatClampNeg) + (1 : Int32))))) H locs := ⟨hP9, hD9, hS9⟩
    rw [es733] at hG
    obtain rfl := Option.some.inj h
    exact gr_v hx hb hr hlocks hK hG dL_turn_734
  · have h := fo_if h hc
    refine lv_iload hx hb dL_turn_508 (lv_at hl 6 rfl) ?_
    refine lv_iconst (v := (2 : Int32)) hx hb dL_turn_510 (by decide) ?_
    refine lv_iload hx hb dL_turn_511 (lv_at hl 7 rfl) ?_
    refine lv_imul hx hb dL_turn_513 ?_
    refine lv_ishr hx hb dL_turn_514 ?_
    refine lv_iconst (v := (3 : Int32)) hx hb dL_turn_515 (by decide) ?_
    refine lv_iand hx hb dL_turn_516 ?_
    refine lv_istore (lv' := [(12, .int ((v6 >>> (((2 : Int32) * v11) &&& 31)) &&& (3 : Int32))), (0, .ref (a 0)), (1, .ref (a 1)), (2, .ref (a 2)), (3, .ref (a 3)), (4, .ref (a 4)), (5, .int v5), (6, .int v6), (11, .int v11)]) hx hb dL_turn_517 hl (by decide) rfl (fun ls hl => ?_)
    refine lv_aload hx hb dL_turn_519 (lv_at hl 5 rfl) ?_
    refine lv_iconst (v := (4 : Int32)) hx hb dL_turn_521 (by decide) ?_
    refine lv_iload hx hb dL_turn_522 (lv_at hl 6 rfl) ?_
    refine lv_imul hx hb dL_turn_524 ?_
    refine lv_iload hx hb dL_turn_525 (lv_at hl 0 rfl) ?_
    refine lv_iadd hx hb dL_turn_527 ?_
    obtain ⟨hi, h⟩ := fo_ck_some h
    refine va_iald hx hb hK hG.1 4 0 rfl rfl hi dL_turn_528 ?_
    refine lv_aload_n hx hb dL_turn_529 rfl (lv_at hl 1 rfl) ?_
    refine lv_iconst (v := (4 : Int32)) hx hb dL_turn_530 (by decide) ?_
    obtain ⟨hi, h⟩ := fo_ck_some h
    refine va_iald hx hb hK hG.1 0 0 rfl rfl hi dL_turn_531 ?_
    refine lv_icmp_gt (tgt := 538) hx hb dL_turn_532 (by decide) (fun hc => ?_) (fun hc => ?_)
    · have h := fo_it h hc
      refine lv_iconst (v := (0 : Int32)) hx hb dL_turn_538 (by decide) ?_
      refine lv_istore (lv' := [(13, .int (0 : Int32)), (12, .int ((v6 >>> (((2 : Int32) * v11) &&& 31)) &&& (3 : Int32))), (0, .ref (a 0)), (1, .ref (a 1)), (2, .ref (a 2)), (3, .ref (a 3)), (4, .ref (a 4)), (5, .int v5), (6, .int v6), (11, .int v11)]) hx hb dL_turn_539 hl (by decide) rfl (fun ls hl => ?_)
      exact w9_turn_L541 C hK hA (fun h => hrec498 h) fo_fu h hG (lv_sub hl [2, 3, 4, 5, 6, 7, 8, 9, 1, 0] rfl)
    · have h := fo_if h hc
      refine lv_goto (tgt := 695) hx hb dL_turn_535 (by decide) ?_
      exact w9_turn_b695 C hK hA (fun h => hrec498 h) h hG (lv_sub hl [1, 2, 3, 4, 5, 6, 7, 8] rfl)
set_option maxRecDepth 100000 in
set_option maxHeartbeats 4000000 in
theorem w9_turn_L498 (C : cx_M p s m args meth c RL cL_turn none 16) (hK : va_K (dC, dI) vwCl [(cI, .int)] s) (hA : ∀ q, s.heap.size ≤ q → A q) {a : Nat → Nat} {q : ms_T} : ∀ (n : Nat) {v5 : Int32} {v6 : Int32} {v11 : Int32} {S : ms_T}, f9_turn_L498 n v5 v6 v11 S = some q → ∀ {H : Heap} {locs : List Loc} {ls : Array Slot}, gd_W (dC, dI) A s (wd_G cI a S) H locs → lv_has ls 16 [(0, .ref (a 0)), (1, .ref (a 1)), (2, .ref (a 2)), (3, .ref (a 3)), (4, .ref (a 4)), (5, .int v5), (6, .int v6), (11, .int v11)] → W p l e RM9_turn s m args below meth c H locs 0 0 (MQ below (qv_W (dC, dI) [(cI, .int)] A (wd_G cI a q)) args s 0 0 A) (F0 m 498 ls []) := by
  intro n
  induction n with
  | zero => intro _ _ _ _ h; exact nomatch h
  | succ n ih => intro v5 v6 v11 S h H locs ls hG hl; exact w9_turn_b498 C hK hA (fun h => ih h) (show f9_turn_b498 (f9_turn_L498 n) v5 v6 v11 S = some q from h) hG hl
set_option maxRecDepth 100000 in
set_option maxHeartbeats 4000000 in
theorem w9_turn_b477 (C : cx_M p s m args meth c RL cL_turn none 16) (hK : va_K (dC, dI) vwCl [(cI, .int)] s) (hA : ∀ q, s.heap.size ≤ q → A q) {a : Nat → Nat} {q : ms_T} {rec443 : Int32 → Int32 → ms_T → Option ms_T} (hrec443 : ∀ {v5 : Int32} {v11 : Int32} {S : ms_T} , rec443 v5 v11 S = some q → ∀ {H : Heap} {locs : List Loc} {ls : Array Slot}, gd_W (dC, dI) A s (wd_G cI a S) H locs → lv_has ls 16 [(0, .ref (a 0)), (1, .ref (a 1)), (2, .ref (a 2)), (3, .ref (a 3)), (4, .ref (a 4)), (5, .int v5), (11, .int v11)] → W p l e RM9_turn s m args below meth c H locs 0 0 (MQ below (qv_W (dC, dI) [(cI, .int)] A (wd_G cI a q)) args s 0 0 A) (F0 m 443 ls [])) {v5 : Int32} {v11 : Int32} {t1 : Int32} {t2 : Int32} {t3 : Int32} {S : ms_T} (h : f9_turn_b477 rec443 v5 v11 t1 t2 t3 S = some q) {H : Heap} {locs : List Loc} {ls : Array Slot} (hG : gd_W (dC, dI) A s (wd_G cI a S) H locs) (hl : lv_has ls 16 [(0, .ref (a 0)), (1, .ref (a 1)), (2, .ref (a 2)), (3, .ref (a 3)), (4, .ref (a 4)), (5, .int v5), (11, .int v11)]) : W p l e RM9_turn s m args below meth c H locs 0 0 (MQ below (qv_W (dC, dI) [(cI, .int)] A (wd_G cI a q)) args s 0 0 A) (F0 m 477 ls [.int t3, .int t2, .int t1, .ref (a 4)]) := by
  unfold f9_turn_b477 at h
  obtain ⟨hx, hb, hr, hts, hown, hlocks, hml⟩ := id C
  refine lv_iadd hx hb dL_turn_477 ?_
  obtain ⟨hi, h⟩ := fo_ck_some h
  obtain ⟨s478, es478, h⟩ := fo_bd_some h
  have es478 := Option.some.inj es478
  refine va_iast hx hb hK hG.1 hG.2.1 hG.2.2 4 0 rfl rfl hi dL_turn_478 (fun H locs hP9 hD9 hS9 => ?_)
  have hG : gd_W (dC, dI) A s (wd_G cI a (ms_set S 4 (upd (S 4) t1.toNatClampNeg (t2 + t3)))) H locs := ⟨hP9, hD9, hS9⟩
  rw [es478] at hG
  refine lv_iinc (v := (v11 + (1 : Int32))) (lv' := [(11, .int (v11 + (1 : Int32))), (0, .ref (a 0)), (1, .ref (a 1)), (2, .ref (a 2)), (3, .ref (a 3)), (4, .ref (a 4)), (5, .int v5)]) hx hb dL_turn_479 hl (k := 6) rfl rfl (by decide) rfl (fun ls hl => ?_)
  refine lv_goto (tgt := 443) hx hb dL_turn_482 (by decide) ?_
  exact hrec443 h hG (lv_sub hl [1, 2, 3, 4, 5, 6, 0] rfl)
set_option maxRecDepth 100000 in
set_option maxHeartbeats 4000000 in
theorem w9_turn_b443 (C : cx_M p s m args meth c RL cL_turn none 16) (hK : va_K (dC, dI) vwCl [(cI, .int)] s) (hA : ∀ q, s.heap.size ≤ q → A q) {a : Nat → Nat} {q : ms_T} {rec443 : Int32 → Int32 → ms_T → Option ms_T} (hrec443 : ∀ {v5 : Int32} {v11 : Int32} {S : ms_T} , rec443 v5 v11 S = some q → ∀ {H : Heap} {locs : List Loc} {ls : Array Slot}, gd_W (dC, dI) A s (wd_G cI a S) H locs → lv_has ls 16 [(0, .ref (a 0)), (1, .ref (a 1)), (2, .ref (a 2)), (3, .ref (a 3)), (4, .ref (a 4)), (5, .int v5), (11, .int v11)] → W p l e RM9_turn s m args below meth c H locs 0 0 (MQ below (qv_W (dC, dI) [(cI, .int)] A (wd_G cI a q)) args s 0 0 A) (F0 m 443 ls [])) {v5 : Int32} {v11 : Int32} {S : ms_T} (h : f9_turn_b443 rec443 v5 v11 S = some q) {H : Heap} {locs : List Loc} {ls : Array Slot} (hG : gd_W (dC, dI) A s (wd_G cI a S) H locs) (hl : lv_has ls 16 [(0, .ref (a 0)), (1, .ref (a 1)), (2, .ref (a 2)), (3, .ref (a 3)), (4, .ref (a 4)), (5, .int v5), (11, .int v11)]) : W p l e RM9_turn s m args below meth c H locs 0 0 (MQ below (qv_W (dC, dI) [(cI, .int)] A (wd_G cI a q)) args s 0 0 A) (F0 m 443 ls []) := by
  unfold f9_turn_b443 at h
  obtain ⟨hx, hb, hr, hts, hown, hlocks, hml⟩ := id C
  refine lv_iload hx hb dL_turn_443 (lv_at hl 6 rfl) ?_
  refine lv_iconst (v := (4 : Int32)) hx hb dL_turn_445 (by decide) ?_
  refine lv_icmp_ge (tgt := 485) hx hb dL_turn_446 (by decide) (fun hc => ?_) (fun hc => ?_)
  · have h := fo_it h hc
    refine lv_iload hx hb dL_turn_485 (lv_at hl 5 rfl) ?_
    refine lv_aload_n hx hb dL_turn_487 rfl (lv_at hl 3 rfl) ?_
    refine lv_aload hx hb dL_turn_488 (lv_at hl 4 rfl) ?_
    obtain ⟨q490, hq490, h⟩ := fo_bd_some h
    refine gc_iS (As := [.int v5, .ref (a 3), .ref (a 4)]) (rest := []) (wc := (wd_G cI a S)) (w1 := (wd_G cI a S)) ⟨hx, hb, hml, hown, hts⟩ (c9_creditors l (a := a) hq490) (va_cwS 3 hts gv_X9_11 rfl rfl rfl hd9_creditors ⟨Nat.le_of_ble_eq_true rfl, Nat.le_of_ble_eq_true rfl⟩) hK [0] rfl hA hG [0, 1, 2, 3, 4] rfl rfl rfl rfl hl.1 rfl (Nat.le_of_ble_eq_true rfl) dL_turn_490 ⟨Nat.zero_le _, Nat.zero_le _⟩ (fun H locs hG9 => ?_)
    have hG : gd_W (dC, dI) A s (wd_G cI a S) H locs := hG9
    refine lv_istore (lv' := [(6, .int q490), (0, .ref (a 0)), (1, .ref (a 1)), (2, .ref (a 2)), (3, .ref (a 3)), (4, .ref (a 4)), (5, .int v5), (11, .int v11)]) hx hb dL_turn_493 hl (by decide) rfl (fun ls hl => ?_)
    refine lv_iconst (v := (0 : Int32)) hx hb dL_turn_495 (by decide) ?_
    refine lv_istore (lv' := [(11, .int (0 : Int32)), (6, .int q490), (0, .ref (a 0)), (1, .ref (a 1)), (2, .ref (a 2)), (3, .ref (a 3)), (4, .ref (a 4)), (5, .int v5)]) hx hb dL_turn_496 hl (by decide) rfl (fun ls hl => ?_)
    exact w9_turn_L498 C hK hA fo_fu h hG (lv_sub hl [2, 3, 4, 5, 6, 7, 1, 0] rfl)
  · have h := fo_if h hc
    refine lv_aload hx hb dL_turn_449 (lv_at hl 4 rfl) ?_
    refine lv_iconst (v := (4 : Int32)) hx hb dL_turn_451 (by decide) ?_
    refine lv_iload hx hb dL_turn_452 (lv_at hl 5 rfl) ?_
    refine lv_imul hx hb dL_turn_454 ?_
    refine lv_iload hx hb dL_turn_455 (lv_at hl 6 rfl) ?_
    refine lv_iadd hx hb dL_turn_457 ?_
    refine lv_dup2_11 hx hb dL_turn_458 rfl rfl ?_
    obtain ⟨hi, h⟩ := fo_ck_some h
    refine va_iald hx hb hK hG.1 4 0 rfl rfl hi dL_turn_459 ?_
    refine lv_aload_n hx hb dL_turn_460 rfl (lv_at hl 3 rfl) ?_
    refine lv_iconst (v := (4 : Int32)) hx hb dL_turn_461 (by decide) ?_
    refine lv_iload hx hb dL_turn_462 (lv_at hl 5 rfl) ?_
    refine lv_imul hx hb dL_turn_464 ?_
    refine lv_iload hx hb dL_turn_465 (lv_at hl 6 rfl) ?_
    refine lv_iadd hx hb dL_turn_467 ?_
    obtain ⟨hi, h⟩ := fo_ck_some h
    refine va_iald hx hb hK hG.1 3 0 rfl rfl hi dL_turn_468 ?_
    refine lv_if_le (tgt := 476) hx hb dL_turn_469 (by decide) (fun hc => ?_) (fun hc => ?_)
    · have h := fo_it h hc
      refine lv_iconst (v := (0 : Int32)) hx hb dL_turn_476 (by decide) ?_
      exact w9_turn_b477 C hK hA (fun h => hrec443 h) h hG (lv_sub hl [0, 1, 2, 3, 4, 5, 6] rfl)
    · have h := fo_if h hc
      refine lv_iconst (v := (1 : Int32)) hx hb dL_turn_472 (by decide) ?_
      refine lv_goto (tgt := 477) hx hb dL_turn_473 (by decide) ?_
      exact w9_turn_b477 C hK hA (fun h => hrec443 h) h hG (lv_sub hl [0, 1, 2, 3, 4, 5, 6] rfl)
set_option maxRecDepth 100000 in
set_option maxHeartbeats 4000000 in
theorem w9_turn_L443 (C : cx_M p s m args meth c RL cL_turn none 16) (hK : va_K (dC, dI) vwCl [(cI, .int)] s) (hA : ∀ q, s.heap.size ≤ q → A q) {a : Nat → Nat} {q : ms_T} : ∀ (n : Nat) {v5 : Int32} {v11 : Int32} {S : ms_T}, f9_turn_L443 n v5 v11 S = some q → ∀ {H : Heap} {locs : List Loc} {ls : Array Slot}, gd_W (dC, dI) A s (wd_G cI a S) H locs → lv_has ls 16 [(0, .ref (a 0)), (1, .ref (a 1)), (2, .ref (a 2)), (3, .ref (a 3)), (4, .ref (a 4)), (5, .int v5), (11, .int v11)] → W p l e RM9_turn s m args below meth c H locs 0 0 (MQ below (qv_W (dC, dI) [(cI, .int)] A (wd_G cI a q)) args s 0 0 A) (F0 m 443 ls []) := by
  intro n
  induction n with
  | zero => intro _ _ _ h; exact nomatch h
  | succ n ih => intro v5 v11 S h H locs ls hG hl; exact w9_turn_b443 C hK hA (fun h => ih h) (show f9_turn_b443 (f9_turn_L443 n) v5 v11 S = some q from h) hG hl
set_option maxRecDepth 100000 in
set_option maxHeartbeats 4000000 in
theorem w9_turn_b440 (C : cx_M p s m args meth c RL cL_turn none 16) (hK : va_K (dC, dI) vwCl [(cI, .int)] s) (hA : ∀ q, s.heap.size ≤ q → A q) {a : Nat → Nat} {q : ms_T} {v5 : Int32} {S : ms_T} (h : f9_turn_b440 v5 S = some q) {H : Heap} {locs : List Loc} {ls : Array Slot} (hG : gd_W (dC, dI) A s (wd_G cI a S) H locs) (hl : lv_has ls 16 [(0, .ref (a 0)), (1, .ref (a 1)), (2, .ref (a 2)), (3, .ref (a 3)), (4, .ref (a 4)), (5, .int v5)]) : W p l e RM9_turn s m args below meth c H locs 0 0 (MQ below (qv_W (dC, dI) [(cI, .int)] A (wd_G cI a q)) args s 0 0 A) (F0 m 440 ls []) := by
  unfold f9_turn_b440 at h
  obtain ⟨hx, hb, hr, hts, hown, hlocks, hml⟩ := id C
  refine lv_iconst (v := (0 : Int32)) hx hb dL_turn_440 (by decide) ?_
  refine lv_istore (lv' := [(11, .int (0 : Int32)), (0, .ref (a 0)), (1, .ref (a 1)), (2, .ref (a 2)), (3, .ref (a 3)), (4, .ref (a 4)), (5, .int v5)]) hx hb dL_turn_441 hl (by decide) rfl (fun ls hl => ?_)
  exact w9_turn_L443 C hK hA fo_fu h hG (lv_sub hl [1, 2, 3, 4, 5, 6, 0] rfl)
set_option maxRecDepth 100000 in
set_option maxHeartbeats 4000000 in
theorem w9_turn_b413 (C : cx_M p s m args meth c RL cL_turn none 16) (hK : va_K (dC, dI) vwCl [(cI, .int)] s) (hA : ∀ q, s.heap.size ≤ q → A q) {a : Nat → Nat} {q : ms_T} {v5 : Int32} {v11 : Int32} {v12 : Int32} {t0 : Int32} {t1 : Int32} {t2 : Int32} {S : ms_T} (h : f9_turn_b413 v5 v11 v12 t0 t1 t2 S = some q) {H : Heap} {locs : List Loc} {ls : Array Slot} (hG : gd_W (dC, dI) A s (wd_G cI a S) H locs) (hl : lv_has ls 16 [(0, .ref (a 0)), (1, .ref (a 1)), (2, .ref (a 2)), (3, .ref (a 3)), (4, .ref (a 4)), (5, .int v5), (11, .int v11), (12, .int v12)]) : W p l e RM9_turn s m args below meth c H locs 0 0 (MQ below (qv_W (dC, dI) [(cI, .int)] A (wd_G cI a q)) args s 0 0 A) (F0 m 413 ls [.int t2, .int t1, .int t0]) := by
  unfold f9_turn_b413 at h
  obtain ⟨hx, hb, hr, hts, hown, hlocks, hml⟩ := id C
  refine lv_aload_n hx hb dL_turn_413 rfl (lv_at hl 1 rfl) ?_
  refine lv_aload_n hx hb dL_turn_414 rfl (lv_at hl 3 rfl) ?_
  refine lv_aload hx hb dL_turn_415 (lv_at hl 4 rfl) ?_
  obtain ⟨q417, hq417, h⟩ := fo_bd_some h
  refine gc_vS (As := [.int t0, .int t1, .int t2, .ref (a 1), .ref (a 3), .ref (a 4)]) (rest := []) (wc := (wd_G cI a S)) (w1 := (wd_G cI a q417)) ⟨hx, hb, hml, hown, hts⟩ (c9_pay l (a := a) hq417) (va_cwS 6 hts gv_X9_17 rfl rfl rfl hd9_pay ⟨Nat.le_of_ble_eq_true rfl, Nat.le_of_ble_eq_true rfl⟩) hK [0] rfl hA hG [0, 1, 2, 3, 4] rfl rfl rfl rfl hl.1 rfl (Nat.le_of_ble_eq_true rfl) dL_turn_417 ⟨Nat.zero_le _, Nat.zero_le _⟩ (fun H locs hG9 => ?_)
  have hG : gd_W (dC, dI) A s (wd_G cI a q417) H locs := hG9
  refine lv_iload hx hb dL_turn_420 (lv_at hl 7 rfl) ?_
  refine lv_if_lt (tgt := 440) hx hb dL_turn_422 (by decide) (fun hc => ?_) (fun hc => ?_)
  · have h := fo_it h hc
    exact w9_turn_b440 C hK hA h hG (lv_sub hl [0, 1, 2, 3, 4, 5] rfl)
  · have h := fo_if h hc
    refine lv_iload hx hb dL_turn_425 (lv_at hl 5 rfl) ?_
    refine lv_iload hx hb dL_turn_427 (lv_at hl 7 rfl) ?_
    refine lv_iload hx hb dL_turn_429 (lv_at hl 6 rfl) ?_
    refine lv_iconst (v := (2 : Int32)) hx hb dL_turn_431 (by decide) ?_
    refine lv_idiv hx hb dL_turn_432 (by decide) ?_
    refine lv_aload_n hx hb dL_turn_433 rfl (lv_at hl 1 rfl) ?_
    refine lv_aload_n hx hb dL_turn_434 rfl (lv_at hl 3 rfl) ?_
    refine lv_aload hx hb dL_turn_435 (lv_at hl 4 rfl) ?_
    obtain ⟨q437, hq437, h⟩ := fo_bd_some h
    refine gc_vS (As := [.int v5, .int v12, .int (v11 / (2 : Int32)), .ref (a 1), .ref (a 3), .ref (a 4)]) (rest := []) (wc := (wd_G cI a q417)) (w1 := (wd_G cI a q437)) ⟨hx, hb, hml, hown, hts⟩ (c9_pay l (a := a) hq437) (va_cwS 6 hts gv_X9_17 rfl rfl rfl hd9_pay ⟨Nat.le_of_ble_eq_true rfl, Nat.le_of_ble_eq_true rfl⟩) hK [0] rfl hA hG [0, 1, 2, 3, 4] rfl rfl rfl rfl hl.1 rfl (Nat.le_of_ble_eq_true rfl) dL_turn_437 ⟨Nat.zero_le _, Nat.zero_le _⟩ (fun H locs hG9 => ?_)
    have hG : gd_W (dC, dI) A s (wd_G cI a q437) H locs := hG9
    exact w9_turn_b440 C hK hA h hG (lv_sub hl [0, 1, 2, 3, 4, 5] rfl)
set_option maxRecDepth 100000 in
set_option maxHeartbeats 4000000 in
theorem w9_turn_b360 (C : cx_M p s m args meth c RL cL_turn none 16) (hK : va_K (dC, dI) vwCl [(cI, .int)] s) (hA : ∀ q, s.heap.size ≤ q → A q) {a : Nat → Nat} {q : ms_T} {v5 : Int32} {v8 : Int32} {v9 : Int32} {S : ms_T} (h : f9_turn_b360 v5 v8 v9 S = some q) {H : Heap} {locs : List Loc} {ls : Array Slot} (hG : gd_W (dC, dI) A s (wd_G cI a S) H locs) (hl : lv_has ls 16 [(0, .ref (a 0)), (1, .ref (a 1)), (2, .ref (a 2)), (3, .ref (a 3)), (4, .ref (a 4)), (5, .int v5), (8, .int v8), (9, .int v9)]) : W p l e RM9_turn s m args below meth c H locs 0 0 (MQ below (qv_W (dC, dI) [(cI, .int)] A (wd_G cI a q)) args s 0 0 A) (F0 m 360 ls []) := by
  unfold f9_turn_b360 at h
  obtain ⟨hx, hb, hr, hts, hown, hlocks, hml⟩ := id C
  refine lv_iload hx hb dL_turn_360 (lv_at hl 7 rfl) ?_
  refine lv_if_ne (tgt := 440) hx hb dL_turn_362 (by decide) (fun hc => ?_) (fun hc => ?_)
  · have h := fo_if h hc
    exact w9_turn_b440 C hK hA h hG (lv_sub hl [0, 1, 2, 3, 4, 5] rfl)
  · have h := fo_it h hc
    refine lv_aload_n hx hb dL_turn_365 rfl (lv_at hl 2 rfl) ?_
    refine lv_iload hx hb dL_turn_366 (lv_at hl 6 rfl) ?_
    obtain ⟨hi, h⟩ := fo_ck_some h
    refine va_iald hx hb hK hG.1 2 0 rfl rfl hi dL_turn_368 ?_
    refine lv_if_lt (tgt := 440) hx hb dL_turn_369 (by decide) (fun hc => ?_) (fun hc => ?_)
    · have h := fo_it h hc
      exact w9_turn_b440 C hK hA h hG (lv_sub hl [0, 1, 2, 3, 4, 5] rfl)
    · have h := fo_if h hc
      refine lv_iload hx hb dL_turn_372 (lv_at hl 6 rfl) ?_
      refine lv_aload_n hx hb dL_turn_374 rfl (lv_at hl 0 rfl) ?_
      refine lv_aload_n hx hb dL_turn_375 rfl (lv_at hl 2 rfl) ?_
      obtain ⟨q376, hq376, h⟩ := fo_bd_some h
      refine gc_iS (As := [.int v8, .ref (a 0), .ref (a 2)]) (rest := []) (wc := (wd_G cI a S)) (w1 := (wd_G cI a S)) ⟨hx, hb, hml, hown, hts⟩ (c9_toll l (a := a) hq376) (va_cwS 3 hts gv_X9_25 rfl rfl rfl hd9_toll ⟨Nat.le_of_ble_eq_true rfl, Nat.le_of_ble_eq_true rfl⟩) hK [0] rfl hA hG [0, 1, 2, 3, 4] rfl rfl rfl rfl hl.1 rfl (Nat.le_of_ble_eq_true rfl) dL_turn_376 ⟨Nat.zero_le _, Nat.zero_le _⟩ (fun H locs hG9 => ?_)
      have hG : gd_W (dC, dI) A s (wd_G cI a S) H locs := hG9
      refine lv_istore (lv' := [(11, .int q376), (0, .ref (a 0)), (1, .ref (a 1)), (2, .ref (a 2)), (3, .ref (a 3)), (4, .ref (a 4)), (5, .int v5), (8, .int v8), (9, .int v9)]) hx hb dL_turn_379 hl (by decide) rfl (fun ls hl => ?_)
      refine lv_aload_n hx hb dL_turn_381 rfl (lv_at hl 3 rfl) ?_
      refine lv_bipush (v := (20 : Int32)) hx hb dL_turn_382 (by decide) ?_
      refine lv_iload hx hb dL_turn_384 (lv_at hl 7 rfl) ?_
      refine lv_iadd hx hb dL_turn_386 ?_
      obtain ⟨hi, h⟩ := fo_ck_some h
      refine va_iald hx hb hK hG.1 2 0 rfl rfl hi dL_turn_387 ?_
      refine lv_istore (lv' := [(12, .int ((S 2) ((20 : Int32) + v8).toNatClampNeg)), (11, .int q376), (0, .ref (a 0)), (1, .ref (a 1)), (2, .ref (a 2)), (3, .ref (a 3)), (4, .ref (a 4)), (5, .int v5), (8, .int v8), (9, .int v9)]) hx hb dL_turn_388 hl (by decide) rfl (fun ls hl => ?_)
      refine lv_iload hx hb dL_turn_390 (lv_at hl 7 rfl) ?_
      refine lv_aload_n hx hb dL_turn_392 rfl (lv_at hl 4 rfl) ?_
      refine lv_iload hx hb dL_turn_393 (lv_at hl 8 rfl) ?_
      obtain ⟨hi, h⟩ := fo_ck_some h
      refine va_iald hx hb hK hG.1 2 0 rfl rfl hi dL_turn_395 ?_
      refine lv_iload hx hb dL_turn_396 (lv_at hl 0 rfl) ?_
      refine lv_if_ge (tgt := 406) hx hb dL_turn_398 (by decide) (fun hc => ?_) (fun hc => ?_)
      · have h := fo_it h hc
        refine lv_iload hx hb dL_turn_406 (lv_at hl 1 rfl) ?_
        refine lv_iload hx hb dL_turn_408 (lv_at hl 1 rfl) ?_
        refine lv_iconst (v := (2 : Int32)) hx hb dL_turn_410 (by decide) ?_
        refine lv_idiv hx hb dL_turn_411 (by decide) ?_
        refine lv_isub hx hb dL_turn_412 ?_
        exact w9_turn_b413 C hK hA h hG (lv_sub hl [2, 3, 4, 5, 6, 7, 1, 0] rfl)
      · have h := fo_if h hc
        refine lv_iload hx hb dL_turn_401 (lv_at hl 1 rfl) ?_
        refine lv_goto (tgt := 413) hx hb dL_turn_403 (by decide) ?_
        exact w9_turn_b413 C hK hA h hG (lv_sub hl [2, 3, 4, 5, 6, 7, 1, 0] rfl)
set_option maxRecDepth 100000 in
set_option maxHeartbeats 4000000 in
theorem w9_turn_b357 (C : cx_M p s m args meth c RL cL_turn none 16) (hK : va_K (dC, dI) vwCl [(cI, .int)] s) (hA : ∀ q, s.heap.size ≤ q → A q) {a : Nat → Nat} {q : ms_T} {v5 : Int32} {v8 : Int32} {S : ms_T} (h : f9_turn_b357 v5 v8 S = some q) {H : Heap} {locs : List Loc} {ls : Array Slot} (hG : gd_W (dC, dI) A s (wd_G cI a S) H locs) (hl : lv_has ls 16 [(0, .ref (a 0)), (1, .ref (a 1)), (2, .ref (a 2)), (3, .ref (a 3)), (4, .ref (a 4)), (5, .int v5), (8, .int v8)]) : W p l e RM9_turn s m args below meth c H locs 0 0 (MQ below (qv_W (dC, dI) [(cI, .int)] A (wd_G cI a q)) args s 0 0 A) (F0 m 357 ls []) := by
  unfold f9_turn_b357 at h
  obtain ⟨hx, hb, hr, hts, hown, hlocks, hml⟩ := id C
  refine lv_iconst (v := (1 : Int32)) hx hb dL_turn_357 (by decide) ?_
  refine lv_istore (lv' := [(9, .int (1 : Int32)), (0, .ref (a 0)), (1, .ref (a 1)), (2, .ref (a 2)), (3, .ref (a 3)), (4, .ref (a 4)), (5, .int v5), (8, .int v8)]) hx hb dL_turn_358 hl (by decide) rfl (fun ls hl => ?_)
  exact w9_turn_b360 C hK hA h hG (lv_sub hl [1, 2, 3, 4, 5, 6, 7, 0] rfl)
set_option maxRecDepth 100000 in
set_option maxHeartbeats 4000000 in
theorem w9_turn_b259 (C : cx_M p s m args meth c RL cL_turn none 16) (hK : va_K (dC, dI) vwCl [(cI, .int)] s) (hA : ∀ q, s.heap.size ≤ q → A q) {a : Nat → Nat} {q : ms_T} {v5 : Int32} {v8 : Int32} {v9 : Int32} {t0 : Int32} {S : ms_T} (h : f9_turn_b259 v5 v8 v9 t0 S = some q) {H : Heap} {locs : List Loc} {ls : Array Slot} (hG : gd_W (dC, dI) A s (wd_G cI a S) H locs) (hl : lv_has ls 16 [(0, .ref (a 0)), (1, .ref (a 1)), (2, .ref (a 2)), (3, .ref (a 3)), (4, .ref (a 4)), (5, .int v5), (8, .int v8), (9, .int v9)]) : W p l e RM9_turn s m args below meth c H locs 0 0 (MQ below (qv_W (dC, dI) [(cI, .int)] A (wd_G cI a q)) args s 0 0 A) (F0 m 259 ls [.int t0]) := by
  unfold f9_turn_b259 at h
  obtain ⟨hx, hb, hr, hts, hown, hlocks, hml⟩ := id C
  refine lv_istore (lv' := [(10, .int t0), (0, .ref (a 0)), (1, .ref (a 1)), (2, .ref (a 2)), (3, .ref (a 3)), (4, .ref (a 4)), (5, .int v5), (8, .int v8), (9, .int v9)]) hx hb dL_turn_259 hl (by decide) rfl (fun ls hl => ?_)
  refine lv_iload hx hb dL_turn_261 (lv_at hl 8 rfl) ?_
  refine lv_if_ne (tgt := 360) hx hb dL_turn_263 (by decide) (fun hc => ?_) (fun hc => ?_)
  · have h := fo_if h hc
    exact w9_turn_b360 C hK hA h hG (lv_sub hl [1, 2, 3, 4, 5, 6, 7, 8] rfl)
  · have h := fo_it h hc
    refine lv_iload hx hb dL_turn_266 (lv_at hl 0 rfl) ?_
    refine lv_if_eq (tgt := 360) hx hb dL_turn_268 (by decide) (fun hc => ?_) (fun hc => ?_)
    · have h := fo_it h hc
      exact w9_turn_b360 C hK hA h hG (lv_sub hl [1, 2, 3, 4, 5, 6, 7, 8] rfl)
    · have h := fo_if h hc
      refine lv_aload_n hx hb dL_turn_271 rfl (lv_at hl 1 rfl) ?_
      obtain ⟨q272, hq272, h⟩ := fo_bd_some h
      refine gc_iS (As := [.ref (a 0)]) (rest := []) (wc := (wd_G cI a S)) (w1 := (wd_G cI a q272.2)) ⟨hx, hb, hml, hown, hts⟩ (c9_die l (a := a) hq272) (va_cwS 1 hts gv_X9_21 rfl rfl rfl hd9_die ⟨Nat.le_of_ble_eq_true rfl, Nat.le_of_ble_eq_true rfl⟩) hK [0] rfl hA hG [0, 1, 2, 3, 4] rfl rfl rfl rfl hl.1 rfl (Nat.le_of_ble_eq_true rfl) dL_turn_272 ⟨Nat.zero_le _, Nat.zero_le _⟩ (fun H locs hG9 => ?_)
      have hG : gd_W (dC, dI) A s (wd_G cI a q272.2) H locs := hG9
      refine lv_aload_n hx hb dL_turn_275 rfl (lv_at hl 1 rfl) ?_
      refine lv_iconst (v := (3 : Int32)) hx hb dL_turn_276 (by decide) ?_
      obtain ⟨hi, h⟩ := fo_ck_some h
      refine va_iald hx hb hK hG.1 0 0 rfl rfl hi dL_turn_277 ?_
      refine lv_icmp_lt (tgt := 360) hx hb dL_turn_278 (by decide) (fun hc => ?_) (fun hc => ?_)
      · have h := fo_it h hc
        exact w9_turn_b360 C hK hA h hG (lv_sub hl [1, 2, 3, 4, 5, 6, 7, 8] rfl)
      · have h := fo_if h hc
        refine lv_aload_n hx hb dL_turn_281 rfl (lv_at hl 2 rfl) ?_
        refine lv_bipush (v := (6 : Int32)) hx hb dL_turn_282 (by decide) ?_
        refine lv_iload hx hb dL_turn_284 (lv_at hl 6 rfl) ?_
        refine lv_imul hx hb dL_turn_286 ?_
        obtain ⟨hi, h⟩ := fo_ck_some h
        refine va_iald hx hb hK hG.1 1 0 rfl rfl hi dL_turn_287 ?_
        refine lv_aload_n hx hb dL_turn_288 rfl (lv_at hl 1 rfl) ?_
        refine lv_iconst (v := (1 : Int32)) hx hb dL_turn_289 (by decide) ?_
        obtain ⟨hi, h⟩ := fo_ck_some h
        refine va_iald hx hb hK hG.1 0 0 rfl rfl hi dL_turn_290 ?_
        refine lv_icmp_lt (tgt := 360) hx hb dL_turn_291 (by decide) (fun hc => ?_) (fun hc => ?_)
        · have h := fo_it h hc
          exact w9_turn_b360 C hK hA h hG (lv_sub hl [1, 2, 3, 4, 5, 6, 7, 8] rfl)
        · have h := fo_if h hc
          refine lv_aload_n hx hb dL_turn_294 rfl (lv_at hl 2 rfl) ?_
          refine lv_bipush (v := (6 : Int32)) hx hb dL_turn_295 (by decide) ?_
          refine lv_iload hx hb dL_turn_297 (lv_at hl 6 rfl) ?_
          refine lv_imul hx hb dL_turn_299 ?_
          refine lv_dup2_11 hx hb dL_turn_300 rfl rfl ?_
          obtain ⟨hi, h⟩ := fo_ck_some h
          refine va_iald hx hb hK hG.1 1 0 rfl rfl hi dL_turn_301 ?_
          refine lv_aload_n hx hb dL_turn_302 rfl (lv_at hl 1 rfl) ?_
          refine lv_iconst (v := (1 : Int32)) hx hb dL_turn_303 (by decide) ?_
          obtain ⟨hi, h⟩ := fo_ck_some h
          refine va_iald hx hb hK hG.1 0 0 rfl rfl hi dL_turn_304 ?_
          refine lv_isub hx hb dL_turn_305 ?_
          obtain ⟨hi, h⟩ := fo_ck_some h
          obtain ⟨s306, es306, h⟩ := fo_bd_some h
          have es306 := Option.some.inj es306
          refine va_iast hx hb hK hG.1 hG.2.1 hG.2.2 1 0 rfl rfl hi dL_turn_306 (fun H locs hP9 hD9 hS9 => ?_)
          have hG : gd_W (dC, dI) A s (wd_G cI a (ms_set q272.2 1 (upd (q272.2 1) ((6 : Int32) * v5).toNatClampNeg (((q272.2 1) ((6 : Int32) * v5).toNatClampNeg) - ((q272.2 0) (1 : Int32).toNatClampNeg))))) H locs := ⟨hP9, hD9, hS9⟩
          rw [es306] at hG
          refine lv_aload_n hx hb dL_turn_307 rfl (lv_at hl 3 rfl) ?_
          refine lv_iload hx hb dL_turn_308 (lv_at hl 7 rfl) ?_
          obtain ⟨hi, h⟩ := fo_ck_some h
          refine va_iald hx hb hK hG.1 2 0 rfl rfl hi dL_turn_310 ?_
          refine lv_if_ge (tgt := 333) hx hb dL_turn_311 (by decide) (fun hc => ?_) (fun hc => ?_)
          · have h := fo_it h hc
            refine lv_aload_n hx hb dL_turn_333 rfl (lv_at hl 3 rfl) ?_
            refine lv_bipush (v := (20 : Int32)) hx hb dL_turn_334 (by decide) ?_
            refine lv_iload hx hb dL_turn_336 (lv_at hl 7 rfl) ?_
            refine lv_iadd hx hb dL_turn_338 ?_
            refine lv_iload hx hb dL_turn_339 (lv_at hl 6 rfl) ?_
            obtain ⟨hi, h⟩ := fo_ck_some h
            obtain ⟨s341, es341, h⟩ := fo_bd_some h
            have es341 := Option.some.inj es341
            refine va_iast hx hb hK hG.1 hG.2.1 hG.2.2 2 0 rfl rfl hi dL_turn_341 (fun H locs hP9 hD9 hS9 => ?_)
            have hG : gd_W (dC, dI) A s (wd_G cI a (ms_set s306 2 (upd (s306 2) ((20 : Int32) + v8).toNatClampNeg v5))) H locs := ⟨hP9, hD9, hS9⟩
            rw [es341] at hG
            refine lv_aload_n hx hb dL_turn_342 rfl (lv_at hl 2 rfl) ?_
            refine lv_bipush (v := (6 : Int32)) hx hb dL_turn_343 (by decide) ?_
            refine lv_aload_n hx hb dL_turn_345 rfl (lv_at hl 3 rfl) ?_
            refine lv_iload hx hb dL_turn_346 (lv_at hl 7 rfl) ?_
            obtain ⟨hi, h⟩ := fo_ck_some h
            refine va_iald hx hb hK hG.1 2 0 rfl rfl hi dL_turn_348 ?_
            refine lv_imul hx hb dL_turn_349 ?_
            refine lv_dup2_11 hx hb dL_turn_350 rfl rfl ?_
            obtain ⟨hi, h⟩ := fo_ck_some h
            refine va_iald hx hb hK hG.1 1 0 rfl rfl hi dL_turn_351 ?_
            refine lv_aload_n hx hb dL_turn_352 rfl (lv_at hl 1 rfl) ?_
            refine lv_iconst (v := (1 : Int32)) hx hb dL_turn_353 (by decide) ?_
            obtain ⟨hi, h⟩ := fo_ck_some h
            refine va_iald hx hb hK hG.1 0 0 rfl rfl hi dL_turn_354 ?_
            refine lv_iadd hx hb dL_turn_355 ?_
            obtain ⟨hi, h⟩ := fo_ck_some h
            obtain ⟨s356, es356, h⟩ := fo_bd_some h
            have es356 := Option.some.inj es356
            refine va_iast hx hb hK hG.1 hG.2.1 hG.2.2 1 0 rfl rfl hi dL_turn_356 (fun H locs hP9 hD9 hS9 => ?_)
            have hG : gd_W (dC, dI) A s (wd_G cI a (ms_set s341 1 (upd (s341 1) ((6 : Int32) * ((s341 2) v8.toNatClampNeg)).toNatClampNeg (((s341 1) ((6 : Int32) * ((s341 2) v8.toNatClampNeg)).toNatClampNeg) + ((s341 0) (1 : Int32).toNatClampNeg))))) H locs := ⟨hP9, hD9, hS9⟩
            rw [es356] at hG
            exact w9_turn_b357 C hK hA h hG (lv_sub hl [1, 2, 3, 4, 5, 6, 7] rfl)
          · have h := fo_if h hc
            refine lv_aload_n hx hb dL_turn_314 rfl (lv_at hl 3 rfl) ?_
            refine lv_iload hx hb dL_turn_315 (lv_at hl 7 rfl) ?_
            refine lv_iload hx hb dL_turn_317 (lv_at hl 6 rfl) ?_
            obtain ⟨hi, h⟩ := fo_ck_some h
            obtain ⟨s319, es319, h⟩ := fo_bd_some h
            have es319 := Option.some.inj es319
            refine va_iast hx hb hK hG.1 hG.2.1 hG.2.2 2 0 rfl rfl hi dL_turn_319 (fun H locs hP9 hD9 hS9 => ?_)
            have hG : gd_W (dC, dI) A s (wd_G cI a (ms_set s306 2 (upd (s306 2) v8.toNatClampNeg v5))) H locs := ⟨hP9, hD9, hS9⟩
            rw [es319] at hG
            refine lv_aload_n hx hb dL_turn_320 rfl (lv_at hl 1 rfl) ?_
            refine lv_bipush (v := (9 : Int32)) hx hb dL_turn_321 (by decide) ?_
            refine lv_dup2_11 hx hb dL_turn_323 rfl rfl ?_
            obtain ⟨hi, h⟩ := fo_ck_some h
            refine va_iald hx hb hK hG.1 0 0 rfl rfl hi dL_turn_324 ?_
            refine lv_aload_n hx hb dL_turn_325 rfl (lv_at hl 1 rfl) ?_
            refine lv_iconst (v := (1 : Int32)) hx hb dL_turn_326 (by decide) ?_
            obtain ⟨hi, h⟩ := fo_ck_some h
            refine va_iald hx hb hK hG.1 0 0 rfl rfl hi dL_turn_327 ?_
            refine lv_iadd hx hb dL_turn_328 ?_
            obtain ⟨hi, h⟩ := fo_ck_some h
            obtain ⟨s329, es329, h⟩ := fo_bd_some h
            have es329 := Option.some.inj es329
            refine va_iast hx hb hK hG.1 hG.2.1 hG.2.2 0 0 rfl rfl hi dL_turn_329 (fun H locs hP9 hD9 hS9 => ?_)
            have hG : gd_W (dC, dI) A s (wd_G cI a (ms_set s319 0 (upd (s319 0) (9 : Int32).toNatClampNeg (((s319 0) (9 : Int32).toNatClampNeg) + ((s319 0) (1 : Int32).toNatClampNeg))))) H locs := ⟨hP9, hD9, hS9⟩
            rw [es329] at hG
            refine lv_goto (tgt := 357) hx hb dL_turn_330 (by decide) ?_
            exact w9_turn_b357 C hK hA h hG (lv_sub hl [1, 2, 3, 4, 5, 6, 7] rfl)
set_option maxRecDepth 100000 in
set_option maxHeartbeats 4000000 in
theorem w9_turn_b258 (C : cx_M p s m args meth c RL cL_turn none 16) (hK : va_K (dC, dI) vwCl [(cI, .int)] s) (hA : ∀ q, s.heap.size ≤ q → A q) {a : Nat → Nat} {q : ms_T} {v5 : Int32} {v8 : Int32} {v9 : Int32} {S : ms_T} (h : f9_turn_b258 v5 v8 v9 S = some q) {H : Heap} {locs : List Loc} {ls : Array Slot} (hG : gd_W (dC, dI) A s (wd_G cI a S) H locs) (hl : lv_has ls 16 [(0, .ref (a 0)), (1, .ref (a 1)), (2, .ref (a 2)), (3, .ref (a 3)), (4, .ref (a 4)), (5, .int v5), (8, .int v8), (9, .int v9)]) : W p l e RM9_turn s m args below meth c H locs 0 0 (MQ below (qv_W (dC, dI) [(cI, .int)] A (wd_G cI a q)) args s 0 0 A) (F0 m 258 ls []) := by
  unfold f9_turn_b258 at h
  obtain ⟨hx, hb, hr, hts, hown, hlocks, hml⟩ := id C
  refine lv_iconst (v := (0 : Int32)) hx hb dL_turn_258 (by decide) ?_
  exact w9_turn_b259 C hK hA h hG (lv_sub hl [0, 1, 2, 3, 4, 5, 6, 7] rfl)
set_option maxRecDepth 100000 in
set_option maxHeartbeats 4000000 in
theorem w9_turn_b254 (C : cx_M p s m args meth c RL cL_turn none 16) (hK : va_K (dC, dI) vwCl [(cI, .int)] s) (hA : ∀ q, s.heap.size ≤ q → A q) {a : Nat → Nat} {q : ms_T} {v5 : Int32} {v8 : Int32} {v9 : Int32} {S : ms_T} (h : f9_turn_b254 v5 v8 v9 S = some q) {H : Heap} {locs : List Loc} {ls : Array Slot} (hG : gd_W (dC, dI) A s (wd_G cI a S) H locs) (hl : lv_has ls 16 [(0, .ref (a 0)), (1, .ref (a 1)), (2, .ref (a 2)), (3, .ref (a 3)), (4, .ref (a 4)), (5, .int v5), (8, .int v8), (9, .int v9)]) : W p l e RM9_turn s m args below meth c H locs 0 0 (MQ below (qv_W (dC, dI) [(cI, .int)] A (wd_G cI a q)) args s 0 0 A) (F0 m 254 ls []) := by
  unfold f9_turn_b254 at h
  obtain ⟨hx, hb, hr, hts, hown, hlocks, hml⟩ := id C
  refine lv_iconst (v := (1 : Int32)) hx hb dL_turn_254 (by decide) ?_
  refine lv_goto (tgt := 259) hx hb dL_turn_255 (by decide) ?_
  exact w9_turn_b259 C hK hA h hG (lv_sub hl [0, 1, 2, 3, 4, 5, 6, 7] rfl)
set_option maxRecDepth 100000 in
set_option maxHeartbeats 4000000 in
theorem w9_turn_b235 (C : cx_M p s m args meth c RL cL_turn none 16) (hK : va_K (dC, dI) vwCl [(cI, .int)] s) (hA : ∀ q, s.heap.size ≤ q → A q) {a : Nat → Nat} {q : ms_T} {v5 : Int32} {v8 : Int32} {v9 : Int32} {S : ms_T} (h : f9_turn_b235 v5 v8 v9 S = some q) {H : Heap} {locs : List Loc} {ls : Array Slot} (hG : gd_W (dC, dI) A s (wd_G cI a S) H locs) (hl : lv_has ls 16 [(0, .ref (a 0)), (1, .ref (a 1)), (2, .ref (a 2)), (3, .ref (a 3)), (4, .ref (a 4)), (5, .int v5), (8, .int v8), (9, .int v9)]) : W p l e RM9_turn s m args below meth c H locs 0 0 (MQ below (qv_W (dC, dI) [(cI, .int)] A (wd_G cI a q)) args s 0 0 A) (F0 m 235 ls []) := by
  unfold f9_turn_b235 at h
  obtain ⟨hx, hb, hr, hts, hown, hlocks, hml⟩ := id C
  refine lv_iload hx hb dL_turn_235 (lv_at hl 6 rfl) ?_
  refine lv_bipush (v := (10 : Int32)) hx hb dL_turn_237 (by decide) ?_
  refine lv_irem hx hb dL_turn_239 (by decide) ?_
  refine lv_iconst (v := (5 : Int32)) hx hb dL_turn_240 (by decide) ?_
  refine lv_icmp_ne (tgt := 258) hx hb dL_turn_241 (by decide) (fun hc => ?_) (fun hc => ?_)
  · have h := fo_if h hc
    exact w9_turn_b258 C hK hA h hG (lv_sub hl [0, 1, 2, 3, 4, 5, 6, 7] rfl)
  · have h := fo_it h hc
    refine lv_aload_n hx hb dL_turn_244 rfl (lv_at hl 2 rfl) ?_
    refine lv_bipush (v := (20 : Int32)) hx hb dL_turn_245 (by decide) ?_
    refine lv_iload hx hb dL_turn_247 (lv_at hl 6 rfl) ?_
    refine lv_iadd hx hb dL_turn_249 ?_
    obtain ⟨hi, h⟩ := fo_ck_some h
    refine va_iald hx hb hK hG.1 2 0 rfl rfl hi dL_turn_250 ?_
    refine lv_if_ge (tgt := 258) hx hb dL_turn_251 (by decide) (fun hc => ?_) (fun hc => ?_)
    · have h := fo_it h hc
      exact w9_turn_b258 C hK hA h hG (lv_sub hl [0, 1, 2, 3, 4, 5, 6, 7] rfl)
    · have h := fo_if h hc
      exact w9_turn_b254 C hK hA h hG (lv_sub hl [0, 1, 2, 3, 4, 5, 6, 7] rfl)
set_option maxRecDepth 100000 in
set_option maxHeartbeats 4000000 in
theorem w9_turn_b219 (C : cx_M p s m args meth c RL cL_turn none 16) (hK : va_K (dC, dI) vwCl [(cI, .int)] s) (hA : ∀ q, s.heap.size ≤ q → A q) {a : Nat → Nat} {q : ms_T} {v5 : Int32} {v8 : Int32} {t0 : Int32} {S : ms_T} (h : f9_turn_b219 v5 v8 t0 S = some q) {H : Heap} {locs : List Loc} {ls : Array Slot} (hG : gd_W (dC, dI) A s (wd_G cI a S) H locs) (hl : lv_has ls 16 [(0, .ref (a 0)), (1, .ref (a 1)), (2, .ref (a 2)), (3, .ref (a 3)), (4, .ref (a 4)), (5, .int v5), (8, .int v8)]) : W p l e RM9_turn s m args below meth c H locs 0 0 (MQ below (qv_W (dC, dI) [(cI, .int)] A (wd_G cI a q)) args s 0 0 A) (F0 m 219 ls [.int t0]) := by
  unfold f9_turn_b219 at h
  obtain ⟨hx, hb, hr, hts, hown, hlocks, hml⟩ := id C
  refine lv_istore (lv' := [(9, .int t0), (0, .ref (a 0)), (1, .ref (a 1)), (2, .ref (a 2)), (3, .ref (a 3)), (4, .ref (a 4)), (5, .int v5), (8, .int v8)]) hx hb dL_turn_219 hl (by decide) rfl (fun ls hl => ?_)
  refine lv_iload hx hb dL_turn_221 (lv_at hl 7 rfl) ?_
  refine lv_iconst (v := (5 : Int32)) hx hb dL_turn_223 (by decide) ?_
  refine lv_irem hx hb dL_turn_224 (by decide) ?_
  refine lv_if_eq (tgt := 235) hx hb dL_turn_225 (by decide) (fun hc => ?_) (fun hc => ?_)
  · have h := fo_it h hc
    exact w9_turn_b235 C hK hA h hG (lv_sub hl [1, 2, 3, 4, 5, 6, 7, 0] rfl)
  · have h := fo_if h hc
    refine lv_aload_n hx hb dL_turn_228 rfl (lv_at hl 3 rfl) ?_
    refine lv_iload hx hb dL_turn_229 (lv_at hl 7 rfl) ?_
    obtain ⟨hi, h⟩ := fo_ck_some h
    refine va_iald hx hb hK hG.1 2 0 rfl rfl hi dL_turn_231 ?_
    refine lv_if_lt (tgt := 254) hx hb dL_turn_232 (by decide) (fun hc => ?_) (fun hc => ?_)
    · have h := fo_it h hc
      exact w9_turn_b254 C hK hA h hG (lv_sub hl [1, 2, 3, 4, 5, 6, 7, 0] rfl)
    · have h := fo_if h hc
      exact w9_turn_b235 C hK hA h hG (lv_sub hl [1, 2, 3, 4, 5, 6, 7, 0] rfl)
set_option maxRecDepth 100000 in
set_option maxHeartbeats 4000000 in
theorem w9_turn_b214 (C : cx_M p s m args meth c RL cL_turn none 16) (hK : va_K (dC, dI) vwCl [(cI, .int)] s) (hA : ∀ q, s.heap.size ≤ q → A q) {a : Nat → Nat} {q : ms_T} {v5 : Int32} {v8 : Int32} {S : ms_T} (h : f9_turn_b214 v5 v8 S = some q) {H : Heap} {locs : List Loc} {ls : Array Slot} (hG : gd_W (dC, dI) A s (wd_G cI a S) H locs) (hl : lv_has ls 16 [(0, .ref (a 0)), (1, .ref (a 1)), (2, .ref (a 2)), (3, .ref (a 3)), (4, .ref (a 4)), (5, .int v5), (8, .int v8)]) : W p l e RM9_turn s m args below meth c H locs 0 0 (MQ below (qv_W (dC, dI) [(cI, .int)] A (wd_G cI a q)) args s 0 0 A) (F0 m 214 ls []) := by
  unfold f9_turn_b214 at h
  obtain ⟨hx, hb, hr, hts, hown, hlocks, hml⟩ := id C
  refine lv_iconst (v := (1 : Int32)) hx hb dL_turn_214 (by decide) ?_
  refine lv_goto (tgt := 219) hx hb dL_turn_215 (by decide) ?_
  exact w9_turn_b219 C hK hA h hG (lv_sub hl [0, 1, 2, 3, 4, 5, 6] rfl)
set_option maxRecDepth 100000 in
set_option maxHeartbeats 4000000 in
theorem w9_turn_b182 (C : cx_M p s m args meth c RL cL_turn none 16) (hK : va_K (dC, dI) vwCl [(cI, .int)] s) (hA : ∀ q, s.heap.size ≤ q → A q) {a : Nat → Nat} {q : ms_T} {v5 : Int32} {v8 : Int32} {S : ms_T} (h : f9_turn_b182 v5 v8 S = some q) {H : Heap} {locs : List Loc} {ls : Array Slot} (hG : gd_W (dC, dI) A s (wd_G cI a S) H locs) (hl : lv_has ls 16 [(0, .ref (a 0)), (1, .ref (a 1)), (2, .ref (a 2)), (3, .ref (a 3)), (4, .ref (a 4)), (5, .int v5), (8, .int v8)]) : W p l e RM9_turn s m args below meth c H locs 0 0 (MQ below (qv_W (dC, dI) [(cI, .int)] A (wd_G cI a q)) args s 0 0 A) (F0 m 182 ls []) := by
  unfold f9_turn_b182 at h
  obtain ⟨hx, hb, hr, hts, hown, hlocks, hml⟩ := id C
  refine lv_aload_n hx hb dL_turn_182 rfl (lv_at hl 1 rfl) ?_
  refine lv_bipush (v := (6 : Int32)) hx hb dL_turn_183 (by decide) ?_
  refine lv_iload hx hb dL_turn_185 (lv_at hl 5 rfl) ?_
  refine lv_imul hx hb dL_turn_187 ?_
  refine lv_iconst (v := (1 : Int32)) hx hb dL_turn_188 (by decide) ?_
  refine lv_iadd hx hb dL_turn_189 ?_
  refine lv_iload hx hb dL_turn_190 (lv_at hl 6 rfl) ?_
  obtain ⟨hi, h⟩ := fo_ck_some h
  obtain ⟨s192, es192, h⟩ := fo_bd_some h
  have es192 := Option.some.inj es192
  refine va_iast hx hb hK hG.1 hG.2.1 hG.2.2 1 0 rfl rfl hi dL_turn_192 (fun H locs hP9 hD9 hS9 => ?_)
  have hG : gd_W (dC, dI) A s (wd_G cI a (ms_set S 1 (upd (S 1) (((6 : Int32) * v5) + (1 : Int32)).toNatClampNeg v8))) H locs := ⟨hP9, hD9, hS9⟩
  rw [es192] at hG
  refine lv_aload_n hx hb dL_turn_193 rfl (lv_at hl 2 rfl) ?_
  refine lv_iload hx hb dL_turn_194 (lv_at hl 6 rfl) ?_
  obtain ⟨hi, h⟩ := fo_ck_some h
  refine va_iald hx hb hK hG.1 2 0 rfl rfl hi dL_turn_196 ?_
  refine lv_iload hx hb dL_turn_197 (lv_at hl 5 rfl) ?_
  refine lv_icmp_eq (tgt := 214) hx hb dL_turn_199 (by decide) (fun hc => ?_) (fun hc => ?_)
  · have h := fo_it h hc
    exact w9_turn_b214 C hK hA h hG (lv_sub hl [0, 1, 2, 3, 4, 5, 6] rfl)
  · have h := fo_if h hc
    refine lv_aload_n hx hb dL_turn_202 rfl (lv_at hl 2 rfl) ?_
    refine lv_bipush (v := (20 : Int32)) hx hb dL_turn_203 (by decide) ?_
    refine lv_iload hx hb dL_turn_205 (lv_at hl 6 rfl) ?_
    refine lv_iadd hx hb dL_turn_207 ?_
    obtain ⟨hi, h⟩ := fo_ck_some h
    refine va_iald hx hb hK hG.1 2 0 rfl rfl hi dL_turn_208 ?_
    refine lv_iload hx hb dL_turn_209 (lv_at hl 5 rfl) ?_
    refine lv_icmp_ne (tgt := 218) hx hb dL_turn_211 (by decide) (fun hc => ?_) (fun hc => ?_)
    · have h := fo_if h hc
      refine lv_iconst (v := (0 : Int32)) hx hb dL_turn_218 (by decide) ?_
      exact w9_turn_b219 C hK hA h hG (lv_sub hl [0, 1, 2, 3, 4, 5, 6] rfl)
    · have h := fo_it h hc
      exact w9_turn_b214 C hK hA h hG (lv_sub hl [0, 1, 2, 3, 4, 5, 6] rfl)
set_option maxRecDepth 100000 in
set_option maxHeartbeats 4000000 in
theorem w9_turn_b113 (C : cx_M p s m args meth c RL cL_turn none 16) (hK : va_K (dC, dI) vwCl [(cI, .int)] s) (hA : ∀ q, s.heap.size ≤ q → A q) {a : Nat → Nat} {q : ms_T} {rec19 : Int32 → Int32 → Int32 → ms_T → Option ms_T} (hrec19 : ∀ {v5 : Int32} {v6 : Int32} {v7 : Int32} {S : ms_T} , rec19 v5 v6 v7 S = some q → ∀ {H : Heap} {locs : List Loc} {ls : Array Slot}, gd_W (dC, dI) A s (wd_G cI a S) H locs → lv_has ls 16 [(0, .ref (a 0)), (1, .ref (a 1)), (2, .ref (a 2)), (3, .ref (a 3)), (4, .ref (a 4)), (5, .int v5), (6, .int v6), (7, .int v7)] → W p l e RM9_turn s m args below meth c H locs 0 0 (MQ below (qv_W (dC, dI) [(cI, .int)] A (wd_G cI a q)) args s 0 0 A) (F0 m 19 ls [])) {v5 : Int32} {v6 : Int32} {v7 : Int32} {t1 : Int32} {t2 : Int32} {S : ms_T} (h : f9_turn_b113 rec19 v5 v6 v7 t1 t2 S = some q) {H : Heap} {locs : List Loc} {ls : Array Slot} (hG : gd_W (dC, dI) A s (wd_G cI a S) H locs) (hl : lv_has ls 16 [(0, .ref (a 0)), (1, .ref (a 1)), (2, .ref (a 2)), (3, .ref (a 3)), (4, .ref (a 4)), (5, .int v5), (6, .int v6), (7, .int v7)]) : W p l e RM9_turn s m args below meth c H locs 0 0 (MQ below (qv_W (dC, dI) [(cI, .int)] A (wd_G cI a q)) args s 0 0 A) (F0 m 113 ls [.int t2, .int t1, .ref (a 4)]) := by
  unfold f9_turn_b113 at h
  obtain ⟨hx, hb, hr, hts, hown, hlocks, hml⟩ := id C
  obtain ⟨hi, h⟩ := fo_ck_some h
  obtain ⟨s113, es113, h⟩ := fo_bd_some h
  have es113 := Option.some.inj es113
  refine va_iast hx hb hK hG.1 hG.2.1 hG.2.2 4 0 rfl rfl hi dL_turn_113 (fun H locs hP9 hD9 hS9 => ?_)
  have hG : gd_W (dC, dI) A s (wd_G cI a (ms_set S 4 (upd (S 4) t1.toNatClampNeg t2))) H locs := ⟨hP9, hD9, hS9⟩
  rw [es113] at hG
  refine lv_iinc (v := (v7 + (1 : Int32))) (lv' := [(7, .int (v7 + (1 : Int32))), (0, .ref (a 0)), (1, .ref (a 1)), (2, .ref (a 2)), (3, .ref (a 3)), (4, .ref (a 4)), (5, .int v5), (6, .int v6)]) hx hb dL_turn_114 hl (k := 7) rfl rfl (by decide) rfl (fun ls hl => ?_)
  refine lv_goto (tgt := 19) hx hb dL_turn_117 (by decide) ?_
  exact hrec19 h hG (lv_sub hl [1, 2, 3, 4, 5, 6, 7, 0] rfl)
set_option maxRecDepth 100000 in
set_option maxHeartbeats 4000000 in
theorem w9_turn_b19 (C : cx_M p s m args meth c RL cL_turn none 16) (hK : va_K (dC, dI) vwCl [(cI, .int)] s) (hA : ∀ q, s.heap.size ≤ q → A q) {a : Nat → Nat} {q : ms_T} {rec19 : Int32 → Int32 → Int32 → ms_T → Option ms_T} (hrec19 : ∀ {v5 : Int32} {v6 : Int32} {v7 : Int32} {S : ms_T} , rec19 v5 v6 v7 S = some q → ∀ {H : Heap} {locs : List Loc} {ls : Array Slot}, gd_W (dC, dI) A s (wd_G cI a S) H locs → lv_has ls 16 [(0, .ref (a 0)), (1, .ref (a 1)), (2, .ref (a 2)), (3, .ref (a 3)), (4, .ref (a 4)), (5, .int v5), (6, .int v6), (7, .int v7)] → W p l e RM9_turn s m args below meth c H locs 0 0 (MQ below (qv_W (dC, dI) [(cI, .int)] A (wd_G cI a q)) args s 0 0 A) (F0 m 19 ls [])) {v5 : Int32} {v6 : Int32} {v7 : Int32} {S : ms_T} (h : f9_turn_b19 rec19 v5 v6 v7 S = some q) {H : Heap} {locs : List Loc} {ls : Array Slot} (hG : gd_W (dC, dI) A s (wd_G cI a S) H locs) (hl : lv_has ls 16 [(0, .ref (a 0)), (1, .ref (a 1)), (2, .ref (a 2)), (3, .ref (a 3)), (4, .ref (a 4)), (5, .int v5), (6, .int v6), (7, .int v7)]) : W p l e RM9_turn s m args below meth c H locs 0 0 (MQ below (qv_W (dC, dI) [(cI, .int)] A (wd_G cI a q)) args s 0 0 A) (F0 m 19 ls []) := by
  unfold f9_turn_b19 at h
  obtain ⟨hx, hb, hr, hts, hown, hlocks, hml⟩ := id C
  refine lv_iload hx hb dL_turn_19 (lv_at hl 7 rfl) ?_
  refine lv_iload hx hb dL_turn_21 (lv_at hl 6 rfl) ?_
  refine lv_bipush (v := (8 : Int32)) hx hb dL_turn_23 (by decide) ?_
  refine lv_ishr hx hb dL_turn_25 ?_
  refine lv_icmp_ge (tgt := 120) hx hb dL_turn_26 (by decide) (fun hc => ?_) (fun hc => ?_)
  · have h := fo_it h hc
    refine lv_aload_n hx hb dL_turn_120 rfl (lv_at hl 0 rfl) ?_
    obtain ⟨q121, hq121, h⟩ := fo_bd_some h
    refine gc_iS (As := [.ref (a 0)]) (rest := []) (wc := (wd_G cI a S)) (w1 := (wd_G cI a q121.2)) ⟨hx, hb, hml, hown, hts⟩ (c9_die l (a := a) hq121) (va_cwS 1 hts gv_X9_21 rfl rfl rfl hd9_die ⟨Nat.le_of_ble_eq_true rfl, Nat.le_of_ble_eq_true rfl⟩) hK [0] rfl hA hG [0, 1, 2, 3, 4] rfl rfl rfl rfl hl.1 rfl (Nat.le_of_ble_eq_true rfl) dL_turn_121 ⟨Nat.zero_le _, Nat.zero_le _⟩ (fun H locs hG9 => ?_)
    have hG : gd_W (dC, dI) A s (wd_G cI a q121.2) H locs := hG9
    refine lv_istore (lv' := [(7, .int q121.1), (0, .ref (a 0)), (1, .ref (a 1)), (2, .ref (a 2)), (3, .ref (a 3)), (4, .ref (a 4)), (5, .int v5), (6, .int v6)]) hx hb dL_turn_124 hl (by decide) rfl (fun ls hl => ?_)
    refine lv_iload hx hb dL_turn_126 (lv_at hl 0 rfl) ?_
    refine lv_aload_n hx hb dL_turn_128 rfl (lv_at hl 1 rfl) ?_
    obtain ⟨q129, hq129, h⟩ := fo_bd_some h
    refine gc_iS (As := [.ref (a 0)]) (rest := [.int q121.1]) (wc := (wd_G cI a q121.2)) (w1 := (wd_G cI a q129.2)) ⟨hx, hb, hml, hown, hts⟩ (c9_die l (a := a) hq129) (va_cwS 1 hts gv_X9_21 rfl rfl rfl hd9_die ⟨Nat.le_of_ble_eq_true rfl, Nat.le_of_ble_eq_true rfl⟩) hK [0] rfl hA hG [0, 1, 2, 3, 4] rfl rfl rfl rfl hl.1 rfl (Nat.le_of_ble_eq_true rfl) dL_turn_129 ⟨Nat.zero_le _, Nat.zero_le _⟩ (fun H locs hG9 => ?_)
    have hG : gd_W (dC, dI) A s (wd_G cI a q129.2) H locs := hG9
    refine lv_iadd hx hb dL_turn_132 ?_
    refine lv_istore (lv' := [(7, .int (q121.1 + q129.1)), (0, .ref (a 0)), (1, .ref (a 1)), (2, .ref (a 2)), (3, .ref (a 3)), (4, .ref (a 4)), (5, .int v5), (6, .int v6)]) hx hb dL_turn_133 hl (by decide) rfl (fun ls hl => ?_)
    refine lv_aload_n hx hb dL_turn_135 rfl (lv_at hl 2 rfl) ?_
    refine lv_bipush (v := (6 : Int32)) hx hb dL_turn_136 (by decide) ?_
    refine lv_iload hx hb dL_turn_138 (lv_at hl 6 rfl) ?_
    refine lv_imul hx hb dL_turn_140 ?_
    refine lv_iconst (v := (1 : Int32)) hx hb dL_turn_141 (by decide) ?_
    refine lv_iadd hx hb dL_turn_142 ?_
    obtain ⟨hi, h⟩ := fo_ck_some h
    refine va_iald hx hb hK hG.1 1 0 rfl rfl hi dL_turn_143 ?_
    refine lv_iload hx hb dL_turn_144 (lv_at hl 0 rfl) ?_
    refine lv_iadd hx hb dL_turn_146 ?_
    refine lv_istore (lv' := [(8, .int (((q129.2 1) (((6 : Int32) * v5) + (1 : Int32)).toNatClampNeg) + (q121.1 + q129.1))), (7, .int (q121.1 + q129.1)), (0, .ref (a 0)), (1, .ref (a 1)), (2, .ref (a 2)), (3, .ref (a 3)), (4, .ref (a 4)), (5, .int v5), (6, .int v6)]) hx hb dL_turn_147 hl (by decide) rfl (fun ls hl => ?_)
    refine lv_iload hx hb dL_turn_149 (lv_at hl 0 rfl) ?_
    refine lv_bipush (v := (19 : Int32)) hx hb dL_turn_151 (by decide) ?_
    refine lv_icmp_le (tgt := 182) hx hb dL_turn_153 (by decide) (fun hc => ?_) (fun hc => ?_)
    · have h := fo_it h hc
      exact w9_turn_b182 C hK hA h hG (lv_sub hl [2, 3, 4, 5, 6, 7, 0] rfl)
    · have h := fo_if h hc
      refine lv_iinc (v := ((((q129.2 1) (((6 : Int32) * v5) + (1 : Int32)).toNatClampNeg) + (q121.1 + q129.1)) + (-20 : Int32))) (lv' := [(8, .int ((((q129.2 1) (((6 : Int32) * v5) + (1 : Int32)).toNatClampNeg) + (q121.1 + q129.1)) + (-20 : Int32))), (7, .int (q121.1 + q129.1)), (0, .ref (a 0)), (1, .ref (a 1)), (2, .ref (a 2)), (3, .ref (a 3)), (4, .ref (a 4)), (5, .int v5), (6, .int v6)]) hx hb dL_turn_156 hl (k := 0) rfl rfl (by decide) rfl (fun ls hl => ?_)
      refine lv_aload_n hx hb dL_turn_159 rfl (lv_at hl 3 rfl) ?_
      refine lv_bipush (v := (6 : Int32)) hx hb dL_turn_160 (by decide) ?_
      refine lv_iload hx hb dL_turn_162 (lv_at hl 7 rfl) ?_
      refine lv_imul hx hb dL_turn_164 ?_
      refine lv_dup2_11 hx hb dL_turn_165 rfl rfl ?_
      obtain ⟨hi, h⟩ := fo_ck_some h
      refine va_iald hx hb hK hG.1 1 0 rfl rfl hi dL_turn_166 ?_
      refine lv_aload_n hx hb dL_turn_167 rfl (lv_at hl 2 rfl) ?_
      refine lv_iconst (v := (0 : Int32)) hx hb dL_turn_168 (by decide) ?_
      obtain ⟨hi, h⟩ := fo_ck_some h
      refine va_iald hx hb hK hG.1 0 0 rfl rfl hi dL_turn_169 ?_
      refine lv_iadd hx hb dL_turn_170 ?_
      obtain ⟨hi, h⟩ := fo_ck_some h
      obtain ⟨s171, es171, h⟩ := fo_bd_some h
      have es171 := Option.some.inj es171
      refine va_iast hx hb hK hG.1 hG.2.1 hG.2.2 1 0 rfl rfl hi dL_turn_171 (fun H locs hP9 hD9 hS9 => ?_)
      have hG : gd_W (dC, dI) A s (wd_G cI a (ms_set q129.2 1 (upd (q129.2 1) ((6 : Int32) * v5).toNatClampNeg (((q129.2 1) ((6 : Int32) * v5).toNatClampNeg) + ((q129.2 0) (0 : Int32).toNatClampNeg))))) H locs := ⟨hP9, hD9, hS9⟩
      rw [es171] at hG
      refine lv_aload_n hx hb dL_turn_172 rfl (lv_at hl 2 rfl) ?_
      refine lv_bipush (v := (10 : Int32)) hx hb dL_turn_173 (by decide) ?_
      refine lv_dup2_11 hx hb dL_turn_175 rfl rfl ?_
      obtain ⟨hi, h⟩ := fo_ck_some h
      refine va_iald hx hb hK hG.1 0 0 rfl rfl hi dL_turn_176 ?_
      refine lv_aload_n hx hb dL_turn_177 rfl (lv_at hl 2 rfl) ?_
      refine lv_iconst (v := (0 : Int32)) hx hb dL_turn_178 (by decide) ?_
      obtain ⟨hi, h⟩ := fo_ck_some h
      refine va_iald hx hb hK hG.1 0 0 rfl rfl hi dL_turn_179 ?_
      refine lv_iadd hx hb dL_turn_180 ?_
      obtain ⟨hi, h⟩ := fo_ck_some h
      obtain ⟨s181, es181, h⟩ := fo_bd_some h
      have es181 := Option.some.inj es181
      refine va_iast hx hb hK hG.1 hG.2.1 hG.2.2 0 0 rfl rfl hi dL_turn_181 (fun H locs hP9 hD9 hS9 => ?_)
      have hG : gd_W (dC, dI) A s (wd_G cI a (ms_set s171 0 (upd (s171 0) (10 : Int32).toNatClampNeg (((s171 0) (10 : Int32).toNatClampNeg) + ((s171 0) (0 : Int32).toNatClampNeg))))) H locs := ⟨hP9, hD9, hS9⟩
      rw [es181] at hG
      exact w9_turn_b182 C hK hA h hG (lv_sub hl [2, 3, 4, 5, 6, 7, 0] rfl)
  · have h := fo_if h hc
    refine lv_iload hx hb dL_turn_29 (lv_at hl 6 rfl) ?_
    refine lv_iconst (v := (2 : Int32)) hx hb dL_turn_31 (by decide) ?_
    refine lv_iload hx hb dL_turn_32 (lv_at hl 7 rfl) ?_
    refine lv_imul hx hb dL_turn_34 ?_
    refine lv_ishr hx hb dL_turn_35 ?_
    refine lv_iconst (v := (3 : Int32)) hx hb dL_turn_36 (by decide) ?_
    refine lv_iand hx hb dL_turn_37 ?_
    refine lv_istore (lv' := [(8, .int ((v6 >>> (((2 : Int32) * v7) &&& 31)) &&& (3 : Int32))), (0, .ref (a 0)), (1, .ref (a 1)), (2, .ref (a 2)), (3, .ref (a 3)), (4, .ref (a 4)), (5, .int v5), (6, .int v6), (7, .int v7)]) hx hb dL_turn_38 hl (by decide) rfl (fun ls hl => ?_)
    refine lv_aload_n hx hb dL_turn_40 rfl (lv_at hl 4 rfl) ?_
    refine lv_iconst (v := (4 : Int32)) hx hb dL_turn_41 (by decide) ?_
    refine lv_iload hx hb dL_turn_42 (lv_at hl 6 rfl) ?_
    refine lv_imul hx hb dL_turn_44 ?_
    refine lv_iload hx hb dL_turn_45 (lv_at hl 0 rfl) ?_
    refine lv_iadd hx hb dL_turn_47 ?_
    obtain ⟨hi, h⟩ := fo_ck_some h
    refine va_iald hx hb hK hG.1 3 0 rfl rfl hi dL_turn_48 ?_
    refine lv_istore (lv' := [(9, .int ((S 3) (((4 : Int32) * v5) + ((v6 >>> (((2 : Int32) * v7) &&& 31)) &&& (3 : Int32))).toNatClampNeg)), (8, .int ((v6 >>> (((2 : Int32) * v7) &&& 31)) &&& (3 : Int32))), (0, .ref (a 0)), (1, .ref (a 1)), (2, .ref (a 2)), (3, .ref (a 3)), (4, .ref (a 4)), (5, .int v5), (6, .int v6), (7, .int v7)]) hx hb dL_turn_49 hl (by decide) rfl (fun ls hl => ?_)
    refine lv_aload_n hx hb dL_turn_51 rfl (lv_at hl 5 rfl) ?_
    refine lv_iconst (v := (4 : Int32)) hx hb dL_turn_52 (by decide) ?_
    refine lv_iload hx hb dL_turn_53 (lv_at hl 7 rfl) ?_
    refine lv_imul hx hb dL_turn_55 ?_
    refine lv_iload hx hb dL_turn_56 (lv_at hl 1 rfl) ?_
    refine lv_iadd hx hb dL_turn_58 ?_
    refine lv_iconst (v := (0 : Int32)) hx hb dL_turn_59 (by decide) ?_
    obtain ⟨hi, h⟩ := fo_ck_some h
    obtain ⟨s60, es60, h⟩ := fo_bd_some h
    have es60 := Option.some.inj es60
    refine va_iast hx hb hK hG.1 hG.2.1 hG.2.2 3 0 rfl rfl hi dL_turn_60 (fun H locs hP9 hD9 hS9 => ?_)
    have hG : gd_W (dC, dI) A s (wd_G cI a (ms_set S 3 (upd (S 3) (((4 : Int32) * v5) + ((v6 >>> (((2 : Int32) * v7) &&& 31)) &&& (3 : Int32))).toNatClampNeg (0 : Int32)))) H locs := ⟨hP9, hD9, hS9⟩
    rw [es60] at hG
    refine lv_aload hx hb dL_turn_61 (lv_at hl 6 rfl) ?_
    refine lv_iconst (v := (4 : Int32)) hx hb dL_turn_63 (by decide) ?_
    refine lv_iload hx hb dL_turn_64 (lv_at hl 7 rfl) ?_
    refine lv_imul hx hb dL_turn_66 ?_
    refine lv_iload hx hb dL_turn_67 (lv_at hl 1 rfl) ?_
    refine lv_iadd hx hb dL_turn_69 ?_
    obtain ⟨hi, h⟩ := fo_ck_some h
    refine va_iald hx hb hK hG.1 4 0 rfl rfl hi dL_turn_70 ?_
    refine lv_istore (lv' := [(10, .int ((s60 4) (((4 : Int32) * v5) + ((v6 >>> (((2 : Int32) * v7) &&& 31)) &&& (3 : Int32))).toNatClampNeg)), (9, .int ((S 3) (((4 : Int32) * v5) + ((v6 >>> (((2 : Int32) * v7) &&& 31)) &&& (3 : Int32))).toNatClampNeg)), (8, .int ((v6 >>> (((2 : Int32) * v7) &&& 31)) &&& (3 : Int32))), (0, .ref (a 0)), (1, .ref (a 1)), (2, .ref (a 2)), (3, .ref (a 3)), (4, .ref (a 4)), (5, .int v5), (6, .int v6), (7, .int v7)]) hx hb dL_turn_71 hl (by decide) rfl (fun ls hl => ?_)
    refine lv_iload hx hb dL_turn_73 (lv_at hl 8 rfl) ?_
    refine lv_iload hx hb dL_turn_75 (lv_at hl 2 rfl) ?_
    refine lv_iload hx hb dL_turn_77 (lv_at hl 1 rfl) ?_
    refine lv_aload_n hx hb dL_turn_79 rfl (lv_at hl 4 rfl) ?_
    refine lv_aload_n hx hb dL_turn_80 rfl (lv_at hl 6 rfl) ?_
    refine lv_aload hx hb dL_turn_81 (lv_at hl 7 rfl) ?_
    obtain ⟨q83, hq83, h⟩ := fo_bd_some h
    refine gc_vS (As := [.int v5, .int ((v6 >>> (((2 : Int32) * v7) &&& 31)) &&& (3 : Int32)), .int ((S 3) (((4 : Int32) * v5) + ((v6 >>> (((2 : Int32) * v7) &&& 31)) &&& (3 : Int32))).toNatClampNeg), .ref (a 1), .ref (a 3), .ref (a 4)]) (rest := []) (wc := (wd_G cI a s60)) (w1 := (wd_G cI a q83)) ⟨hx, hb, hml, hown, hts⟩ (c9_pay l (a := a) hq83) (va_cwS 6 hts gv_X9_17 rfl rfl rfl hd9_pay ⟨Nat.le_of_ble_eq_true rfl, Nat.le_of_ble_eq_true rfl⟩) hK [0] rfl hA hG [0, 1, 2, 3, 4] rfl rfl rfl rfl hl.1 rfl (Nat.le_of_ble_eq_true rfl) dL_turn_83 ⟨Nat.zero_le _, Nat.zero_le _⟩ (fun H locs hG9 => ?_)
    have hG : gd_W (dC, dI) A s (wd_G cI a q83) H locs := hG9
    refine lv_aload hx hb dL_turn_86 (lv_at hl 7 rfl) ?_
    refine lv_iconst (v := (4 : Int32)) hx hb dL_turn_88 (by decide) ?_
    refine lv_iload hx hb dL_turn_89 (lv_at hl 8 rfl) ?_
    refine lv_imul hx hb dL_turn_91 ?_
    refine lv_iload hx hb dL_turn_92 (lv_at hl 2 rfl) ?_
    refine lv_iadd hx hb dL_turn_94 ?_
    refine lv_aload_n hx hb dL_turn_95 rfl (lv_at hl 6 rfl) ?_
    refine lv_iconst (v := (4 : Int32)) hx hb dL_turn_96 (by decide) ?_
    refine lv_iload hx hb dL_turn_97 (lv_at hl 8 rfl) ?_
    refine lv_imul hx hb dL_turn_99 ?_
    refine lv_iload hx hb dL_turn_100 (lv_at hl 2 rfl) ?_
    refine lv_iadd hx hb dL_turn_102 ?_
    obtain ⟨hi, h⟩ := fo_ck_some h
    refine va_iald hx hb hK hG.1 3 0 rfl rfl hi dL_turn_103 ?_
    refine lv_if_le (tgt := 112) hx hb dL_turn_104 (by decide) (fun hc => ?_) (fun hc => ?_)
    · have h := fo_it h hc
      refine lv_iconst (v := (0 : Int32)) hx hb dL_turn_112 (by decide) ?_
      exact w9_turn_b113 C hK hA (fun h => hrec19 h) h hG (lv_sub hl [3, 4, 5, 6, 7, 8, 9, 10] rfl)
    · have h := fo_if h hc
      refine lv_iload hx hb dL_turn_107 (lv_at hl 0 rfl) ?_
      refine lv_goto (tgt := 113) hx hb dL_turn_109 (by decide) ?_
      exact w9_turn_b113 C hK hA (fun h => hrec19 h) h hG (lv_sub hl [3, 4, 5, 6, 7, 8, 9, 10] rfl)
set_option maxRecDepth 100000 in
set_option maxHeartbeats 4000000 in
theorem w9_turn_L19 (C : cx_M p s m args meth c RL cL_turn none 16) (hK : va_K (dC, dI) vwCl [(cI, .int)] s) (hA : ∀ q, s.heap.size ≤ q → A q) {a : Nat → Nat} {q : ms_T} : ∀ (n : Nat) {v5 : Int32} {v6 : Int32} {v7 : Int32} {S : ms_T}, f9_turn_L19 n v5 v6 v7 S = some q → ∀ {H : Heap} {locs : List Loc} {ls : Array Slot}, gd_W (dC, dI) A s (wd_G cI a S) H locs → lv_has ls 16 [(0, .ref (a 0)), (1, .ref (a 1)), (2, .ref (a 2)), (3, .ref (a 3)), (4, .ref (a 4)), (5, .int v5), (6, .int v6), (7, .int v7)] → W p l e RM9_turn s m args below meth c H locs 0 0 (MQ below (qv_W (dC, dI) [(cI, .int)] A (wd_G cI a q)) args s 0 0 A) (F0 m 19 ls []) := by
  intro n
  induction n with
  | zero => intro _ _ _ _ h; exact nomatch h
  | succ n ih => intro v5 v6 v7 S h H locs ls hG hl; exact w9_turn_b19 C hK hA (fun h => ih h) (show f9_turn_b19 (f9_turn_L19 n) v5 v6 v7 S = some q from h) hG hl
set_option maxRecDepth 100000 in
set_option maxHeartbeats 4000000 in
theorem w9_turn (C : cx_M p s m args meth c RL cL_turn none 16) (hK : va_K (dC, dI) vwCl [(cI, .int)] s) (hA : ∀ q, s.heap.size ≤ q → A q) {a : Nat → Nat} {q : ms_T} {S : ms_T} (h : f9_turn S = some q) {H : Heap} {locs : List Loc} {ls : Array Slot} (hG : gd_W (dC, dI) A s (wd_G cI a S) H locs) (hl : lv_has ls 16 [(0, .ref (a 0)), (1, .ref (a 1)), (2, .ref (a 2)), (3, .ref (a 3)), (4, .ref (a 4))]) : W p l e RM9_turn s m args below meth c H locs 0 0 (MQ below (qv_W (dC, dI) [(cI, .int)] A (wd_G cI a q)) args s 0 0 A) (F0 m 0 ls []) := by
  unfold f9_turn at h
  obtain ⟨hx, hb, hr, hts, hown, hlocks, hml⟩ := id C
  refine lv_aload_n hx hb dL_turn_0 rfl (lv_at hl 0 rfl) ?_
  refine lv_bipush (v := (7 : Int32)) hx hb dL_turn_1 (by decide) ?_
  obtain ⟨hi, h⟩ := fo_ck_some h
  refine va_iald hx hb hK hG.1 0 0 rfl rfl hi dL_turn_3 ?_
  refine lv_istore (lv' := [(5, .int ((S 0) (7 : Int32).toNatClampNeg)), (0, .ref (a 0)), (1, .ref (a 1)), (2, .ref (a 2)), (3, .ref (a 3)), (4, .ref (a 4))]) hx hb dL_turn_4 hl (by decide) rfl (fun ls hl => ?_)
  refine lv_iload hx hb dL_turn_6 (lv_at hl 0 rfl) ?_
  refine lv_aload_n hx hb dL_turn_8 rfl (lv_at hl 4 rfl) ?_
  refine lv_aload hx hb dL_turn_9 (lv_at hl 5 rfl) ?_
  obtain ⟨q11, hq11, h⟩ := fo_bd_some h
  refine gc_iS (As := [.int ((S 0) (7 : Int32).toNatClampNeg), .ref (a 3), .ref (a 4)]) (rest := []) (wc := (wd_G cI a S)) (w1 := (wd_G cI a S)) ⟨hx, hb, hml, hown, hts⟩ (c9_creditors l (a := a) hq11) (va_cwS 3 hts gv_X9_11 rfl rfl rfl hd9_creditors ⟨Nat.le_of_ble_eq_true rfl, Nat.le_of_ble_eq_true rfl⟩) hK [0] rfl hA hG [0, 1, 2, 3, 4] rfl rfl rfl rfl hl.1 rfl (Nat.le_of_ble_eq_true rfl) dL_turn_11 ⟨Nat.zero_le _, Nat.zero_le _⟩ (fun H locs hG9 => ?_)
  have hG : gd_W (dC, dI) A s (wd_G cI a S) H locs := hG9
  refine lv_istore (lv' := [(6, .int q11), (5, .int ((S 0) (7 : Int32).toNatClampNeg)), (0, .ref (a 0)), (1, .ref (a 1)), (2, .ref (a 2)), (3, .ref (a 3)), (4, .ref (a 4))]) hx hb dL_turn_14 hl (by decide) rfl (fun ls hl => ?_)
  refine lv_iconst (v := (0 : Int32)) hx hb dL_turn_16 (by decide) ?_
  refine lv_istore (lv' := [(7, .int (0 : Int32)), (6, .int q11), (5, .int ((S 0) (7 : Int32).toNatClampNeg)), (0, .ref (a 0)), (1, .ref (a 1)), (2, .ref (a 2)), (3, .ref (a 3)), (4, .ref (a 4))]) hx hb dL_turn_17 hl (by decide) rfl (fun ls hl => ?_)
  exact w9_turn_L19 C hK hA fo_fu h hG (lv_sub hl [3, 4, 5, 6, 7, 2, 1, 0] rfl)
set_option maxRecDepth 100000 in
set_option maxHeartbeats 4000000 in
theorem c9_turn (l : Launch) {dC : Nat → ClassId} {dI : Nat → Nat → Nat} {cI : ClassId} {a : Nat → Nat} {S : ms_T} {q : ms_T} (h : f9_turn S = some q) : mv_M l yL_turn wm9_turn RM9_turn (dC, dI) [(cI, .int)] [.ref (a 0), .ref (a 1), .ref (a 2), .ref (a 3), .ref (a 4)] (wd_G cI a S) (wd_G cI a q) := by
  intro sz
  refine Met.ofW (cc := cL_turn) (maxL := 16) (ret := none) (by decide) rfl ?_
  intro p e s m args below meth c s₁ B hml hv
  obtain ⟨rfl, hsz, hP, hK, hD0⟩ := hv
  subst hsz
  have hl := lv_entry ([.ref (a 0), .ref (a 1), .ref (a 2), .ref (a 3), .ref (a 4)] : List Value) (n := 16) (Nat.le_of_ble_eq_true rfl)
  rw [lg_entry_eq]
  generalize (lg_sl ([.ref (a 0), .ref (a 1), .ref (a 2), .ref (a 3), .ref (a 4)] : List Value) ++ List.replicate (16 - (lg_sl ([.ref (a 0), .ref (a 1), .ref (a 2), .ref (a 3), .ref (a 4)] : List Value)).length) Slot.unset).toArray = ls at hl ⊢
  exact w9_turn (a := a) ⟨B.exec, B.bytes, B.returns, fun w hw => atoms_spec (ws := wm9_turn) B.pre w (List.mem_cons_of_mem _ hw), findClass_of_methodNamed B.named, B.notSynchronized, hml⟩ hK (fun _ h => Or.inr h) h ⟨hP, hD0.self, va_S.rf⟩ hl
end
/-! ## DiceRoadsLaw.paid([I)I -/
section
variable {p : Program} {l : Launch} {e : Env} {s : State} {m : MethodId} {args : Array Value} {below : List Frame} {meth : Method} {c : Code} {dC : Nat → ClassId} {dI : Nat → Nat → Nat} {cI cB : ClassId} {A : Nat → Prop}
set_option maxRecDepth 100000 in
set_option maxHeartbeats 4000000 in
theorem w9_paid (C : cx_M p s m args meth c RL cL_paid (some .int) 1) (hK : va_K (dC, dI) vwCl [(cI, .int)] s) (hA : ∀ q, s.heap.size ≤ q → A q) {a : Nat → Nat} {q : Int32} {S : ms_T} (h : f9_paid S = some q) {H : Heap} {locs : List Loc} {ls : Array Slot} (hG : gd_W (dC, dI) A s (wd_G cI a S) H locs) (hl : lv_has ls 1 [(0, .ref (a 1))]) : W p l e RM9_paid s m args below meth c H locs 0 0 (MQ below (qi_W (dC, dI) [(cI, .int)] A q (wd_G cI a S)) args s 0 0 A) (F0 m 0 ls []) := by
  unfold f9_paid at h
  obtain ⟨hx, hb, hr, hts, hown, hlocks, hml⟩ := id C
  refine lv_aload_n hx hb dL_paid_0 rfl (lv_at hl 0 rfl) ?_
  refine lv_iconst (v := (2 : Int32)) hx hb dL_paid_1 (by decide) ?_
  obtain ⟨hi, h⟩ := fo_ck_some h
  refine va_iald hx hb hK hG.1 1 0 rfl rfl hi dL_paid_2 ?_
  refine lv_aload_n hx hb dL_paid_3 rfl (lv_at hl 0 rfl) ?_
  refine lv_bipush (v := (8 : Int32)) hx hb dL_paid_4 (by decide) ?_
  obtain ⟨hi, h⟩ := fo_ck_some h
  refine va_iald hx hb hK hG.1 1 0 rfl rfl hi dL_paid_6 ?_
  refine lv_iadd hx hb dL_paid_7 ?_
  refine lv_aload_n hx hb dL_paid_8 rfl (lv_at hl 0 rfl) ?_
  refine lv_bipush (v := (14 : Int32)) hx hb dL_paid_9 (by decide) ?_
  obtain ⟨hi, h⟩ := fo_ck_some h
  refine va_iald hx hb hK hG.1 1 0 rfl rfl hi dL_paid_11 ?_
  refine lv_iadd hx hb dL_paid_12 ?_
  refine lv_aload_n hx hb dL_paid_13 rfl (lv_at hl 0 rfl) ?_
  refine lv_bipush (v := (20 : Int32)) hx hb dL_paid_14 (by decide) ?_
  obtain ⟨hi, h⟩ := fo_ck_some h
  refine va_iald hx hb hK hG.1 1 0 rfl rfl hi dL_paid_16 ?_
  refine lv_iadd hx hb dL_paid_17 ?_
  exact gr_i hx hb hr hlocks hK hG (Option.some.inj h) dL_paid_18
set_option maxRecDepth 100000 in
set_option maxHeartbeats 4000000 in
theorem c9_paid (l : Launch) {dC : Nat → ClassId} {dI : Nat → Nat → Nat} {cI : ClassId} {a : Nat → Nat} {S : ms_T} {q : Int32} (h : f9_paid S = some q) : mi_M l yL_paid wm9_paid RM9_paid (dC, dI) [(cI, .int)] [.ref (a 1)] (wd_G cI a S) q (wd_G cI a S) := by
  intro sz
  refine Met.ofW (cc := cL_paid) (maxL := 1) (ret := (some .int)) (by decide) rfl ?_
  intro p e s m args below meth c s₁ B hml hv
  obtain ⟨rfl, hsz, hP, hK, hD0⟩ := hv
  subst hsz
  have hl := lv_entry ([.ref (a 1)] : List Value) (n := 1) (Nat.le_of_ble_eq_true rfl)
  rw [lg_entry_eq]
  generalize (lg_sl ([.ref (a 1)] : List Value) ++ List.replicate (1 - (lg_sl ([.ref (a 1)] : List Value)).length) Slot.unset).toArray = ls at hl ⊢
  exact w9_paid (a := a) ⟨B.exec, B.bytes, B.returns, fun w hw => atoms_spec (ws := wm9_paid) B.pre w (List.mem_cons_of_mem _ hw), findClass_of_methodNamed B.named, B.notSynchronized, hml⟩ hK (fun _ h => Or.inr h) h ⟨hP, hD0.self, va_S.rf⟩ hl
end
/-! ## DiceRoadsLaw.copy([I[I[I[I[I[I[I[I[I[I)V -/
section
variable {p : Program} {l : Launch} {e : Env} {s : State} {m : MethodId} {args : Array Value} {below : List Frame} {meth : Method} {c : Code} {dC : Nat → ClassId} {dI : Nat → Nat → Nat} {cI cB : ClassId} {A : Nat → Prop}
set_option maxRecDepth 100000 in
set_option maxHeartbeats 4000000 in
theorem w9_copy_b78 (C : cx_M p s m args meth c RL cL_copy none 11) (hK : va_K (dC, dI) vwCl [(cI, .int)] s) (hA : ∀ q, s.heap.size ≤ q → A q) {a : Nat → Nat} {Z : ms_T} {q : ms_T} {rec78 : Int32 → ms_T → Option ms_T} (hrec78 : ∀ {v10 : Int32} {S : ms_T} , rec78 v10 S = some q → ∀ {H : Heap} {locs : List Loc} {ls : Array Slot}, gd_W (dC, dI) A s (wd_GG cI a Z S) H locs → lv_has ls 11 [(3, .ref (a 3)), (4, .ref (a 4)), (8, .ref (a 8)), (9, .ref (a 9)), (10, .int v10)] → W p l e RM9_copy s m args below meth c H locs 0 0 (MQ below (qv_W (dC, dI) [(cI, .int)] A (wd_GG cI a Z q)) args s 0 0 A) (F0 m 78 ls [])) {v10 : Int32} {S : ms_T} (h : f9_copy_b78 Z rec78 v10 S = some q) {H : Heap} {locs : List Loc} {ls : Array Slot} (hG : gd_W (dC, dI) A s (wd_GG cI a Z S) H locs) (hl : lv_has ls 11 [(3, .ref (a 3)), (4, .ref (a 4)), (8, .ref (a 8)), (9, .ref (a 9)), (10, .int v10)]) : W p l e RM9_copy s m args below meth c H locs 0 0 (MQ below (qv_W (dC, dI) [(cI, .int)] A (wd_GG cI a Z q)) args s 0 0 A) (F0 m 78 ls []) := by
  unfold f9_copy_b78 at h
  obtain ⟨hx, hb, hr, hts, hown, hlocks, hml⟩ := id C
  refine lv_iload hx hb dL_copy_78 (lv_at hl 4 rfl) ?_
  refine lv_bipush (v := (16 : Int32)) hx hb dL_copy_80 (by decide) ?_
  refine lv_icmp_ge (tgt := 110) hx hb dL_copy_82 (by decide) (fun hc => ?_) (fun hc => ?_)
  · have h := fo_it h hc
    obtain rfl := Option.some.inj h
    exact gr_v hx hb hr hlocks hK hG dL_copy_110
  · have h := fo_if h hc
    refine lv_aload hx hb dL_copy_85 (lv_at hl 2 rfl) ?_
    refine lv_iload hx hb dL_copy_87 (lv_at hl 4 rfl) ?_
    refine lv_aload_n hx hb dL_copy_89 rfl (lv_at hl 0 rfl) ?_
    refine lv_iload hx hb dL_copy_90 (lv_at hl 4 rfl) ?_
    obtain ⟨hi, h⟩ := fo_ck_some h
    refine va_iald hx hb hK hG.1 3 0 rfl rfl hi dL_copy_92 ?_
    obtain ⟨hi, h⟩ := fo_ck_some h
    obtain ⟨s93, es93, h⟩ := fo_bd_some h
    have es93 := Option.some.inj es93
    refine va_iast hx hb hK hG.1 hG.2.1 hG.2.2 8 0 rfl rfl hi dL_copy_93 (fun H locs hP9 hD9 hS9 => ?_)
    have hG : gd_W (dC, dI) A s (wd_GG cI a Z (ms_set S 3 (upd (S 3) v10.toNatClampNeg ((Z 3) v10.toNatClampNeg)))) H locs := ⟨hP9, hD9, hS9⟩
    rw [es93] at hG
    refine lv_aload hx hb dL_copy_94 (lv_at hl 3 rfl) ?_
    refine lv_iload hx hb dL_copy_96 (lv_at hl 4 rfl) ?_
    refine lv_aload hx hb dL_copy_98 (lv_at hl 1 rfl) ?_
    refine lv_iload hx hb dL_copy_100 (lv_at hl 4 rfl) ?_
    obtain ⟨hi, h⟩ := fo_ck_some h
    refine va_iald hx hb hK hG.1 4 0 rfl rfl hi dL_copy_102 ?_
    obtain ⟨hi, h⟩ := fo_ck_some h
    obtain ⟨s103, es103, h⟩ := fo_bd_some h
    have es103 := Option.some.inj es103
    refine va_iast hx hb hK hG.1 hG.2.1 hG.2.2 9 0 rfl rfl hi dL_copy_103 (fun H locs hP9 hD9 hS9 => ?_)
    have hG : gd_W (dC, dI) A s (wd_GG cI a Z (ms_set s93 4 (upd (s93 4) v10.toNatClampNeg ((Z 4) v10.toNatClampNeg)))) H locs := ⟨hP9, hD9, hS9⟩
    rw [es103] at hG
    refine lv_iinc (v := (v10 + (1 : Int32))) (lv' := [(10, .int (v10 + (1 : Int32))), (3, .ref (a 3)), (4, .ref (a 4)), (8, .ref (a 8)), (9, .ref (a 9))]) hx hb dL_copy_104 hl (k := 4) rfl rfl (by decide) rfl (fun ls hl => ?_)
    refine lv_goto (tgt := 78) hx hb dL_copy_107 (by decide) ?_
    exact hrec78 h hG (lv_sub hl [1, 2, 3, 4, 0] rfl)
set_option maxRecDepth 100000 in
set_option maxHeartbeats 4000000 in
theorem w9_copy_L78 (C : cx_M p s m args meth c RL cL_copy none 11) (hK : va_K (dC, dI) vwCl [(cI, .int)] s) (hA : ∀ q, s.heap.size ≤ q → A q) {a : Nat → Nat} {Z : ms_T} {q : ms_T} : ∀ (n : Nat) {v10 : Int32} {S : ms_T}, f9_copy_L78 Z n v10 S = some q → ∀ {H : Heap} {locs : List Loc} {ls : Array Slot}, gd_W (dC, dI) A s (wd_GG cI a Z S) H locs → lv_has ls 11 [(3, .ref (a 3)), (4, .ref (a 4)), (8, .ref (a 8)), (9, .ref (a 9)), (10, .int v10)] → W p l e RM9_copy s m args below meth c H locs 0 0 (MQ below (qv_W (dC, dI) [(cI, .int)] A (wd_GG cI a Z q)) args s 0 0 A) (F0 m 78 ls []) := by
  intro n
  induction n with
  | zero => intro _ _ h; exact nomatch h
  | succ n ih => intro v10 S h H locs ls hG hl; exact w9_copy_b78 C hK hA (fun h => ih h) (show f9_copy_b78 Z (f9_copy_L78 Z n) v10 S = some q from h) hG hl
set_option maxRecDepth 100000 in
set_option maxHeartbeats 4000000 in
theorem w9_copy_b53 (C : cx_M p s m args meth c RL cL_copy none 11) (hK : va_K (dC, dI) vwCl [(cI, .int)] s) (hA : ∀ q, s.heap.size ≤ q → A q) {a : Nat → Nat} {Z : ms_T} {q : ms_T} {rec53 : Int32 → ms_T → Option ms_T} (hrec53 : ∀ {v10 : Int32} {S : ms_T} , rec53 v10 S = some q → ∀ {H : Heap} {locs : List Loc} {ls : Array Slot}, gd_W (dC, dI) A s (wd_GG cI a Z S) H locs → lv_has ls 11 [(2, .ref (a 2)), (3, .ref (a 3)), (4, .ref (a 4)), (7, .ref (a 7)), (8, .ref (a 8)), (9, .ref (a 9)), (10, .int v10)] → W p l e RM9_copy s m args below meth c H locs 0 0 (MQ below (qv_W (dC, dI) [(cI, .int)] A (wd_GG cI a Z q)) args s 0 0 A) (F0 m 53 ls [])) {v10 : Int32} {S : ms_T} (h : f9_copy_b53 Z rec53 v10 S = some q) {H : Heap} {locs : List Loc} {ls : Array Slot} (hG : gd_W (dC, dI) A s (wd_GG cI a Z S) H locs) (hl : lv_has ls 11 [(2, .ref (a 2)), (3, .ref (a 3)), (4, .ref (a 4)), (7, .ref (a 7)), (8, .ref (a 8)), (9, .ref (a 9)), (10, .int v10)]) : W p l e RM9_copy s m args below meth c H locs 0 0 (MQ below (qv_W (dC, dI) [(cI, .int)] A (wd_GG cI a Z q)) args s 0 0 A) (F0 m 53 ls []) := by
  unfold f9_copy_b53 at h
  obtain ⟨hx, hb, hr, hts, hown, hlocks, hml⟩ := id C
  refine lv_iload hx hb dL_copy_53 (lv_at hl 6 rfl) ?_
  refine lv_bipush (v := (40 : Int32)) hx hb dL_copy_55 (by decide) ?_
  refine lv_icmp_ge (tgt := 75) hx hb dL_copy_57 (by decide) (fun hc => ?_) (fun hc => ?_)
  · have h := fo_it h hc
    refine lv_iconst (v := (0 : Int32)) hx hb dL_copy_75 (by decide) ?_
    refine lv_istore (lv' := [(10, .int (0 : Int32)), (2, .ref (a 2)), (3, .ref (a 3)), (4, .ref (a 4)), (7, .ref (a 7)), (8, .ref (a 8)), (9, .ref (a 9))]) hx hb dL_copy_76 hl (by decide) rfl (fun ls hl => ?_)
    exact w9_copy_L78 C hK hA fo_fu h hG (lv_sub hl [2, 3, 5, 6, 0] rfl)
  · have h := fo_if h hc
    refine lv_aload hx hb dL_copy_60 (lv_at hl 3 rfl) ?_
    refine lv_iload hx hb dL_copy_62 (lv_at hl 6 rfl) ?_
    refine lv_aload_n hx hb dL_copy_64 rfl (lv_at hl 0 rfl) ?_
    refine lv_iload hx hb dL_copy_65 (lv_at hl 6 rfl) ?_
    obtain ⟨hi, h⟩ := fo_ck_some h
    refine va_iald hx hb hK hG.1 2 0 rfl rfl hi dL_copy_67 ?_
    obtain ⟨hi, h⟩ := fo_ck_some h
    obtain ⟨s68, es68, h⟩ := fo_bd_some h
    have es68 := Option.some.inj es68
    refine va_iast hx hb hK hG.1 hG.2.1 hG.2.2 7 0 rfl rfl hi dL_copy_68 (fun H locs hP9 hD9 hS9 => ?_)
    have hG : gd_W (dC, dI) A s (wd_GG cI a Z (ms_set S 2 (upd (S 2) v10.toNatClampNeg ((Z 2) v10.toNatClampNeg)))) H locs := ⟨hP9, hD9, hS9⟩
    rw [es68] at hG
    refine lv_iinc (v := (v10 + (1 : Int32))) (lv' := [(10, .int (v10 + (1 : Int32))), (2, .ref (a 2)), (3, .ref (a 3)), (4, .ref (a 4)), (7, .ref (a 7)), (8, .ref (a 8)), (9, .ref (a 9))]) hx hb dL_copy_69 hl (k := 6) rfl rfl (by decide) rfl (fun ls hl => ?_)
    refine lv_goto (tgt := 53) hx hb dL_copy_72 (by decide) ?_
    exact hrec53 h hG (lv_sub hl [1, 2, 3, 4, 5, 6, 0] rfl)
set_option maxRecDepth 100000 in
set_option maxHeartbeats 4000000 in
theorem w9_copy_L53 (C : cx_M p s m args meth c RL cL_copy none 11) (hK : va_K (dC, dI) vwCl [(cI, .int)] s) (hA : ∀ q, s.heap.size ≤ q → A q) {a : Nat → Nat} {Z : ms_T} {q : ms_T} : ∀ (n : Nat) {v10 : Int32} {S : ms_T}, f9_copy_L53 Z n v10 S = some q → ∀ {H : Heap} {locs : List Loc} {ls : Array Slot}, gd_W (dC, dI) A s (wd_GG cI a Z S) H locs → lv_has ls 11 [(2, .ref (a 2)), (3, .ref (a 3)), (4, .ref (a 4)), (7, .ref (a 7)), (8, .ref (a 8)), (9, .ref (a 9)), (10, .int v10)] → W p l e RM9_copy s m args below meth c H locs 0 0 (MQ below (qv_W (dC, dI) [(cI, .int)] A (wd_GG cI a Z q)) args s 0 0 A) (F0 m 53 ls []) := by
  intro n
  induction n with
  | zero => intro _ _ h; exact nomatch h
  | succ n ih => intro v10 S h H locs ls hG hl; exact w9_copy_b53 C hK hA (fun h => ih h) (show f9_copy_b53 Z (f9_copy_L53 Z n) v10 S = some q from h) hG hl
set_option maxRecDepth 100000 in
set_option maxHeartbeats 4000000 in
theorem w9_copy_b28 (C : cx_M p s m args meth c RL cL_copy none 11) (hK : va_K (dC, dI) vwCl [(cI, .int)] s) (hA : ∀ q, s.heap.size ≤ q → A q) {a : Nat → Nat} {Z : ms_T} {q : ms_T} {rec28 : Int32 → ms_T → Option ms_T} (hrec28 : ∀ {v10 : Int32} {S : ms_T} , rec28 v10 S = some q → ∀ {H : Heap} {locs : List Loc} {ls : Array Slot}, gd_W (dC, dI) A s (wd_GG cI a Z S) H locs → lv_has ls 11 [(1, .ref (a 1)), (2, .ref (a 2)), (3, .ref (a 3)), (4, .ref (a 4)), (6, .ref (a 6)), (7, .ref (a 7)), (8, .ref (a 8)), (9, .ref (a 9)), (10, .int v10)] → W p l e RM9_copy s m args below meth c H locs 0 0 (MQ below (qv_W (dC, dI) [(cI, .int)] A (wd_GG cI a Z q)) args s 0 0 A) (F0 m 28 ls [])) {v10 : Int32} {S : ms_T} (h : f9_copy_b28 Z rec28 v10 S = some q) {H : Heap} {locs : List Loc} {ls : Array Slot} (hG : gd_W (dC, dI) A s (wd_GG cI a Z S) H locs) (hl : lv_has ls 11 [(1, .ref (a 1)), (2, .ref (a 2)), (3, .ref (a 3)), (4, .ref (a 4)), (6, .ref (a 6)), (7, .ref (a 7)), (8, .ref (a 8)), (9, .ref (a 9)), (10, .int v10)]) : W p l e RM9_copy s m args below meth c H locs 0 0 (MQ below (qv_W (dC, dI) [(cI, .int)] A (wd_GG cI a Z q)) args s 0 0 A) (F0 m 28 ls []) := by
  unfold f9_copy_b28 at h
  obtain ⟨hx, hb, hr, hts, hown, hlocks, hml⟩ := id C
  refine lv_iload hx hb dL_copy_28 (lv_at hl 8 rfl) ?_
  refine lv_bipush (v := (24 : Int32)) hx hb dL_copy_30 (by decide) ?_
  refine lv_icmp_ge (tgt := 50) hx hb dL_copy_32 (by decide) (fun hc => ?_) (fun hc => ?_)
  · have h := fo_it h hc
    refine lv_iconst (v := (0 : Int32)) hx hb dL_copy_50 (by decide) ?_
    refine lv_istore (lv' := [(10, .int (0 : Int32)), (1, .ref (a 1)), (2, .ref (a 2)), (3, .ref (a 3)), (4, .ref (a 4)), (6, .ref (a 6)), (7, .ref (a 7)), (8, .ref (a 8)), (9, .ref (a 9))]) hx hb dL_copy_51 hl (by decide) rfl (fun ls hl => ?_)
    exact w9_copy_L53 C hK hA fo_fu h hG (lv_sub hl [2, 3, 4, 6, 7, 8, 0] rfl)
  · have h := fo_if h hc
    refine lv_aload hx hb dL_copy_35 (lv_at hl 4 rfl) ?_
    refine lv_iload hx hb dL_copy_37 (lv_at hl 8 rfl) ?_
    refine lv_aload_n hx hb dL_copy_39 rfl (lv_at hl 0 rfl) ?_
    refine lv_iload hx hb dL_copy_40 (lv_at hl 8 rfl) ?_
    obtain ⟨hi, h⟩ := fo_ck_some h
    refine va_iald hx hb hK hG.1 1 0 rfl rfl hi dL_copy_42 ?_
    obtain ⟨hi, h⟩ := fo_ck_some h
    obtain ⟨s43, es43, h⟩ := fo_bd_some h
    have es43 := Option.some.inj es43
    refine va_iast hx hb hK hG.1 hG.2.1 hG.2.2 6 0 rfl rfl hi dL_copy_43 (fun H locs hP9 hD9 hS9 => ?_)
    have hG : gd_W (dC, dI) A s (wd_GG cI a Z (ms_set S 1 (upd (S 1) v10.toNatClampNeg ((Z 1) v10.toNatClampNeg)))) H locs := ⟨hP9, hD9, hS9⟩
    rw [es43] at hG
    refine lv_iinc (v := (v10 + (1 : Int32))) (lv' := [(10, .int (v10 + (1 : Int32))), (1, .ref (a 1)), (2, .ref (a 2)), (3, .ref (a 3)), (4, .ref (a 4)), (6, .ref (a 6)), (7, .ref (a 7)), (8, .ref (a 8)), (9, .ref (a 9))]) hx hb dL_copy_44 hl (k := 8) rfl rfl (by decide) rfl (fun ls hl => ?_)
    refine lv_goto (tgt := 28) hx hb dL_copy_47 (by decide) ?_
    exact hrec28 h hG (lv_sub hl [1, 2, 3, 4, 5, 6, 7, 8, 0] rfl)
set_option maxRecDepth 100000 in
set_option maxHeartbeats 4000000 in
theorem w9_copy_L28 (C : cx_M p s m args meth c RL cL_copy none 11) (hK : va_K (dC, dI) vwCl [(cI, .int)] s) (hA : ∀ q, s.heap.size ≤ q → A q) {a : Nat → Nat} {Z : ms_T} {q : ms_T} : ∀ (n : Nat) {v10 : Int32} {S : ms_T}, f9_copy_L28 Z n v10 S = some q → ∀ {H : Heap} {locs : List Loc} {ls : Array Slot}, gd_W (dC, dI) A s (wd_GG cI a Z S) H locs → lv_has ls 11 [(1, .ref (a 1)), (2, .ref (a 2)), (3, .ref (a 3)), (4, .ref (a 4)), (6, .ref (a 6)), (7, .ref (a 7)), (8, .ref (a 8)), (9, .ref (a 9)), (10, .int v10)] → W p l e RM9_copy s m args below meth c H locs 0 0 (MQ below (qv_W (dC, dI) [(cI, .int)] A (wd_GG cI a Z q)) args s 0 0 A) (F0 m 28 ls []) := by
  intro n
  induction n with
  | zero => intro _ _ h; exact nomatch h
  | succ n ih => intro v10 S h H locs ls hG hl; exact w9_copy_b28 C hK hA (fun h => ih h) (show f9_copy_b28 Z (f9_copy_L28 Z n) v10 S = some q from h) hG hl
set_option maxRecDepth 100000 in
set_option maxHeartbeats 4000000 in
theorem w9_copy_b3 (C : cx_M p s m args meth c RL cL_copy none 11) (hK : va_K (dC, dI) vwCl [(cI, .int)] s) (hA : ∀ q, s.heap.size ≤ q → A q) {a : Nat → Nat} {Z : ms_T} {q : ms_T} {rec3 : Int32 → ms_T → Option ms_T} (hrec3 : ∀ {v10 : Int32} {S : ms_T} , rec3 v10 S = some q → ∀ {H : Heap} {locs : List Loc} {ls : Array Slot}, gd_W (dC, dI) A s (wd_GG cI a Z S) H locs → lv_has ls 11 [(0, .ref (a 0)), (1, .ref (a 1)), (2, .ref (a 2)), (3, .ref (a 3)), (4, .ref (a 4)), (5, .ref (a 5)), (6, .ref (a 6)), (7, .ref (a 7)), (8, .ref (a 8)), (9, .ref (a 9)), (10, .int v10)] → W p l e RM9_copy s m args below meth c H locs 0 0 (MQ below (qv_W (dC, dI) [(cI, .int)] A (wd_GG cI a Z q)) args s 0 0 A) (F0 m 3 ls [])) {v10 : Int32} {S : ms_T} (h : f9_copy_b3 Z rec3 v10 S = some q) {H : Heap} {locs : List Loc} {ls : Array Slot} (hG : gd_W (dC, dI) A s (wd_GG cI a Z S) H locs) (hl : lv_has ls 11 [(0, .ref (a 0)), (1, .ref (a 1)), (2, .ref (a 2)), (3, .ref (a 3)), (4, .ref (a 4)), (5, .ref (a 5)), (6, .ref (a 6)), (7, .ref (a 7)), (8, .ref (a 8)), (9, .ref (a 9)), (10, .int v10)]) : W p l e RM9_copy s m args below meth c H locs 0 0 (MQ below (qv_W (dC, dI) [(cI, .int)] A (wd_GG cI a Z q)) args s 0 0 A) (F0 m 3 ls []) := by
  unfold f9_copy_b3 at h
  obtain ⟨hx, hb, hr, hts, hown, hlocks, hml⟩ := id C
  refine lv_iload hx hb dL_copy_3 (lv_at hl 10 rfl) ?_
  refine lv_bipush (v := (11 : Int32)) hx hb dL_copy_5 (by decide) ?_
  refine lv_icmp_ge (tgt := 25) hx hb dL_copy_7 (by decide) (fun hc => ?_) (fun hc => ?_)
  · have h := fo_it h hc
    refine lv_iconst (v := (0 : Int32)) hx hb dL_copy_25 (by decide) ?_
    refine lv_istore (lv' := [(10, .int (0 : Int32)), (0, .ref (a 0)), (1, .ref (a 1)), (2, .ref (a 2)), (3, .ref (a 3)), (4, .ref (a 4)), (5, .ref (a 5)), (6, .ref (a 6)), (7, .ref (a 7)), (8, .ref (a 8)), (9, .ref (a 9))]) hx hb dL_copy_26 hl (by decide) rfl (fun ls hl => ?_)
    exact w9_copy_L28 C hK hA fo_fu h hG (lv_sub hl [2, 3, 4, 5, 7, 8, 9, 10, 0] rfl)
  · have h := fo_if h hc
    refine lv_aload hx hb dL_copy_10 (lv_at hl 5 rfl) ?_
    refine lv_iload hx hb dL_copy_12 (lv_at hl 10 rfl) ?_
    refine lv_aload_n hx hb dL_copy_14 rfl (lv_at hl 0 rfl) ?_
    refine lv_iload hx hb dL_copy_15 (lv_at hl 10 rfl) ?_
    obtain ⟨hi, h⟩ := fo_ck_some h
    refine va_iald hx hb hK hG.1 0 0 rfl rfl hi dL_copy_17 ?_
    obtain ⟨hi, h⟩ := fo_ck_some h
    obtain ⟨s18, es18, h⟩ := fo_bd_some h
    have es18 := Option.some.inj es18
    refine va_iast hx hb hK hG.1 hG.2.1 hG.2.2 5 0 rfl rfl hi dL_copy_18 (fun H locs hP9 hD9 hS9 => ?_)
    have hG : gd_W (dC, dI) A s (wd_GG cI a Z (ms_set S 0 (upd (S 0) v10.toNatClampNeg ((Z 0) v10.toNatClampNeg)))) H locs := ⟨hP9, hD9, hS9⟩
    rw [es18] at hG
    refine lv_iinc (v := (v10 + (1 : Int32))) (lv' := [(10, .int (v10 + (1 : Int32))), (0, .ref (a 0)), (1, .ref (a 1)), (2, .ref (a 2)), (3, .ref (a 3)), (4, .ref (a 4)), (5, .ref (a 5)), (6, .ref (a 6)), (7, .ref (a 7)), (8, .ref (a 8)), (9, .ref (a 9))]) hx hb dL_copy_19 hl (k := 10) rfl rfl (by decide) rfl (fun ls hl => ?_)
    refine lv_goto (tgt := 3) hx hb dL_copy_22 (by decide) ?_
    exact hrec3 h hG (lv_sub hl [1, 2, 3, 4, 5, 6, 7, 8, 9, 10, 0] rfl)
set_option maxRecDepth 100000 in
set_option maxHeartbeats 4000000 in
theorem w9_copy_L3 (C : cx_M p s m args meth c RL cL_copy none 11) (hK : va_K (dC, dI) vwCl [(cI, .int)] s) (hA : ∀ q, s.heap.size ≤ q → A q) {a : Nat → Nat} {Z : ms_T} {q : ms_T} : ∀ (n : Nat) {v10 : Int32} {S : ms_T}, f9_copy_L3 Z n v10 S = some q → ∀ {H : Heap} {locs : List Loc} {ls : Array Slot}, gd_W (dC, dI) A s (wd_GG cI a Z S) H locs → lv_has ls 11 [(0, .ref (a 0)), (1, .ref (a 1)), (2, .ref (a 2)), (3, .ref (a 3)), (4, .ref (a 4)), (5, .ref (a 5)), (6, .ref (a 6)), (7, .ref (a 7)), (8, .ref (a 8)), (9, .ref (a 9)), (10, .int v10)] → W p l e RM9_copy s m args below meth c H locs 0 0 (MQ below (qv_W (dC, dI) [(cI, .int)] A (wd_GG cI a Z q)) args s 0 0 A) (F0 m 3 ls []) := by
  intro n
  induction n with
  | zero => intro _ _ h; exact nomatch h
  | succ n ih => intro v10 S h H locs ls hG hl; exact w9_copy_b3 C hK hA (fun h => ih h) (show f9_copy_b3 Z (f9_copy_L3 Z n) v10 S = some q from h) hG hl
set_option maxRecDepth 100000 in
set_option maxHeartbeats 4000000 in
theorem w9_copy (C : cx_M p s m args meth c RL cL_copy none 11) (hK : va_K (dC, dI) vwCl [(cI, .int)] s) (hA : ∀ q, s.heap.size ≤ q → A q) {a : Nat → Nat} {Z : ms_T} {q : ms_T} {S : ms_T} (h : f9_copy Z S = some q) {H : Heap} {locs : List Loc} {ls : Array Slot} (hG : gd_W (dC, dI) A s (wd_GG cI a Z S) H locs) (hl : lv_has ls 11 [(0, .ref (a 0)), (1, .ref (a 1)), (2, .ref (a 2)), (3, .ref (a 3)), (4, .ref (a 4)), (5, .ref (a 5)), (6, .ref (a 6)), (7, .ref (a 7)), (8, .ref (a 8)), (9, .ref (a 9))]) : W p l e RM9_copy s m args below meth c H locs 0 0 (MQ below (qv_W (dC, dI) [(cI, .int)] A (wd_GG cI a Z q)) args s 0 0 A) (F0 m 0 ls []) := by
  unfold f9_copy at h
  obtain ⟨hx, hb, hr, hts, hown, hlocks, hml⟩ := id C
  refine lv_iconst (v := (0 : Int32)) hx hb dL_copy_0 (by decide) ?_
  refine lv_istore (lv' := [(10, .int (0 : Int32)), (0, .ref (a 0)), (1, .ref (a 1)), (2, .ref (a 2)), (3, .ref (a 3)), (4, .ref (a 4)), (5, .ref (a 5)), (6, .ref (a 6)), (7, .ref (a 7)), (8, .ref (a 8)), (9, .ref (a 9))]) hx hb dL_copy_1 hl (by decide) rfl (fun ls hl => ?_)
  exact w9_copy_L3 C hK hA fo_fu h hG (lv_sub hl [1, 2, 3, 4, 5, 6, 7, 8, 9, 10, 0] rfl)
set_option maxRecDepth 100000 in
set_option maxHeartbeats 4000000 in
theorem c9_copy (l : Launch) {dC : Nat → ClassId} {dI : Nat → Nat → Nat} {cI : ClassId} {a : Nat → Nat} {Z : ms_T} {S : ms_T} {q : ms_T} (h : f9_copy Z S = some q) : mv_M l yL_copy wm9_copy RM9_copy (dC, dI) [(cI, .int)] [.ref (a 0), .ref (a 1), .ref (a 2), .ref (a 3), .ref (a 4), .ref (a 5), .ref (a 6), .ref (a 7), .ref (a 8), .ref (a 9)] (wd_GG cI a Z S) (wd_GG cI a Z q) := by
  intro sz
  refine Met.ofW (cc := cL_copy) (maxL := 11) (ret := none) (by decide) rfl ?_
  intro p e s m args below meth c s₁ B hml hv
  obtain ⟨rfl, hsz, hP, hK, hD0⟩ := hv
  subst hsz
  have hl := lv_entry ([.ref (a 0), .ref (a 1), .ref (a 2), .ref (a 3), .ref (a 4), .ref (a 5), .ref (a 6), .ref (a 7), .ref (a 8), .ref (a 9)] : List Value) (n := 11) (Nat.le_of_ble_eq_true rfl)
  rw [lg_entry_eq]
  generalize (lg_sl ([.ref (a 0), .ref (a 1), .ref (a 2), .ref (a 3), .ref (a 4), .ref (a 5), .ref (a 6), .ref (a 7), .ref (a 8), .ref (a 9)] : List Value) ++ List.replicate (11 - (lg_sl ([.ref (a 0), .ref (a 1), .ref (a 2), .ref (a 3), .ref (a 4), .ref (a 5), .ref (a 6), .ref (a 7), .ref (a 8), .ref (a 9)] : List Value)).length) Slot.unset).toArray = ls at hl ⊢
  exact w9_copy (a := a) ⟨B.exec, B.bytes, B.returns, fun w hw => atoms_spec (ws := wm9_copy) B.pre w (List.mem_cons_of_mem _ hw), findClass_of_methodNamed B.named, B.notSynchronized, hml⟩ hK (fun _ h => Or.inr h) h ⟨hP, hD0.self, va_S.rf⟩ hl
end
