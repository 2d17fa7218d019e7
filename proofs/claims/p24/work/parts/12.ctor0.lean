/-! ## constructors: contracts that make cells -/
def mk_M (l : Launch) (y : MethodName) (ws : List Cond) (rm : Room) (D : va_G) (tys : List (ClassId × FieldType)) (vs : List Value) (w0 : va_W) (mc ms : Nat) (w1 : (Nat → Nat) → va_W) (o : Nat) : Prop :=
  ∀ sz : Nat, Met l y ws rm (va_Pc vs (pc_W D tys w0 sz)) (va_Qv (fun (a : Nat → Nat) => a 0 = o) (fun a t => qc_W D tys (va_A w0 sz) (w1 a) () t) (va_A w0 sz)) mc ms (va_A w0 sz)
theorem tys_int {D : va_G} {cl : List vw_C} {cI cA : ClassId} {U : State} {t1 : List (ClassId × FieldType)} (h : va_K D cl ((cI, .int) :: t1 ++ [(cA, .int)]) U) : cA = cI := by
  have h1 : va_RA U cI .int := (h.2 0 (cI, .int) rfl).2
  have h2 : va_RA U cA .int := (h.2 (t1.length + 1) (cA, .int) (by
    show ((cI, FieldType.int) :: (t1 ++ [(cA, FieldType.int)]))[t1.length + 1]? = _
    rw [List.getElem?_cons_succ, List.getElem?_append_right (Nat.le_refl _), Nat.sub_self]; rfl)).2
  have e1 : U.vm.findClass ("[" ++ FieldType.int.toString) = some cI := h1
  have e2 : U.vm.findClass ("[" ++ FieldType.int.toString) = some cA := h2
  exact Option.some.inj (e2.symm.trans e1)
/-- a row behind its constructor: z places that hold e -/
def fl_R : Nat → Int32 → Nat → Int32
  | 0, _ => fun _ => 0
  | k + 1, e => upd (fl_R k e) k e
section CTOR
variable {p : Program} {l : Launch} {e : Env} {R : Room} {s : State} {m : MethodId} {args : Array Value} {below : List Frame} {meth : Method} {c : Code} {H : Heap} {locs : List Loc} {cells slots : Nat} {Q : State → Prop}
variable {cc : ByteArray} {pc nL : Nat} {ls : Array Slot} {rest st0 : List Value} {D : va_G} {A : Nat → Prop} {tys tysC : List (ClassId × FieldType)} {ws : va_W} {Ts wsy : List Cond} {own : String}
variable {y : MethodName} {bytes : ByteArray} {maxL n index mc ms : Nat} {rm : Room} {As : List Value} {w1 : (Nat → Nat) → va_W}
theorem gk_join {A0 : Nat → Prop} {ws1 : va_W} {H1 : Heap} {q : Nat} {c0 : va_E} (hP : va_P D vwCl (ws ++ [(q, c0)]) H) (hD : va_D A0 (ws ++ [(q, c0)])) (hF : ∀ x, va_A [(q, c0)] H.size x → A0 x) (hk : ∀ x : Nat, x < H.size → ¬ va_A [(q, c0)] H.size x → H1[x]? = H[x]?) (hP1 : va_P D vwCl ws1 H1) (hD1 : va_D (va_A [(q, c0)] H.size) ws1) : va_P D vwCl (ws ++ ws1) H1 ∧ va_D A0 (ws ++ ws1) := by
  have get : ∀ (k : Nat) (x : Nat × va_E), ws[k]? = some x → (ws ++ [(q, c0)])[k]? = some x := fun k x h => by
    rw [List.getElem?_append_left (List.getElem?_eq_some_iff.mp h).1]; exact h
  have last : (ws ++ [(q, c0)])[ws.length]? = some (q, c0) := by
    rw [List.getElem?_append_right (Nat.le_refl _), Nat.sub_self]; rfl
  have apart : ∀ (k : Nat) (x : Nat × va_E), ws[k]? = some x → x.1 < H.size ∧ ¬ va_A [(q, c0)] H.size x.1 := by
    intro k x hx
    have h1 := get k x hx
    have hlt := (hP k x h1).lt
    refine ⟨hlt, fun h => ?_⟩
    rcases h with ⟨j, e, h⟩ | h
    · have hj : j < 1 := (List.getElem?_eq_some_iff.mp h).1
      rw [show j = 0 by omega] at h
      cases h
      have := hD.1 k ws.length x (x.1, c0) h1 last rfl
      have := (List.getElem?_eq_some_iff.mp hx).1
      omega
    · omega
  refine ⟨va_P.app (fun k x hx => (hP k x (get k x hx)).kept (hk x.1 (apart k x hx).1 (apart k x hx).2)) hP1, va_D.app ⟨fun i j x y hx hy hxy => hD.1 i j x y (get i x hx) (get j y hy) hxy, fun k x hx => hD.2 k x (get k x hx)⟩ (hD1.weaken (fun k x _ h => hF x.1 h)) (fun i j x y hx hy hxy => (apart i x hx).2 (by rw [hxy]; exact hD1.2 j y hy))⟩
theorem gk_I (S : CallFix p m c cc nL s args Ts own) {q : Nat} {c0 : va_E} (hM : mk_M l y wsy rm D tysC (.ref q :: As) [(q, c0)] mc ms w1 q) (cw : CallB R s args own index y bytes maxL none wsy rm mc ms n ∧ y.name = "<init>" ∧ (Cond.instanceMethod y).before args s = true)
    (hK : va_K D vwCl tys s) (isK : List Nat) (hKs : isK.filterMap (fun i => tys[i]?) = tysC) (hA : ∀ q, s.heap.size ≤ q → A q) (hG : gd_W D A s (ws ++ [(q, c0)]) H locs)
    (hAs : As.length = n) (hsize : ls.size = nL) (hst : st0 = As.reverse ++ .ref q :: rest) (hW : (rest.map fun v => v.category).sum ≤ 8) (hdg : decode cc pc = .ok (.invokespecial index, 3)) (hf : cells + mc ≤ R.cells ∧ slots + ms ≤ R.slots)
    (kk : ∀ (a : Nat → Nat) (H1 : Heap) (locs1 : List Loc), a 0 = q → gd_W D A s (ws ++ w1 a) H1 locs1 → W p l e R s m args below meth c H1 locs1 (cells + mc) (slots + ms) Q (F0 m (pc + 3) ls rest)) : W p l e R s m args below meth c H locs cells slots Q (F0 m pc ls st0) := by
  obtain ⟨hP, hD, hS⟩ := hG
  have hC : [ws.length].map (fun i => (ws ++ [(q, c0)])[i]?) = [(q, c0)].map some := by
    show [(ws ++ [(q, c0)])[ws.length]?] = [some (q, c0)]
    rw [List.getElem?_append_right (Nat.le_refl _), Nat.sub_self]; rfl
  have hPc := ws_P hP _ hC
  have hDc := hD.sub [ws.length] rfl hC
  have hKc := hK.sub isK hKs
  have hFc := ws_free hD hS hA _ hC
  refine va_callv (va_runI (As := As) (rest := rest) S (hM H.size) cw ⟨pc_W_blind, fun U hU hW => ⟨rfl, by rw [hU], by rw [hU]; exact hPc, va_K.moved hW.alike hKc, hDc.weaken (fun _ _ _ _ => trivial)⟩⟩ rfl hAs hsize hst (lv_room hW) hdg hf) hS (fun q _ h => hFc q h) hFc (fun a t H1 locs1 ht hvm hw hB hz1 hk1 hS1 => ?_)
  obtain ⟨hP1, hK1, hD1⟩ := hB
  rw [ht] at hP1
  exact kk a H1 locs1 hw ⟨(gk_join hP hD hFc hk1 hP1 hD1).1, (gk_join hP hD hFc hk1 hP1 hD1).2, hS1⟩
/-- the same, of a nest mate's private constructor -/
theorem gk_N {host : String} (S : CallFix p m c cc nL s args Ts own) {q : Nat} {c0 : va_E} (hM : mk_M l y wsy rm D tysC (.ref q :: As) [(q, c0)] mc ms w1 q) (cw : va_CN R s args own index y host bytes maxL none wsy rm mc ms n ∧ y.name = "<init>" ∧ (Cond.instanceMethod y).before args s = true)
    (hK : va_K D vwCl tys s) (isK : List Nat) (hKs : isK.filterMap (fun i => tys[i]?) = tysC) (hA : ∀ q, s.heap.size ≤ q → A q) (hG : gd_W D A s (ws ++ [(q, c0)]) H locs)
    (hAs : As.length = n) (hsize : ls.size = nL) (hst : st0 = As.reverse ++ .ref q :: rest) (hW : (rest.map fun v => v.category).sum ≤ 8) (hdg : decode cc pc = .ok (.invokespecial index, 3)) (hf : cells + mc ≤ R.cells ∧ slots + ms ≤ R.slots)
    (kk : ∀ (a : Nat → Nat) (H1 : Heap) (locs1 : List Loc), a 0 = q → gd_W D A s (ws ++ w1 a) H1 locs1 → W p l e R s m args below meth c H1 locs1 (cells + mc) (slots + ms) Q (F0 m (pc + 3) ls rest)) : W p l e R s m args below meth c H locs cells slots Q (F0 m pc ls st0) := by
  obtain ⟨hP, hD, hS⟩ := hG
  have hC : [ws.length].map (fun i => (ws ++ [(q, c0)])[i]?) = [(q, c0)].map some := by
    show [(ws ++ [(q, c0)])[ws.length]?] = [some (q, c0)]
    rw [List.getElem?_append_right (Nat.le_refl _), Nat.sub_self]; rfl
  have hPc := ws_P hP _ hC
  have hDc := hD.sub [ws.length] rfl hC
  have hKc := hK.sub isK hKs
  have hFc := ws_free hD hS hA _ hC
  refine va_callv (va_runIN (As := As) (rest := rest) S (hM H.size) cw ⟨pc_W_blind, fun U hU hW => ⟨rfl, by rw [hU], by rw [hU]; exact hPc, va_K.moved hW.alike hKc, hDc.weaken (fun _ _ _ _ => trivial)⟩⟩ rfl hAs hsize hst (lv_room hW) hdg hf) hS (fun q _ h => hFc q h) hFc (fun a t H1 locs1 ht hvm hw hB hz1 hk1 hS1 => ?_)
  obtain ⟨hP1, hK1, hD1⟩ := hB
  rw [ht] at hP1
  exact kk a H1 locs1 hw ⟨(gk_join hP hD hFc hk1 hP1 hD1).1, (gk_join hP hD hFc hk1 hP1 hD1).2, hS1⟩
end CTOR
/-! ## DiceRoads$Row(int, int) -/
abbrev RM6_init (z : Nat) : Room := { frames := 1, cells := 1, slots := z, locals := 30 }
def wm6_init : List Cond := .code yX6_init cX6_init 4 none :: bg_L
set_option maxRecDepth 100000 in
set_option maxHeartbeats 4000000 in
theorem w6_initL {p : Program} {l : Launch} {e : Env} {s : State} {m : MethodId} {args : Array Value} {below : List Frame} {meth : Method} {c : Code} {dC : Nat → ClassId} {dI : Nat → Nat → Nat} {cI : ClassId} {A : Nat → Prop} (C : cx_M p s m args meth c RX6 cX6_init none 4) (hK : va_K (dC, dI) vwCl [(cI, .int)] s) {o q z : Nat} (hz : z ≤ 1000) {v : Int32} : ∀ (n k : Nat), k ≤ z → z + 1 ≤ k + n → ∀ {H : Heap} {locs : List Loc} {ls : Array Slot}, gd_W (dC, dI) A s [(o, .inr (5, [.ref q, .int v])), (q, .inl (cI, (z, .inl (fl_R k v))))] H locs → lv_has ls 4 [(0, .ref o), (1, .int (nI z)), (2, .int v), (3, .int (nI k))] → W p l e (RM6_init z) s m args below meth c H locs 1 z (MQ below (va_Qv (fun (a : Nat → Nat) => a 0 = o) (fun a t => qc_W (dC, dI) [(cI, .int)] A (wd_R cI a v z (fl_R z v)) () t) A) args s 1 z A) (F0 m 22 ls []) := by
  obtain ⟨hx, hb, hr, hts, hown, hlocks, hml⟩ := id C
  intro n
  induction n with
  | zero => intro k h1 h2; exact absurd h2 (by omega)
  | succ n ih =>
    intro k hk hn H locs ls hG hl
    refine lv_iload_n hx hb dX6_init_22 rfl (lv_at hl 3 rfl) ?_
    refine lv_aload_n hx hb dX6_init_23 rfl (lv_at hl 0 rfl) ?_
    refine va_get (D := (dC, dI)) (ci := 5) (v := .ref q) (C := RX6) (T := TX6) (N := 2) hx hb hts inlX6 hown hK hG.1 0 rfl rfl 0 (by decide) (hts (Cond.fieldLink RX6 13 "DiceRoads$Row" "cells" "[I") wr_48) (fun _ h9 => h9) rfl dX6_init_24 ?_
    refine va_alen (v := nI z) hx hb hK hG.1 1 0 rfl rfl rfl dX6_init_27 ?_
    refine lv_icmp_ge (tgt := 44) hx hb dX6_init_28 (by decide) (fun hc => ?_) (fun hc => ?_)
    · have hkz : k = z := by
        rcases Nat.lt_or_ge k z with h | h
        · exact absurd hc (nI_ge h (by omega))
        · omega
      subst hkz
      obtain ⟨hP, hD, hS⟩ := hG
      exact W.vret hx hb hr (fun t ht hW => ⟨⟨(fun j => match j with | 0 => o | _ => q), rfl, rfl, by rw [ht]; exact hP, va_K.moved hW.alike hK, hD⟩, hS.F ht⟩) hS.2.2 dX6_init_44
    · have hlt : k < z := by
        rcases Nat.lt_or_ge k z with h | h
        · exact h
        · exact absurd (nI_le h (by omega)) hc
      refine lv_aload_n hx hb dX6_init_31 rfl (lv_at hl 0 rfl) ?_
      refine va_get (D := (dC, dI)) (ci := 5) (v := .ref q) (C := RX6) (T := TX6) (N := 2) hx hb hts inlX6 hown hK hG.1 0 rfl rfl 0 (by decide) (hts (Cond.fieldLink RX6 13 "DiceRoads$Row" "cells" "[I") wr_48) (fun _ h9 => h9) rfl dX6_init_32 ?_
      refine lv_iload_n hx hb dX6_init_35 rfl (lv_at hl 3 rfl) ?_
      refine lv_iload_n hx hb dX6_init_36 rfl (lv_at hl 2 rfl) ?_
      refine va_iast hx hb hK hG.1 hG.2.1 hG.2.2 1 0 rfl rfl (vp_in_nI hlt (by omega)) dX6_init_37 (fun H locs hP9 hD9 hS9 => ?_)
      have hG : gd_W (dC, dI) A s [(o, .inr (5, [.ref q, .int v])), (q, .inl (cI, (z, .inl (upd (fl_R k v) (nI k).toNatClampNeg v))))] H locs := ⟨hP9, hD9, hS9⟩
      rw [nI_clamp (by omega)] at hG
      refine lv_iinc (v := nI (k + 1)) (lv' := [(3, .int (nI (k + 1))), (0, .ref o), (1, .int (nI z)), (2, .int v)]) hx hb dX6_init_38 hl (k := 3) rfl (nI_1 k) (by decide) rfl (fun ls hl => ?_)
      refine lv_goto (tgt := 22) hx hb dX6_init_41 (by decide) ?_
      exact ih (k + 1) hlt (by omega) hG (lv_sub hl [1, 2, 3, 0] rfl)
set_option maxRecDepth 100000 in
set_option maxHeartbeats 4000000 in
theorem c6_init (l : Launch) {dC : Nat → ClassId} {dI : Nat → Nat → Nat} {cI : ClassId} {o z : Nat} (hz : z ≤ 1000) {v : Int32} : mk_M l yX6_init wm6_init (RM6_init z) (dC, dI) [(cI, .int)] [.ref o, .int (nI z), .int v] [(o, .inr (5, [.null, .int 0]))] 1 z (fun a => wd_R cI a v z (fl_R z v)) o := by
  intro sz
  refine Met.ofW (cc := cX6_init) (maxL := 4) (ret := none) (by decide) rfl ?_
  intro p e s m args below meth c s₁ B hml hv
  obtain ⟨rfl, hsz, hP, hK, hD0⟩ := hv
  have hin : meth.name = "<init>" := (name_of_methodNamed B.named B.method).1
  subst hsz
  have C : cx_M p s m ([.ref o, .int (nI z), .int v] : List Value).toArray meth c RX6 cX6_init none 4 := ⟨B.exec, B.bytes, B.returns, fun w hw => atoms_spec (ws := wm6_init) B.pre w (List.mem_cons_of_mem _ hw), findClass_of_methodNamed B.named, B.notSynchronized, hml⟩
  obtain ⟨hx, hb, hr, hts, hown, hlocks, -⟩ := id C
  have hD := hD0.self (sz := s.heap.size)
  generalize hAe : va_A [(o, .inr (5, [.null, .int 0]))] s.heap.size = A at hD ⊢
  have hA : ∀ q : Nat, s.heap.size ≤ q → A q := fun q h => by rw [← hAe]; exact Or.inr h
  have hS : va_S A s.heap s.heap [] := va_S.rf
  have hl := lv_entry ([.ref o, .int (nI z), .int v] : List Value) (n := 4) (Nat.le_of_ble_eq_true rfl)
  rw [lg_entry_eq]
  generalize (lg_sl ([.ref o, .int (nI z), .int v] : List Value) ++ List.replicate (4 - (lg_sl ([.ref o, .int (nI z), .int v] : List Value)).length) Slot.unset).toArray = ls at hl ⊢
  have hl : lv_has ls 4 [(0, .ref o), (1, .int (nI z)), (2, .int v)] := hl
  refine lv_aload_n hx hb dX6_init_0 rfl (lv_at hl 0 rfl) ?_
  refine W.objInit hx hb hown (hts _ wr_44) (hts _ wr_25) (hts _ wr_26) rfl (by rw [hml]; exact hl.1) rfl dX6_init_1 (Nat.le_of_ble_eq_true rfl) (Nat.le_of_ble_eq_true rfl) ?_
  refine W.eq (g2 := F0 m 4 ls []) rfl ?_
  refine lv_aload_n hx hb dX6_init_4 rfl (lv_at hl 0 rfl) ?_
  refine lv_iload_n hx hb dX6_init_5 rfl (lv_at hl 1 rfl) ?_
  refine lv_iconst (v := 0) hx hb dX6_init_6 (by decide) ?_
  refine va_mmax hx hb (hml.trans hl.1.symm) hown (hts _ wr_45) (hts _ wr_46) (hts _ wr_15) (hts _ wr_47) (Nat.le_of_ble_eq_true rfl) (Nat.le_of_ble_eq_true rfl) (Nat.zero_le _) (Nat.zero_le _) dX6_init_7 ?_
  refine W.eq (g2 := F0 m 10 ls [.int (nI z), .ref o]) (by rw [if_neg (nI_pos (by omega))]) ?_
  refine va_newa (atype := .int) (N' := z) (a0 := (z, .inl (fun _ => 0))) hx hb (hts _ wr_55) rfl hK hP hD hS hA (fun cA => rfl) (nI_pos (by omega)) (nI_clamp (by omega)) (by show z * 4 ≤ 536870912; omega) (Nat.le_refl _) (by show 0 + z ≤ z; omega) dX6_init_10 (fun q cA H hK2 hP hD hS => ?_)
  have hcA : cA = cI := tys_int (t1 := []) hK2
  subst hcA
  refine W.widen (k := 1) (n := z) (by omega) (by omega) ?_
  have hP : va_P (dC, dI) vwCl [(o, .inr (5, [.null, .int 0])), (q, .inl (cA, (z, .inl (fun _ => 0))))] H := hP
  have hD : va_D A [(o, .inr (5, [.null, .int 0])), (q, .inl (cA, (z, .inl (fun _ => 0))))] := hD
  refine va_putF (D := (dC, dI)) (ci := 5) (v := .ref q) (ty := .array .int) (C := RX6) (T := TX6) (N := 2) hx hb hts inlX6 tyX6 tyX6_ok nmX6 hown hK hP hD hS 0 rfl rfl 0 (by decide) (hts (Cond.fieldLink RX6 13 "DiceRoads$Row" "cells" "[I") wr_48) (fun _ h9 => h9) rfl hin rfl (by decide +kernel) rfl rfl (Nat.le_of_ble_eq_true rfl) dX6_init_12 (fun H locs hP hD hS => ?_)
  have hP : va_P (dC, dI) vwCl [(o, .inr (5, [.ref q, .int 0])), (q, .inl (cA, (z, .inl (fun _ => 0))))] H := hP
  have hD : va_D A [(o, .inr (5, [.ref q, .int 0])), (q, .inl (cA, (z, .inl (fun _ => 0))))] := hD
  refine lv_aload_n hx hb dX6_init_15 rfl (lv_at hl 0 rfl) ?_
  refine lv_iload_n hx hb dX6_init_16 rfl (lv_at hl 2 rfl) ?_
  refine va_putF (D := (dC, dI)) (ci := 5) (v := .int v) (ty := .int) (C := RX6) (T := TX6) (N := 2) hx hb hts inlX6 tyX6 tyX6_ok nmX6 hown hK hP hD hS 0 rfl rfl 1 (by decide) (hts (Cond.fieldLink RX6 19 "DiceRoads$Row" "empty" "I") wr_49) (fun _ h9 => h9) rfl hin rfl (by decide +kernel) rfl rfl (Nat.le_of_ble_eq_true rfl) dX6_init_17 (fun H locs hP hD hS => ?_)
  have hG : gd_W (dC, dI) A s [(o, .inr (5, [.ref q, .int v])), (q, .inl (cA, (z, .inl (fl_R 0 v))))] H locs := ⟨hP, hD, hS⟩
  refine lv_iconst (v := nI 0) hx hb dX6_init_20 (by decide) ?_
  refine lv_istore_n (lv' := [(3, .int (nI 0)), (0, .ref o), (1, .int (nI z)), (2, .int v)]) hx hb dX6_init_21 rfl hl (by decide) rfl (fun ls hl => ?_)
  exact w6_initL C hK hz (z + 1) 0 (Nat.zero_le _) (by omega) hG (lv_sub hl [1, 2, 3, 0] rfl)
