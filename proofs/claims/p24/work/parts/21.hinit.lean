/-! ## constructors of History and DiceRoads -/
def nb_M (l : Launch) (y : MethodName) (ws : List Cond) (rm : Room) (D : va_G) (tys : List (ClassId × FieldType)) (t1 t2 t3 : Nat) (vs : List Value) (w0 : va_W) (mc ms : Nat) (ok : (Nat → Nat → Nat) → Prop) (w1 : (Nat → Nat → Nat) → va_W) : Prop :=
  ∀ sz : Nat, Met l y ws rm (va_Pc vs (fun U => va_AO RX0 U ∧ ps_W D tys t1 t2 t3 w0 sz U)) (va_Qv ok (fun b t => qc_W D tys (va_A w0 sz) (w1 b) () t) (va_A w0 sz)) mc ms (va_A w0 sz)
theorem po_W_blind {D : va_G} {tys : List (ClassId × FieldType)} {vs : List Value} {t1 t2 t3 : Nat} {w0 : va_W} {sz : Nat} : FrameBlind (va_Pc vs (fun U => va_AO RX0 U ∧ ps_W D tys t1 t2 t3 w0 sz U)) :=
  fun a U g mk q => ⟨q.1, va_AO.moved (u := U) (U := U.calling g mk a) (Vm.Alike.refl U.vm) q.2.1, (ps_W_blind a U g mk ⟨q.1, q.2.2⟩).2⟩
theorem tys_ref {D : va_G} {cl : List vw_C} {cI cB cA : ClassId} {C : String} {U : State} {t1 : List (ClassId × FieldType)} (h : va_K D cl ((cI, .int) :: (cB, .object C) :: t1 ++ [(cA, .object C)]) U) : cA = cB := by
  have h1 : va_RA U cB (.object C) := (h.2 1 (cB, .object C) rfl).2
  have h2 : va_RA U cA (.object C) := (h.2 (t1.length + 2) (cA, .object C) (by
    show ((cI, FieldType.int) :: (cB, FieldType.object C) :: (t1 ++ [(cA, FieldType.object C)]))[t1.length + 2]? = _
    rw [List.getElem?_cons_succ, List.getElem?_cons_succ, List.getElem?_append_right (Nat.le_refl _), Nat.sub_self]; rfl)).2
  obtain ⟨_, _, _, _, _, e1⟩ := h1
  obtain ⟨_, _, _, _, _, e2⟩ := h2
  exact Option.some.inj (e2.symm.trans e1)
theorem refs_cell {cB : ClassId} {n : Nat} {f g : Nat → Option Nat} (h : ∀ j, j < n → f j = g j) : vp_cell cB (n, .inr (.inr (.inr (.inr f)))) = vp_cell cB (n, .inr (.inr (.inr (.inr g)))) := by
  show arrV cB n (fun j => va_rf (f j)) = arrV cB n (fun j => va_rf (g j))
  unfold arrV
  congr 2
  funext j
  exact congrArg va_rf (h j.1 j.2)
theorem gd_refs {D : va_G} {A : Nat → Prop} {s : State} {ws wt : va_W} {a n : Nat} {cB : ClassId} {f g : Nat → Option Nat} {H : Heap} {locs : List Loc} (h : ∀ j, j < n → f j = g j) (hG : gd_W D A s (ws ++ (a, .inl (cB, (n, .inr (.inr (.inr (.inr f)))))) :: wt) H locs) : gd_W D A s (ws ++ (a, .inl (cB, (n, .inr (.inr (.inr (.inr g)))))) :: wt) H locs := by
  obtain ⟨hP, hD, hS⟩ := hG
  refine ⟨gd_mem.mpr fun q hq => ?_, gd_nd.mpr ⟨?_, fun q hq => ?_⟩, hS⟩
  · rcases List.mem_append.mp hq with h1 | h1
    · exact gd_mem.mp hP q (List.mem_append_left _ h1)
    · rcases List.mem_cons.mp h1 with rfl | h1
      · have h2 : va_at D vwCl (a, .inl (cB, (n, .inr (.inr (.inr (.inr f)))))) H := gd_mem.mp hP _ (List.mem_append_right _ List.mem_cons_self)
        show H[a]? = some (vp_cell cB (n, .inr (.inr (.inr (.inr g)))))
        rw [← refs_cell h]
        exact h2
      · exact gd_mem.mp hP q (List.mem_append_right _ (List.mem_cons_of_mem _ h1))
  · have h1 := (gd_nd.mp hD).1
    rw [List.map_append, List.map_cons] at h1 ⊢
    exact h1
  · have h0 := (gd_nd.mp hD).2
    rcases List.mem_append.mp hq with h1 | h1
    · exact h0 q (List.mem_append_left _ h1)
    · rcases List.mem_cons.mp h1 with rfl | h1
      · exact h0 (a, .inl (cB, (n, .inr (.inr (.inr (.inr f)))))) (List.mem_append_right _ List.mem_cons_self)
      · exact h0 q (List.mem_append_right _ (List.mem_cons_of_mem _ h1))
section ICALL
variable {p : Program} {l : Launch} {e : Env} {R : Room} {s : State} {m : MethodId} {args : Array Value} {below : List Frame} {meth : Method} {c : Code} {H : Heap} {locs : List Loc} {cells slots : Nat} {Q : State → Prop}
variable {cc : ByteArray} {pc nL : Nat} {ls : Array Slot} {rest st0 : List Value} {D : va_G} {A : Nat → Prop} {tys tysC t1s : List (ClassId × FieldType)} {ws : va_W} {Ts wsy : List Cond} {own : String}
variable {y : MethodName} {bytes : ByteArray} {maxL n index mc ms t1 t2 t3 : Nat} {rm : Room} {As : List Value}
theorem gk_S (S : CallFix p m c cc nL s args Ts own) (hF0 : sn_W t1 t2 t3 A s s.heap) {q : Nat} {c0 : va_E} {w1 : (Nat → Nat) → va_W} (hM : nk_M l y wsy rm D tysC t1 t2 t3 (.ref q :: As) [(q, c0)] mc ms w1 q) (cw : CallB R s args own index y bytes maxL none wsy rm mc ms n ∧ y.name = "<init>" ∧ (Cond.instanceMethod y).before args s = true)
    (hK : va_K D vwCl tys s) (isK : List Nat) (hKs : isK.filterMap (fun i => tys[i]?) = tysC) (hA : ∀ q, s.heap.size ≤ q → A q) (hG : gd_W D A s (ws ++ [(q, c0)]) H locs)
    (hAs : As.length = n) (hsize : ls.size = nL) (hst : st0 = As.reverse ++ .ref q :: rest) (hW : (rest.map fun v => v.category).sum ≤ 8) (hdg : decode cc pc = .ok (.invokespecial index, 3)) (hf : cells + mc ≤ R.cells ∧ slots + ms ≤ R.slots)
    (kk : ∀ (a : Nat → Nat) (H1 : Heap) (locs1 : List Loc), a 0 = q → gd_W D A s (ws ++ w1 a) H1 locs1 → W p l e R s m args below meth c H1 locs1 (cells + mc) (slots + ms) Q (F0 m (pc + 3) ls rest)) : W p l e R s m args below meth c H locs cells slots Q (F0 m pc ls st0) := by
  obtain ⟨hP, hD, hS⟩ := hG
  have hC : [ws.length].map (fun i => (ws ++ [(q, c0)])[i]?) = [(q, c0)].map some := by
    show [(ws ++ [(q, c0)])[ws.length]?] = [some (q, c0)]
    rw [List.getElem?_append_right (Nat.le_refl _), Nat.sub_self]; rfl
  have hPc := ws_P hP _ hC
  have hDc := hD.sub [ws.length] rfl hC
  have hKc := hK.sub isK hKs
  have hFc := ws_free hD hS hA _ hC
  refine va_callv (va_runI (As := As) (rest := rest) S (hM H.size) cw ⟨ps_W_blind, fun U hU hW => ⟨rfl, ⟨by rw [hU], by rw [hU]; exact hPc, va_K.moved hW.alike hKc, hDc.weaken (fun _ _ _ _ => trivial)⟩, hF0.go hS hFc hU hW⟩⟩ rfl hAs hsize hst (lv_room hW) hdg hf) hS (fun q _ h => hFc q h) hFc (fun a t H1 locs1 ht hvm hw hB hz1 hk1 hS1 => ?_)
  obtain ⟨hP1, hK1, hD1⟩ := hB
  rw [ht] at hP1
  exact kk a H1 locs1 hw ⟨(gk_join hP hD hFc hk1 hP1 hD1).1, (gk_join hP hD hFc hk1 hP1 hD1).2, hS1⟩
theorem gk_B (S : CallFix p m c cc nL s args Ts own) (hF0 : sn_W t1 t2 t3 A s s.heap) (hO : va_AO RX0 s) {q : Nat} {c0 : va_E} {ok : (Nat → Nat → Nat) → Prop} {w1 : (Nat → Nat → Nat) → va_W} (hM : nb_M l y wsy rm D tysC t1 t2 t3 (.ref q :: As) [(q, c0)] mc ms ok w1) (cw : CallB R s args own index y bytes maxL none wsy rm mc ms n ∧ y.name = "<init>" ∧ (Cond.instanceMethod y).before args s = true)
    (hK : va_K D vwCl tys s) (isK : List Nat) (hKs : isK.filterMap (fun i => tys[i]?) = tysC) (hA : ∀ q, s.heap.size ≤ q → A q) (hG : gd_W D A s (ws ++ [(q, c0)]) H locs)
    (hAs : As.length = n) (hsize : ls.size = nL) (hst : st0 = As.reverse ++ .ref q :: rest) (hW : (rest.map fun v => v.category).sum ≤ 8) (hdg : decode cc pc = .ok (.invokespecial index, 3)) (hf : cells + mc ≤ R.cells ∧ slots + ms ≤ R.slots)
    (kk : ∀ (b : Nat → Nat → Nat) (H1 : Heap) (locs1 : List Loc), ok b → gd_W D A s (ws ++ w1 b) H1 locs1 → W p l e R s m args below meth c H1 locs1 (cells + mc) (slots + ms) Q (F0 m (pc + 3) ls rest)) : W p l e R s m args below meth c H locs cells slots Q (F0 m pc ls st0) := by
  obtain ⟨hP, hD, hS⟩ := hG
  have hC : [ws.length].map (fun i => (ws ++ [(q, c0)])[i]?) = [(q, c0)].map some := by
    show [(ws ++ [(q, c0)])[ws.length]?] = [some (q, c0)]
    rw [List.getElem?_append_right (Nat.le_refl _), Nat.sub_self]; rfl
  have hPc := ws_P hP _ hC
  have hDc := hD.sub [ws.length] rfl hC
  have hKc := hK.sub isK hKs
  have hFc := ws_free hD hS hA _ hC
  refine va_callv (va_runI (As := As) (rest := rest) S (hM H.size) cw ⟨po_W_blind, fun U hU hW => ⟨rfl, hO.moved hW.alike, ⟨by rw [hU], by rw [hU]; exact hPc, va_K.moved hW.alike hKc, hDc.weaken (fun _ _ _ _ => trivial)⟩, hF0.go hS hFc hU hW⟩⟩ rfl hAs hsize hst (lv_room hW) hdg hf) hS (fun q _ h => hFc q h) hFc (fun b t H1 locs1 ht hvm hw hB hz1 hk1 hS1 => ?_)
  obtain ⟨hP1, hK1, hD1⟩ := hB
  rw [ht] at hP1
  exact kk b H1 locs1 hw ⟨(gk_join hP hD hFc hk1 hP1 hD1).1, (gk_join hP hD hFc hk1 hP1 hD1).2, hS1⟩
theorem gn_newq (hx : p.tables.exec = Jvm.exec) (hb : c.code = cc) {C : String} (hown : s.vm.findClass own = some m.cls) (hclink : (Cond.classLink own index C).before args s = true) (hover : va_AO C s) {cI cB : ClassId} (hK : va_K D vwCl ((cI, .int) :: (cB, .object C) :: t1s) s) (hA : ∀ q, s.heap.size ≤ q → A q) (hG : gd_W D A s ws H locs) {i : Int32} {N' : Nat} (hn : ¬ i < 0) (hN : i.toNatClampNeg = N') (hbytes : N' * 4 ≤ 536870912) (hcells : cells + 1 ≤ R.cells) (hslots : slots + N' ≤ R.slots) (hdg : decode cc pc = .ok (.anewarray index, 3))
    (kk : ∀ (q : Nat) (H1 : Heap), gd_W D A s (ws ++ [(q, .inl (cB, (N', .inr (.inr (.inr (.inr (fun _ => none)))))))]) H1 locs → W p l e R s m args below meth c H1 locs (cells + 1) (slots + N') Q (F0 m (pc + 3) ls (.ref q :: rest))) : W p l e R s m args below meth c H locs cells slots Q (F0 m pc ls (.int i :: rest)) := by
  obtain ⟨hP, hD, hS⟩ := hG
  refine va_newq (C := C) hx hb hown hclink hover hK hP hD hS hA hn hN hbytes hcells hslots hdg (fun q cA H1 hK2 hP hD hS => ?_)
  have hcA : cA = cB := tys_ref (t1 := t1s) hK2
  subst hcA
  exact kk q H1 ⟨hP, hD, hS⟩
end ICALL
def hz_0 : ms_T := fun _ _ => 0
def hb_7 (o qa : Nat) (a0 a1 a2 a3 a4 a5 a6 : Nat → Nat) : Nat → Nat → Nat := fun g k => match g with | 2 => (match k with | 0 => o | _ => qa) | 7 => a0 k | 8 => a1 k | 9 => a2 k | 10 => a3 k | 11 => a4 k | 12 => a5 k | _ => a6 k
abbrev gH0 (cI cB : ClassId) (b : Nat → Nat → Nat) : List va_W := [wd_H cB (b 2) (fun k => b (7 + k) 0) hz_0, wd_B cI (b 7) bd_0, wd_B cI (b 8) bd_0, wd_B cI (b 9) bd_0, wd_B cI (b 10) bd_0, wd_B cI (b 11) bd_0, wd_B cI (b 12) bd_0, wd_B cI (b 13) bd_0]
abbrev RM2_init : Room := { frames := 4, cells := 190, slots := 1057, locals := 94 }
def wm2_init : List Cond := .code yX2_init cX2_init 2 none :: bg_L
set_option maxRecDepth 100000 in
set_option maxHeartbeats 8000000 in
theorem c2_init (l : Launch) {dC : Nat → ClassId} {dI : Nat → Nat → Nat} {cI cB : ClassId} {t1 t2 t3 o : Nat} : nb_M l yX2_init wm2_init RM2_init (dC, dI) [(cI, .int), (cB, .object "DiceRoads$Board")] t1 t2 t3 [.ref o] [(o, .inr (2, [.null, .int 0, .int 0]))] 190 1057 (fun b => b 2 0 = o) (fun b => (gH0 cI cB b).flatten) := by
  intro sz
  refine Met.ofW (cc := cX2_init) (maxL := 2) (ret := none) (by decide) rfl ?_
  intro p e s m args below meth c s₁ B hml hv
  obtain ⟨rfl, hO, ⟨hsz, hP, hK, hD0⟩, hF⟩ := hv
  have hin : meth.name = "<init>" := (name_of_methodNamed B.named B.method).1
  subst hsz
  have C : cx_M p s m ([.ref o] : List Value).toArray meth c RX2 cX2_init none 2 := ⟨B.exec, B.bytes, B.returns, fun w hw => atoms_spec (ws := wm2_init) B.pre w (List.mem_cons_of_mem _ hw), findClass_of_methodNamed B.named, B.notSynchronized, hml⟩
  obtain ⟨hx, hb, hr, hts, hown, hlocks, -⟩ := id C
  have hD := hD0.self (sz := s.heap.size)
  have hF : sn_W t1 t2 t3 _ s s.heap := hF
  generalize hAe : va_A [(o, .inr (2, [.null, .int 0, .int 0]))] s.heap.size = A at hD hF ⊢
  have hA : ∀ q : Nat, s.heap.size ≤ q → A q := fun q h => by rw [← hAe]; exact Or.inr h
  have hl := lv_entry ([.ref o] : List Value) (n := 2) (Nat.le_of_ble_eq_true rfl)
  rw [lg_entry_eq]
  generalize (lg_sl ([.ref o] : List Value) ++ List.replicate (2 - (lg_sl ([.ref o] : List Value)).length) Slot.unset).toArray = ls at hl ⊢
  have hl : lv_has ls 2 [(0, .ref o)] := hl
  have hG : gd_W (dC, dI) A s [(o, .inr (2, [.null, .int 0, .int 0]))] s.heap [] := ⟨hP, hD, va_S.rf⟩
  refine lv_aload_n hx hb dX2_init_0 rfl (lv_at hl 0 rfl) ?_
  refine W.objInit hx hb hown (hts _ wr_141) (hts _ wr_25) (hts _ wr_26) rfl (by rw [hml]; exact hl.1) rfl dX2_init_1 (Nat.le_of_ble_eq_true rfl) (Nat.le_of_ble_eq_true rfl) ?_
  refine W.eq (g2 := F0 m 4 ls []) rfl ?_
  refine lv_aload_n hx hb dX2_init_4 rfl (lv_at hl 0 rfl) ?_
  refine lv_bipush (v := 7) hx hb dX2_init_5 (by decide) ?_
  refine gn_newq (C := RX0) (N' := 7) hx hb hown (hts _ wr_142) hO hK hA hG (by decide) (by decide) (by decide) (Nat.le_of_ble_eq_true rfl) (Nat.le_of_ble_eq_true rfl) dX2_init_7 (fun qa H hG9 => ?_)
  have hG : gd_W (dC, dI) A s ([(o, .inr (2, [.null, .int 0, .int 0])), (qa, .inl (cB, (7, .inr (.inr (.inr (.inr (fun _ => none)))))))]) H _ := hG9
  refine va_putF (D := (dC, dI)) (ci := 2) (v := .ref qa) (ty := .array (.object "DiceRoads$Board")) (C := RX2) (T := TX2) (N := 3) hx hb hts inlX2 tyX2 tyX2_ok nmX2 hown hK hG.1 hG.2.1 hG.2.2 0 rfl rfl 0 (by decide) (hts _ wr_145) (fun _ h9 => h9) rfl hin rfl (by decide +kernel) rfl rfl (Nat.le_of_ble_eq_true rfl) dX2_init_10 (fun H locs hP9 hD9 hS9 => ?_)
  have hG : gd_W (dC, dI) A s ([(o, .inr (2, [.ref qa, .int 0, .int 0])), (qa, .inl (cB, (7, .inr (.inr (.inr (.inr (fun _ => none)))))))]) H locs := ⟨hP9, hD9, hS9⟩
  refine lv_aload_n hx hb dX2_init_13 rfl (lv_at hl 0 rfl) ?_
  refine lv_iconst (v := 0) hx hb dX2_init_14 (by decide) ?_
  refine va_put (D := (dC, dI)) (ci := 2) (v := .int 0) (ty := .int) (C := RX2) (T := TX2) (N := 3) hx hb hts inlX2 tyX2 tyX2_ok nmX2 hown hK hG.1 hG.2.1 hG.2.2 0 rfl rfl 1 (by decide) (hts _ wr_146) (fun _ h9 => h9) rfl (by decide +kernel) rfl rfl (Nat.le_of_ble_eq_true rfl) dX2_init_15 (fun H locs hP9 hD9 hS9 => ?_)
  have hG : gd_W (dC, dI) A s ([(o, .inr (2, [.ref qa, .int 0, .int 0])), (qa, .inl (cB, (7, .inr (.inr (.inr (.inr (fun _ => none)))))))]) H locs := ⟨hP9, hD9, hS9⟩
  refine lv_aload_n hx hb dX2_init_18 rfl (lv_at hl 0 rfl) ?_
  refine lv_iconst (v := 0) hx hb dX2_init_19 (by decide) ?_
  refine va_put (D := (dC, dI)) (ci := 2) (v := .int 0) (ty := .int) (C := RX2) (T := TX2) (N := 3) hx hb hts inlX2 tyX2 tyX2_ok nmX2 hown hK hG.1 hG.2.1 hG.2.2 0 rfl rfl 2 (by decide) (hts _ wr_147) (fun _ h9 => h9) rfl (by decide +kernel) rfl rfl (Nat.le_of_ble_eq_true rfl) dX2_init_20 (fun H locs hP9 hD9 hS9 => ?_)
  have hG : gd_W (dC, dI) A s ([(o, .inr (2, [.ref qa, .int 0, .int 0])), (qa, .inl (cB, (7, .inr (.inr (.inr (.inr (fun _ => none)))))))]) H locs := ⟨hP9, hD9, hS9⟩
  refine lv_iconst (v := nI 0) hx hb dX2_init_23 (by decide) ?_
  refine lv_istore_n (lv' := [(1, .int (nI 0)), (0, .ref o)]) hx hb dX2_init_24 rfl hl (by decide) rfl (fun ls hl => ?_)
  refine lv_iload_n hx hb dX2_init_25 rfl (lv_at hl 0 rfl) ?_
  refine lv_aload_n hx hb dX2_init_26 rfl (lv_at hl 1 rfl) ?_
  refine va_get (D := (dC, dI)) (ci := 2) (v := .ref qa) (C := RX2) (T := TX2) (N := 3) hx hb hts inlX2 hown hK hG.1 0 rfl rfl 0 (by decide) (hts _ wr_145) (fun _ h9 => h9) rfl dX2_init_27 ?_
  refine va_alen (v := (7 : Int32)) hx hb hK hG.1 1 1 rfl rfl rfl dX2_init_30 ?_
  refine lv_icmp_ge (tgt := 53) hx hb dX2_init_31 (by decide) (fun hc => absurd hc (by decide)) (fun hc => ?_)
  refine lv_aload_n hx hb dX2_init_34 rfl (lv_at hl 1 rfl) ?_
  refine va_get (D := (dC, dI)) (ci := 2) (v := .ref qa) (C := RX2) (T := TX2) (N := 3) hx hb hts inlX2 hown hK hG.1 0 rfl rfl 0 (by decide) (hts _ wr_145) (fun _ h9 => h9) rfl dX2_init_35 ?_
  refine lv_iload_n hx hb dX2_init_38 rfl (lv_at hl 0 rfl) ?_
  refine va_new (ci := 0) (fs := [.null, .null, .null, .null, .null, .null, .null, .null, .null, .int 0, .int 0, .int 0, .int 0, .int 0, .int 0]) (C := RX0) (T := TX0) (N := 15) hx hb hts inlX0 tyX0 tyX0_ok hown (hts _ wr_142) (hts _ wr_28) (hts _ wr_12) hK hG.1 hG.2.1 hG.2.2 hA rfl (fun j hj => by rcases (show j = 0 ∨ j = 1 ∨ j = 2 ∨ j = 3 ∨ j = 4 ∨ j = 5 ∨ j = 6 ∨ j = 7 ∨ j = 8 ∨ j = 9 ∨ j = 10 ∨ j = 11 ∨ j = 12 ∨ j = 13 ∨ j = 14 by omega) with rfl | rfl | rfl | rfl | rfl | rfl | rfl | rfl | rfl | rfl | rfl | rfl | rfl | rfl | rfl <;> rfl) (Nat.le_of_ble_eq_true rfl) (Nat.le_of_ble_eq_true rfl) dX2_init_39 (fun q0 H hP9 hD9 hS9 => ?_)
  have hG : gd_W (dC, dI) A s ([(o, .inr (2, [.ref qa, .int 0, .int 0])), (qa, .inl (cB, (7, .inr (.inr (.inr (.inr (fun _ => none)))))))] ++ [(q0, .inr (0, [.null, .null, .null, .null, .null, .null, .null, .null, .null, .int 0, .int 0, .int 0, .int 0, .int 0, .int 0]))]) H _ := ⟨hP9, hD9, hS9⟩
  refine lv_dup hx hb dX2_init_42 rfl ?_
  refine gk_S (q := q0) (As := []) (rest := [.ref q0, .int (nI 0), .ref qa]) (ws := [(o, .inr (2, [.ref qa, .int 0, .int 0])), (qa, .inl (cB, (7, .inr (.inr (.inr (.inr (fun _ => none)))))))]) (w1 := fun a => wd_B cI a bd_0) ⟨hx, hb, hml, hown, hts⟩ hF (c0_init l) (cwI 0 hts (gb_I wr_31) rfl rfl rfl (hts _ wr_12) (hts _ wr_144) (hts _ wr_30) rfl (by decide +kernel) ⟨Nat.le_of_ble_eq_true rfl, Nat.le_of_ble_eq_true rfl⟩) hK [0] rfl hA hG rfl hl.1 rfl (Nat.le_of_ble_eq_true rfl) dX2_init_43 ⟨Nat.le_of_ble_eq_true rfl, Nat.le_of_ble_eq_true rfl⟩ (fun a0 H locs ha hG8 => ?_)
  subst ha
  have hG := hG8
  refine va_astq hx hb hK hG.1 hG.2.1 hG.2.2 1 1 2 0 (r := (RX0, TX0, 15)) rfl rfl rfl rfl (vp_in_nI (n := 0) (by decide) (by decide)) dX2_init_46 (fun H locs hP9 hD9 hS9 => ?_)
  rw [nI_clamp (by decide)] at hP9 hD9
  have hG : gd_W (dC, dI) A s ([(o, .inr (2, [.ref qa, .int 0, .int 0])), (qa, .inl (cB, (7, .inr (.inr (.inr (.inr (va_up (fun _ => none) 0 (some (a0 0)))))))))] ++ wd_B cI a0 bd_0) H locs := ⟨hP9, hD9, hS9⟩
  refine lv_iinc (v := nI 1) (lv' := [(1, .int (nI 1)), (0, .ref o)]) hx hb dX2_init_47 hl (k := 0) rfl (by decide) (by decide) rfl (fun ls hl => ?_)
  refine lv_goto (tgt := 25) hx hb dX2_init_50 (by decide) ?_
  refine lv_iload_n hx hb dX2_init_25 rfl (lv_at hl 0 rfl) ?_
  refine lv_aload_n hx hb dX2_init_26 rfl (lv_at hl 1 rfl) ?_
  refine va_get (D := (dC, dI)) (ci := 2) (v := .ref qa) (C := RX2) (T := TX2) (N := 3) hx hb hts inlX2 hown hK hG.1 0 rfl rfl 0 (by decide) (hts _ wr_145) (fun _ h9 => h9) rfl dX2_init_27 ?_
  refine va_alen (v := (7 : Int32)) hx hb hK hG.1 1 1 rfl rfl rfl dX2_init_30 ?_
  refine lv_icmp_ge (tgt := 53) hx hb dX2_init_31 (by decide) (fun hc => absurd hc (by decide)) (fun hc => ?_)
  refine lv_aload_n hx hb dX2_init_34 rfl (lv_at hl 1 rfl) ?_
  refine va_get (D := (dC, dI)) (ci := 2) (v := .ref qa) (C := RX2) (T := TX2) (N := 3) hx hb hts inlX2 hown hK hG.1 0 rfl rfl 0 (by decide) (hts _ wr_145) (fun _ h9 => h9) rfl dX2_init_35 ?_
  refine lv_iload_n hx hb dX2_init_38 rfl (lv_at hl 0 rfl) ?_
  refine va_new (ci := 0) (fs := [.null, .null, .null, .null, .null, .null, .null, .null, .null, .int 0, .int 0, .int 0, .int 0, .int 0, .int 0]) (C := RX0) (T := TX0) (N := 15) hx hb hts inlX0 tyX0 tyX0_ok hown (hts _ wr_142) (hts _ wr_28) (hts _ wr_12) hK hG.1 hG.2.1 hG.2.2 hA rfl (fun j hj => by rcases (show j = 0 ∨ j = 1 ∨ j = 2 ∨ j = 3 ∨ j = 4 ∨ j = 5 ∨ j = 6 ∨ j = 7 ∨ j = 8 ∨ j = 9 ∨ j = 10 ∨ j = 11 ∨ j = 12 ∨ j = 13 ∨ j = 14 by omega) with rfl | rfl | rfl | rfl | rfl | rfl | rfl | rfl | rfl | rfl | rfl | rfl | rfl | rfl | rfl <;> rfl) (Nat.le_of_ble_eq_true rfl) (Nat.le_of_ble_eq_true rfl) dX2_init_39 (fun q1 H hP9 hD9 hS9 => ?_)
  have hG : gd_W (dC, dI) A s ([(o, .inr (2, [.ref qa, .int 0, .int 0])), (qa, .inl (cB, (7, .inr (.inr (.inr (.inr (va_up (fun _ => none) 0 (some (a0 0)))))))))] ++ wd_B cI a0 bd_0 ++ [(q1, .inr (0, [.null, .null, .null, .null, .null, .null, .null, .null, .null, .int 0, .int 0, .int 0, .int 0, .int 0, .int 0]))]) H _ := ⟨hP9, hD9, hS9⟩
  refine lv_dup hx hb dX2_init_42 rfl ?_
  refine gk_S (q := q1) (As := []) (rest := [.ref q1, .int (nI 1), .ref qa]) (ws := [(o, .inr (2, [.ref qa, .int 0, .int 0])), (qa, .inl (cB, (7, .inr (.inr (.inr (.inr (va_up (fun _ => none) 0 (some (a0 0)))))))))] ++ wd_B cI a0 bd_0) (w1 := fun a => wd_B cI a bd_0) ⟨hx, hb, hml, hown, hts⟩ hF (c0_init l) (cwI 0 hts (gb_I wr_31) rfl rfl rfl (hts _ wr_12) (hts _ wr_144) (hts _ wr_30) rfl (by decide +kernel) ⟨Nat.le_of_ble_eq_true rfl, Nat.le_of_ble_eq_true rfl⟩) hK [0] rfl hA hG rfl hl.1 rfl (Nat.le_of_ble_eq_true rfl) dX2_init_43 ⟨Nat.le_of_ble_eq_true rfl, Nat.le_of_ble_eq_true rfl⟩ (fun a1 H locs ha hG8 => ?_)
  subst ha
  have hG := hG8
  refine va_astq hx hb hK hG.1 hG.2.1 hG.2.2 1 1 29 0 (r := (RX0, TX0, 15)) rfl rfl rfl rfl (vp_in_nI (n := 1) (by decide) (by decide)) dX2_init_46 (fun H locs hP9 hD9 hS9 => ?_)
  rw [nI_clamp (by decide)] at hP9 hD9
  have hG : gd_W (dC, dI) A s ([(o, .inr (2, [.ref qa, .int 0, .int 0])), (qa, .inl (cB, (7, .inr (.inr (.inr (.inr (va_up (va_up (fun _ => none) 0 (some (a0 0))) 1 (some (a1 0)))))))))] ++ wd_B cI a0 bd_0 ++ wd_B cI a1 bd_0) H locs := ⟨hP9, hD9, hS9⟩
  refine lv_iinc (v := nI 2) (lv' := [(1, .int (nI 2)), (0, .ref o)]) hx hb dX2_init_47 hl (k := 0) rfl (by decide) (by decide) rfl (fun ls hl => ?_)
  refine lv_goto (tgt := 25) hx hb dX2_init_50 (by decide) ?_
  refine lv_iload_n hx hb dX2_init_25 rfl (lv_at hl 0 rfl) ?_
  refine lv_aload_n hx hb dX2_init_26 rfl (lv_at hl 1 rfl) ?_
  refine va_get (D := (dC, dI)) (ci := 2) (v := .ref qa) (C := RX2) (T := TX2) (N := 3) hx hb hts inlX2 hown hK hG.1 0 rfl rfl 0 (by decide) (hts _ wr_145) (fun _ h9 => h9) rfl dX2_init_27 ?_
  refine va_alen (v := (7 : Int32)) hx hb hK hG.1 1 1 rfl rfl rfl dX2_init_30 ?_
  refine lv_icmp_ge (tgt := 53) hx hb dX2_init_31 (by decide) (fun hc => absurd hc (by decide)) (fun hc => ?_)
  refine lv_aload_n hx hb dX2_init_34 rfl (lv_at hl 1 rfl) ?_
  refine va_get (D := (dC, dI)) (ci := 2) (v := .ref qa) (C := RX2) (T := TX2) (N := 3) hx hb hts inlX2 hown hK hG.1 0 rfl rfl 0 (by decide) (hts _ wr_145) (fun _ h9 => h9) rfl dX2_init_35 ?_
  refine lv_iload_n hx hb dX2_init_38 rfl (lv_at hl 0 rfl) ?_
  refine va_new (ci := 0) (fs := [.null, .null, .null, .null, .null, .null, .null, .null, .null, .int 0, .int 0, .int 0, .int 0, .int 0, .int 0]) (C := RX0) (T := TX0) (N := 15) hx hb hts inlX0 tyX0 tyX0_ok hown (hts _ wr_142) (hts _ wr_28) (hts _ wr_12) hK hG.1 hG.2.1 hG.2.2 hA rfl (fun j hj => by rcases (show j = 0 ∨ j = 1 ∨ j = 2 ∨ j = 3 ∨ j = 4 ∨ j = 5 ∨ j = 6 ∨ j = 7 ∨ j = 8 ∨ j = 9 ∨ j = 10 ∨ j = 11 ∨ j = 12 ∨ j = 13 ∨ j = 14 by omega) with rfl | rfl | rfl | rfl | rfl | rfl | rfl | rfl | rfl | rfl | rfl | rfl | rfl | rfl | rfl <;> rfl) (Nat.le_of_ble_eq_true rfl) (Nat.le_of_ble_eq_true rfl) dX2_init_39 (fun q2 H hP9 hD9 hS9 => ?_)
  have hG : gd_W (dC, dI) A s ([(o, .inr (2, [.ref qa, .int 0, .int 0])), (qa, .inl (cB, (7, .inr (.inr (.inr (.inr (va_up (va_up (fun _ => none) 0 (some (a0 0))) 1 (some (a1 0)))))))))] ++ wd_B cI a0 bd_0 ++ wd_B cI a1 bd_0 ++ [(q2, .inr (0, [.null, .null, .null, .null, .null, .null, .null, .null, .null, .int 0, .int 0, .int 0, .int 0, .int 0, .int 0]))]) H _ := ⟨hP9, hD9, hS9⟩
  refine lv_dup hx hb dX2_init_42 rfl ?_
  refine gk_S (q := q2) (As := []) (rest := [.ref q2, .int (nI 2), .ref qa]) (ws := [(o, .inr (2, [.ref qa, .int 0, .int 0])), (qa, .inl (cB, (7, .inr (.inr (.inr (.inr (va_up (va_up (fun _ => none) 0 (some (a0 0))) 1 (some (a1 0)))))))))] ++ wd_B cI a0 bd_0 ++ wd_B cI a1 bd_0) (w1 := fun a => wd_B cI a bd_0) ⟨hx, hb, hml, hown, hts⟩ hF (c0_init l) (cwI 0 hts (gb_I wr_31) rfl rfl rfl (hts _ wr_12) (hts _ wr_144) (hts _ wr_30) rfl (by decide +kernel) ⟨Nat.le_of_ble_eq_true rfl, Nat.le_of_ble_eq_true rfl⟩) hK [0] rfl hA hG rfl hl.1 rfl (Nat.le_of_ble_eq_true rfl) dX2_init_43 ⟨Nat.le_of_ble_eq_true rfl, Nat.le_of_ble_eq_true rfl⟩ (fun a2 H locs ha hG8 => ?_)
  subst ha
  have hG := hG8
  refine va_astq hx hb hK hG.1 hG.2.1 hG.2.2 1 1 56 0 (r := (RX0, TX0, 15)) rfl rfl rfl rfl (vp_in_nI (n := 2) (by decide) (by decide)) dX2_init_46 (fun H locs hP9 hD9 hS9 => ?_)
  rw [nI_clamp (by decide)] at hP9 hD9
  have hG : gd_W (dC, dI) A s ([(o, .inr (2, [.ref qa, .int 0, .int 0])), (qa, .inl (cB, (7, .inr (.inr (.inr (.inr (va_up (va_up (va_up (fun _ => none) 0 (some (a0 0))) 1 (some (a1 0))) 2 (some (a2 0)))))))))] ++ wd_B cI a0 bd_0 ++ wd_B cI a1 bd_0 ++ wd_B cI a2 bd_0) H locs := ⟨hP9, hD9, hS9⟩
  refine lv_iinc (v := nI 3) (lv' := [(1, .int (nI 3)), (0, .ref o)]) hx hb dX2_init_47 hl (k := 0) rfl (by decide) (by decide) rfl (fun ls hl => ?_)
  refine lv_goto (tgt := 25) hx hb dX2_init_50 (by decide) ?_
  refine lv_iload_n hx hb dX2_init_25 rfl (lv_at hl 0 rfl) ?_
  refine lv_aload_n hx hb dX2_init_26 rfl (lv_at hl 1 rfl) ?_
  refine va_get (D := (dC, dI)) (ci := 2) (v := .ref qa) (C := RX2) (T := TX2) (N := 3) hx hb hts inlX2 hown hK hG.1 0 rfl rfl 0 (by decide) (hts _ wr_145) (fun _ h9 => h9) rfl dX2_init_27 ?_
  refine va_alen (v := (7 : Int32)) hx hb hK hG.1 1 1 rfl rfl rfl dX2_init_30 ?_
  refine lv_icmp_ge (tgt := 53) hx hb dX2_init_31 (by decide) (fun hc => absurd hc (by decide)) (fun hc => ?_)
  refine lv_aload_n hx hb dX2_init_34 rfl (lv_at hl 1 rfl) ?_
  refine va_get (D := (dC, dI)) (ci := 2) (v := .ref qa) (C := RX2) (T := TX2) (N := 3) hx hb hts inlX2 hown hK hG.1 0 rfl rfl 0 (by decide) (hts _ wr_145) (fun _ h9 => h9) rfl dX2_init_35 ?_
  refine lv_iload_n hx hb dX2_init_38 rfl (lv_at hl 0 rfl) ?_
  refine va_new (ci := 0) (fs := [.null, .null, .null, .null, .null, .null, .null, .null, .null, .int 0, .int 0, .int 0, .int 0, .int 0, .int 0]) (C := RX0) (T := TX0) (N := 15) hx hb hts inlX0 tyX0 tyX0_ok hown (hts _ wr_142) (hts _ wr_28) (hts _ wr_12) hK hG.1 hG.2.1 hG.2.2 hA rfl (fun j hj => by rcases (show j = 0 ∨ j = 1 ∨ j = 2 ∨ j = 3 ∨ j = 4 ∨ j = 5 ∨ j = 6 ∨ j = 7 ∨ j = 8 ∨ j = 9 ∨ j = 10 ∨ j = 11 ∨ j = 12 ∨ j = 13 ∨ j = 14 by omega) with rfl | rfl | rfl | rfl | rfl | rfl | rfl | rfl | rfl | rfl | rfl | rfl | rfl | rfl | rfl <;> rfl) (Nat.le_of_ble_eq_true rfl) (Nat.le_of_ble_eq_true rfl) dX2_init_39 (fun q3 H hP9 hD9 hS9 => ?_)
  have hG : gd_W (dC, dI) A s ([(o, .inr (2, [.ref qa, .int 0, .int 0])), (qa, .inl (cB, (7, .inr (.inr (.inr (.inr (va_up (va_up (va_up (fun _ => none) 0 (some (a0 0))) 1 (some (a1 0))) 2 (some (a2 0)))))))))] ++ wd_B cI a0 bd_0 ++ wd_B cI a1 bd_0 ++ wd_B cI a2 bd_0 ++ [(q3, .inr (0, [.null, .null, .null, .null, .null, .null, .null, .null, .null, .int 0, .int 0, .int 0, .int 0, .int 0, .int 0]))]) H _ := ⟨hP9, hD9, hS9⟩
  refine lv_dup hx hb dX2_init_42 rfl ?_
  refine gk_S (q := q3) (As := []) (rest := [.ref q3, .int (nI 3), .ref qa]) (ws := [(o, .inr (2, [.ref qa, .int 0, .int 0])), (qa, .inl (cB, (7, .inr (.inr (.inr (.inr (va_up (va_up (va_up (fun _ => none) 0 (some (a0 0))) 1 (some (a1 0))) 2 (some (a2 0)))))))))] ++ wd_B cI a0 bd_0 ++ wd_B cI a1 bd_0 ++ wd_B cI a2 bd_0) (w1 := fun a => wd_B cI a bd_0) ⟨hx, hb, hml, hown, hts⟩ hF (c0_init l) (cwI 0 hts (gb_I wr_31) rfl rfl rfl (hts _ wr_12) (hts _ wr_144) (hts _ wr_30) rfl (by decide +kernel) ⟨Nat.le_of_ble_eq_true rfl, Nat.le_of_ble_eq_true rfl⟩) hK [0] rfl hA hG rfl hl.1 rfl (Nat.le_of_ble_eq_true rfl) dX2_init_43 ⟨Nat.le_of_ble_eq_true rfl, Nat.le_of_ble_eq_true rfl⟩ (fun a3 H locs ha hG8 => ?_)
  subst ha
  have hG := hG8
  refine va_astq hx hb hK hG.1 hG.2.1 hG.2.2 1 1 83 0 (r := (RX0, TX0, 15)) rfl rfl rfl rfl (vp_in_nI (n := 3) (by decide) (by decide)) dX2_init_46 (fun H locs hP9 hD9 hS9 => ?_)
  rw [nI_clamp (by decide)] at hP9 hD9
  have hG : gd_W (dC, dI) A s ([(o, .inr (2, [.ref qa, .int 0, .int 0])), (qa, .inl (cB, (7, .inr (.inr (.inr (.inr (va_up (va_up (va_up (va_up (fun _ => none) 0 (some (a0 0))) 1 (some (a1 0))) 2 (some (a2 0))) 3 (some (a3 0)))))))))] ++ wd_B cI a0 bd_0 ++ wd_B cI a1 bd_0 ++ wd_B cI a2 bd_0 ++ wd_B cI a3 bd_0) H locs := ⟨hP9, hD9, hS9⟩
  refine lv_iinc (v := nI 4) (lv' := [(1, .int (nI 4)), (0, .ref o)]) hx hb dX2_init_47 hl (k := 0) rfl (by decide) (by decide) rfl (fun ls hl => ?_)
  refine lv_goto (tgt := 25) hx hb dX2_init_50 (by decide) ?_
  refine lv_iload_n hx hb dX2_init_25 rfl (lv_at hl 0 rfl) ?_
  refine lv_aload_n hx hb dX2_init_26 rfl (lv_at hl 1 rfl) ?_
  refine va_get (D := (dC, dI)) (ci := 2) (v := .ref qa) (C := RX2) (T := TX2) (N := 3) hx hb hts inlX2 hown hK hG.1 0 rfl rfl 0 (by decide) (hts _ wr_145) (fun _ h9 => h9) rfl dX2_init_27 ?_
  refine va_alen (v := (7 : Int32)) hx hb hK hG.1 1 1 rfl rfl rfl dX2_init_30 ?_
  refine lv_icmp_ge (tgt := 53) hx hb dX2_init_31 (by decide) (fun hc => absurd hc (by decide)) (fun hc => ?_)
  refine lv_aload_n hx hb dX2_init_34 rfl (lv_at hl 1 rfl) ?_
  refine va_get (D := (dC, dI)) (ci := 2) (v := .ref qa) (C := RX2) (T := TX2) (N := 3) hx hb hts inlX2 hown hK hG.1 0 rfl rfl 0 (by decide) (hts _ wr_145) (fun _ h9 => h9) rfl dX2_init_35 ?_
  refine lv_iload_n hx hb dX2_init_38 rfl (lv_at hl 0 rfl) ?_
  refine va_new (ci := 0) (fs := [.null, .null, .null, .null, .null, .null, .null, .null, .null, .int 0, .int 0, .int 0, .int 0, .int 0, .int 0]) (C := RX0) (T := TX0) (N := 15) hx hb hts inlX0 tyX0 tyX0_ok hown (hts _ wr_142) (hts _ wr_28) (hts _ wr_12) hK hG.1 hG.2.1 hG.2.2 hA rfl (fun j hj => by rcases (show j = 0 ∨ j = 1 ∨ j = 2 ∨ j = 3 ∨ j = 4 ∨ j = 5 ∨ j = 6 ∨ j = 7 ∨ j = 8 ∨ j = 9 ∨ j = 10 ∨ j = 11 ∨ j = 12 ∨ j = 13 ∨ j = 14 by omega) with rfl | rfl | rfl | rfl | rfl | rfl | rfl | rfl | rfl | rfl | rfl | rfl | rfl | rfl | rfl <;> rfl) (Nat.le_of_ble_eq_true rfl) (Nat.le_of_ble_eq_true rfl) dX2_init_39 (fun q4 H hP9 hD9 hS9 => ?_)
  have hG : gd_W (dC, dI) A s ([(o, .inr (2, [.ref qa, .int 0, .int 0])), (qa, .inl (cB, (7, .inr (.inr (.inr (.inr (va_up (va_up (va_up (va_up (fun _ => none) 0 (some (a0 0))) 1 (some (a1 0))) 2 (some (a2 0))) 3 (some (a3 0)))))))))] ++ wd_B cI a0 bd_0 ++ wd_B cI a1 bd_0 ++ wd_B cI a2 bd_0 ++ wd_B cI a3 bd_0 ++ [(q4, .inr (0, [.null, .null, .null, .null, .null, .null, .null, .null, .null, .int 0, .int 0, .int 0, .int 0, .int 0, .int 0]))]) H _ := ⟨hP9, hD9, hS9⟩
  refine lv_dup hx hb dX2_init_42 rfl ?_
  refine gk_S (q := q4) (As := []) (rest := [.ref q4, .int (nI 4), .ref qa]) (ws := [(o, .inr (2, [.ref qa, .int 0, .int 0])), (qa, .inl (cB, (7, .inr (.inr (.inr (.inr (va_up (va_up (va_up (va_up (fun _ => none) 0 (some (a0 0))) 1 (some (a1 0))) 2 (some (a2 0))) 3 (some (a3 0)))))))))] ++ wd_B cI a0 bd_0 ++ wd_B cI a1 bd_0 ++ wd_B cI a2 bd_0 ++ wd_B cI a3 bd_0) (w1 := fun a => wd_B cI a bd_0) ⟨hx, hb, hml, hown, hts⟩ hF (c0_init l) (cwI 0 hts (gb_I wr_31) rfl rfl rfl (hts _ wr_12) (hts _ wr_144) (hts _ wr_30) rfl (by decide +kernel) ⟨Nat.le_of_ble_eq_true rfl, Nat.le_of_ble_eq_true rfl⟩) hK [0] rfl hA hG rfl hl.1 rfl (Nat.le_of_ble_eq_true rfl) dX2_init_43 ⟨Nat.le_of_ble_eq_true rfl, Nat.le_of_ble_eq_true rfl⟩ (fun a4 H locs ha hG8 => ?_)
  subst ha
  have hG := hG8
  refine va_astq hx hb hK hG.1 hG.2.1 hG.2.2 1 1 110 0 (r := (RX0, TX0, 15)) rfl rfl rfl rfl (vp_in_nI (n := 4) (by decide) (by decide)) dX2_init_46 (fun H locs hP9 hD9 hS9 => ?_)
  rw [nI_clamp (by decide)] at hP9 hD9
  have hG : gd_W (dC, dI) A s ([(o, .inr (2, [.ref qa, .int 0, .int 0])), (qa, .inl (cB, (7, .inr (.inr (.inr (.inr (va_up (va_up (va_up (va_up (va_up (fun _ => none) 0 (some (a0 0))) 1 (some (a1 0))) 2 (some (a2 0))) 3 (some (a3 0))) 4 (some (a4 0)))))))))] ++ wd_B cI a0 bd_0 ++ wd_B cI a1 bd_0 ++ wd_B cI a2 bd_0 ++ wd_B cI a3 bd_0 ++ wd_B cI a4 bd_0) H locs := ⟨hP9, hD9, hS9⟩
  refine lv_iinc (v := nI 5) (lv' := [(1, .int (nI 5)), (0, .ref o)]) hx hb dX2_init_47 hl (k := 0) rfl (by decide) (by decide) rfl (fun ls hl => ?_)
  refine lv_goto (tgt := 25) hx hb dX2_init_50 (by decide) ?_
  refine lv_iload_n hx hb dX2_init_25 rfl (lv_at hl 0 rfl) ?_
  refine lv_aload_n hx hb dX2_init_26 rfl (lv_at hl 1 rfl) ?_
  refine va_get (D := (dC, dI)) (ci := 2) (v := .ref qa) (C := RX2) (T := TX2) (N := 3) hx hb hts inlX2 hown hK hG.1 0 rfl rfl 0 (by decide) (hts _ wr_145) (fun _ h9 => h9) rfl dX2_init_27 ?_
  refine va_alen (v := (7 : Int32)) hx hb hK hG.1 1 1 rfl rfl rfl dX2_init_30 ?_
  refine lv_icmp_ge (tgt := 53) hx hb dX2_init_31 (by decide) (fun hc => absurd hc (by decide)) (fun hc => ?_)
  refine lv_aload_n hx hb dX2_init_34 rfl (lv_at hl 1 rfl) ?_
  refine va_get (D := (dC, dI)) (ci := 2) (v := .ref qa) (C := RX2) (T := TX2) (N := 3) hx hb hts inlX2 hown hK hG.1 0 rfl rfl 0 (by decide) (hts _ wr_145) (fun _ h9 => h9) rfl dX2_init_35 ?_
  refine lv_iload_n hx hb dX2_init_38 rfl (lv_at hl 0 rfl) ?_
  refine va_new (ci := 0) (fs := [.null, .null, .null, .null, .null, .null, .null, .null, .null, .int 0, .int 0, .int 0, .int 0, .int 0, .int 0]) (C := RX0) (T := TX0) (N := 15) hx hb hts inlX0 tyX0 tyX0_ok hown (hts _ wr_142) (hts _ wr_28) (hts _ wr_12) hK hG.1 hG.2.1 hG.2.2 hA rfl (fun j hj => by rcases (show j = 0 ∨ j = 1 ∨ j = 2 ∨ j = 3 ∨ j = 4 ∨ j = 5 ∨ j = 6 ∨ j = 7 ∨ j = 8 ∨ j = 9 ∨ j = 10 ∨ j = 11 ∨ j = 12 ∨ j = 13 ∨ j = 14 by omega) with rfl | rfl | rfl | rfl | rfl | rfl | rfl | rfl | rfl | rfl | rfl | rfl | rfl | rfl | rfl <;> rfl) (Nat.le_of_ble_eq_true rfl) (Nat.le_of_ble_eq_true rfl) dX2_init_39 (fun q5 H hP9 hD9 hS9 => ?_)
  have hG : gd_W (dC, dI) A s ([(o, .inr (2, [.ref qa, .int 0, .int 0])), (qa, .inl (cB, (7, .inr (.inr (.inr (.inr (va_up (va_up (va_up (va_up (va_up (fun _ => none) 0 (some (a0 0))) 1 (some (a1 0))) 2 (some (a2 0))) 3 (some (a3 0))) 4 (some (a4 0)))))))))] ++ wd_B cI a0 bd_0 ++ wd_B cI a1 bd_0 ++ wd_B cI a2 bd_0 ++ wd_B cI a3 bd_0 ++ wd_B cI a4 bd_0 ++ [(q5, .inr (0, [.null, .null, .null, .null, .null, .null, .null, .null, .null, .int 0, .int 0, .int 0, .int 0, .int 0, .int 0]))]) H _ := ⟨hP9, hD9, hS9⟩
  refine lv_dup hx hb dX2_init_42 rfl ?_
  refine gk_S (q := q5) (As := []) (rest := [.ref q5, .int (nI 5), .ref qa]) (ws := [(o, .inr (2, [.ref qa, .int 0, .int 0])), (qa, .inl (cB, (7, .inr (.inr (.inr (.inr (va_up (va_up (va_up (va_up (va_up (fun _ => none) 0 (some (a0 0))) 1 (some (a1 0))) 2 (some (a2 0))) 3 (some (a3 0))) 4 (some (a4 0)))))))))] ++ wd_B cI a0 bd_0 ++ wd_B cI a1 bd_0 ++ wd_B cI a2 bd_0 ++ wd_B cI a3 bd_0 ++ wd_B cI a4 bd_0) (w1 := fun a => wd_B cI a bd_0) ⟨hx, hb, hml, hown, hts⟩ hF (c0_init l) (cwI 0 hts (gb_I wr_31) rfl rfl rfl (hts _ wr_12) (hts _ wr_144) (hts _ wr_30) rfl (by decide +kernel) ⟨Nat.le_of_ble_eq_true rfl, Nat.le_of_ble_eq_true rfl⟩) hK [0] rfl hA hG rfl hl.1 rfl (Nat.le_of_ble_eq_true rfl) dX2_init_43 ⟨Nat.le_of_ble_eq_true rfl, Nat.le_of_ble_eq_true rfl⟩ (fun a5 H locs ha hG8 => ?_)
  subst ha
  have hG := hG8
  refine va_astq hx hb hK hG.1 hG.2.1 hG.2.2 1 1 137 0 (r := (RX0, TX0, 15)) rfl rfl rfl rfl (vp_in_nI (n := 5) (by decide) (by decide)) dX2_init_46 (fun H locs hP9 hD9 hS9 => ?_)
  rw [nI_clamp (by decide)] at hP9 hD9
  have hG : gd_W (dC, dI) A s ([(o, .inr (2, [.ref qa, .int 0, .int 0])), (qa, .inl (cB, (7, .inr (.inr (.inr (.inr (va_up (va_up (va_up (va_up (va_up (va_up (fun _ => none) 0 (some (a0 0))) 1 (some (a1 0))) 2 (some (a2 0))) 3 (some (a3 0))) 4 (some (a4 0))) 5 (some (a5 0)))))))))] ++ wd_B cI a0 bd_0 ++ wd_B cI a1 bd_0 ++ wd_B cI a2 bd_0 ++ wd_B cI a3 bd_0 ++ wd_B cI a4 bd_0 ++ wd_B cI a5 bd_0) H locs := ⟨hP9, hD9, hS9⟩
  refine lv_iinc (v := nI 6) (lv' := [(1, .int (nI 6)), (0, .ref o)]) hx hb dX2_init_47 hl (k := 0) rfl (by decide) (by decide) rfl (fun ls hl => ?_)
  refine lv_goto (tgt := 25) hx hb dX2_init_50 (by decide) ?_
  refine lv_iload_n hx hb dX2_init_25 rfl (lv_at hl 0 rfl) ?_
  refine lv_aload_n hx hb dX2_init_26 rfl (lv_at hl 1 rfl) ?_
  refine va_get (D := (dC, dI)) (ci := 2) (v := .ref qa) (C := RX2) (T := TX2) (N := 3) hx hb hts inlX2 hown hK hG.1 0 rfl rfl 0 (by decide) (hts _ wr_145) (fun _ h9 => h9) rfl dX2_init_27 ?_
  refine va_alen (v := (7 : Int32)) hx hb hK hG.1 1 1 rfl rfl rfl dX2_init_30 ?_
  refine lv_icmp_ge (tgt := 53) hx hb dX2_init_31 (by decide) (fun hc => absurd hc (by decide)) (fun hc => ?_)
  refine lv_aload_n hx hb dX2_init_34 rfl (lv_at hl 1 rfl) ?_
  refine va_get (D := (dC, dI)) (ci := 2) (v := .ref qa) (C := RX2) (T := TX2) (N := 3) hx hb hts inlX2 hown hK hG.1 0 rfl rfl 0 (by decide) (hts _ wr_145) (fun _ h9 => h9) rfl dX2_init_35 ?_
  refine lv_iload_n hx hb dX2_init_38 rfl (lv_at hl 0 rfl) ?_
  refine va_new (ci := 0) (fs := [.null, .null, .null, .null, .null, .null, .null, .null, .null, .int 0, .int 0, .int 0, .int 0, .int 0, .int 0]) (C := RX0) (T := TX0) (N := 15) hx hb hts inlX0 tyX0 tyX0_ok hown (hts _ wr_142) (hts _ wr_28) (hts _ wr_12) hK hG.1 hG.2.1 hG.2.2 hA rfl (fun j hj => by rcases (show j = 0 ∨ j = 1 ∨ j = 2 ∨ j = 3 ∨ j = 4 ∨ j = 5 ∨ j = 6 ∨ j = 7 ∨ j = 8 ∨ j = 9 ∨ j = 10 ∨ j = 11 ∨ j = 12 ∨ j = 13 ∨ j = 14 by omega) with rfl | rfl | rfl | rfl | rfl | rfl | rfl | rfl | rfl | rfl | rfl | rfl | rfl | rfl | rfl <;> rfl) (Nat.le_of_ble_eq_true rfl) (Nat.le_of_ble_eq_true rfl) dX2_init_39 (fun q6 H hP9 hD9 hS9 => ?_)
  have hG : gd_W (dC, dI) A s ([(o, .inr (2, [.ref qa, .int 0, .int 0])), (qa, .inl (cB, (7, .inr (.inr (.inr (.inr (va_up (va_up (va_up (va_up (va_up (va_up (fun _ => none) 0 (some (a0 0))) 1 (some (a1 0))) 2 (some (a2 0))) 3 (some (a3 0))) 4 (some (a4 0))) 5 (some (a5 0)))))))))] ++ wd_B cI a0 bd_0 ++ wd_B cI a1 bd_0 ++ wd_B cI a2 bd_0 ++ wd_B cI a3 bd_0 ++ wd_B cI a4 bd_0 ++ wd_B cI a5 bd_0 ++ [(q6, .inr (0, [.null, .null, .null, .null, .null, .null, .null, .null, .null, .int 0, .int 0, .int 0, .int 0, .int 0, .int 0]))]) H _ := ⟨hP9, hD9, hS9⟩
  refine lv_dup hx hb dX2_init_42 rfl ?_
  refine gk_S (q := q6) (As := []) (rest := [.ref q6, .int (nI 6), .ref qa]) (ws := [(o, .inr (2, [.ref qa, .int 0, .int 0])), (qa, .inl (cB, (7, .inr (.inr (.inr (.inr (va_up (va_up (va_up (va_up (va_up (va_up (fun _ => none) 0 (some (a0 0))) 1 (some (a1 0))) 2 (some (a2 0))) 3 (some (a3 0))) 4 (some (a4 0))) 5 (some (a5 0)))))))))] ++ wd_B cI a0 bd_0 ++ wd_B cI a1 bd_0 ++ wd_B cI a2 bd_0 ++ wd_B cI a3 bd_0 ++ wd_B cI a4 bd_0 ++ wd_B cI a5 bd_0) (w1 := fun a => wd_B cI a bd_0) ⟨hx, hb, hml, hown, hts⟩ hF (c0_init l) (cwI 0 hts (gb_I wr_31) rfl rfl rfl (hts _ wr_12) (hts _ wr_144) (hts _ wr_30) rfl (by decide +kernel) ⟨Nat.le_of_ble_eq_true rfl, Nat.le_of_ble_eq_true rfl⟩) hK [0] rfl hA hG rfl hl.1 rfl (Nat.le_of_ble_eq_true rfl) dX2_init_43 ⟨Nat.le_of_ble_eq_true rfl, Nat.le_of_ble_eq_true rfl⟩ (fun a6 H locs ha hG8 => ?_)
  subst ha
  have hG := hG8
  refine va_astq hx hb hK hG.1 hG.2.1 hG.2.2 1 1 164 0 (r := (RX0, TX0, 15)) rfl rfl rfl rfl (vp_in_nI (n := 6) (by decide) (by decide)) dX2_init_46 (fun H locs hP9 hD9 hS9 => ?_)
  rw [nI_clamp (by decide)] at hP9 hD9
  have hG : gd_W (dC, dI) A s ([(o, .inr (2, [.ref qa, .int 0, .int 0])), (qa, .inl (cB, (7, .inr (.inr (.inr (.inr (va_up (va_up (va_up (va_up (va_up (va_up (va_up (fun _ => none) 0 (some (a0 0))) 1 (some (a1 0))) 2 (some (a2 0))) 3 (some (a3 0))) 4 (some (a4 0))) 5 (some (a5 0))) 6 (some (a6 0)))))))))] ++ wd_B cI a0 bd_0 ++ wd_B cI a1 bd_0 ++ wd_B cI a2 bd_0 ++ wd_B cI a3 bd_0 ++ wd_B cI a4 bd_0 ++ wd_B cI a5 bd_0 ++ wd_B cI a6 bd_0) H locs := ⟨hP9, hD9, hS9⟩
  refine lv_iinc (v := nI 7) (lv' := [(1, .int (nI 7)), (0, .ref o)]) hx hb dX2_init_47 hl (k := 0) rfl (by decide) (by decide) rfl (fun ls hl => ?_)
  refine lv_goto (tgt := 25) hx hb dX2_init_50 (by decide) ?_
  refine lv_iload_n hx hb dX2_init_25 rfl (lv_at hl 0 rfl) ?_
  refine lv_aload_n hx hb dX2_init_26 rfl (lv_at hl 1 rfl) ?_
  refine va_get (D := (dC, dI)) (ci := 2) (v := .ref qa) (C := RX2) (T := TX2) (N := 3) hx hb hts inlX2 hown hK hG.1 0 rfl rfl 0 (by decide) (hts _ wr_145) (fun _ h9 => h9) rfl dX2_init_27 ?_
  refine va_alen (v := (7 : Int32)) hx hb hK hG.1 1 1 rfl rfl rfl dX2_init_30 ?_
  refine lv_icmp_ge (tgt := 53) hx hb dX2_init_31 (by decide) (fun hc => ?_) (fun hc => absurd (by decide) hc)
  have hG := gd_refs (ws := [(o, .inr (2, [.ref qa, .int 0, .int 0]))]) (g := fun k => match k with | 0 => some (a0 0) | 1 => some (a1 0) | 2 => some (a2 0) | 3 => some (a3 0) | 4 => some (a4 0) | 5 => some (a5 0) | _ => some (a6 0)) (fun j hj => by rcases (show j = 0 ∨ j = 1 ∨ j = 2 ∨ j = 3 ∨ j = 4 ∨ j = 5 ∨ j = 6 by omega) with rfl | rfl | rfl | rfl | rfl | rfl | rfl <;> rfl) hG
  have hG := gd_refs (ws := [(o, .inr (2, [.ref qa, .int 0, .int 0]))]) (g := fun k => some ((hb_7 o qa a0 a1 a2 a3 a4 a5 a6) (7 + k) 0)) (fun j hj => by rcases (show j = 0 ∨ j = 1 ∨ j = 2 ∨ j = 3 ∨ j = 4 ∨ j = 5 ∨ j = 6 by omega) with rfl | rfl | rfl | rfl | rfl | rfl | rfl <;> rfl) hG
  obtain ⟨hP, hD, hS⟩ := hG
  refine W.widen (k := 190) (n := 1057) (Nat.le_of_ble_eq_true rfl) (Nat.le_of_ble_eq_true rfl) ?_
  exact W.vret hx hb hr (fun t ht hW => ⟨⟨(hb_7 o qa a0 a1 a2 a3 a4 a5 a6), rfl, rfl, by rw [ht]; exact hP, va_K.moved hW.alike hK, hD⟩, hS.F ht⟩) hS.2.2 dX2_init_53
