/-! ## the law: rows for its own calls -/
section NEWA
variable {p : Program} {l : Launch} {e : Env} {R : Room} {s : State} {m : MethodId} {args : Array Value} {below : List Frame} {meth : Method} {c : Code} {H : Heap} {locs : List Loc} {cells slots : Nat} {Q : State → Prop}
variable {cc : ByteArray} {pc : Nat} {ls : Array Slot} {rest : List Value} {D : va_G} {A : Nat → Prop} {t1 : List (ClassId × FieldType)} {ws : va_W}
theorem gn_newa (hx : p.tables.exec = Jvm.exec) (hb : c.code = cc) (harr : (Cond.arrayClass .int).before args s = true) {cI : ClassId} (hK : va_K D vwCl ((cI, .int) :: t1) s) (hA : ∀ q, s.heap.size ≤ q → A q) (hG : gd_W D A s ws H locs) {n : Int32} {N' : Nat} (hn : ¬ n < 0) (hN : n.toNatClampNeg = N') (hbytes : N' * 4 ≤ 536870912) (hcells : cells + 1 ≤ R.cells) (hslots : slots + N' ≤ R.slots) (hdg : decode cc pc = .ok (.newarray .int, 2))
    (kk : ∀ (q : Nat) (H1 : Heap), gd_W D A s (ws ++ [(q, .inl (cI, (N', .inl (fun _ => 0))))]) H1 locs → W p l e R s m args below meth c H1 locs (cells + 1) (slots + N') Q (F0 m (pc + 2) ls (.ref q :: rest))) : W p l e R s m args below meth c H locs cells slots Q (F0 m pc ls (.int n :: rest)) := by
  obtain ⟨hP, hD, hS⟩ := hG
  refine va_newa (atype := .int) (N' := N') (a0 := (N', .inl (fun _ => 0))) hx hb harr rfl hK hP hD hS hA (fun cA => rfl) hn hN hbytes hcells hslots hdg (fun q cA H1 hK2 hP hD hS => ?_)
  have hcA : cA = cI := tys_int (t1 := t1) hK2
  subst hcA
  exact kk q H1 ⟨hP, hD, hS⟩
end NEWA
theorem gd_fst {D : va_G} {A : Nat → Prop} {s : State} {ws wt : va_W} {H : Heap} {locs : List Loc} (hG : gd_W D A s (ws ++ wt) H locs) : gd_W D A s ws H locs :=
  ⟨gd_mem.mpr fun q hq => gd_mem.mp hG.1 q (List.mem_append_left _ hq), gd_nd.mpr ⟨((List.map_append ▸ (gd_nd.mp hG.2.1).1 : (ws.map Prod.fst ++ wt.map Prod.fst).Nodup)).sublist (List.sublist_append_left _ _), fun q hq => (gd_nd.mp hG.2.1).2 q (List.mem_append_left _ hq)⟩, hG.2.2⟩
/-- a contract of a static method that makes new cells which nobody keeps -/
def nc_M (l : Launch) (y : MethodName) (ws : List Cond) (rm : Room) (D : va_G) (tys : List (ClassId × FieldType)) (vs : List Value) (w0 : va_W) (mc ms : Nat) (r : Int32) (w1 : va_W) : Prop :=
  ∀ sz : Nat, Met l y ws rm (va_Pc vs (pc_W D tys w0 sz)) (qi_W D tys (va_A w0 sz) r w1) mc ms (va_A w0 sz)
/-- the script, read -/
def xc_W (b L : Nat) (xs : Nat → Int32) (sz : Nat) : State → Prop := fun U => U.heap.size = sz ∧ b < sz ∧ va_X b L xs U U.heap
def xc_M (l : Launch) (y : MethodName) (ws : List Cond) (rm : Room) (vs : List Value) (b L : Nat) (xs : Nat → Int32) (r : Int32) : Prop :=
  ∀ sz : Nat, Met l y ws rm (va_Pc vs (xc_W b L xs sz)) (va_Qi (fun (r' : Int32) (_ : Unit) => r' = r) (fun _ _ => True) (fun q => sz ≤ q)) 0 0 (fun q => sz ≤ q)
theorem xc_W_blind {vs : List Value} {b L sz : Nat} {xs : Nat → Int32} : FrameBlind (va_Pc vs (xc_W b L xs sz)) :=
  fun a U g mk q => by
    obtain ⟨q0, q1, q2, q3⟩ := q
    exact ⟨q0, q1, q2, va_X.moved (u := U) (U := U.calling g mk a) (Vm.Alike.refl U.vm) q3⟩
section LCALLS
variable {p : Program} {l : Launch} {e : Env} {R : Room} {s : State} {m : MethodId} {args : Array Value} {below : List Frame} {meth : Method} {c : Code} {H : Heap} {locs : List Loc} {cells slots : Nat} {Q : State → Prop}
variable {cc : ByteArray} {pc nL : Nat} {ls : Array Slot} {rest st0 : List Value} {D : va_G} {A : Nat → Prop} {tys tysC : List (ClassId × FieldType)} {ws wc w1 : va_W} {Ts wsy : List Cond} {own : String}
variable {y : MethodName} {bytes : ByteArray} {maxL n index mc ms : Nat} {ret : Option FieldType} {rm : Room} {r : Int32} {As : List Value} {gs gs' : List va_W}
theorem gq_iSn (S : CallFix p m c cc nL s args Ts own) (hM : nc_M l y wsy rm D tysC As wc mc ms r w1) (cw : CallB R s args own index y bytes maxL ret wsy rm mc ms n ∧ (Cond.static y).before args s = true)
    (hK : va_K D vwCl tys s) (isK : List Nat) (hKs : isK.filterMap (fun i => tys[i]?) = tysC) (hA : ∀ q, s.heap.size ≤ q → A q) (hG : gd_W D A s gs.flatten H locs) (is js : List Nat) (hp : (is ++ js).Perm (List.range gs.length)) (hp' : (is ++ js).Perm (List.range gs'.length)) (hC : (is.filterMap (fun i => gs[i]?)).flatten = wc) (hC1 : (is.filterMap (fun i => gs'[i]?)).flatten = w1) (hR : js.filterMap (fun i => gs'[i]?) = js.filterMap (fun i => gs[i]?))
    (hAs : As.length = n) (hsize : ls.size = nL) (hst : st0 = As.reverse ++ rest) (hW : (rest.map fun v => v.category).sum ≤ 8) (hdg : decode cc pc = .ok (.invokestatic index, 3)) (hf : cells + mc ≤ R.cells ∧ slots + ms ≤ R.slots)
    (kk : ∀ (H1 : Heap) (locs1 : List Loc), gd_W D A s gs'.flatten H1 locs1 → W p l e R s m args below meth c H1 locs1 (cells + mc) (slots + ms) Q (F0 m (pc + 3) ls (.int r :: rest))) : W p l e R s m args below meth c H locs cells slots Q (F0 m pc ls st0) := by
  have hG := gd_perm (fl_pick is js hp) hG
  rw [hC] at hG
  obtain ⟨hP, hD, hS⟩ := hG
  have hFc := gj_free hD hS hA
  refine va_calli (va_runS (As := As) (rest := rest) S (hM H.size) cw ⟨pc_W_blind, fun U hU hW => ⟨rfl, by rw [hU], by rw [hU]; exact gj_P hP, va_K.moved hW.alike (hK.sub isK hKs), (gj_left hD).weaken (fun _ _ _ _ => trivial)⟩⟩ rfl hAs hsize hst (lv_room hW) hdg hf) hS (fun q _ h => hFc q h) hFc (fun r' u t H1 locs1 ht hvm hw hB hz1 hk1 hS1 => ?_)
  obtain ⟨hP1, hK1, hD1⟩ := hB
  rw [ht] at hP1
  have hw : r' = r := hw
  subst hw
  have hG1 : gd_W D A s (w1 ++ (js.filterMap (fun i => gs'[i]?)).flatten) H1 locs1 := by
    rw [hR]
    exact ⟨(gj_join hP hD hFc hk1 hP1 hD1).1, (gj_join hP hD hFc hk1 hP1 hD1).2, hS1⟩
  rw [← hC1] at hG1
  exact kk H1 locs1 (gd_perm (fl_pick is js hp').symm hG1)
theorem gq_vS (S : CallFix p m c cc nL s args Ts own) (hM : mv_M l y wsy rm D tysC As wc w1) (cw : CallB R s args own index y bytes maxL ret wsy rm 0 0 n ∧ (Cond.static y).before args s = true)
    (hK : va_K D vwCl tys s) (isK : List Nat) (hKs : isK.filterMap (fun i => tys[i]?) = tysC) (hA : ∀ q, s.heap.size ≤ q → A q) (hG : gd_W D A s gs.flatten H locs) (is js : List Nat) (hp : (is ++ js).Perm (List.range gs.length)) (hp' : (is ++ js).Perm (List.range gs'.length)) (hC : (is.filterMap (fun i => gs[i]?)).flatten = wc) (hC1 : (is.filterMap (fun i => gs'[i]?)).flatten = w1) (hR : js.filterMap (fun i => gs'[i]?) = js.filterMap (fun i => gs[i]?))
    (hAs : As.length = n) (hsize : ls.size = nL) (hst : st0 = As.reverse ++ rest) (hW : (rest.map fun v => v.category).sum ≤ 8) (hdg : decode cc pc = .ok (.invokestatic index, 3)) (hf : cells ≤ R.cells ∧ slots ≤ R.slots)
    (kk : ∀ (H1 : Heap) (locs1 : List Loc), gd_W D A s gs'.flatten H1 locs1 → W p l e R s m args below meth c H1 locs1 cells slots Q (F0 m (pc + 3) ls rest)) : W p l e R s m args below meth c H locs cells slots Q (F0 m pc ls st0) := by
  have hG := gd_perm (fl_pick is js hp) hG
  rw [hC] at hG
  obtain ⟨hP, hD, hS⟩ := hG
  have hFc := gj_free hD hS hA
  refine va_callv (va_runS (As := As) (rest := rest) S (hM H.size) cw ⟨pc_W_blind, fun U hU hW => ⟨rfl, by rw [hU], by rw [hU]; exact gj_P hP, va_K.moved hW.alike (hK.sub isK hKs), (gj_left hD).weaken (fun _ _ _ _ => trivial)⟩⟩ rfl hAs hsize hst (lv_room hW) hdg hf) hS (fun q _ h => hFc q h) hFc (fun u t H1 locs1 ht hvm hw hB hz1 hk1 hS1 => ?_)
  obtain ⟨hP1, hK1, hD1⟩ := hB
  rw [ht] at hP1
  have hG1 : gd_W D A s (w1 ++ (js.filterMap (fun i => gs'[i]?)).flatten) H1 locs1 := by
    rw [hR]
    exact ⟨(gj_join hP hD hFc hk1 hP1 hD1).1, (gj_join hP hD hFc hk1 hP1 hD1).2, hS1⟩
  rw [← hC1] at hG1
  exact kk H1 locs1 (gd_perm (fl_pick is js hp').symm hG1)
/-- the script's reader, called -/
theorem gl_cell (S : CallFix p m c cc nL s args Ts own) {b L : Nat} {xs : Nat → Int32} (hM : xc_M l y wsy rm As b L xs r) (cw : CallB R s args own index y bytes maxL ret wsy rm 0 0 n ∧ (Cond.static y).before args s = true)
    (hX : va_X b L xs s s.heap) (hbl : b < s.heap.size) (hnA : ¬ A b) (hA : ∀ q, s.heap.size ≤ q → A q) (hG : gd_W D A s ws H locs)
    (hAs : As.length = n) (hsize : ls.size = nL) (hst : st0 = As.reverse ++ rest) (hW : (rest.map fun v => v.category).sum ≤ 8) (hdg : decode cc pc = .ok (.invokestatic index, 3)) (hf : cells ≤ R.cells ∧ slots ≤ R.slots)
    (kk : ∀ (H1 : Heap) (locs1 : List Loc), gd_W D A s ws H1 locs1 → W p l e R s m args below meth c H1 locs1 cells slots Q (F0 m (pc + 3) ls (.int r :: rest))) : W p l e R s m args below meth c H locs cells slots Q (F0 m pc ls st0) := by
  obtain ⟨hP, hD, hS⟩ := hG
  have hXH : va_X b L xs s H := hX.kept (hS.2.1 b hbl hnA)
  refine va_calli (va_runS (As := As) (rest := rest) S (hM H.size) cw ⟨xc_W_blind, fun U hU hW => ⟨rfl, by rw [hU], Nat.lt_of_lt_of_le hbl hS.1, by rw [hU]; exact va_X.moved hW.alike hXH⟩⟩ rfl hAs hsize hst (lv_room hW) hdg hf) hS (fun q h1 h2 => absurd h2 (Nat.not_le.mpr h1)) (fun q h => hA q (Nat.le_trans hS.1 h)) (fun r' u t H1 locs1 ht hvm hw hB hz1 hk1 hS1 => ?_)
  have hw : r' = r := hw
  subst hw
  refine kk H1 locs1 ⟨fun k q hq => ?_, hD, hS1⟩
  have hlt := (hP k q hq).lt
  exact (hP k q hq).kept (hk1 q.1 hlt (Nat.not_le.mpr hlt))
end LCALLS
/-! ## the law's reader of the script -/
def lw_ce (L : Nat) (xs : Nat → Int32) (k : Int32) : Option Int32 := if nI L ≤ k then some ((1000308049 : Int32) * (k + 1) + 684254883) else fo_ck k L (some (xs k.toNatClampNeg))
abbrev RM9_cell : Room := { frames := 0, cells := 0, slots := 0, locals := 0 }
def wm9_cell : List Cond := .code yL_cell cL_cell 2 (some .int) :: bg_L
theorem hd9_cell : yL_cell.cls ≠ "java/lang/invoke/MethodHandle" ∧ yL_cell.cls ≠ "java/lang/invoke/VarHandle" ∧ (parseMethodDescriptor yL_cell.desc).map (fun d => d.parameters.length) = some 2 := by decide +kernel
set_option maxRecDepth 100000 in
set_option maxHeartbeats 4000000 in
theorem c9_cell (l : Launch) {b L : Nat} {xs : Nat → Int32} {k q : Int32} (h : lw_ce L xs k = some q) : xc_M l yL_cell wm9_cell RM9_cell [.ref b, .int k] b L xs q := by
  intro sz
  refine Met.ofW (cc := cL_cell) (maxL := 2) (ret := (some .int)) (by decide) rfl ?_
  intro p e s m args below meth c s₁ B hml hv
  obtain ⟨rfl, hsz, hb0, hX⟩ := hv
  subst hsz
  have hl := lv_entry ([.ref b, .int k] : List Value) (n := 2) (Nat.le_of_ble_eq_true rfl)
  rw [lg_entry_eq]
  generalize (lg_sl ([.ref b, .int k] : List Value) ++ List.replicate (2 - (lg_sl ([.ref b, .int k] : List Value)).length) Slot.unset).toArray = ls at hl ⊢
  have hl : lv_has ls 2 [(0, .ref b), (1, .int k)] := hl
  have hx := B.exec
  have hb := B.bytes
  have hr := B.returns
  have hts : ∀ w ∈ bg_L, w.before _ s = true := fun w hw => atoms_spec (ws := wm9_cell) B.pre w (List.mem_cons_of_mem _ hw)
  have hown := findClass_of_methodNamed B.named
  have hS : va_S (fun q => s.heap.size ≤ q) s.heap s.heap [] := va_S.rf
  unfold lw_ce at h
  refine lv_iload_n hx hb dL_cell_0 rfl (lv_at hl 1 rfl) ?_
  refine lv_aload_n hx hb dL_cell_1 rfl (lv_at hl 0 rfl) ?_
  refine va_slen hx hb hX hb0 (Nat.not_le.mpr hb0) hS dL_cell_2 ?_
  refine lv_icmp_ge (tgt := 12) hx hb dL_cell_3 (by decide) (fun hc => ?_) (fun hc => ?_)
  · have h := Option.some.inj (fo_it h hc)
    refine lv_ldc (v := (1000308049 : Int32)) hx hb hown (hts (Cond.constant RL 7 (1000308049)) wr_401) dL_cell_12 ?_
    refine lv_iload_n hx hb dL_cell_14 rfl (lv_at hl 1 rfl) ?_
    refine lv_iconst (v := (1 : Int32)) hx hb dL_cell_15 (by decide) ?_
    refine lv_iadd hx hb dL_cell_16 ?_
    refine lv_imul hx hb dL_cell_17 ?_
    refine lv_ldc (v := (684254883 : Int32)) hx hb hown (hts (Cond.constant RL 8 (684254883)) wr_402) dL_cell_18 ?_
    refine lv_iadd hx hb dL_cell_20 ?_
    exact W.iret (v := _) hx hb hr (fun t ht hW => ⟨⟨_, (), rfl, h, trivial⟩, hS.F ht⟩) hS.2.2 dL_cell_21
  · have h := fo_if h hc
    obtain ⟨hi, h⟩ := fo_ck_some h
    have h := Option.some.inj h
    refine lv_aload_n hx hb dL_cell_6 rfl (lv_at hl 0 rfl) ?_
    refine lv_iload_n hx hb dL_cell_7 rfl (lv_at hl 1 rfl) ?_
    refine va_sld hx hb hX hb0 (Nat.not_le.mpr hb0) hS hi dL_cell_8 ?_
    refine lv_goto (tgt := 21) hx hb dL_cell_9 (by decide) ?_
    exact W.iret (v := _) hx hb hr (fun t ht hW => ⟨⟨_, (), rfl, h, trivial⟩, hS.F ht⟩) hS.2.2 dL_cell_21
