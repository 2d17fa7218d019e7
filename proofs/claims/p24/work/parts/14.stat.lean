/-! ## static arrays that nobody writes -/
def fv_1 : Nat → Int32 := fun j => match j with | 0 => 20 | 1 => 15 | 2 => 6 | 3 => 3 | _ => 4
def fv_2 : Nat → Int32 := fun j => match j with | 0 => 0 | _ => 1
def fv_3 : Nat → Int32 := fun j => match j with | 0 => 99 | 1 => 99 | 2 => 99 | 3 => 7 | _ => 20
def sf_W (t1 t2 t3 : Nat) (A : Nat → Prop) (U : State) (H : Heap) : Prop := va_Z "DiceRoads" "FIRST_VALUES" "[I" (.ref t1) A U H ∧ va_T .int t1 5 (fun j => .int (fv_1 j)) A U H ∧ va_Z "DiceRoads" "LEAST_VALUES" "[I" (.ref t2) A U H ∧ va_T .int t2 5 (fun j => .int (fv_2 j)) A U H ∧ va_Z "DiceRoads" "MOST_VALUES" "[I" (.ref t3) A U H ∧ va_T .int t3 5 (fun j => .int (fv_3 j)) A U H
theorem sf_W.moved {t1 t2 t3 : Nat} {A : Nat → Prop} {u U : State} {H : Heap} (hvm : u.vm.Alike U.vm) (h : sf_W t1 t2 t3 A u H) : sf_W t1 t2 t3 A U H :=
  ⟨h.1.moved hvm, h.2.1.moved hvm, h.2.2.1.moved hvm, h.2.2.2.1.moved hvm, h.2.2.2.2.1.moved hvm, h.2.2.2.2.2.moved hvm⟩
theorem sf_W.at {t1 t2 t3 : Nat} {A B : Nat → Prop} {s : State} {H : Heap} {locs : List Loc} (h : sf_W t1 t2 t3 A s s.heap) (hS : va_S A s.heap H locs) (hF : ∀ q, B q → A q) : sf_W t1 t2 t3 B s H :=
  ⟨(h.1.kept hS.2.1).narrow hF, (h.2.1.kept hS.2.1).narrow hF, (h.2.2.1.kept hS.2.1).narrow hF, (h.2.2.2.1.kept hS.2.1).narrow hF, (h.2.2.2.2.1.kept hS.2.1).narrow hF, (h.2.2.2.2.2.kept hS.2.1).narrow hF⟩
/-- the links to nest mates' private members -/
def nw_W (U : State) : Prop := va_Nw (.fieldLinkNest RX0 71 "DiceRoads" "FIRST_VALUES" "[I" RX7) U ∧ va_Nw (.fieldLinkNest RX0 88 "DiceRoads" "LEAST_VALUES" "[I" RX7) U ∧ va_Nw (.fieldLinkNest RX0 91 "DiceRoads" "MOST_VALUES" "[I" RX7) U ∧ va_Nw (.methodLinkNest RX0 11 yX5_init RX7) U ∧ va_Nw (.methodLinkNest RX0 20 yX1_init RX7) U
theorem nw_W.warm {s U : State} (hW : s.WarmedH U.vm) (h : nw_W s) : nw_W U := ⟨va_Nw.warmF hW h.1, va_Nw.warmF hW h.2.1, va_Nw.warmF hW h.2.2.1, va_Nw.warmM hW h.2.2.2.1, va_Nw.warmM hW h.2.2.2.2⟩
theorem nw_W.same {s U : State} (e : s.vm = U.vm) (h : nw_W s) : nw_W U := ⟨va_Nw.same rfl e h.1, va_Nw.same rfl e h.2.1, va_Nw.same rfl e h.2.2.1, va_Nw.same rfl e h.2.2.2.1, va_Nw.same rfl e h.2.2.2.2⟩
def sn_W (t1 t2 t3 : Nat) (A : Nat → Prop) (U : State) (H : Heap) : Prop := sf_W t1 t2 t3 A U H ∧ nw_W U
theorem sn_W.go {t1 t2 t3 : Nat} {A B : Nat → Prop} {s U : State} {H : Heap} {locs : List Loc} (h : sn_W t1 t2 t3 A s s.heap) (hS : va_S A s.heap H locs) (hF : ∀ q, B q → A q) (hU : U.heap = H) (hW : s.WarmedH U.vm) : sn_W t1 t2 t3 B U U.heap := ⟨by rw [hU]; exact (h.1.at hS hF).moved hW.alike, h.2.warm hW⟩
def ps_W (D : va_G) (tys : List (ClassId × FieldType)) (t1 t2 t3 : Nat) (w0 : va_W) (sz : Nat) : State → Prop := fun U => pc_W D tys w0 sz U ∧ sn_W t1 t2 t3 (va_A w0 sz) U U.heap
theorem ps_W_blind {D : va_G} {tys : List (ClassId × FieldType)} {vs : List Value} {t1 t2 t3 : Nat} {w0 : va_W} {sz : Nat} : FrameBlind (va_Pc vs (ps_W D tys t1 t2 t3 w0 sz)) :=
  fun a U g mk q => by
    obtain ⟨q0, ⟨q1, qP, qK, qD⟩, qF⟩ := q
    exact ⟨q0, ⟨q1, qP, va_K.moved (u := U) (U := U.calling g mk a) (Vm.Alike.refl U.vm) qK, qD⟩, ⟨qF.1.moved (u := U) (U := U.calling g mk a) (Vm.Alike.refl U.vm), nw_W.same (s := U) (U := U.calling g mk a) rfl qF.2⟩⟩
/-- contracts that read them -/
def ni_M (l : Launch) (y : MethodName) (ws : List Cond) (rm : Room) (D : va_G) (tys : List (ClassId × FieldType)) (t1 t2 t3 : Nat) (vs : List Value) (w0 : va_W) (r : Int32) (w1 : va_W) : Prop :=
  ∀ sz : Nat, Met l y ws rm (va_Pc vs (ps_W D tys t1 t2 t3 w0 sz)) (qi_W D tys (va_A w0 sz) r w1) 0 0 (va_A w0 sz)
def nk_M (l : Launch) (y : MethodName) (ws : List Cond) (rm : Room) (D : va_G) (tys : List (ClassId × FieldType)) (t1 t2 t3 : Nat) (vs : List Value) (w0 : va_W) (mc ms : Nat) (w1 : (Nat → Nat) → va_W) (o : Nat) : Prop :=
  ∀ sz : Nat, Met l y ws rm (va_Pc vs (ps_W D tys t1 t2 t3 w0 sz)) (va_Qv (fun (a : Nat → Nat) => a 0 = o) (fun a t => qc_W D tys (va_A w0 sz) (w1 a) () t) (va_A w0 sz)) mc ms (va_A w0 sz)
/-! ## worlds in groups -/
theorem gd_mem {D : va_G} {cl : List vw_C} {ws : va_W} {H : Heap} : va_P D cl ws H ↔ ∀ q ∈ ws, va_at D cl q H :=
  ⟨fun h q hq => by obtain ⟨k, hk⟩ := List.getElem?_of_mem hq; exact h k q hk, fun h k q hk => h q (List.mem_of_getElem? hk)⟩
theorem gd_nd {A : Nat → Prop} {ws : va_W} : va_D A ws ↔ (ws.map Prod.fst).Nodup ∧ ∀ q ∈ ws, A q.1 := by
  constructor
  · intro h
    refine ⟨?_, fun q hq => by obtain ⟨k, hk⟩ := List.getElem?_of_mem hq; exact h.2 k q hk⟩
    unfold List.Nodup
    rw [List.pairwise_iff_getElem]
    intro i j hi hj hij he
    rw [List.length_map] at hi hj
    rw [List.getElem_map, List.getElem_map] at he
    have := h.1 i j _ _ (List.getElem?_eq_getElem hi) (List.getElem?_eq_getElem hj) he
    omega
  · intro h
    refine ⟨fun i j x y hx hy hxy => ?_, fun k q hk => h.2 q (List.mem_of_getElem? hk)⟩
    have h1 := h.1
    unfold List.Nodup at h1
    rw [List.pairwise_iff_getElem] at h1
    obtain ⟨hi, ei⟩ := List.getElem?_eq_some_iff.mp hx
    obtain ⟨hj, ej⟩ := List.getElem?_eq_some_iff.mp hy
    rcases Nat.lt_trichotomy i j with hij | hij | hij
    · exact absurd (by rw [List.getElem_map, List.getElem_map, ei, ej]; exact hxy) (h1 i j (by rw [List.length_map]; exact hi) (by rw [List.length_map]; exact hj) hij)
    · exact hij
    · exact absurd (by rw [List.getElem_map, List.getElem_map, ei, ej]; exact hxy.symm) (h1 j i (by rw [List.length_map]; exact hj) (by rw [List.length_map]; exact hi) hij)
theorem gd_perm {D : va_G} {A : Nat → Prop} {s : State} {ws ws' : va_W} {H : Heap} {locs : List Loc} (hp : ws.Perm ws') (hG : gd_W D A s ws H locs) : gd_W D A s ws' H locs := by
  obtain ⟨hP, hD, hS⟩ := hG
  refine ⟨gd_mem.mpr fun q hq => gd_mem.mp hP q (hp.mem_iff.mpr hq), gd_nd.mpr ⟨(hp.map Prod.fst).nodup_iff.mp (gd_nd.mp hD).1, fun q hq => (gd_nd.mp hD).2 q (hp.mem_iff.mpr hq)⟩, hS⟩
theorem fl_perm {gs gs' : List va_W} (h : gs.Perm gs') : gs.flatten.Perm gs'.flatten := by
  induction h with
  | nil => exact List.Perm.refl _
  | cons x _ ih => rw [List.flatten_cons, List.flatten_cons]; exact List.Perm.append_left x ih
  | swap x y l =>
    rw [List.flatten_cons, List.flatten_cons, List.flatten_cons, List.flatten_cons, ← List.append_assoc, ← List.append_assoc]
    exact List.Perm.append_right _ List.perm_append_comm
  | trans _ _ ih1 ih2 => exact ih1.trans ih2
theorem fl_rng {α : Type} : ∀ (gs : List α), (List.range gs.length).filterMap (fun i => gs[i]?) = gs
  | [] => rfl
  | x :: xs => by
    have ih := fl_rng xs
    rw [List.length_cons, List.range_succ_eq_map]
    show (match (some x : Option α) with | none => (List.map Nat.succ (List.range xs.length)).filterMap (fun i => (x :: xs)[i]?) | some b => b :: (List.map Nat.succ (List.range xs.length)).filterMap (fun i => (x :: xs)[i]?)) = x :: xs
    show x :: (List.map Nat.succ (List.range xs.length)).filterMap (fun i => (x :: xs)[i]?) = x :: xs
    rw [List.filterMap_map]
    exact congrArg (List.cons x) ih
/-- groups picked out, and the rest -/
theorem fl_pick {gs : List va_W} (is js : List Nat) (hp : (is ++ js).Perm (List.range gs.length)) : gs.flatten.Perm ((is.filterMap (fun i => gs[i]?)).flatten ++ (js.filterMap (fun i => gs[i]?)).flatten) := by
  have h1 := (hp.filterMap (fun i => gs[i]?)).symm
  rw [fl_rng, List.filterMap_append] at h1
  have h2 := fl_perm h1
  rw [List.flatten_append] at h2
  exact h2
section GROUPS
variable {p : Program} {l : Launch} {e : Env} {R : Room} {s : State} {m : MethodId} {args : Array Value} {below : List Frame} {meth : Method} {c : Code} {H : Heap} {locs : List Loc} {cells slots : Nat} {Q : State → Prop}
variable {cc : ByteArray} {pc nL : Nat} {ls : Array Slot} {rest st0 : List Value} {D : va_G} {A : Nat → Prop} {tys tysC : List (ClassId × FieldType)} {ws wr wc w1 : va_W} {Ts wsy : List Cond} {own : String}
variable {y : MethodName} {bytes : ByteArray} {maxL n index : Nat} {ret : Option FieldType} {rm : Room} {r : Int32} {As : List Value}
/-- a part of a world, the rest, and what comes behind a call -/
theorem gj_free (hD : va_D A (wc ++ wr)) (hS : va_S A s.heap H locs) (hA : ∀ q, s.heap.size ≤ q → A q) : ∀ q, va_A wc H.size q → A q := by
  intro q h
  rcases h with ⟨k, e, h⟩ | h
  · exact (gd_nd.mp hD).2 (q, e) (List.mem_append_left _ (List.mem_of_getElem? h))
  · exact hA q (Nat.le_trans hS.1 h)
theorem gj_left (hD : va_D A (wc ++ wr)) : va_D A wc := by
  have h := gd_nd.mp hD
  rw [List.map_append] at h
  exact gd_nd.mpr ⟨(List.nodup_append.mp h.1).1, fun q hq => h.2 q (List.mem_append_left _ hq)⟩
theorem gj_P (hP : va_P D vwCl (wc ++ wr) H) : va_P D vwCl wc H := gd_mem.mpr fun q hq => gd_mem.mp hP q (List.mem_append_left _ hq)
theorem gj_join {H1 : Heap} (hP : va_P D vwCl (wc ++ wr) H) (hD : va_D A (wc ++ wr)) (hF : ∀ x, va_A wc H.size x → A x) (hk : ∀ x : Nat, x < H.size → ¬ va_A wc H.size x → H1[x]? = H[x]?) (hP1 : va_P D vwCl w1 H1) (hD1 : va_D (va_A wc H.size) w1) : va_P D vwCl (w1 ++ wr) H1 ∧ va_D A (w1 ++ wr) := by
  have hnd := gd_nd.mp hD
  rw [List.map_append] at hnd
  have h3 := List.nodup_append.mp hnd.1
  have apart : ∀ x ∈ wr, x.1 < H.size ∧ ¬ va_A wc H.size x.1 := by
    intro x hx
    have hlt := (gd_mem.mp hP x (List.mem_append_right _ hx)).lt
    refine ⟨hlt, fun h => ?_⟩
    rcases h with ⟨j, e, h⟩ | h
    · exact h3.2.2 x.1 (List.mem_map.mpr ⟨(x.1, e), List.mem_of_getElem? h, rfl⟩) x.1 (List.mem_map.mpr ⟨x, hx, rfl⟩) rfl
    · omega
  refine ⟨gd_mem.mpr fun q hq => ?_, gd_nd.mpr ⟨?_, fun q hq => ?_⟩⟩
  · rcases List.mem_append.mp hq with h | h
    · exact gd_mem.mp hP1 q h
    · exact (gd_mem.mp hP q (List.mem_append_right _ h)).kept (hk q.1 (apart q h).1 (apart q h).2)
  · rw [List.map_append]
    refine List.nodup_append.mpr ⟨(gd_nd.mp hD1).1, h3.2.1, fun a ha b hb hab => ?_⟩
    obtain ⟨x, hx, rfl⟩ := List.mem_map.mp ha
    obtain ⟨z, hz, rfl⟩ := List.mem_map.mp hb
    exact (apart z hz).2 (by rw [← hab]; exact (gd_nd.mp hD1).2 x hx)
  · rcases List.mem_append.mp hq with h | h
    · exact hF q.1 ((gd_nd.mp hD1).2 q h)
    · exact hnd.2 q (List.mem_append_right _ h)
variable {gs gs' : List va_W}
theorem gq_iV (S : CallFix p m c cc nL s args Ts own) {b : Addr} {C : String} (hM : mi_M l y wsy rm D tysC (.ref b :: As) wc r w1) (cw : CallW R s args own C index y bytes maxL ret wsy rm 0 0 n)
    (hK : va_K D vwCl tys s) (isK : List Nat) (hKs : isK.filterMap (fun i => tys[i]?) = tysC) (hA : ∀ q, s.heap.size ≤ q → A q) (hG : gd_W D A s gs.flatten H locs) (is js : List Nat) (hp : (is ++ js).Perm (List.range gs.length)) (hp' : (is ++ js).Perm (List.range gs'.length)) (hC : (is.filterMap (fun i => gs[i]?)).flatten = wc) (hC1 : (is.filterMap (fun i => gs'[i]?)).flatten = w1) (hR : js.filterMap (fun i => gs'[i]?) = js.filterMap (fun i => gs[i]?))
    {ci q0 : Nat} {fs : List Value} {T : u_T} {N : Nat} (hcl : vwCl[ci]? = some (C, T, N)) (hb0 : wc[q0]? = some (b, .inr (ci, fs))) (hAs : As.length = n) (hsize : ls.size = nL) (hst : st0 = As.reverse ++ .ref b :: rest) (hW : (rest.map fun v => v.category).sum ≤ 8) (hdg : decode cc pc = .ok (.invokevirtual index, 3)) (hf : cells ≤ R.cells ∧ slots ≤ R.slots)
    (kk : ∀ (H1 : Heap) (locs1 : List Loc), gd_W D A s gs'.flatten H1 locs1 → W p l e R s m args below meth c H1 locs1 cells slots Q (F0 m (pc + 3) ls (.int r :: rest))) : W p l e R s m args below meth c H locs cells slots Q (F0 m pc ls st0) := by
  have hG := gd_perm (fl_pick is js hp) hG
  rw [hC] at hG
  obtain ⟨hP, hD, hS⟩ := hG
  have hFc := gj_free hD hS hA
  refine va_calli (va_runV (As := As) (rest := rest) S (hM H.size) cw ⟨pc_W_blind, va_recv hK (gj_P hP) hcl hb0, fun U hU hW => ⟨rfl, by rw [hU], by rw [hU]; exact gj_P hP, va_K.moved hW.alike (hK.sub isK hKs), (gj_left hD).weaken (fun _ _ _ _ => trivial)⟩⟩ rfl hAs hsize hst (lv_room hW) hdg hf) hS (fun q _ h => hFc q h) hFc (fun r' u t H1 locs1 ht hvm hw hB hz1 hk1 hS1 => ?_)
  obtain ⟨hP1, hK1, hD1⟩ := hB
  rw [ht] at hP1
  have hw : r' = r := hw
  subst hw
  have hG1 : gd_W D A s (w1 ++ (js.filterMap (fun i => gs'[i]?)).flatten) H1 locs1 := by
    rw [hR]
    exact ⟨(gj_join hP hD hFc hk1 hP1 hD1).1, (gj_join hP hD hFc hk1 hP1 hD1).2, hS1⟩
  rw [← hC1] at hG1
  exact kk H1 locs1 (gd_perm (fl_pick is js hp').symm hG1)
theorem gq_vV (S : CallFix p m c cc nL s args Ts own) {b : Addr} {C : String} (hM : mv_M l y wsy rm D tysC (.ref b :: As) wc w1) (cw : CallW R s args own C index y bytes maxL ret wsy rm 0 0 n)
    (hK : va_K D vwCl tys s) (isK : List Nat) (hKs : isK.filterMap (fun i => tys[i]?) = tysC) (hA : ∀ q, s.heap.size ≤ q → A q) (hG : gd_W D A s gs.flatten H locs) (is js : List Nat) (hp : (is ++ js).Perm (List.range gs.length)) (hp' : (is ++ js).Perm (List.range gs'.length)) (hC : (is.filterMap (fun i => gs[i]?)).flatten = wc) (hC1 : (is.filterMap (fun i => gs'[i]?)).flatten = w1) (hR : js.filterMap (fun i => gs'[i]?) = js.filterMap (fun i => gs[i]?))
    {ci q0 : Nat} {fs : List Value} {T : u_T} {N : Nat} (hcl : vwCl[ci]? = some (C, T, N)) (hb0 : wc[q0]? = some (b, .inr (ci, fs))) (hAs : As.length = n) (hsize : ls.size = nL) (hst : st0 = As.reverse ++ .ref b :: rest) (hW : (rest.map fun v => v.category).sum ≤ 8) (hdg : decode cc pc = .ok (.invokevirtual index, 3)) (hf : cells ≤ R.cells ∧ slots ≤ R.slots)
    (kk : ∀ (H1 : Heap) (locs1 : List Loc), gd_W D A s gs'.flatten H1 locs1 → W p l e R s m args below meth c H1 locs1 cells slots Q (F0 m (pc + 3) ls rest)) : W p l e R s m args below meth c H locs cells slots Q (F0 m pc ls st0) := by
  have hG := gd_perm (fl_pick is js hp) hG
  rw [hC] at hG
  obtain ⟨hP, hD, hS⟩ := hG
  have hFc := gj_free hD hS hA
  refine va_callv (va_runV (As := As) (rest := rest) S (hM H.size) cw ⟨pc_W_blind, va_recv hK (gj_P hP) hcl hb0, fun U hU hW => ⟨rfl, by rw [hU], by rw [hU]; exact gj_P hP, va_K.moved hW.alike (hK.sub isK hKs), (gj_left hD).weaken (fun _ _ _ _ => trivial)⟩⟩ rfl hAs hsize hst (lv_room hW) hdg hf) hS (fun q _ h => hFc q h) hFc (fun u t H1 locs1 ht hvm hw hB hz1 hk1 hS1 => ?_)
  obtain ⟨hP1, hK1, hD1⟩ := hB
  rw [ht] at hP1
  have hG1 : gd_W D A s (w1 ++ (js.filterMap (fun i => gs'[i]?)).flatten) H1 locs1 := by
    rw [hR]
    exact ⟨(gj_join hP hD hFc hk1 hP1 hD1).1, (gj_join hP hD hFc hk1 hP1 hD1).2, hS1⟩
  rw [← hC1] at hG1
  exact kk H1 locs1 (gd_perm (fl_pick is js hp').symm hG1)
theorem gq_iS (S : CallFix p m c cc nL s args Ts own) (hM : mi_M l y wsy rm D tysC As wc r w1) (cw : CallB R s args own index y bytes maxL ret wsy rm 0 0 n ∧ (Cond.static y).before args s = true)
    (hK : va_K D vwCl tys s) (isK : List Nat) (hKs : isK.filterMap (fun i => tys[i]?) = tysC) (hA : ∀ q, s.heap.size ≤ q → A q) (hG : gd_W D A s gs.flatten H locs) (is js : List Nat) (hp : (is ++ js).Perm (List.range gs.length)) (hp' : (is ++ js).Perm (List.range gs'.length)) (hC : (is.filterMap (fun i => gs[i]?)).flatten = wc) (hC1 : (is.filterMap (fun i => gs'[i]?)).flatten = w1) (hR : js.filterMap (fun i => gs'[i]?) = js.filterMap (fun i => gs[i]?))
    (hAs : As.length = n) (hsize : ls.size = nL) (hst : st0 = As.reverse ++ rest) (hW : (rest.map fun v => v.category).sum ≤ 8) (hdg : decode cc pc = .ok (.invokestatic index, 3)) (hf : cells ≤ R.cells ∧ slots ≤ R.slots)
    (kk : ∀ (H1 : Heap) (locs1 : List Loc), gd_W D A s gs'.flatten H1 locs1 → W p l e R s m args below meth c H1 locs1 cells slots Q (F0 m (pc + 3) ls (.int r :: rest))) : W p l e R s m args below meth c H locs cells slots Q (F0 m pc ls st0) := by
  have hG := gd_perm (fl_pick is js hp) hG
  rw [hC] at hG
  obtain ⟨hP, hD, hS⟩ := hG
  have hFc := gj_free hD hS hA
  refine va_calli (va_runS (As := As) (rest := rest) S (hM H.size) cw ⟨pc_W_blind, fun U hU hW => ⟨rfl, by rw [hU], by rw [hU]; exact gj_P hP, va_K.moved hW.alike (hK.sub isK hKs), (gj_left hD).weaken (fun _ _ _ _ => trivial)⟩⟩ rfl hAs hsize hst (lv_room hW) hdg hf) hS (fun q _ h => hFc q h) hFc (fun r' u t H1 locs1 ht hvm hw hB hz1 hk1 hS1 => ?_)
  obtain ⟨hP1, hK1, hD1⟩ := hB
  rw [ht] at hP1
  have hw : r' = r := hw
  subst hw
  have hG1 : gd_W D A s (w1 ++ (js.filterMap (fun i => gs'[i]?)).flatten) H1 locs1 := by
    rw [hR]
    exact ⟨(gj_join hP hD hFc hk1 hP1 hD1).1, (gj_join hP hD hFc hk1 hP1 hD1).2, hS1⟩
  rw [← hC1] at hG1
  exact kk H1 locs1 (gd_perm (fl_pick is js hp').symm hG1)
/-- an instance method that reads the static arrays, called -/
theorem gn_iV (S : CallFix p m c cc nL s args Ts own) {b : Addr} {C : String} {t1 t2 t3 : Nat} (hF0 : sn_W t1 t2 t3 A s s.heap) (hM : ni_M l y wsy rm D tysC t1 t2 t3 (.ref b :: As) wc r w1) (cw : CallW R s args own C index y bytes maxL ret wsy rm 0 0 n)
    (hK : va_K D vwCl tys s) (isK : List Nat) (hKs : isK.filterMap (fun i => tys[i]?) = tysC) (hA : ∀ q, s.heap.size ≤ q → A q) (hG : gd_W D A s gs.flatten H locs) (is js : List Nat) (hp : (is ++ js).Perm (List.range gs.length)) (hp' : (is ++ js).Perm (List.range gs'.length)) (hC : (is.filterMap (fun i => gs[i]?)).flatten = wc) (hC1 : (is.filterMap (fun i => gs'[i]?)).flatten = w1) (hR : js.filterMap (fun i => gs'[i]?) = js.filterMap (fun i => gs[i]?))
    {ci q0 : Nat} {fs : List Value} {T : u_T} {N : Nat} (hcl : vwCl[ci]? = some (C, T, N)) (hb0 : wc[q0]? = some (b, .inr (ci, fs))) (hAs : As.length = n) (hsize : ls.size = nL) (hst : st0 = As.reverse ++ .ref b :: rest) (hW : (rest.map fun v => v.category).sum ≤ 8) (hdg : decode cc pc = .ok (.invokevirtual index, 3)) (hf : cells ≤ R.cells ∧ slots ≤ R.slots)
    (kk : ∀ (H1 : Heap) (locs1 : List Loc), gd_W D A s gs'.flatten H1 locs1 → W p l e R s m args below meth c H1 locs1 cells slots Q (F0 m (pc + 3) ls (.int r :: rest))) : W p l e R s m args below meth c H locs cells slots Q (F0 m pc ls st0) := by
  have hG := gd_perm (fl_pick is js hp) hG
  rw [hC] at hG
  obtain ⟨hP, hD, hS⟩ := hG
  have hFc := gj_free hD hS hA
  refine va_calli (va_runV (As := As) (rest := rest) S (hM H.size) cw ⟨ps_W_blind, va_recv hK (gj_P hP) hcl hb0, fun U hU hW => ⟨rfl, ⟨by rw [hU], by rw [hU]; exact gj_P hP, va_K.moved hW.alike (hK.sub isK hKs), (gj_left hD).weaken (fun _ _ _ _ => trivial)⟩, hF0.go hS hFc hU hW⟩⟩ rfl hAs hsize hst (lv_room hW) hdg hf) hS (fun q _ h => hFc q h) hFc (fun r' u t H1 locs1 ht hvm hw hB hz1 hk1 hS1 => ?_)
  obtain ⟨hP1, hK1, hD1⟩ := hB
  rw [ht] at hP1
  have hw : r' = r := hw
  subst hw
  have hG1 : gd_W D A s (w1 ++ (js.filterMap (fun i => gs'[i]?)).flatten) H1 locs1 := by
    rw [hR]
    exact ⟨(gj_join hP hD hFc hk1 hP1 hD1).1, (gj_join hP hD hFc hk1 hP1 hD1).2, hS1⟩
  rw [← hC1] at hG1
  exact kk H1 locs1 (gd_perm (fl_pick is js hp').symm hG1)
end GROUPS
