/-! ## own words: programs that may fail, states as functions, and rows for calls between worlds -/
def fo_bd {α β : Type} (x : Option α) (k : α → Option β) : Option β := match x with
  | none => none
  | some v => k v
theorem fo_bd_some {α β : Type} {x : Option α} {k : α → Option β} {q : β} (h : fo_bd x k = some q) : ∃ v, x = some v ∧ k v = some q := by
  cases x with
  | none => cases h
  | some v => exact ⟨v, rfl, h⟩
def fo_ck {β : Type} (i : Int32) (n : Nat) (k : Option β) : Option β := if i < 0 ∨ n ≤ i.toNatClampNeg then none else k
theorem fo_ck_some {β : Type} {i : Int32} {n : Nat} {k : Option β} {q : β} (h : fo_ck i n k = some q) : vp_in i n ∧ k = some q := by
  unfold fo_ck at h
  by_cases hc : i < 0 ∨ n ≤ i.toNatClampNeg
  · rw [if_pos hc] at h; cases h
  · rw [if_neg hc] at h; exact ⟨hc, h⟩
def fo_nz {β : Type} (y : Int32) (k : Option β) : Option β := if y = 0 then none else k
theorem fo_nz_some {β : Type} {y : Int32} {k : Option β} {q : β} (h : fo_nz y k = some q) : ¬ y = 0 ∧ k = some q := by
  unfold fo_nz at h
  by_cases hc : y = 0
  · rw [if_pos hc] at h; cases h
  · rw [if_neg hc] at h; exact ⟨hc, h⟩
theorem fo_it {β : Type} {c : Prop} [Decidable c] {a b : Option β} {q : β} (h : (if c then a else b) = some q) (hc : c) : a = some q := by
  rw [if_pos hc] at h; exact h
theorem fo_if {β : Type} {c : Prop} [Decidable c] {a b : Option β} {q : β} (h : (if c then a else b) = some q) (hc : ¬ c) : b = some q := by
  rw [if_neg hc] at h; exact h
def fo_fu : Nat := 1000
def fo_zz {β : Type} (v : Int32) (k : Option β) : Option β := if v = 0 ∨ v = 1 then k else none
theorem fo_zz_some {β : Type} {v : Int32} {k : Option β} {q : β} (h : fo_zz v k = some q) : (v = 0 ∨ v = 1) ∧ k = some q := by
  unfold fo_zz at h
  by_cases hc : v = 0 ∨ v = 1
  · rw [if_pos hc] at h; exact ⟨hc, h⟩
  · rw [if_neg hc] at h; cases h
theorem nar_b {v : Int32} (h : v = 0 ∨ v = 1) : narrow .boolean (.int v) = .int v := by
  rcases h with rfl | rfl <;> rfl
/-! words: one list for all methods -/
def bg_L : List Cond := lw_tbl.filter goodWord
theorem bg_tbl {w : Cond} (h : w ∈ bg_L) : w ∈ lw_tbl := (List.mem_filter.mp h).1
theorem bg_at {w : Cond} (i : Nat) (h : lw_tbl[i]? = some w) (hg : goodWord w = true) : w ∈ bg_L := List.mem_filter.mpr ⟨List.mem_of_getElem? h, hg⟩
theorem bg_sub {ws : List Cond} (ps : List Nat) (h : ws = ps.filterMap (fun i => lw_tbl[i]?)) (hg : ws.all goodWord = true) : ∀ w ∈ ws, w ∈ bg_L := by
  intro w hw
  have h2 := hw
  rw [h] at hw
  obtain ⟨i, -, hi⟩ := List.mem_filterMap.mp hw
  exact bg_at i hi (List.all_eq_true.mp hg w h2)
theorem bg_good {w : Cond} (h : w ∈ bg_L) : w ∈ bg_L ∧ ((w.onTables && w.keeps) = true ∨ ∃ ty, w = .arrayClass ty) := ⟨h, good_of_word (List.mem_filter.mp h).2⟩
theorem gb_V {own : String} {idx : Nat} {C : String} {y : MethodName} {k : Cond} (h1 : Cond.methodLink own idx y ∈ bg_L) (h2 : Cond.instanceMethod y ∈ bg_L) (h3 : Cond.selects C y y ∈ bg_L) (h4 : Cond.initialized C ∈ bg_L) (h5 : k ∈ bg_L) : GoodIn bg_L (wsV own idx C y (k :: bg_L)) := by
  intro w hw
  refine bg_good ?_
  unfold wsV at hw
  rcases List.mem_append.mp hw with h | h
  · rcases List.mem_cons.mp h with rfl | h
    · exact h1
    · rcases List.mem_cons.mp h with rfl | h
      · exact h2
      · rcases List.mem_cons.mp h with rfl | h
        · exact h3
        · rcases List.mem_cons.mp h with rfl | h
          · exact h4
          · exact absurd h List.not_mem_nil
  · rcases List.mem_cons.mp h with rfl | h
    · exact h5
    · exact h
theorem gb_S {own : String} {idx : Nat} {y : MethodName} {k : Cond} (h1 : Cond.methodLink own idx y ∈ bg_L) (h2 : Cond.static y ∈ bg_L) (h4 : Cond.initialized y.cls ∈ bg_L) (h5 : k ∈ bg_L) : GoodIn bg_L (va_wsS own idx y (k :: bg_L)) := by
  intro w hw
  refine bg_good ?_
  unfold va_wsS at hw
  rcases List.mem_append.mp hw with h | h
  · rcases List.mem_cons.mp h with rfl | h
    · exact h1
    · rcases List.mem_cons.mp h with rfl | h
      · exact h2
      · rcases List.mem_cons.mp h with rfl | h
        · exact h4
        · exact absurd h List.not_mem_nil
  · rcases List.mem_cons.mp h with rfl | h
    · exact h5
    · exact h
/-- a state of rows: row k is S k -/
abbrev ms_T : Type := Nat → Nat → Int32
def ms_set (S : ms_T) (k : Nat) (f : Nat → Int32) : ms_T := fun j => if j = k then f else S j
def ms_sub (S : ms_T) (d n : Nat) (q : ms_T) : ms_T := fun k => if d ≤ k ∧ k < d + n then q (k - d) else S k
def ms_from (S : ms_T) (d : Nat) : ms_T := fun k => S (k + d)
/-- a world some of whose cells are others now -/
def ws_sets : va_W → List Nat → va_W → va_W
  | ws, i :: is, x :: xs => ws_sets (ws.set i x) is xs
  | ws, _, _ => ws
theorem ws_sets_get : ∀ (is : List Nat) (xs ws : va_W) (k : Nat) (q : Nat × va_E), is.length = xs.length → (ws_sets ws is xs)[k]? = some q → (k ∉ is ∧ ws[k]? = some q) ∨ ∃ j : Nat, is[j]? = some k ∧ xs[j]? = some q
  | [], xs, ws, k, q, _, h => Or.inl ⟨List.not_mem_nil, by unfold ws_sets at h; exact h⟩
  | i :: is, [], ws, k, q, hl, h => by simp at hl
  | i :: is, x :: xs, ws, k, q, hl, h => by
    have h2 : (ws_sets (ws.set i x) is xs)[k]? = some q := h
    rcases ws_sets_get is xs (ws.set i x) k q (by simpa using hl) h2 with ⟨h3, h4⟩ | ⟨j, h3, h4⟩
    · by_cases hk : k = i
      · subst hk
        have hlt : k < (ws.set k x).length := (List.getElem?_eq_some_iff.mp h4).1
        rw [List.length_set] at hlt
        rw [List.getElem?_set_self hlt] at h4
        exact Or.inr ⟨0, rfl, h4⟩
      · rw [List.getElem?_set_ne (Ne.symm hk)] at h4
        exact Or.inl ⟨fun hm => (List.mem_cons.mp hm).elim hk h3, h4⟩
    · exact Or.inr ⟨j + 1, h3, h4⟩
/-- behind a call: the callee's cells are set into the caller's world -/
theorem ws_join {A0 : Nat → Prop} {D : va_G} {cl : List vw_C} {ws wc w1 : va_W} {H H1 : Heap} (hP : va_P D cl ws H) (hD : va_D A0 ws) (isC : List Nat) (hC : isC.map (fun i => ws[i]?) = wc.map some) (hl : w1.length = wc.length)
    (hk : ∀ q : Nat, q < H.size → ¬ va_A wc H.size q → H1[q]? = H[q]?) (hF : ∀ q, va_A wc H.size q → A0 q) (hP1 : va_P D cl w1 H1) (hD1 : va_D (va_A wc H.size) w1) : va_P D cl (ws_sets ws isC w1) H1 ∧ va_D A0 (ws_sets ws isC w1) := by
  have hlen : isC.length = w1.length := by
    have := congrArg List.length hC
    rw [List.length_map, List.length_map] at this
    omega
  have get := fun (k : Nat) (q : Nat × va_E) (h : (ws_sets ws isC w1)[k]? = some q) => ws_sets_get isC w1 ws k q hlen h
  have apart : ∀ (k : Nat) (q : Nat × va_E), k ∉ isC → ws[k]? = some q → q.1 < H.size ∧ ¬ va_A wc H.size q.1 := by
    intro k q hn hq
    have hlt := (hP k q hq).lt
    refine ⟨hlt, fun h => ?_⟩
    rcases h with ⟨k2, e, h⟩ | h
    · have h1 : (isC.map (fun i => ws[i]?))[k2]? = some (some (q.1, e)) := by rw [hC, List.getElem?_map, h]; rfl
      rw [List.getElem?_map] at h1
      cases hi : isC[k2]? with
      | none => rw [hi] at h1; cases h1
      | some i =>
        rw [hi] at h1
        have h4 : ws[i]? = some (q.1, e) := Option.some.inj h1
        have hij := hD.1 k i q (q.1, e) hq h4 rfl
        subst hij
        exact hn (List.mem_of_getElem? hi)
    · omega
  refine ⟨fun k q hq => ?_, fun i j x y hx hy hxy => ?_, fun k q hq => ?_⟩
  · rcases get k q hq with ⟨hn, hw⟩ | ⟨j, h1, h2⟩
    · obtain ⟨g1, g2⟩ := apart k q hn hw
      exact (hP k q hw).kept (hk q.1 g1 g2)
    · exact hP1 j q h2
  · rcases get i x hx with ⟨hn, hw⟩ | ⟨a, h1, h2⟩ <;> rcases get j y hy with ⟨hn', hw'⟩ | ⟨b, h3, h4⟩
    · exact hD.1 i j x y hw hw' hxy
    · exact absurd (hD1.2 b y h4) (by rw [← hxy]; exact (apart i x hn hw).2)
    · exact absurd (hD1.2 a x h2) (by rw [hxy]; exact (apart j y hn' hw').2)
    · have hab := hD1.1 a b x y h2 h4 hxy
      subst hab
      rw [h1] at h3
      exact Option.some.inj h3
  · rcases get k q hq with ⟨hn, hw⟩ | ⟨j, h1, h2⟩
    · exact hD.2 k q hw
    · exact hF q.1 (hD1.2 j q h2)
/-- what a method needs of the machine: exec, its code, its answer's type, its words, its class, no locks, its locals -/
def cx_M (p : Program) (s : State) (m : MethodId) (args : Array Value) (meth : Method) (c : Code) (R : String) (cc : ByteArray) (ret : Option FieldType) (nL : Nat) : Prop :=
  p.tables.exec = Jvm.exec ∧ c.code = cc ∧ meth.sig.returnType = ret ∧ (∀ w ∈ bg_L, w.before args s = true) ∧ s.vm.findClass R = some m.cls ∧ meth.locks = false ∧ c.maxLocals = nL
/-- a world at a heap: what is there, apart, what was written -/
def gd_W (D : va_G) (A : Nat → Prop) (s : State) (ws : va_W) (H : Heap) (locs : List Loc) : Prop := va_P D vwCl ws H ∧ va_D A ws ∧ va_S A s.heap H locs
def pc_W (D : va_G) (tys : List (ClassId × FieldType)) (w0 : va_W) (sz : Nat) : State → Prop := fun U => U.heap.size = sz ∧ va_P D vwCl w0 U.heap ∧ va_K D vwCl tys U ∧ va_D (fun _ => True) w0
def qc_W (D : va_G) (tys : List (ClassId × FieldType)) (A : Nat → Prop) (w1 : va_W) : Unit → State → Prop := fun _ t => va_P D vwCl w1 t.heap ∧ va_K D vwCl tys t ∧ va_D A w1
abbrev qi_W (D : va_G) (tys : List (ClassId × FieldType)) (A : Nat → Prop) (r : Int32) (w1 : va_W) : Array Value → State → Outcome → State → Prop := va_Qi (fun (r' : Int32) (_ : Unit) => r' = r) (qc_W D tys A w1) A
abbrev qv_W (D : va_G) (tys : List (ClassId × FieldType)) (A : Nat → Prop) (w1 : va_W) : Array Value → State → Outcome → State → Prop := va_Qv (fun (_ : Unit) => True) (qc_W D tys A w1) A
/-- a contract: with the values vs, in the world w0, the method answers r and leaves the world w1 -/
def mi_M (l : Launch) (y : MethodName) (ws : List Cond) (rm : Room) (D : va_G) (tys : List (ClassId × FieldType)) (vs : List Value) (w0 : va_W) (r : Int32) (w1 : va_W) : Prop :=
  ∀ sz : Nat, Met l y ws rm (va_Pc vs (pc_W D tys w0 sz)) (qi_W D tys (va_A w0 sz) r w1) 0 0 (va_A w0 sz)
def mv_M (l : Launch) (y : MethodName) (ws : List Cond) (rm : Room) (D : va_G) (tys : List (ClassId × FieldType)) (vs : List Value) (w0 w1 : va_W) : Prop :=
  ∀ sz : Nat, Met l y ws rm (va_Pc vs (pc_W D tys w0 sz)) (qv_W D tys (va_A w0 sz) w1) 0 0 (va_A w0 sz)
theorem pc_W_blind {D : va_G} {tys : List (ClassId × FieldType)} {vs : List Value} {w0 : va_W} {sz : Nat} : FrameBlind (va_Pc vs (pc_W D tys w0 sz)) :=
  fun a U g mk q => by
    obtain ⟨q0, q1, qP, qK, qD⟩ := q
    exact ⟨q0, q1, qP, va_K.moved (u := U) (U := U.calling g mk a) (Vm.Alike.refl U.vm) qK, qD⟩
section CALLS
variable {p : Program} {l : Launch} {e : Env} {R : Room} {s : State} {m : MethodId} {args : Array Value} {below : List Frame} {meth : Method} {c : Code} {H : Heap} {locs : List Loc} {cells slots : Nat} {Q : State → Prop}
variable {cc : ByteArray} {pc nL : Nat} {ls : Array Slot} {rest st0 : List Value} {D : va_G} {A : Nat → Prop} {tys tysC : List (ClassId × FieldType)} {ws wc w1 : va_W} {Ts wsy : List Cond} {own : String}
variable {y : MethodName} {bytes : ByteArray} {maxL n index : Nat} {ret : Option FieldType} {rm : Room} {r : Int32} {As : List Value}
theorem ws_free (hD : va_D A ws) (hS : va_S A s.heap H locs) (hA : ∀ q, s.heap.size ≤ q → A q) (isC : List Nat) (hC : isC.map (fun i => ws[i]?) = wc.map some) : ∀ q, va_A wc H.size q → A q := va_free hD hS hA isC hC
theorem ws_P (hP : va_P D vwCl ws H) (isC : List Nat) (hC : isC.map (fun i => ws[i]?) = wc.map some) : va_P D vwCl wc H := by
  intro k q hk
  have h1 : (isC.map (fun i => ws[i]?))[k]? = some (some q) := by rw [hC, List.getElem?_map, hk]; rfl
  rw [List.getElem?_map] at h1
  cases hi : isC[k]? with
  | none => rw [hi] at h1; cases h1
  | some i => rw [hi] at h1; exact hP i q (Option.some.inj h1)
/-- an instance method with an int answer, called -/
theorem gc_iV (S : CallFix p m c cc nL s args Ts own) {b : Addr} {C : String} (hM : mi_M l y wsy rm D tysC (.ref b :: As) wc r w1) (cw : CallW R s args own C index y bytes maxL ret wsy rm 0 0 n)
    (hK : va_K D vwCl tys s) (isK : List Nat) (hKs : isK.filterMap (fun i => tys[i]?) = tysC) (hA : ∀ q, s.heap.size ≤ q → A q) (hG : gd_W D A s ws H locs) (isC : List Nat) (hn : va_nd isC = true) (hC : isC.map (fun i => ws[i]?) = wc.map some) (hl : w1.length = wc.length)
    {ci q0 : Nat} {fs : List Value} {T : u_T} {N : Nat} (hcl : vwCl[ci]? = some (C, T, N)) (hb0 : wc[q0]? = some (b, .inr (ci, fs))) (hAs : As.length = n) (hsize : ls.size = nL) (hst : st0 = As.reverse ++ .ref b :: rest) (hW : (rest.map fun v => v.category).sum ≤ 8) (hdg : decode cc pc = .ok (.invokevirtual index, 3)) (hf : cells ≤ R.cells ∧ slots ≤ R.slots)
    (kk : ∀ (H1 : Heap) (locs1 : List Loc), gd_W D A s (ws_sets ws isC w1) H1 locs1 → W p l e R s m args below meth c H1 locs1 cells slots Q (F0 m (pc + 3) ls (.int r :: rest))) : W p l e R s m args below meth c H locs cells slots Q (F0 m pc ls st0) := by
  obtain ⟨hP, hD, hS⟩ := hG
  have hPc := ws_P hP isC hC
  have hDc := hD.sub isC hn hC
  have hKc := hK.sub isK hKs
  have hFc := ws_free hD hS hA isC hC
  refine va_calli (va_runV (As := As) (rest := rest) S (hM H.size) cw ⟨pc_W_blind, va_recv hKc hPc hcl hb0, fun U hU hW => ⟨rfl, by rw [hU], by rw [hU]; exact hPc, va_K.moved hW.alike hKc, hDc.weaken (fun _ _ _ _ => trivial)⟩⟩ rfl hAs hsize hst (lv_room hW) hdg hf) hS (fun q _ h => hFc q h) hFc (fun r' u t H1 locs1 ht hvm hw hB hz1 hk1 hS1 => ?_)
  obtain ⟨hP1, hK1, hD1⟩ := hB
  rw [ht] at hP1
  have hw : r' = r := hw
  subst hw
  exact kk H1 locs1 ⟨(ws_join hP hD isC hC hl hk1 hFc hP1 hD1).1, (ws_join hP hD isC hC hl hk1 hFc hP1 hD1).2, hS1⟩
theorem gc_vV (S : CallFix p m c cc nL s args Ts own) {b : Addr} {C : String} (hM : mv_M l y wsy rm D tysC (.ref b :: As) wc w1) (cw : CallW R s args own C index y bytes maxL ret wsy rm 0 0 n)
    (hK : va_K D vwCl tys s) (isK : List Nat) (hKs : isK.filterMap (fun i => tys[i]?) = tysC) (hA : ∀ q, s.heap.size ≤ q → A q) (hG : gd_W D A s ws H locs) (isC : List Nat) (hn : va_nd isC = true) (hC : isC.map (fun i => ws[i]?) = wc.map some) (hl : w1.length = wc.length)
    {ci q0 : Nat} {fs : List Value} {T : u_T} {N : Nat} (hcl : vwCl[ci]? = some (C, T, N)) (hb0 : wc[q0]? = some (b, .inr (ci, fs))) (hAs : As.length = n) (hsize : ls.size = nL) (hst : st0 = As.reverse ++ .ref b :: rest) (hW : (rest.map fun v => v.category).sum ≤ 8) (hdg : decode cc pc = .ok (.invokevirtual index, 3)) (hf : cells ≤ R.cells ∧ slots ≤ R.slots)
    (kk : ∀ (H1 : Heap) (locs1 : List Loc), gd_W D A s (ws_sets ws isC w1) H1 locs1 → W p l e R s m args below meth c H1 locs1 cells slots Q (F0 m (pc + 3) ls rest)) : W p l e R s m args below meth c H locs cells slots Q (F0 m pc ls st0) := by
  obtain ⟨hP, hD, hS⟩ := hG
  have hPc := ws_P hP isC hC
  have hDc := hD.sub isC hn hC
  have hKc := hK.sub isK hKs
  have hFc := ws_free hD hS hA isC hC
  refine va_callv (va_runV (As := As) (rest := rest) S (hM H.size) cw ⟨pc_W_blind, va_recv hKc hPc hcl hb0, fun U hU hW => ⟨rfl, by rw [hU], by rw [hU]; exact hPc, va_K.moved hW.alike hKc, hDc.weaken (fun _ _ _ _ => trivial)⟩⟩ rfl hAs hsize hst (lv_room hW) hdg hf) hS (fun q _ h => hFc q h) hFc (fun u t H1 locs1 ht hvm hw hB hz1 hk1 hS1 => ?_)
  obtain ⟨hP1, hK1, hD1⟩ := hB
  rw [ht] at hP1
  exact kk H1 locs1 ⟨(ws_join hP hD isC hC hl hk1 hFc hP1 hD1).1, (ws_join hP hD isC hC hl hk1 hFc hP1 hD1).2, hS1⟩
/-- a static method -/
theorem gc_iS (S : CallFix p m c cc nL s args Ts own) (hM : mi_M l y wsy rm D tysC As wc r w1) (cw : CallB R s args own index y bytes maxL ret wsy rm 0 0 n ∧ (Cond.static y).before args s = true)
    (hK : va_K D vwCl tys s) (isK : List Nat) (hKs : isK.filterMap (fun i => tys[i]?) = tysC) (hA : ∀ q, s.heap.size ≤ q → A q) (hG : gd_W D A s ws H locs) (isC : List Nat) (hn : va_nd isC = true) (hC : isC.map (fun i => ws[i]?) = wc.map some) (hl : w1.length = wc.length)
    (hAs : As.length = n) (hsize : ls.size = nL) (hst : st0 = As.reverse ++ rest) (hW : (rest.map fun v => v.category).sum ≤ 8) (hdg : decode cc pc = .ok (.invokestatic index, 3)) (hf : cells ≤ R.cells ∧ slots ≤ R.slots)
    (kk : ∀ (H1 : Heap) (locs1 : List Loc), gd_W D A s (ws_sets ws isC w1) H1 locs1 → W p l e R s m args below meth c H1 locs1 cells slots Q (F0 m (pc + 3) ls (.int r :: rest))) : W p l e R s m args below meth c H locs cells slots Q (F0 m pc ls st0) := by
  obtain ⟨hP, hD, hS⟩ := hG
  have hPc := ws_P hP isC hC
  have hDc := hD.sub isC hn hC
  have hKc := hK.sub isK hKs
  have hFc := ws_free hD hS hA isC hC
  refine va_calli (va_runS (As := As) (rest := rest) S (hM H.size) cw ⟨pc_W_blind, fun U hU hW => ⟨rfl, by rw [hU], by rw [hU]; exact hPc, va_K.moved hW.alike hKc, hDc.weaken (fun _ _ _ _ => trivial)⟩⟩ rfl hAs hsize hst (lv_room hW) hdg hf) hS (fun q _ h => hFc q h) hFc (fun r' u t H1 locs1 ht hvm hw hB hz1 hk1 hS1 => ?_)
  obtain ⟨hP1, hK1, hD1⟩ := hB
  rw [ht] at hP1
  have hw : r' = r := hw
  subst hw
  exact kk H1 locs1 ⟨(ws_join hP hD isC hC hl hk1 hFc hP1 hD1).1, (ws_join hP hD isC hC hl hk1 hFc hP1 hD1).2, hS1⟩
theorem gc_vS (S : CallFix p m c cc nL s args Ts own) (hM : mv_M l y wsy rm D tysC As wc w1) (cw : CallB R s args own index y bytes maxL ret wsy rm 0 0 n ∧ (Cond.static y).before args s = true)
    (hK : va_K D vwCl tys s) (isK : List Nat) (hKs : isK.filterMap (fun i => tys[i]?) = tysC) (hA : ∀ q, s.heap.size ≤ q → A q) (hG : gd_W D A s ws H locs) (isC : List Nat) (hn : va_nd isC = true) (hC : isC.map (fun i => ws[i]?) = wc.map some) (hl : w1.length = wc.length)
    (hAs : As.length = n) (hsize : ls.size = nL) (hst : st0 = As.reverse ++ rest) (hW : (rest.map fun v => v.category).sum ≤ 8) (hdg : decode cc pc = .ok (.invokestatic index, 3)) (hf : cells ≤ R.cells ∧ slots ≤ R.slots)
    (kk : ∀ (H1 : Heap) (locs1 : List Loc), gd_W D A s (ws_sets ws isC w1) H1 locs1 → W p l e R s m args below meth c H1 locs1 cells slots Q (F0 m (pc + 3) ls rest)) : W p l e R s m args below meth c H locs cells slots Q (F0 m pc ls st0) := by
  obtain ⟨hP, hD, hS⟩ := hG
  have hPc := ws_P hP isC hC
  have hDc := hD.sub isC hn hC
  have hKc := hK.sub isK hKs
  have hFc := ws_free hD hS hA isC hC
  refine va_callv (va_runS (As := As) (rest := rest) S (hM H.size) cw ⟨pc_W_blind, fun U hU hW => ⟨rfl, by rw [hU], by rw [hU]; exact hPc, va_K.moved hW.alike hKc, hDc.weaken (fun _ _ _ _ => trivial)⟩⟩ rfl hAs hsize hst (lv_room hW) hdg hf) hS (fun q _ h => hFc q h) hFc (fun u t H1 locs1 ht hvm hw hB hz1 hk1 hS1 => ?_)
  obtain ⟨hP1, hK1, hD1⟩ := hB
  rw [ht] at hP1
  exact kk H1 locs1 ⟨(ws_join hP hD isC hC hl hk1 hFc hP1 hD1).1, (ws_join hP hD isC hC hl hk1 hFc hP1 hD1).2, hS1⟩
/-- ends -/
theorem gr_i (hx : p.tables.exec = Jvm.exec) (hb : c.code = cc) (hr : meth.sig.returnType = some .int) (hlocks : meth.locks = false) (hK : va_K D vwCl tys s) (hG : gd_W D A s w1 H locs) {v : Int32} (hv : v = r) (hdg : decode cc pc = .ok (.ireturn, 1)) : W p l e R s m args below meth c H locs cells slots (MQ below (qi_W D tys A r w1) args s cells slots A) (F0 m pc ls [.int v]) := by
  obtain ⟨hP, hD, hS⟩ := hG
  exact W.iret (v := v) hx hb hr (fun t ht hW => ⟨⟨v, (), rfl, hv, by rw [ht]; exact hP, va_K.moved hW.alike hK, hD⟩, hS.F ht⟩) hS.2.2 hdg
theorem gr_z {ty : FieldType} (hx : p.tables.exec = Jvm.exec) (hb : c.code = cc) (hr : meth.sig.returnType = some ty) (hlocks : meth.locks = false) (hK : va_K D vwCl tys s) (hG : gd_W D A s w1 H locs) {v : Int32} (hv : v = r) (hn : narrow ty (.int v) = .int v) (hdg : decode cc pc = .ok (.ireturn, 1)) : W p l e R s m args below meth c H locs cells slots (MQ below (qi_W D tys A r w1) args s cells slots A) (F0 m pc ls [.int v]) := by
  obtain ⟨hP, hD, hS⟩ := hG
  exact W.zret (v := v) hx hb hr hn (fun t ht hW => ⟨⟨v, (), rfl, hv, by rw [ht]; exact hP, va_K.moved hW.alike hK, hD⟩, hS.F ht⟩) hS.2.2 hdg
theorem gr_v (hx : p.tables.exec = Jvm.exec) (hb : c.code = cc) (hr : meth.sig.returnType = none) (hlocks : meth.locks = false) (hK : va_K D vwCl tys s) (hG : gd_W D A s w1 H locs) (hdg : decode cc pc = .ok (.return_, 1)) : W p l e R s m args below meth c H locs cells slots (MQ below (qv_W D tys A w1) args s cells slots A) (F0 m pc ls []) := by
  obtain ⟨hP, hD, hS⟩ := hG
  exact W.vret hx hb hr (fun t ht hW => ⟨⟨(), rfl, trivial, by rw [ht]; exact hP, va_K.moved hW.alike hK, hD⟩, hS.F ht⟩) hS.2.2 hdg
end CALLS
