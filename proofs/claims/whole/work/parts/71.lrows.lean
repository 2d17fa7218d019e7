/-! ## the law: rows for its calls -/
def lw_R (cI : ClassId) (a : Nat → Nat) (S : ms_T) : va_W := [(a 2, .inl (cI, (107, .inl (S 1)))), (a 3, .inl (cI, (642, .inl (S 2)))), (a 4, .inl (cI, (214, .inl (S 3)))), (a 5, .inl (cI, (2, .inl (S 4)))), (a 6, .inl (cI, (80, .inl (S 5)))), (a 7, .inl (cI, (4, .inl (S 6)))), (a 8, .inl (cI, (4, .inl (S 7))))]
abbrev gL (cI cB : ClassId) (b : Nat → Nat → Nat) (a : Nat → Nat) (X : xs_T) (S : ms_T) : List va_W := [(gX cI cB b X).flatten, wd_M0 cI a (S 8) (S 0), lw_R cI a S]
theorem pl_0 : (([0] : List Nat) ++ [1, 2]).Perm (List.range 3) := by decide
theorem pl_1 : (([1] : List Nat) ++ [0, 2]).Perm (List.range 3) := by decide
theorem pl_2 : (([1, 2] : List Nat) ++ [0]).Perm (List.range 3) := by decide
def lw_C (p : Program) (s : State) (m : MethodId) (meth : Method) (c : Code) (bs : Nat) : Prop := p.tables.exec = Jvm.exec ∧ c.code = cL_law ∧ (∀ w ∈ bg_L, w.before #[Value.ref bs] s = true) ∧ s.vm.findClass RL = some m.cls ∧ c.maxLocals = 4
/-- the number that two cells of the script make -/
def lw_V (x y : Int32) : Int64 := x.toInt64 <<< ((32 : Int32).toInt64 &&& 63) ||| (y.toInt64 &&& 4294967295)
section LAWROWS
variable {p : Program} {l : Launch} {e : Env} {R : Room} {s : State} {m : MethodId} {args : Array Value} {below : List Frame} {meth : Method} {c : Code} {H : Heap} {locs : List Loc} {cells slots : Nat} {Q : State → Prop}
variable {cc : ByteArray} {pc nL : Nat} {ls : Array Slot} {rest st0 : List Value} {D : va_G} {A : Nat → Prop} {tys tysC : List (ClassId × FieldType)} {wc : va_W} {Ts wsy : List Cond} {own : String}
variable {y : MethodName} {bytes : ByteArray} {maxL n index mc ms : Nat} {ret : Option FieldType} {rm : Room} {r : Int32} {As : List Value} {gs : List va_W}
theorem gl_ld (hx : p.tables.exec = Jvm.exec) (hb : c.code = cc) {b L : Nat} {xs : Nat → Int32} (hX : va_X b L xs s s.heap) (hbl : b < s.heap.size) {i : Nat} (hi : i < L) (hL : L ≤ 2048) (hS : va_S (fun q => s.heap.size ≤ q) s.heap H locs) (hdg : decode cc pc = .ok (.iaload, 1)) {v : Int32} (hv : v = nI i)
    (kk : W p l e R s m args below meth c H locs cells slots Q (F0 m (pc + 1) ls (.int (xs i) :: rest))) : W p l e R s m args below meth c H locs cells slots Q (F0 m pc ls (.int v :: .ref b :: rest)) := by
  subst hv
  refine va_sld hx hb hX hbl (Nat.not_le.mpr hbl) hS (i := nI i) (nI_in hi (by omega)) hdg ?_
  rw [nI_clamp (show i < 2 ^ 31 by omega)]
  exact kk
theorem gn_nV (S : CallFix p m c cc nL s args Ts own) {b : Addr} {C : String} {t1 t2 t3 : Nat} (hF0 : sn_W t1 t2 t3 A s s.heap) {ok : (Nat → Nat → Nat) → Prop} {w1 : (Nat → Nat → Nat) → va_W} (hM : nv_M l y wsy rm D tysC t1 t2 t3 (.ref b :: As) wc mc ms r ok w1) (cw : CallW R s args own C index y bytes maxL ret wsy rm mc ms n)
    (hK : va_K D vwCl tys s) (isK : List Nat) (hKs : isK.filterMap (fun i => tys[i]?) = tysC) (hA : ∀ q, s.heap.size ≤ q → A q) (hG : gd_W D A s gs.flatten H locs) (is js : List Nat) (hp : (is ++ js).Perm (List.range gs.length)) (hC : (is.filterMap (fun i => gs[i]?)).flatten = wc)
    {ci q0 : Nat} {fs : List Value} {T : u_T} {N : Nat} (hcl : vwCl[ci]? = some (C, T, N)) (hb0 : wc[q0]? = some (b, .inr (ci, fs))) (hAs : As.length = n) (hsize : ls.size = nL) (hst : st0 = As.reverse ++ .ref b :: rest) (hW : (rest.map fun v => v.category).sum ≤ 8) (hdg : decode cc pc = .ok (.invokevirtual index, 3)) (hf : cells + mc ≤ R.cells ∧ slots + ms ≤ R.slots)
    (kk : ∀ (b9 : Nat → Nat → Nat) (H1 : Heap) (locs1 : List Loc), ok b9 → gd_W D A s (w1 b9 ++ (js.filterMap (fun i => gs[i]?)).flatten) H1 locs1 → W p l e R s m args below meth c H1 locs1 (cells + mc) (slots + ms) Q (F0 m (pc + 3) ls (.int r :: rest))) : W p l e R s m args below meth c H locs cells slots Q (F0 m pc ls st0) := by
  have hG := gd_perm (fl_pick is js hp) hG
  rw [hC] at hG
  obtain ⟨hP, hD, hS⟩ := hG
  have hFc := gj_free hD hS hA
  refine va_calli (va_runV (As := As) (rest := rest) S (hM H.size) cw ⟨ps_W_blind, va_recv hK (gj_P hP) hcl hb0, fun U hU hW => ⟨rfl, ⟨by rw [hU], by rw [hU]; exact gj_P hP, va_K.moved hW.alike (hK.sub isK hKs), (gj_left hD).weaken (fun _ _ _ _ => trivial)⟩, hF0.go hS hFc hU hW⟩⟩ rfl hAs hsize hst (lv_room hW) hdg hf) hS (fun q _ h => hFc q h) hFc (fun r' u t H1 locs1 ht hvm hw hB hz1 hk1 hS1 => ?_)
  obtain ⟨hP1, hK1, hD1⟩ := hB
  rw [ht] at hP1
  obtain ⟨hw, hok⟩ := hw
  subst hw
  exact kk u H1 locs1 hok ⟨(gj_join hP hD hFc hk1 hP1 hD1).1, (gj_join hP hD hFc hk1 hP1 hD1).2, hS1⟩
end LAWROWS
