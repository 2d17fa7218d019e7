/-! ## save -/
theorem fl_fill : ∀ (gs : List va_W) (i : Nat) (w : va_W), gs[i]? = some [] → (gs.flatten ++ w).Perm (gs.set i w).flatten
  | [], i, w, h => by simp at h
  | g :: gs, 0, w, h => by
    have hg : g = [] := Option.some.inj h
    subst hg
    show ([] ++ gs.flatten ++ w).Perm (w ++ gs.flatten)
    rw [List.nil_append]
    exact List.perm_append_comm
  | g :: gs, i + 1, w, h => by
    show (g ++ gs.flatten ++ w).Perm (g ++ (gs.set i w).flatten)
    rw [List.append_assoc]
    exact List.Perm.append_left g (fl_fill gs i w h)
def bs_1 (b : Nat → Nat → Nat) (g : Nat) (a : Nat → Nat) : Nat → Nat → Nat := fun j => if j = g then a else b j
abbrev gS7 (cI cB : ClassId) (b : Nat → Nat → Nat) (S : xs_T) (f : Nat → Option Nat) : List va_W := [[(b 0 0, .inr (6, [.ref (b 5 0), .ref (b 6 0), .ref (b 2 0), .ref (b 1 0), .ref (b 3 0), .ref (b 4 0)]))], [(b 1 0, .inl (cB, (2, .inr (.inr (.inr (.inr f))))))], wd_H cB (b 2) (fun k => b (7 + k) 0) (S 2), wd_L cI (b 3) 80 (S 3), wd_L cI (b 4) 44 (S 4), wd_B cI (b 5) (S 5), wd_B cI (b 6) (S 6), wd_B cI (b 7) (S 7), wd_B cI (b 8) (S 8), wd_B cI (b 9) (S 9), wd_B cI (b 10) (S 10), wd_B cI (b 11) (S 11), wd_B cI (b 12) (S 12), wd_B cI (b 13) (S 13), sl_w cI (S 1 0 0) (b 14) (S 14), sl_w cI (S 1 0 1) (b 15) (S 15)]
def f7_save (v1 : Int32) (S : xs_T) : Option (Int32 × xs_T) := if v1 < 0 then some ((-2 : Int32), S) else if (2 : Int32) ≤ v1 then some ((-2 : Int32), S) else if S 1 0 v1.toNatClampNeg = 0 then fo_bd (f0_copyFrom (S 5) bd_0) (fun q => fo_bd (f0_players (S 5)) (fun n => some (n, xs_set (xs_set (xs_set S 1 (ms_set (S 1) 0 (upd (S 1 0) v1.toNatClampNeg 1))) (14 + v1.toNatClampNeg) bd_0) (14 + v1.toNatClampNeg) q))) else fo_bd (f0_copyFrom (S 5) (S (14 + v1.toNatClampNeg))) (fun q => fo_bd (f0_players (S 5)) (fun n => some (n, xs_set S (14 + v1.toNatClampNeg) q)))
def nv_M (l : Launch) (y : MethodName) (ws : List Cond) (rm : Room) (D : va_G) (tys : List (ClassId × FieldType)) (t1 t2 t3 : Nat) (vs : List Value) (w0 : va_W) (mc ms : Nat) (r : Int32) (ok : (Nat → Nat → Nat) → Prop) (w1 : (Nat → Nat → Nat) → va_W) : Prop :=
  ∀ sz : Nat, Met l y ws rm (va_Pc vs (ps_W D tys t1 t2 t3 w0 sz)) (va_Qi (fun (r' : Int32) (b : Nat → Nat → Nat) => r' = r ∧ ok b) (fun b t => qc_W D tys (va_A w0 sz) (w1 b) () t) (va_A w0 sz)) mc ms (va_A w0 sz)
def wm7_save : List Cond := .code yX7_save cX7_save 3 (some .int) :: bg_L
abbrev RM7_save : Room := { frames := 4, cells := 27, slots := 150, locals := 120 }
theorem hd7_save : yX7_save.cls = RX7 ∧ yX7_save.cls ≠ "java/lang/invoke/MethodHandle" ∧ yX7_save.cls ≠ "java/lang/invoke/VarHandle" ∧ (parseMethodDescriptor yX7_save.desc).map (fun d => d.parameters.length) = some 1 := by decide +kernel
theorem pv_0 : (([14, 5] : List Nat) ++ [0, 1, 2, 3, 4, 6, 7, 8, 9, 10, 11, 12, 13, 15]).Perm (List.range 16) := by decide
theorem pv_1 : (([5] : List Nat) ++ [0, 1, 2, 3, 4, 6, 7, 8, 9, 10, 11, 12, 13, 14, 15]).Perm (List.range 16) := by decide
theorem pv_2 : (([15, 5] : List Nat) ++ [0, 1, 2, 3, 4, 6, 7, 8, 9, 10, 11, 12, 13, 14]).Perm (List.range 16) := by decide
section
variable {p : Program} {l : Launch} {e : Env} {s : State} {m : MethodId} {args : Array Value} {below : List Frame} {meth : Method} {c : Code} {dC : Nat → ClassId} {dI : Nat → Nat → Nat} {cI cB : ClassId} {A : Nat → Prop}
set_option maxRecDepth 100000 in
set_option maxHeartbeats 4000000 in
theorem w7_save_t0 (C : cx_M p s m args meth c RX7 cX7_save (some .int) 3) (hK : va_K (dC, dI) vwCl [(cI, .int), (cB, .object "DiceRoads$Board")] s) (hA : ∀ q, s.heap.size ≤ q → A q) {o : Nat} {b : Nat → Nat → Nat} (ho : b 0 0 = o) {S : xs_T} {q : ms_T} {n : Int32} (hf : ¬ S 1 0 0 = 0) (hq : f0_copyFrom (S 5) (S 14) = some q) (hn : f0_players (S 5) = some n) {H : Heap} {locs : List Loc} {ls : Array Slot} (hG : gd_W (dC, dI) A s (gX cI cB b S).flatten H locs) (hl : lv_has ls 3 [(2, .ref (b 14 0)), (0, .ref (b 0 0)), (1, .int (nI 0))]) : W p l e RM7_save s m args below meth c H locs 27 150 (MQ below (va_Qi (fun (r' : Int32) (b9 : Nat → Nat → Nat) => r' = n ∧ b9 0 0 = o) (fun b9 t => qc_W (dC, dI) [(cI, .int), (cB, .object "DiceRoads$Board")] A (gX cI cB b9 (xs_set S 14 q)).flatten () t) A) args s 27 150 A) (F0 m 42 ls []) := by
  obtain ⟨hx, hb, hr, hts, hown, hlocks, hml⟩ := id C
  have hz : 27 ≤ RM7_save.cells ∧ 150 ≤ RM7_save.slots := ⟨Nat.le_of_ble_eq_true rfl, Nat.le_of_ble_eq_true rfl⟩
  refine lv_aload_n hx hb dX7_save_42 rfl (lv_at hl 0 rfl) ?_
  refine lv_aload_n hx hb dX7_save_43 rfl (lv_at hl 1 rfl) ?_
  refine va_get (D := (dC, dI)) (ci := 6) (v := .ref (b 5 0)) (C := RX7) (T := TX7) (N := 6) hx hb hts inlX7 hown hK hG.1 0 rfl rfl 0 (by decide) (hts _ wr_224) (fun _ h9 => h9) rfl dX7_save_44 ?_
  refine gq_vV (gs := gX cI cB b S) (gs' := gX cI cB b (xs_set S 14 q)) (As := [.ref (b 5 0)]) (rest := []) (wc := (wd_BB cI (fun j => if j < 27 then b 14 j else b 5 (j - 27)) (S 5) (S 14))) (w1 := (wd_BB cI (fun j => if j < 27 then b 14 j else b 5 (j - 27)) (S 5) q)) (b := b 14 0) (C := RX0) (ci := 0) (q0 := 0) ⟨hx, hb, hml, hown, hts⟩ (c0_copyFrom l (a := (fun j => if j < 27 then b 14 j else b 5 (j - 27))) (Z := (S 5)) hq) (cwV 1 hts gv_X7_111 rfl rfl rfl hd0_copyFrom ⟨Nat.le_of_ble_eq_true rfl, Nat.le_of_ble_eq_true rfl⟩) hK [0] rfl hA hG [14, 5] [0, 1, 2, 3, 4, 6, 7, 8, 9, 10, 11, 12, 13, 15] pv_0 pv_0 (by show (sl_w cI (S 1 0 0) (b 14) (S 14) ++ (wd_B cI (b 5) (S 5) ++ [])) = _; rw [sl_w_pos hf]; rfl) (by show (sl_w cI (S 1 0 0) (b 14) q ++ (wd_B cI (b 5) (S 5) ++ [])) = _; rw [sl_w_pos hf]; rfl) rfl rfl rfl rfl hl.1 rfl (Nat.le_of_ble_eq_true rfl) dX7_save_47 hz (fun H locs hG9 => ?_)
  have hG : gd_W (dC, dI) A s (gX cI cB b (xs_set S 14 q)).flatten H locs := hG9
  refine lv_aload_n hx hb dX7_save_50 rfl (lv_at hl 1 rfl) ?_
  refine va_get (D := (dC, dI)) (ci := 6) (v := .ref (b 5 0)) (C := RX7) (T := TX7) (N := 6) hx hb hts inlX7 hown hK hG.1 0 rfl rfl 0 (by decide) (hts _ wr_224) (fun _ h9 => h9) rfl dX7_save_51 ?_
  refine gq_iV (gs := gX cI cB b (xs_set S 14 q)) (gs' := gX cI cB b (xs_set S 14 q)) (As := []) (rest := []) (wc := (wd_B cI (b 5) (S 5))) (w1 := (wd_B cI (b 5) (S 5))) (b := b 5 0) (C := RX0) (ci := 0) (q0 := 0) ⟨hx, hb, hml, hown, hts⟩ (c0_players l (a := b 5) hn) (cwV 0 hts gv_X7_156 rfl rfl rfl hd0_players ⟨Nat.le_of_ble_eq_true rfl, Nat.le_of_ble_eq_true rfl⟩) hK [0] rfl hA hG [5] [0, 1, 2, 3, 4, 6, 7, 8, 9, 10, 11, 12, 13, 14, 15] pv_1 pv_1 rfl rfl rfl rfl rfl rfl hl.1 rfl (Nat.le_of_ble_eq_true rfl) dX7_save_54 hz (fun H locs hG9 => ?_)
  obtain ⟨hP, hD, hS⟩ := (show gd_W (dC, dI) A s (gX cI cB b (xs_set S 14 q)).flatten H locs from hG9)
  exact W.iret (v := n) hx hb hr (fun t ht hW => ⟨⟨n, b, rfl, ⟨rfl, ho⟩, by rw [ht]; exact hP, va_K.moved hW.alike hK, hD⟩, hS.F ht⟩) hS.2.2 dX7_save_57
end
