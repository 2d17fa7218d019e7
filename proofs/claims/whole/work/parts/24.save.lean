/-! ## save -/
theorem fl_fill : ∀ (gs : List va_W) (i : Nat) (w : va_W), gs[i]? = some [] → (gs.flatten ++ w).Perm (gs.set i w).flatten
  | [], i, w, h => by simp at h
  | g :: gs, 0, w, h => by
    have hg : g = [] := Option.some.inj h
    subst hg
    show ([] ++ gs.flatten ++ w).Perm (w ++ gs.flatten)
    rw [List.nil_append]
    exact List.perm_append_comm
  | g :: gs, i + 1, w, h => by
    show (g ++ gs.flatten ++ w).Perm (g ++ (gs.set i w).flatten)
    rw [List.append_assoc]
    exact List.Perm.append_left g (fl_fill gs i w h)
def bs_1 (b : Nat → Nat → Nat) (g : Nat) (a : Nat → Nat) : Nat → Nat → Nat := fun j => if j = g then a else b j
abbrev gS7 (cI cB : ClassId) (b : Nat → Nat → Nat) (S : xs_T) (f : Nat → Option Nat) : List va_W := [[(b 0 0, .inr (6, [.ref (b 5 0), .ref (b 6 0), .ref (b 2 0), .ref (b 1 0), .ref (b 3 0), .ref (b 4 0)]))], [(b 1 0, .inl (cB, (2, .inr (.inr (.inr (.inr f))))))], wd_H cB (b 2) (fun k => b (7 + k) 0) (S 2), wd_L cI (b 3) 80 (S 3), wd_L cI (b 4) 44 (S 4), wd_B cI (b 5) (S 5), wd_B cI (b 6) (S 6), wd_B cI (b 7) (S 7), wd_B cI (b 8) (S 8), wd_B cI (b 9) (S 9), wd_B cI (b 10) (S 10), wd_B cI (b 11) (S 11), wd_B cI (b 12) (S 12), wd_B cI (b 13) (S 13), sl_w cI (S 1 0 0) (b 14) (S 14), sl_w cI (S 1 0 1) (b 15) (S 15)]
def f7_save (v1 : Int32) (S : xs_T) : Option (Int32 × xs_T) := if v1 < 0 then some ((-2 : Int32), S) else if (2 : Int32) ≤ v1 then some ((-2 : Int32), S) else if S 1 0 v1.toNatClampNeg = 0 then fo_bd (f0_copyFrom (S 5) bd_0) (fun q => fo_bd (f0_players (S 5)) (fun n => some (n, xs_set (xs_set (xs_set S 1 (ms_set (S 1) 0 (upd (S 1 0) v1.toNatClampNeg 1))) (14 + v1.toNatClampNeg) bd_0) (14 + v1.toNatClampNeg) q))) else fo_bd (f0_copyFrom (S 5) (S (14 + v1.toNatClampNeg))) (fun q => fo_bd (f0_players (S 5)) (fun n => some (n, xs_set S (14 + v1.toNatClampNeg) q)))
def nv_M (l : Launch) (y : MethodName) (ws : List Cond) (rm : Room) (D : va_G) (tys : List (ClassId × FieldType)) (t1 t2 t3 : Nat) (vs : List Value) (w0 : va_W) (mc ms : Nat) (r : Int32) (ok : (Nat → Nat → Nat) → Prop) (w1 : (Nat → Nat → Nat) → va_W) : Prop :=
  ∀ sz : Nat, Met l y ws rm (va_Pc vs (ps_W D tys t1 t2 t3 w0 sz)) (va_Qi (fun (r' : Int32) (b : Nat → Nat → Nat) => r' = r ∧ ok b) (fun b t => qc_W D tys (va_A w0 sz) (w1 b) () t) (va_A w0 sz)) mc ms (va_A w0 sz)
def wm7_save : List Cond := .code yX7_save cX7_save 3 (some .int) :: bg_L
abbrev RM7_save : Room := { frames := 4, cells := 27, slots := 150, locals := 120 }
theorem hd7_save : yX7_save.cls = RX7 ∧ yX7_save.cls ≠ "java/lang/invoke/MethodHandle" ∧ yX7_save.cls ≠ "java/lang/invoke/VarHandle" ∧ (parseMethodDescriptor yX7_save.desc).map (fun d => d.parameters.length) = some 1 := by decide +kernel
theorem pv_0 : (([14, 5] : List Nat) ++ [0, 1, 2, 3, 4, 6, 7, 8, 9, 10, 11, 12, 13, 15]).Perm (List.range 16) := by decide
theorem pv_1 : (([5] : List Nat) ++ [0, 1, 2, 3, 4, 6, 7, 8, 9, 10, 11, 12, 13, 14, 15]).Perm (List.range 16) := by decide
theorem pv_2 : (([15, 5] : List Nat) ++ [0, 1, 2, 3, 4, 6, 7, 8, 9, 10, 11, 12, 13, 14]).Perm (List.range 16) := by decide
section
variable {p : Program} {l : Launch} {e : Env} {s : State} {m : MethodId} {args : Array Value} {below : List Frame} {meth : Method} {c : Code} {dC : Nat → ClassId} {dI : Nat → Nat → Nat} {cI cB : ClassId} {A : Nat → Prop}
set_option maxRecDepth 100000 in
set_option maxHeartbeats 4000000 in
theorem w7_save_t0 (C : cx_M p s m args meth c RX7 cX7_save (some .int) 3) (hK : va_K (dC, dI) vwCl [(cI, .int), (cB, .object "DiceRoads$Board")] s) (hA : ∀ q, s.heap.size ≤ q → A q) {cl sl : Nat} (hcl : cl ≤ 27) (hsl : sl ≤ 150) {o : Nat} {b : Nat → Nat → Nat} (ho : b 0 0 = o) {S : xs_T} {q : ms_T} {n : Int32} (hf : ¬ S 1 0 0 = 0) (hq : f0_copyFrom (S 5) (S 14) = some q) (hn : f0_players (S 5) = some n) {H : Heap} {locs : List Loc} {ls : Array Slot} (hG : gd_W (dC, dI) A s (gX cI cB b S).flatten H locs) (hl : lv_has ls 3 [(2, .ref (b 14 0)), (0, .ref (b 0 0)), (1, .int (nI 0))]) : W p l e RM7_save s m args below meth c H locs cl sl (MQ below (va_Qi (fun (r' : Int32) (b9 : Nat → Nat → Nat) => r' = n ∧ b9 0 0 = o) (fun b9 t => qc_W (dC, dI) [(cI, .int), (cB, .object "DiceRoads$Board")] A (gX cI cB b9 (xs_set S 14 q)).flatten () t) A) args s 27 150 A) (F0 m 42 ls []) := by
  obtain ⟨hx, hb, hr, hts, hown, hlocks, hml⟩ := id C
  have hz : cl ≤ RM7_save.cells ∧ sl ≤ RM7_save.slots := ⟨hcl, hsl⟩
  refine lv_aload_n hx hb dX7_save_42 rfl (lv_at hl 0 rfl) ?_
  refine lv_aload_n hx hb dX7_save_43 rfl (lv_at hl 1 rfl) ?_
  refine va_get (D := (dC, dI)) (ci := 6) (v := .ref (b 5 0)) (C := RX7) (T := TX7) (N := 6) hx hb hts inlX7 hown hK hG.1 0 rfl rfl 0 (by decide) (hts _ wr_224) (fun _ h9 => h9) rfl dX7_save_44 ?_
  refine gq_vV (gs := gX cI cB b S) (gs' := gX cI cB b (xs_set S 14 q)) (As := [.ref (b 5 0)]) (rest := []) (wc := (wd_BB cI (fun j => if j < 27 then b 14 j else b 5 (j - 27)) (S 5) (S 14))) (w1 := (wd_BB cI (fun j => if j < 27 then b 14 j else b 5 (j - 27)) (S 5) q)) (b := b 14 0) (C := RX0) (ci := 0) (q0 := 0) ⟨hx, hb, hml, hown, hts⟩ (c0_copyFrom l (a := (fun j => if j < 27 then b 14 j else b 5 (j - 27))) (Z := (S 5)) hq) (cwV 1 hts gv_X7_111 rfl rfl rfl hd0_copyFrom ⟨Nat.le_of_ble_eq_true rfl, Nat.le_of_ble_eq_true rfl⟩) hK [0] rfl hA hG [14, 5] [0, 1, 2, 3, 4, 6, 7, 8, 9, 10, 11, 12, 13, 15] pv_0 pv_0 (by show (sl_w cI (S 1 0 0) (b 14) (S 14) ++ (wd_B cI (b 5) (S 5) ++ [])) = _; rw [sl_w_pos hf]; rfl) (by show (sl_w cI (S 1 0 0) (b 14) q ++ (wd_B cI (b 5) (S 5) ++ [])) = _; rw [sl_w_pos hf]; rfl) (Eq.trans (b := ([0, 1, 2, 3, 4, 6, 7, 8, 9, 10, 11, 12, 13, 15] : List Nat).map (fun i => ((gX cI cB b S)[i]?).getD [])) rfl rfl) rfl rfl rfl hl.1 rfl (Nat.le_of_ble_eq_true rfl) dX7_save_47 hz (fun H locs hG9 => ?_)
  have hG : gd_W (dC, dI) A s (gX cI cB b (xs_set S 14 q)).flatten H locs := hG9
  refine lv_aload_n hx hb dX7_save_50 rfl (lv_at hl 1 rfl) ?_
  refine va_get (D := (dC, dI)) (ci := 6) (v := .ref (b 5 0)) (C := RX7) (T := TX7) (N := 6) hx hb hts inlX7 hown hK hG.1 0 rfl rfl 0 (by decide) (hts _ wr_224) (fun _ h9 => h9) rfl dX7_save_51 ?_
  refine gq_iV (gs := gX cI cB b (xs_set S 14 q)) (gs' := gX cI cB b (xs_set S 14 q)) (As := []) (rest := []) (wc := (wd_B cI (b 5) (S 5))) (w1 := (wd_B cI (b 5) (S 5))) (b := b 5 0) (C := RX0) (ci := 0) (q0 := 0) ⟨hx, hb, hml, hown, hts⟩ (c0_players l (a := b 5) hn) (cwV 0 hts gv_X7_156 rfl rfl rfl hd0_players ⟨Nat.le_of_ble_eq_true rfl, Nat.le_of_ble_eq_true rfl⟩) hK [0] rfl hA hG [5] [0, 1, 2, 3, 4, 6, 7, 8, 9, 10, 11, 12, 13, 14, 15] pv_1 pv_1 rfl rfl rfl rfl rfl rfl hl.1 rfl (Nat.le_of_ble_eq_true rfl) dX7_save_54 hz (fun H locs hG9 => ?_)
  obtain ⟨hP, hD, hS⟩ := (show gd_W (dC, dI) A s (gX cI cB b (xs_set S 14 q)).flatten H locs from hG9)
  refine W.widen (k := 27) (n := 150) hcl hsl ?_
  exact W.iret (v := n) hx hb hr (fun t ht hW => ⟨⟨n, b, rfl, ⟨rfl, ho⟩, by rw [ht]; exact hP, va_K.moved hW.alike hK, hD⟩, hS.F ht⟩) hS.2.2 dX7_save_57
set_option maxRecDepth 100000 in
set_option maxHeartbeats 4000000 in
theorem w7_save_o0 (C : cx_M p s m args meth c RX7 cX7_save (some .int) 3) (hK : va_K (dC, dI) vwCl [(cI, .int), (cB, .object "DiceRoads$Board")] s) (hA : ∀ q, s.heap.size ≤ q → A q) {b : Nat → Nat → Nat} {S : xs_T} {q : ms_T} {n : Int32} (hf : ¬ S 1 0 0 = 0) (hq : f0_copyFrom (S 5) (S 14) = some q) (hn : f0_players (S 5) = some n) {H : Heap} {locs : List Loc} {ls : Array Slot} (hG : gd_W (dC, dI) A s (gX cI cB b S).flatten H locs) (hl : lv_has ls 3 [(0, .ref (b 0 0)), (1, .int (nI 0))]) : W p l e RM7_save s m args below meth c H locs 0 0 (MQ below (va_Qi (fun (r' : Int32) (b9 : Nat → Nat → Nat) => r' = n ∧ b9 0 0 = b 0 0) (fun b9 t => qc_W (dC, dI) [(cI, .int), (cB, .object "DiceRoads$Board")] A (gX cI cB b9 (xs_set S 14 q)).flatten () t) A) args s 27 150 A) (F0 m 16 ls []) := by
  obtain ⟨hx, hb, hr, hts, hown, hlocks, hml⟩ := id C
  refine lv_aload_n hx hb dX7_save_16 rfl (lv_at hl 0 rfl) ?_
  refine va_get (D := (dC, dI)) (ci := 6) (v := .ref (b 1 0)) (C := RX7) (T := TX7) (N := 6) hx hb hts inlX7 hown hK hG.1 0 rfl rfl 3 (by decide) (hts _ wr_227) (fun _ h9 => h9) rfl dX7_save_17 ?_
  refine lv_iload_n hx hb dX7_save_20 rfl (lv_at hl 1 rfl) ?_
  refine va_aldq hx hb hK hG.1 1 1 rfl rfl (vp_in_nI (n := 0) (by decide) (by decide)) dX7_save_21 ?_
  refine W.eq (g2 := F0 m 22 ls [.ref (b 14 0)]) (by rw [show (nI 0).toNatClampNeg = 0 from rfl]; exact congrArg (fun z => F0 m 22 ls [z]) (sl_r_pos hf)) ?_
  refine lv_astore_n (lv' := [(2, .ref (b 14 0)), (0, .ref (b 0 0)), (1, .int (nI 0))]) hx hb dX7_save_22 rfl hl (by decide) rfl (fun ls hl => ?_)
  refine lv_aload_n hx hb dX7_save_23 rfl (lv_at hl 0 rfl) ?_
  refine lv_ifnonnull (tgt := 42) hx hb dX7_save_24 (by decide) ?_
  exact w7_save_t0 C hK hA (Nat.zero_le _) (Nat.zero_le _) rfl hf hq hn hG hl
set_option maxRecDepth 100000 in
set_option maxHeartbeats 4000000 in
theorem w7_save_n0 (C : cx_M p s m args meth c RX7 cX7_save (some .int) 3) (hK : va_K (dC, dI) vwCl [(cI, .int), (cB, .object "DiceRoads$Board")] s) (hA : ∀ q, s.heap.size ≤ q → A q) {t1 t2 t3 : Nat} (hF : sn_W t1 t2 t3 A s s.heap) {b : Nat → Nat → Nat} {S : xs_T} {q : ms_T} {n : Int32} (hf : S 1 0 0 = 0) (hq : f0_copyFrom (S 5) bd_0 = some q) (hn : f0_players (S 5) = some n) {H : Heap} {locs : List Loc} {ls : Array Slot} (hG : gd_W (dC, dI) A s (gX cI cB b S).flatten H locs) (hl : lv_has ls 3 [(0, .ref (b 0 0)), (1, .int (nI 0))]) : W p l e RM7_save s m args below meth c H locs 0 0 (MQ below (va_Qi (fun (r' : Int32) (b9 : Nat → Nat → Nat) => r' = n ∧ b9 0 0 = b 0 0) (fun b9 t => qc_W (dC, dI) [(cI, .int), (cB, .object "DiceRoads$Board")] A (gX cI cB b9 (xs_set (xs_set (xs_set S 1 (ms_set (S 1) 0 (upd (S 1 0) 0 1))) 14 bd_0) 14 q)).flatten () t) A) args s 27 150 A) (F0 m 16 ls []) := by
  obtain ⟨hx, hb, hr, hts, hown, hlocks, hml⟩ := id C
  refine lv_aload_n hx hb dX7_save_16 rfl (lv_at hl 0 rfl) ?_
  refine va_get (D := (dC, dI)) (ci := 6) (v := .ref (b 1 0)) (C := RX7) (T := TX7) (N := 6) hx hb hts inlX7 hown hK hG.1 0 rfl rfl 3 (by decide) (hts _ wr_227) (fun _ h9 => h9) rfl dX7_save_17 ?_
  refine lv_iload_n hx hb dX7_save_20 rfl (lv_at hl 1 rfl) ?_
  refine va_aldq hx hb hK hG.1 1 1 rfl rfl (vp_in_nI (n := 0) (by decide) (by decide)) dX7_save_21 ?_
  refine W.eq (g2 := F0 m 22 ls [.null]) (by rw [show (nI 0).toNatClampNeg = 0 from rfl]; exact congrArg (fun z => F0 m 22 ls [z]) (sl_r_zero hf)) ?_
  refine lv_astore_nN (lv' := [(2, .null), (0, .ref (b 0 0)), (1, .int (nI 0))]) hx hb dX7_save_22 rfl hl (by decide) rfl (fun ls hl => ?_)
  refine lv_aload_nN hx hb dX7_save_23 rfl (lv_at hl 0 rfl) ?_
  refine lv_ifnonnullN hx hb dX7_save_24 ?_
  refine va_new (ci := 0) (fs := [.null, .null, .null, .null, .null, .null, .null, .null, .null, .int 0, .int 0, .int 0, .int 0, .int 0, .int 0]) (C := RX0) (T := TX0) (N := 15) hx hb hts inlX0 tyX0 tyX0_ok hown (hts _ wr_78) (hts _ wr_79) (hts _ wr_61) hK hG.1 hG.2.1 hG.2.2 hA rfl (fun j hj => by rcases (show j = 0 ∨ j = 1 ∨ j = 2 ∨ j = 3 ∨ j = 4 ∨ j = 5 ∨ j = 6 ∨ j = 7 ∨ j = 8 ∨ j = 9 ∨ j = 10 ∨ j = 11 ∨ j = 12 ∨ j = 13 ∨ j = 14 by omega) with rfl | rfl | rfl | rfl | rfl | rfl | rfl | rfl | rfl | rfl | rfl | rfl | rfl | rfl | rfl <;> rfl) (Nat.le_of_ble_eq_true rfl) (Nat.le_of_ble_eq_true rfl) dX7_save_27 (fun q1 H hP9 hD9 hS9 => ?_)
  have hG : gd_W (dC, dI) A s ((gX cI cB b S).flatten ++ [(q1, .inr (0, [.null, .null, .null, .null, .null, .null, .null, .null, .null, .int 0, .int 0, .int 0, .int 0, .int 0, .int 0]))]) H _ := ⟨hP9, hD9, hS9⟩
  refine lv_dup hx hb dX7_save_30 rfl ?_
  refine gk_S (q := q1) (As := []) (rest := [.ref q1]) (ws := (gX cI cB b S).flatten) (w1 := fun a => wd_B cI a bd_0) ⟨hx, hb, hml, hown, hts⟩ hF (c0_init l) (cwI 0 hts (gb_I wr_82) rfl rfl rfl (hts _ wr_61) (hts _ wr_80) (hts _ wr_81) rfl (by decide +kernel) ⟨Nat.le_of_ble_eq_true rfl, Nat.le_of_ble_eq_true rfl⟩) hK [0] rfl hA hG rfl hl.1 rfl (Nat.le_of_ble_eq_true rfl) dX7_save_31 ⟨Nat.le_of_ble_eq_true rfl, Nat.le_of_ble_eq_true rfl⟩ (fun a1 H locs ha hG8 => ?_)
  subst ha
  have hG := hG8
  refine lv_astore_n (lv' := [(2, .ref (a1 0)), (0, .ref (b 0 0)), (1, .int (nI 0))]) hx hb dX7_save_34 rfl hl (by decide) rfl (fun ls hl => ?_)
  refine lv_aload_n hx hb dX7_save_35 rfl (lv_at hl 1 rfl) ?_
  refine va_get (D := (dC, dI)) (ci := 6) (v := .ref (b 1 0)) (C := RX7) (T := TX7) (N := 6) hx hb hts inlX7 hown hK hG.1 0 rfl rfl 3 (by decide) (hts _ wr_227) (fun _ h9 => h9) rfl dX7_save_36 ?_
  refine lv_iload_n hx hb dX7_save_39 rfl (lv_at hl 2 rfl) ?_
  refine lv_aload_n hx hb dX7_save_40 rfl (lv_at hl 0 rfl) ?_
  have hv : ((gX cI cB b S).flatten ++ wd_B cI a1 bd_0)[((gX cI cB b S).flatten).length]? = (wd_B cI a1 bd_0)[0]? := by rw [List.getElem?_append_right (Nat.le_refl _), Nat.sub_self]
  refine va_astq hx hb hK hG.1 hG.2.1 hG.2.2 1 1 ((gX cI cB b S).flatten).length 0 (r := (RX0, TX0, 15)) rfl rfl (hv.trans rfl) rfl (vp_in_nI (n := 0) (by decide) (by decide)) dX7_save_41 (fun H locs hP9 hD9 hS9 => ?_)
  rw [nI_clamp (by decide)] at hP9 hD9
  have hG : gd_W (dC, dI) A s ((gS7 cI cB b S (va_up _ 0 (some (a1 0)))).flatten ++ wd_B cI a1 bd_0) H locs := ⟨hP9, hD9, hS9⟩
  have hG := gd_perm (fl_fill _ 14 (wd_B cI a1 bd_0) (by show some (sl_w cI (S 1 0 0) (b 14) (S 14)) = some []; rw [sl_w_zero hf])) hG
  have hG := gd_refs (ws := [(b 0 0, .inr (6, [.ref (b 5 0), .ref (b 6 0), .ref (b 2 0), .ref (b 1 0), .ref (b 3 0), .ref (b 4 0)])), (b 1 0, .inl (cB, (2, .inr (.inr (.inr (.inr (va_up _ 0 (some (a1 0))))))))), (b 2 0, .inr (2, [.ref (b 2 1), .int (S 2 0 0), .int (S 2 0 1)]))]) (f := fun k => some (b (7 + k) 0)) (g := fun k => some ((bs_1 b 14 a1) (7 + k) 0)) (n := 7) (fun j hj => by rcases (show j = 0 ∨ j = 1 ∨ j = 2 ∨ j = 3 ∨ j = 4 ∨ j = 5 ∨ j = 6 by omega) with rfl | rfl | rfl | rfl | rfl | rfl | rfl <;> rfl) hG
  have h1 : ¬ ((xs_set (xs_set S 1 (ms_set (S 1) 0 (upd (S 1 0) 0 1))) 14 bd_0) 1 0 0) = 0 := by show ¬ (1 : Int32) = 0; decide
  have hG : gd_W (dC, dI) A s (gX cI cB (bs_1 b 14 a1) (xs_set (xs_set S 1 (ms_set (S 1) 0 (upd (S 1 0) 0 1))) 14 bd_0)).flatten H locs := by
    unfold gX
    rw [show sl_w cI ((xs_set (xs_set S 1 (ms_set (S 1) 0 (upd (S 1 0) 0 1))) 14 bd_0) 1 0 0) ((bs_1 b 14 a1) 14) ((xs_set (xs_set S 1 (ms_set (S 1) 0 (upd (S 1 0) 0 1))) 14 bd_0) 14) = wd_B cI ((bs_1 b 14 a1) 14) ((xs_set (xs_set S 1 (ms_set (S 1) 0 (upd (S 1 0) 0 1))) 14 bd_0) 14) from sl_w_pos h1]
    have hG := gd_refs (ws := [(b 0 0, .inr (6, [.ref (b 5 0), .ref (b 6 0), .ref (b 2 0), .ref (b 1 0), .ref (b 3 0), .ref (b 4 0)]))]) (f := va_up _ 0 (some (a1 0))) (g := fun k => match k with | 0 => sl_r ((xs_set (xs_set S 1 (ms_set (S 1) 0 (upd (S 1 0) 0 1))) 14 bd_0) 1 0 0) ((bs_1 b 14 a1) 14 0) | _ => sl_r ((xs_set (xs_set S 1 (ms_set (S 1) 0 (upd (S 1 0) 0 1))) 14 bd_0) 1 0 1) ((bs_1 b 14 a1) 15 0)) (n := 2) (fun j hj => by rcases (show j = 0 ∨ j = 1 by omega) with rfl | rfl <;> rfl) hG
    exact hG
  exact w7_save_t0 C hK hA (Nat.le_of_ble_eq_true rfl) (Nat.le_of_ble_eq_true rfl) (b := (bs_1 b 14 a1)) rfl h1 hq hn hG hl
set_option maxRecDepth 100000 in
set_option maxHeartbeats 4000000 in
theorem w7_save_t1 (C : cx_M p s m args meth c RX7 cX7_save (some .int) 3) (hK : va_K (dC, dI) vwCl [(cI, .int), (cB, .object "DiceRoads$Board")] s) (hA : ∀ q, s.heap.size ≤ q → A q) {cl sl : Nat} (hcl : cl ≤ 27) (hsl : sl ≤ 150) {o : Nat} {b : Nat → Nat → Nat} (ho : b 0 0 = o) {S : xs_T} {q : ms_T} {n : Int32} (hf : ¬ S 1 0 1 = 0) (hq : f0_copyFrom (S 5) (S 15) = some q) (hn : f0_players (S 5) = some n) {H : Heap} {locs : List Loc} {ls : Array Slot} (hG : gd_W (dC, dI) A s (gX cI cB b S).flatten H locs) (hl : lv_has ls 3 [(2, .ref (b 15 0)), (0, .ref (b 0 0)), (1, .int (nI 1))]) : W p l e RM7_save s m args below meth c H locs cl sl (MQ below (va_Qi (fun (r' : Int32) (b9 : Nat → Nat → Nat) => r' = n ∧ b9 0 0 = o) (fun b9 t => qc_W (dC, dI) [(cI, .int), (cB, .object "DiceRoads$Board")] A (gX cI cB b9 (xs_set S 15 q)).flatten () t) A) args s 27 150 A) (F0 m 42 ls []) := by
  obtain ⟨hx, hb, hr, hts, hown, hlocks, hml⟩ := id C
  have hz : cl ≤ RM7_save.cells ∧ sl ≤ RM7_save.slots := ⟨hcl, hsl⟩
  refine lv_aload_n hx hb dX7_save_42 rfl (lv_at hl 0 rfl) ?_
  refine lv_aload_n hx hb dX7_save_43 rfl (lv_at hl 1 rfl) ?_
  refine va_get (D := (dC, dI)) (ci := 6) (v := .ref (b 5 0)) (C := RX7) (T := TX7) (N := 6) hx hb hts inlX7 hown hK hG.1 0 rfl rfl 0 (by decide) (hts _ wr_224) (fun _ h9 => h9) rfl dX7_save_44 ?_
  refine gq_vV (gs := gX cI cB b S) (gs' := gX cI cB b (xs_set S 15 q)) (As := [.ref (b 5 0)]) (rest := []) (wc := (wd_BB cI (fun j => if j < 27 then b 15 j else b 5 (j - 27)) (S 5) (S 15))) (w1 := (wd_BB cI (fun j => if j < 27 then b 15 j else b 5 (j - 27)) (S 5) q)) (b := b 15 0) (C := RX0) (ci := 0) (q0 := 0) ⟨hx, hb, hml, hown, hts⟩ (c0_copyFrom l (a := (fun j => if j < 27 then b 15 j else b 5 (j - 27))) (Z := (S 5)) hq) (cwV 1 hts gv_X7_111 rfl rfl rfl hd0_copyFrom ⟨Nat.le_of_ble_eq_true rfl, Nat.le_of_ble_eq_true rfl⟩) hK [0] rfl hA hG [15, 5] [0, 1, 2, 3, 4, 6, 7, 8, 9, 10, 11, 12, 13, 14] pv_2 pv_2 (by show (sl_w cI (S 1 0 1) (b 15) (S 15) ++ (wd_B cI (b 5) (S 5) ++ [])) = _; rw [sl_w_pos hf]; rfl) (by show (sl_w cI (S 1 0 1) (b 15) q ++ (wd_B cI (b 5) (S 5) ++ [])) = _; rw [sl_w_pos hf]; rfl) (Eq.trans (b := ([0, 1, 2, 3, 4, 6, 7, 8, 9, 10, 11, 12, 13, 14] : List Nat).map (fun i => ((gX cI cB b S)[i]?).getD [])) rfl rfl) rfl rfl rfl hl.1 rfl (Nat.le_of_ble_eq_true rfl) dX7_save_47 hz (fun H locs hG9 => ?_)
  have hG : gd_W (dC, dI) A s (gX cI cB b (xs_set S 15 q)).flatten H locs := hG9
  refine lv_aload_n hx hb dX7_save_50 rfl (lv_at hl 1 rfl) ?_
  refine va_get (D := (dC, dI)) (ci := 6) (v := .ref (b 5 0)) (C := RX7) (T := TX7) (N := 6) hx hb hts inlX7 hown hK hG.1 0 rfl rfl 0 (by decide) (hts _ wr_224) (fun _ h9 => h9) rfl dX7_save_51 ?_
  refine gq_iV (gs := gX cI cB b (xs_set S 15 q)) (gs' := gX cI cB b (xs_set S 15 q)) (As := []) (rest := []) (wc := (wd_B cI (b 5) (S 5))) (w1 := (wd_B cI (b 5) (S 5))) (b := b 5 0) (C := RX0) (ci := 0) (q0 := 0) ⟨hx, hb, hml, hown, hts⟩ (c0_players l (a := b 5) hn) (cwV 0 hts gv_X7_156 rfl rfl rfl hd0_players ⟨Nat.le_of_ble_eq_true rfl, Nat.le_of_ble_eq_true rfl⟩) hK [0] rfl hA hG [5] [0, 1, 2, 3, 4, 6, 7, 8, 9, 10, 11, 12, 13, 14, 15] pv_1 pv_1 rfl rfl rfl rfl rfl rfl hl.1 rfl (Nat.le_of_ble_eq_true rfl) dX7_save_54 hz (fun H locs hG9 => ?_)
  obtain ⟨hP, hD, hS⟩ := (show gd_W (dC, dI) A s (gX cI cB b (xs_set S 15 q)).flatten H locs from hG9)
  refine W.widen (k := 27) (n := 150) hcl hsl ?_
  exact W.iret (v := n) hx hb hr (fun t ht hW => ⟨⟨n, b, rfl, ⟨rfl, ho⟩, by rw [ht]; exact hP, va_K.moved hW.alike hK, hD⟩, hS.F ht⟩) hS.2.2 dX7_save_57
set_option maxRecDepth 100000 in
set_option maxHeartbeats 4000000 in
theorem w7_save_o1 (C : cx_M p s m args meth c RX7 cX7_save (some .int) 3) (hK : va_K (dC, dI) vwCl [(cI, .int), (cB, .object "DiceRoads$Board")] s) (hA : ∀ q, s.heap.size ≤ q → A q) {b : Nat → Nat → Nat} {S : xs_T} {q : ms_T} {n : Int32} (hf : ¬ S 1 0 1 = 0) (hq : f0_copyFrom (S 5) (S 15) = some q) (hn : f0_players (S 5) = some n) {H : Heap} {locs : List Loc} {ls : Array Slot} (hG : gd_W (dC, dI) A s (gX cI cB b S).flatten H locs) (hl : lv_has ls 3 [(0, .ref (b 0 0)), (1, .int (nI 1))]) : W p l e RM7_save s m args below meth c H locs 0 0 (MQ below (va_Qi (fun (r' : Int32) (b9 : Nat → Nat → Nat) => r' = n ∧ b9 0 0 = b 0 0) (fun b9 t => qc_W (dC, dI) [(cI, .int), (cB, .object "DiceRoads$Board")] A (gX cI cB b9 (xs_set S 15 q)).flatten () t) A) args s 27 150 A) (F0 m 16 ls []) := by
  obtain ⟨hx, hb, hr, hts, hown, hlocks, hml⟩ := id C
  refine lv_aload_n hx hb dX7_save_16 rfl (lv_at hl 0 rfl) ?_
  refine va_get (D := (dC, dI)) (ci := 6) (v := .ref (b 1 0)) (C := RX7) (T := TX7) (N := 6) hx hb hts inlX7 hown hK hG.1 0 rfl rfl 3 (by decide) (hts _ wr_227) (fun _ h9 => h9) rfl dX7_save_17 ?_
  refine lv_iload_n hx hb dX7_save_20 rfl (lv_at hl 1 rfl) ?_
  refine va_aldq hx hb hK hG.1 1 1 rfl rfl (vp_in_nI (n := 1) (by decide) (by decide)) dX7_save_21 ?_
  refine W.eq (g2 := F0 m 22 ls [.ref (b 15 0)]) (by rw [show (nI 1).toNatClampNeg = 1 from rfl]; exact congrArg (fun z => F0 m 22 ls [z]) (sl_r_pos hf)) ?_
  refine lv_astore_n (lv' := [(2, .ref (b 15 0)), (0, .ref (b 0 0)), (1, .int (nI 1))]) hx hb dX7_save_22 rfl hl (by decide) rfl (fun ls hl => ?_)
  refine lv_aload_n hx hb dX7_save_23 rfl (lv_at hl 0 rfl) ?_
  refine lv_ifnonnull (tgt := 42) hx hb dX7_save_24 (by decide) ?_
  exact w7_save_t1 C hK hA (Nat.zero_le _) (Nat.zero_le _) rfl hf hq hn hG hl
set_option maxRecDepth 100000 in
set_option maxHeartbeats 4000000 in
theorem w7_save_n1 (C : cx_M p s m args meth c RX7 cX7_save (some .int) 3) (hK : va_K (dC, dI) vwCl [(cI, .int), (cB, .object "DiceRoads$Board")] s) (hA : ∀ q, s.heap.size ≤ q → A q) {t1 t2 t3 : Nat} (hF : sn_W t1 t2 t3 A s s.heap) {b : Nat → Nat → Nat} {S : xs_T} {q : ms_T} {n : Int32} (hf : S 1 0 1 = 0) (hq : f0_copyFrom (S 5) bd_0 = some q) (hn : f0_players (S 5) = some n) {H : Heap} {locs : List Loc} {ls : Array Slot} (hG : gd_W (dC, dI) A s (gX cI cB b S).flatten H locs) (hl : lv_has ls 3 [(0, .ref (b 0 0)), (1, .int (nI 1))]) : W p l e RM7_save s m args below meth c H locs 0 0 (MQ below (va_Qi (fun (r' : Int32) (b9 : Nat → Nat → Nat) => r' = n ∧ b9 0 0 = b 0 0) (fun b9 t => qc_W (dC, dI) [(cI, .int), (cB, .object "DiceRoads$Board")] A (gX cI cB b9 (xs_set (xs_set (xs_set S 1 (ms_set (S 1) 0 (upd (S 1 0) 1 1))) 15 bd_0) 15 q)).flatten () t) A) args s 27 150 A) (F0 m 16 ls []) := by
  obtain ⟨hx, hb, hr, hts, hown, hlocks, hml⟩ := id C
  refine lv_aload_n hx hb dX7_save_16 rfl (lv_at hl 0 rfl) ?_
  refine va_get (D := (dC, dI)) (ci := 6) (v := .ref (b 1 0)) (C := RX7) (T := TX7) (N := 6) hx hb hts inlX7 hown hK hG.1 0 rfl rfl 3 (by decide) (hts _ wr_227) (fun _ h9 => h9) rfl dX7_save_17 ?_
  refine lv_iload_n hx hb dX7_save_20 rfl (lv_at hl 1 rfl) ?_
  refine va_aldq hx hb hK hG.1 1 1 rfl rfl (vp_in_nI (n := 1) (by decide) (by decide)) dX7_save_21 ?_
  refine W.eq (g2 := F0 m 22 ls [.null]) (by rw [show (nI 1).toNatClampNeg = 1 from rfl]; exact congrArg (fun z => F0 m 22 ls [z]) (sl_r_zero hf)) ?_
  refine lv_astore_nN (lv' := [(2, .null), (0, .ref (b 0 0)), (1, .int (nI 1))]) hx hb dX7_save_22 rfl hl (by decide) rfl (fun ls hl => ?_)
  refine lv_aload_nN hx hb dX7_save_23 rfl (lv_at hl 0 rfl) ?_
  refine lv_ifnonnullN hx hb dX7_save_24 ?_
  refine va_new (ci := 0) (fs := [.null, .null, .null, .null, .null, .null, .null, .null, .null, .int 0, .int 0, .int 0, .int 0, .int 0, .int 0]) (C := RX0) (T := TX0) (N := 15) hx hb hts inlX0 tyX0 tyX0_ok hown (hts _ wr_78) (hts _ wr_79) (hts _ wr_61) hK hG.1 hG.2.1 hG.2.2 hA rfl (fun j hj => by rcases (show j = 0 ∨ j = 1 ∨ j = 2 ∨ j = 3 ∨ j = 4 ∨ j = 5 ∨ j = 6 ∨ j = 7 ∨ j = 8 ∨ j = 9 ∨ j = 10 ∨ j = 11 ∨ j = 12 ∨ j = 13 ∨ j = 14 by omega) with rfl | rfl | rfl | rfl | rfl | rfl | rfl | rfl | rfl | rfl | rfl | rfl | rfl | rfl | rfl <;> rfl) (Nat.le_of_ble_eq_true rfl) (Nat.le_of_ble_eq_true rfl) dX7_save_27 (fun q1 H hP9 hD9 hS9 => ?_)
  have hG : gd_W (dC, dI) A s ((gX cI cB b S).flatten ++ [(q1, .inr (0, [.null, .null, .null, .null, .null, .null, .null, .null, .null, .int 0, .int 0, .int 0, .int 0, .int 0, .int 0]))]) H _ := ⟨hP9, hD9, hS9⟩
  refine lv_dup hx hb dX7_save_30 rfl ?_
  refine gk_S (q := q1) (As := []) (rest := [.ref q1]) (ws := (gX cI cB b S).flatten) (w1 := fun a => wd_B cI a bd_0) ⟨hx, hb, hml, hown, hts⟩ hF (c0_init l) (cwI 0 hts (gb_I wr_82) rfl rfl rfl (hts _ wr_61) (hts _ wr_80) (hts _ wr_81) rfl (by decide +kernel) ⟨Nat.le_of_ble_eq_true rfl, Nat.le_of_ble_eq_true rfl⟩) hK [0] rfl hA hG rfl hl.1 rfl (Nat.le_of_ble_eq_true rfl) dX7_save_31 ⟨Nat.le_of_ble_eq_true rfl, Nat.le_of_ble_eq_true rfl⟩ (fun a1 H locs ha hG8 => ?_)
  subst ha
  have hG := hG8
  refine lv_astore_n (lv' := [(2, .ref (a1 0)), (0, .ref (b 0 0)), (1, .int (nI 1))]) hx hb dX7_save_34 rfl hl (by decide) rfl (fun ls hl => ?_)
  refine lv_aload_n hx hb dX7_save_35 rfl (lv_at hl 1 rfl) ?_
  refine va_get (D := (dC, dI)) (ci := 6) (v := .ref (b 1 0)) (C := RX7) (T := TX7) (N := 6) hx hb hts inlX7 hown hK hG.1 0 rfl rfl 3 (by decide) (hts _ wr_227) (fun _ h9 => h9) rfl dX7_save_36 ?_
  refine lv_iload_n hx hb dX7_save_39 rfl (lv_at hl 2 rfl) ?_
  refine lv_aload_n hx hb dX7_save_40 rfl (lv_at hl 0 rfl) ?_
  have hv : ((gX cI cB b S).flatten ++ wd_B cI a1 bd_0)[((gX cI cB b S).flatten).length]? = (wd_B cI a1 bd_0)[0]? := by rw [List.getElem?_append_right (Nat.le_refl _), Nat.sub_self]
  refine va_astq hx hb hK hG.1 hG.2.1 hG.2.2 1 1 ((gX cI cB b S).flatten).length 0 (r := (RX0, TX0, 15)) rfl rfl (hv.trans rfl) rfl (vp_in_nI (n := 1) (by decide) (by decide)) dX7_save_41 (fun H locs hP9 hD9 hS9 => ?_)
  rw [nI_clamp (by decide)] at hP9 hD9
  have hG : gd_W (dC, dI) A s ((gS7 cI cB b S (va_up _ 1 (some (a1 0)))).flatten ++ wd_B cI a1 bd_0) H locs := ⟨hP9, hD9, hS9⟩
  have hG := gd_perm (fl_fill _ 15 (wd_B cI a1 bd_0) (by show some (sl_w cI (S 1 0 1) (b 15) (S 15)) = some []; rw [sl_w_zero hf])) hG
  have hG := gd_refs (ws := [(b 0 0, .inr (6, [.ref (b 5 0), .ref (b 6 0), .ref (b 2 0), .ref (b 1 0), .ref (b 3 0), .ref (b 4 0)])), (b 1 0, .inl (cB, (2, .inr (.inr (.inr (.inr (va_up _ 1 (some (a1 0))))))))), (b 2 0, .inr (2, [.ref (b 2 1), .int (S 2 0 0), .int (S 2 0 1)]))]) (f := fun k => some (b (7 + k) 0)) (g := fun k => some ((bs_1 b 15 a1) (7 + k) 0)) (n := 7) (fun j hj => by rcases (show j = 0 ∨ j = 1 ∨ j = 2 ∨ j = 3 ∨ j = 4 ∨ j = 5 ∨ j = 6 by omega) with rfl | rfl | rfl | rfl | rfl | rfl | rfl <;> rfl) hG
  have h1 : ¬ ((xs_set (xs_set S 1 (ms_set (S 1) 0 (upd (S 1 0) 1 1))) 15 bd_0) 1 0 1) = 0 := by show ¬ (1 : Int32) = 0; decide
  have hG : gd_W (dC, dI) A s (gX cI cB (bs_1 b 15 a1) (xs_set (xs_set S 1 (ms_set (S 1) 0 (upd (S 1 0) 1 1))) 15 bd_0)).flatten H locs := by
    unfold gX
    rw [show sl_w cI ((xs_set (xs_set S 1 (ms_set (S 1) 0 (upd (S 1 0) 1 1))) 15 bd_0) 1 0 1) ((bs_1 b 15 a1) 15) ((xs_set (xs_set S 1 (ms_set (S 1) 0 (upd (S 1 0) 1 1))) 15 bd_0) 15) = wd_B cI ((bs_1 b 15 a1) 15) ((xs_set (xs_set S 1 (ms_set (S 1) 0 (upd (S 1 0) 1 1))) 15 bd_0) 15) from sl_w_pos h1]
    have hG := gd_refs (ws := [(b 0 0, .inr (6, [.ref (b 5 0), .ref (b 6 0), .ref (b 2 0), .ref (b 1 0), .ref (b 3 0), .ref (b 4 0)]))]) (f := va_up _ 1 (some (a1 0))) (g := fun k => match k with | 0 => sl_r ((xs_set (xs_set S 1 (ms_set (S 1) 0 (upd (S 1 0) 1 1))) 15 bd_0) 1 0 0) ((bs_1 b 15 a1) 14 0) | _ => sl_r ((xs_set (xs_set S 1 (ms_set (S 1) 0 (upd (S 1 0) 1 1))) 15 bd_0) 1 0 1) ((bs_1 b 15 a1) 15 0)) (n := 2) (fun j hj => by rcases (show j = 0 ∨ j = 1 by omega) with rfl | rfl <;> rfl) hG
    exact hG
  exact w7_save_t1 C hK hA (Nat.le_of_ble_eq_true rfl) (Nat.le_of_ble_eq_true rfl) (b := (bs_1 b 15 a1)) rfl h1 hq hn hG hl
set_option maxRecDepth 100000 in
set_option maxHeartbeats 4000000 in
theorem w7_save (C : cx_M p s m args meth c RX7 cX7_save (some .int) 3) (hK : va_K (dC, dI) vwCl [(cI, .int), (cB, .object "DiceRoads$Board")] s) (hA : ∀ q, s.heap.size ≤ q → A q) {t1 t2 t3 : Nat} (hF : sn_W t1 t2 t3 A s s.heap) {b : Nat → Nat → Nat} {S : xs_T} {v1 : Int32} {r : Int32 × xs_T} (h : f7_save v1 S = some r) {H : Heap} {locs : List Loc} {ls : Array Slot} (hG : gd_W (dC, dI) A s (gX cI cB b S).flatten H locs) (hl : lv_has ls 3 [(0, .ref (b 0 0)), (1, .int v1)]) : W p l e RM7_save s m args below meth c H locs 0 0 (MQ below (va_Qi (fun (r' : Int32) (b9 : Nat → Nat → Nat) => r' = r.1 ∧ b9 0 0 = b 0 0) (fun b9 t => qc_W (dC, dI) [(cI, .int), (cB, .object "DiceRoads$Board")] A (gX cI cB b9 r.2).flatten () t) A) args s 27 150 A) (F0 m 0 ls []) := by
  obtain ⟨hx, hb, hr, hts, hown, hlocks, hml⟩ := id C
  unfold f7_save at h
  refine lv_iload_n hx hb dX7_save_0 rfl (lv_at hl 1 rfl) ?_
  refine lv_if_lt (tgt := 13) hx hb dX7_save_1 (by decide) (fun hc => ?_) (fun hc => ?_)
  · have h := fo_it h hc
    obtain rfl := Option.some.inj h
    refine lv_bipush (v := (-2 : Int32)) hx hb dX7_save_13 (by decide) ?_
    · obtain ⟨hP, hD, hS⟩ := hG
      refine W.widen (k := 27) (n := 150) (Nat.le_of_ble_eq_true rfl) (Nat.le_of_ble_eq_true rfl) ?_
      exact W.iret (v := (-2 : Int32)) hx hb hr (fun t ht hW => ⟨⟨(-2 : Int32), b, rfl, ⟨rfl, rfl⟩, by rw [ht]; exact hP, va_K.moved hW.alike hK, hD⟩, hS.F ht⟩) hS.2.2 dX7_save_15
  · have h := fo_if h hc
    refine lv_iload_n hx hb dX7_save_4 rfl (lv_at hl 1 rfl) ?_
    refine lv_aload_n hx hb dX7_save_5 rfl (lv_at hl 0 rfl) ?_
    refine va_get (D := (dC, dI)) (ci := 6) (v := .ref (b 1 0)) (C := RX7) (T := TX7) (N := 6) hx hb hts inlX7 hown hK hG.1 0 rfl rfl 3 (by decide) (hts _ wr_227) (fun _ h9 => h9) rfl dX7_save_6 ?_
    refine va_alen (v := (2 : Int32)) hx hb hK hG.1 1 1 rfl rfl rfl dX7_save_9 ?_
    refine lv_icmp_lt (tgt := 16) hx hb dX7_save_10 (by decide) (fun hc2 => ?_) (fun hc2 => ?_)
    · have hc3 : ¬ (2 : Int32) ≤ v1 := Int32.not_le.mpr hc2
      have h := fo_if h hc3
      obtain ⟨k, hk, hv⟩ := vp_in_of (x := v1) (n := 2) (fun z => z.elim hc (fun z => absurd z (by
        have := Int32.lt_iff_toInt_lt.mp hc2
        have h2 : (2 : Int32).toInt = 2 := rfl
        unfold Int32.toNatClampNeg
        omega))) (by decide)
      subst hv
      rw [nI_clamp (by omega)] at h
      by_cases hf : S 1 0 k = 0
      · have h := fo_it h hf
        obtain ⟨q, hq, h⟩ := fo_bd_some h
        obtain ⟨n, hn, h3⟩ := fo_bd_some h
        rcases (show k = 0 ∨ k = 1 by omega) with rfl | rfl
        · obtain rfl := Option.some.inj h3
          exact w7_save_n0 C hK hA hF hf hq hn hG hl
        · obtain rfl := Option.some.inj h3
          exact w7_save_n1 C hK hA hF hf hq hn hG hl
      · have h := fo_if h hf
        obtain ⟨q, hq, h⟩ := fo_bd_some h
        obtain ⟨n, hn, h3⟩ := fo_bd_some h
        rcases (show k = 0 ∨ k = 1 by omega) with rfl | rfl
        · obtain rfl := Option.some.inj h3
          exact w7_save_o0 C hK hA hf hq hn hG hl
        · obtain rfl := Option.some.inj h3
          exact w7_save_o1 C hK hA hf hq hn hG hl
    · have hc3 : (2 : Int32) ≤ v1 := Int32.not_lt.mp hc2
      have h := fo_it h hc3
      obtain rfl := Option.some.inj h
      refine lv_bipush (v := (-2 : Int32)) hx hb dX7_save_13 (by decide) ?_
      obtain ⟨hP, hD, hS⟩ := hG
      refine W.widen (k := 27) (n := 150) (Nat.le_of_ble_eq_true rfl) (Nat.le_of_ble_eq_true rfl) ?_
      exact W.iret (v := (-2 : Int32)) hx hb hr (fun t ht hW => ⟨⟨(-2 : Int32), b, rfl, ⟨rfl, rfl⟩, by rw [ht]; exact hP, va_K.moved hW.alike hK, hD⟩, hS.F ht⟩) hS.2.2 dX7_save_15
set_option maxRecDepth 100000 in
set_option maxHeartbeats 4000000 in
theorem c7_save (l : Launch) {dC : Nat → ClassId} {dI : Nat → Nat → Nat} {cI cB : ClassId} {t1 t2 t3 : Nat} {b : Nat → Nat → Nat} {v1 : Int32} {S : xs_T} {q : Int32 × xs_T} (h : f7_save v1 S = some q) : nv_M l yX7_save wm7_save RM7_save (dC, dI) [(cI, .int), (cB, .object "DiceRoads$Board")] t1 t2 t3 [.ref (b 0 0), .int v1] (gX cI cB b S).flatten 27 150 q.1 (fun b9 => b9 0 0 = b 0 0) (fun b9 => (gX cI cB b9 q.2).flatten) := by
  intro sz
  refine Met.ofW (cc := cX7_save) (maxL := 3) (ret := (some .int)) (by decide) rfl ?_
  intro p e s m args below meth c s₁ B hml hv
  obtain ⟨rfl, ⟨hsz, hP, hK, hD0⟩, hF⟩ := hv
  subst hsz
  have hl := lv_entry ([.ref (b 0 0), .int v1] : List Value) (n := 3) (Nat.le_of_ble_eq_true rfl)
  rw [lg_entry_eq]
  generalize (lg_sl ([.ref (b 0 0), .int v1] : List Value) ++ List.replicate (3 - (lg_sl ([.ref (b 0 0), .int v1] : List Value)).length) Slot.unset).toArray = ls at hl ⊢
  exact w7_save ⟨B.exec, B.bytes, B.returns, fun w hw => atoms_spec (ws := wm7_save) B.pre w (List.mem_cons_of_mem _ hw), findClass_of_methodNamed B.named, B.notSynchronized, hml⟩ hK (fun _ h => Or.inr h) hF h ⟨hP, hD0.self, va_S.rf⟩ hl
end
