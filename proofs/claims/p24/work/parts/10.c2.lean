/-! ## DiceRoads$Debts.nextOnRing(III)I -/
section
variable {p : Program} {l : Launch} {e : Env} {s : State} {m : MethodId} {args : Array Value} {below : List Frame} {meth : Method} {c : Code} {dC : Nat → ClassId} {dI : Nat → Nat → Nat} {cI : ClassId} {A : Nat → Prop}
set_option maxRecDepth 100000 in
set_option maxHeartbeats 4000000 in
theorem w1_nextOnRing_b42 (C : cx_M p s m args meth c RX1 cX1_nextOnRing (some .int) 5) (hK : va_K (dC, dI) vwCl [(cI, .int)] s) (hA : ∀ q, s.heap.size ≤ q → A q) {a : Nat → Nat} {S : ms_T} {q : Int32} {rec10 : Int32 → Int32 → Int32 → Int32 → ms_T → Option Int32} (hrec10 : ∀ {v1 : Int32} {v2 : Int32} {v3 : Int32} {v4 : Int32} , rec10 v1 v2 v3 v4 S = some q → ∀ {H : Heap} {locs : List Loc} {ls : Array Slot}, gd_W (dC, dI) A s (wd_D cI a S) H locs → lv_has ls 5 [(0, .ref (a 0)), (1, .int v1), (2, .int v2), (3, .int v3), (4, .int v4)] → W p l e RM1_nextOnRing s m args below meth c H locs 0 0 (MQ below (qi_W (dC, dI) [(cI, .int)] A q (wd_D cI a S)) args s 0 0 A) (F0 m 10 ls [])) {v1 : Int32} {v2 : Int32} {v3 : Int32} {v4 : Int32} (h : f1_nextOnRing_b42 rec10 v1 v2 v3 v4 S = some q) {H : Heap} {locs : List Loc} {ls : Array Slot} (hG : gd_W (dC, dI) A s (wd_D cI a S) H locs) (hl : lv_has ls 5 [(0, .ref (a 0)), (1, .int v1), (2, .int v2), (3, .int v3), (4, .int v4)]) : W p l e RM1_nextOnRing s m args below meth c H locs 0 0 (MQ below (qi_W (dC, dI) [(cI, .int)] A q (wd_D cI a S)) args s 0 0 A) (F0 m 42 ls []) := by
  unfold f1_nextOnRing_b42 at h
  obtain ⟨hx, hb, hr, hts, hown, hlocks, hml⟩ := id C
  refine lv_iinc (v := (v4 + (1 : Int32))) (lv' := [(4, .int (v4 + (1 : Int32))), (0, .ref (a 0)), (1, .int v1), (2, .int v2), (3, .int v3)]) hx hb dX1_nextOnRing_42 hl (k := 4) rfl rfl (by decide) rfl (fun ls hl => ?_)
  refine lv_goto (tgt := 10) hx hb dX1_nextOnRing_45 (by decide) ?_
  exact hrec10 h hG (lv_sub hl [1, 2, 3, 4, 0] rfl)
set_option maxRecDepth 100000 in
set_option maxHeartbeats 4000000 in
theorem w1_nextOnRing_b10 (C : cx_M p s m args meth c RX1 cX1_nextOnRing (some .int) 5) (hK : va_K (dC, dI) vwCl [(cI, .int)] s) (hA : ∀ q, s.heap.size ≤ q → A q) {a : Nat → Nat} {S : ms_T} {q : Int32} {rec10 : Int32 → Int32 → Int32 → Int32 → ms_T → Option Int32} (hrec10 : ∀ {v1 : Int32} {v2 : Int32} {v3 : Int32} {v4 : Int32} , rec10 v1 v2 v3 v4 S = some q → ∀ {H : Heap} {locs : List Loc} {ls : Array Slot}, gd_W (dC, dI) A s (wd_D cI a S) H locs → lv_has ls 5 [(0, .ref (a 0)), (1, .int v1), (2, .int v2), (3, .int v3), (4, .int v4)] → W p l e RM1_nextOnRing s m args below meth c H locs 0 0 (MQ below (qi_W (dC, dI) [(cI, .int)] A q (wd_D cI a S)) args s 0 0 A) (F0 m 10 ls [])) {v1 : Int32} {v2 : Int32} {v3 : Int32} {v4 : Int32} (h : f1_nextOnRing_b10 rec10 v1 v2 v3 v4 S = some q) {H : Heap} {locs : List Loc} {ls : Array Slot} (hG : gd_W (dC, dI) A s (wd_D cI a S) H locs) (hl : lv_has ls 5 [(0, .ref (a 0)), (1, .int v1), (2, .int v2), (3, .int v3), (4, .int v4)]) : W p l e RM1_nextOnRing s m args below meth c H locs 0 0 (MQ below (qi_W (dC, dI) [(cI, .int)] A q (wd_D cI a S)) args s 0 0 A) (F0 m 10 ls []) := by
  unfold f1_nextOnRing_b10 at h
  obtain ⟨hx, hb, hr, hts, hown, hlocks, hml⟩ := id C
  refine lv_iload hx hb dX1_nextOnRing_10 (lv_at hl 4 rfl) ?_
  refine lv_iconst (v := (4 : Int32)) hx hb dX1_nextOnRing_12 (by decide) ?_
  refine lv_icmp_ge (tgt := 48) hx hb dX1_nextOnRing_13 (by decide) (fun hc => ?_) (fun hc => ?_)
  · have h := fo_it h hc
    refine lv_bipush (v := (-6 : Int32)) hx hb dX1_nextOnRing_48 (by decide) ?_
    exact gr_i hx hb hr hlocks hK hG (Option.some.inj h) dX1_nextOnRing_50
  · have h := fo_if h hc
    refine lv_aload_n hx hb dX1_nextOnRing_16 rfl (lv_at hl 0 rfl) ?_
    refine lv_iload_n hx hb dX1_nextOnRing_17 rfl (lv_at hl 1 rfl) ?_
    refine lv_iload hx hb dX1_nextOnRing_18 (lv_at hl 4 rfl) ?_
    obtain ⟨q20, hq20, h⟩ := fo_bd_some h
    refine gs_iV (b := a 0) (C := RX1) (As := [.int v1, .int v4]) (rest := []) (w1 := (wd_D cI a S)) (ci := 1) (q0 := 0) ⟨hx, hb, hml, hown, hts⟩ (c1_coinsOf l (a := a) hq20) (cwV 2 hts gv_X1_52 rfl rfl rfl hd1_coinsOf ⟨Nat.le_of_ble_eq_true rfl, Nat.le_of_ble_eq_true rfl⟩) hK hA hG rfl rfl rfl hl.1 rfl (Nat.le_of_ble_eq_true rfl) dX1_nextOnRing_20 ⟨Nat.zero_le _, Nat.zero_le _⟩ (fun H locs hG9 => ?_)
    have hG : gd_W (dC, dI) A s (wd_D cI a S) H locs := hG9
    refine lv_if_le (tgt := 42) hx hb dX1_nextOnRing_23 (by decide) (fun hc => ?_) (fun hc => ?_)
    · have h := fo_it h hc
      exact w1_nextOnRing_b42 C hK hA (fun h => hrec10 h) h hG (lv_sub hl [0, 1, 2, 3, 4] rfl)
    · have h := fo_if h hc
      refine lv_aload_n hx hb dX1_nextOnRing_26 rfl (lv_at hl 0 rfl) ?_
      refine lv_iload hx hb dX1_nextOnRing_27 (lv_at hl 4 rfl) ?_
      refine lv_iload_n hx hb dX1_nextOnRing_29 rfl (lv_at hl 2 rfl) ?_
      obtain ⟨q30, hq30, h⟩ := fo_bd_some h
      refine gs_iV (b := a 0) (C := RX1) (As := [.int v4, .int v2]) (rest := []) (w1 := (wd_D cI a S)) (ci := 1) (q0 := 0) ⟨hx, hb, hml, hown, hts⟩ (c1_distance l (a := a) hq30) (cwV 2 hts gv_X1_44 rfl rfl rfl hd1_distance ⟨Nat.le_of_ble_eq_true rfl, Nat.le_of_ble_eq_true rfl⟩) hK hA hG rfl rfl rfl hl.1 rfl (Nat.le_of_ble_eq_true rfl) dX1_nextOnRing_30 ⟨Nat.zero_le _, Nat.zero_le _⟩ (fun H locs hG9 => ?_)
      have hG : gd_W (dC, dI) A s (wd_D cI a S) H locs := hG9
      refine lv_iload_n hx hb dX1_nextOnRing_33 rfl (lv_at hl 3 rfl) ?_
      refine lv_iconst (v := (1 : Int32)) hx hb dX1_nextOnRing_34 (by decide) ?_
      refine lv_isub hx hb dX1_nextOnRing_35 ?_
      refine lv_icmp_ne (tgt := 42) hx hb dX1_nextOnRing_36 (by decide) (fun hc => ?_) (fun hc => ?_)
      · have h := fo_if h hc
        exact w1_nextOnRing_b42 C hK hA (fun h => hrec10 h) h hG (lv_sub hl [0, 1, 2, 3, 4] rfl)
      · have h := fo_it h hc
        refine lv_iload hx hb dX1_nextOnRing_39 (lv_at hl 4 rfl) ?_
        exact gr_i hx hb hr hlocks hK hG (Option.some.inj h) dX1_nextOnRing_41
set_option maxRecDepth 100000 in
set_option maxHeartbeats 4000000 in
theorem w1_nextOnRing_L10 (C : cx_M p s m args meth c RX1 cX1_nextOnRing (some .int) 5) (hK : va_K (dC, dI) vwCl [(cI, .int)] s) (hA : ∀ q, s.heap.size ≤ q → A q) {a : Nat → Nat} {S : ms_T} {q : Int32} : ∀ (n : Nat) {v1 : Int32} {v2 : Int32} {v3 : Int32} {v4 : Int32}, f1_nextOnRing_L10 n v1 v2 v3 v4 S = some q → ∀ {H : Heap} {locs : List Loc} {ls : Array Slot}, gd_W (dC, dI) A s (wd_D cI a S) H locs → lv_has ls 5 [(0, .ref (a 0)), (1, .int v1), (2, .int v2), (3, .int v3), (4, .int v4)] → W p l e RM1_nextOnRing s m args below meth c H locs 0 0 (MQ below (qi_W (dC, dI) [(cI, .int)] A q (wd_D cI a S)) args s 0 0 A) (F0 m 10 ls []) := by
  intro n
  induction n with
  | zero => intro _ _ _ _ h; exact nomatch h
  | succ n ih => intro v1 v2 v3 v4 h H locs ls hG hl; exact w1_nextOnRing_b10 C hK hA (fun h => ih h) (show f1_nextOnRing_b10 (f1_nextOnRing_L10 n) v1 v2 v3 v4 S = some q from h) hG hl
set_option maxRecDepth 100000 in
set_option maxHeartbeats 4000000 in
theorem w1_nextOnRing (C : cx_M p s m args meth c RX1 cX1_nextOnRing (some .int) 5) (hK : va_K (dC, dI) vwCl [(cI, .int)] s) (hA : ∀ q, s.heap.size ≤ q → A q) {a : Nat → Nat} {q : Int32} {v1 : Int32} {v2 : Int32} {v3 : Int32} {S : ms_T} (h : f1_nextOnRing v1 v2 v3 S = some q) {H : Heap} {locs : List Loc} {ls : Array Slot} (hG : gd_W (dC, dI) A s (wd_D cI a S) H locs) (hl : lv_has ls 5 [(0, .ref (a 0)), (1, .int v1), (2, .int v2), (3, .int v3)]) : W p l e RM1_nextOnRing s m args below meth c H locs 0 0 (MQ below (qi_W (dC, dI) [(cI, .int)] A q (wd_D cI a S)) args s 0 0 A) (F0 m 0 ls []) := by
  unfold f1_nextOnRing at h
  obtain ⟨hx, hb, hr, hts, hown, hlocks, hml⟩ := id C
  refine lv_iload_n hx hb dX1_nextOnRing_0 rfl (lv_at hl 3 rfl) ?_
  refine lv_iconst (v := (1 : Int32)) hx hb dX1_nextOnRing_1 (by decide) ?_
  refine lv_icmp_ne (tgt := 7) hx hb dX1_nextOnRing_2 (by decide) (fun hc => ?_) (fun hc => ?_)
  · have h := fo_if h hc
    refine lv_iconst (v := (0 : Int32)) hx hb dX1_nextOnRing_7 (by decide) ?_
    refine lv_istore (lv' := [(4, .int (0 : Int32)), (0, .ref (a 0)), (1, .int v1), (2, .int v2), (3, .int v3)]) hx hb dX1_nextOnRing_8 hl (by decide) rfl (fun ls hl => ?_)
    exact w1_nextOnRing_L10 C hK hA fo_fu h hG (lv_sub hl [1, 2, 3, 4, 0] rfl)
  · have h := fo_it h hc
    refine lv_iload_n hx hb dX1_nextOnRing_5 rfl (lv_at hl 2 rfl) ?_
    exact gr_i hx hb hr hlocks hK hG (Option.some.inj h) dX1_nextOnRing_6
set_option maxRecDepth 100000 in
set_option maxHeartbeats 4000000 in
theorem c1_nextOnRing (l : Launch) {dC : Nat → ClassId} {dI : Nat → Nat → Nat} {cI : ClassId} {a : Nat → Nat} {v1 : Int32} {v2 : Int32} {v3 : Int32} {S : ms_T} {q : Int32} (h : f1_nextOnRing v1 v2 v3 S = some q) : mi_M l yX1_nextOnRing wm1_nextOnRing RM1_nextOnRing (dC, dI) [(cI, .int)] [.ref (a 0), .int v1, .int v2, .int v3] (wd_D cI a S) q (wd_D cI a S) := by
  intro sz
  refine Met.ofW (cc := cX1_nextOnRing) (maxL := 5) (ret := (some .int)) (by decide) rfl ?_
  intro p e s m args below meth c s₁ B hml hv
  obtain ⟨rfl, hsz, hP, hK, hD0⟩ := hv
  subst hsz
  have hl := lv_entry ([.ref (a 0), .int v1, .int v2, .int v3] : List Value) (n := 5) (Nat.le_of_ble_eq_true rfl)
  rw [lg_entry_eq]
  generalize (lg_sl ([.ref (a 0), .int v1, .int v2, .int v3] : List Value) ++ List.replicate (5 - (lg_sl ([.ref (a 0), .int v1, .int v2, .int v3] : List Value)).length) Slot.unset).toArray = ls at hl ⊢
  exact w1_nextOnRing (a := a) ⟨B.exec, B.bytes, B.returns, fun w hw => atoms_spec (ws := wm1_nextOnRing) B.pre w (List.mem_cons_of_mem _ hw), findClass_of_methodNamed B.named, B.notSynchronized, hml⟩ hK (fun _ h => Or.inr h) h ⟨hP, hD0.self, va_S.rf⟩ hl
end
/-! ## DiceRoads$Debts.clearRing(I)I -/
section
variable {p : Program} {l : Launch} {e : Env} {s : State} {m : MethodId} {args : Array Value} {below : List Frame} {meth : Method} {c : Code} {dC : Nat → ClassId} {dI : Nat → Nat → Nat} {cI : ClassId} {A : Nat → Prop}
set_option maxRecDepth 100000 in
set_option maxHeartbeats 4000000 in
theorem w1_clearRing_b108 (C : cx_M p s m args meth c RX1 cX1_clearRing (some .int) 8) (hK : va_K (dC, dI) vwCl [(cI, .int)] s) (hA : ∀ q, s.heap.size ≤ q → A q) {a : Nat → Nat} {q : (Int32 × ms_T)} {rec108 : Int32 → Int32 → Int32 → ms_T → Option (Int32 × ms_T)} (hrec108 : ∀ {v2 : Int32} {v3 : Int32} {v4 : Int32} {S : ms_T} , rec108 v2 v3 v4 S = some q → ∀ {H : Heap} {locs : List Loc} {ls : Array Slot}, gd_W (dC, dI) A s (wd_D cI a S) H locs → lv_has ls 8 [(0, .ref (a 0)), (2, .int v2), (3, .int v3), (4, .int v4)] → W p l e RM1_clearRing s m args below meth c H locs 0 0 (MQ below (qi_W (dC, dI) [(cI, .int)] A q.1 (wd_D cI a q.2)) args s 0 0 A) (F0 m 108 ls [])) {v2 : Int32} {v3 : Int32} {v4 : Int32} {S : ms_T} (h : f1_clearRing_b108 rec108 v2 v3 v4 S = some q) {H : Heap} {locs : List Loc} {ls : Array Slot} (hG : gd_W (dC, dI) A s (wd_D cI a S) H locs) (hl : lv_has ls 8 [(0, .ref (a 0)), (2, .int v2), (3, .int v3), (4, .int v4)]) : W p l e RM1_clearRing s m args below meth c H locs 0 0 (MQ below (qi_W (dC, dI) [(cI, .int)] A q.1 (wd_D cI a q.2)) args s 0 0 A) (F0 m 108 ls []) := by
  unfold f1_clearRing_b108 at h
  obtain ⟨hx, hb, hr, hts, hown, hlocks, hml⟩ := id C
  refine lv_iload hx hb dX1_clearRing_108 (lv_at hl 3 rfl) ?_
  refine lv_iload_n hx hb dX1_clearRing_110 rfl (lv_at hl 1 rfl) ?_
  refine lv_icmp_ge (tgt := 145) hx hb dX1_clearRing_111 (by decide) (fun hc => ?_) (fun hc => ?_)
  · have h := fo_it h hc
    refine lv_iload_n hx hb dX1_clearRing_145 rfl (lv_at hl 2 rfl) ?_
    obtain rfl := Option.some.inj h
    exact gr_i hx hb hr hlocks hK hG rfl dX1_clearRing_146
  · have h := fo_if h hc
    refine lv_aload_n hx hb dX1_clearRing_114 rfl (lv_at hl 0 rfl) ?_
    refine lv_aload_n hx hb dX1_clearRing_115 rfl (lv_at hl 0 rfl) ?_
    refine va_get (D := (dC, dI)) (ci := 1) (v := .ref (a 5)) (C := RX1) (T := TX1) (N := 3) hx hb hts inlX1 hown hK hG.1 0 rfl rfl 2 (by decide) (hts (Cond.fieldLink RX1 23 "DiceRoads$Debts" "ring" "LDiceRoads$Row;") wq_73) (fun _ h9 => h9) rfl dX1_clearRing_116 ?_
    refine lv_iload hx hb dX1_clearRing_119 (lv_at hl 3 rfl) ?_
    obtain ⟨q121, hq121, h⟩ := fo_bd_some h
    refine gc_iV (b := a 5) (C := RX6) (As := [.int v4]) (rest := [.ref (a 0)]) (wc := (wd_R cI (fun k => a (k + 5)) (-6) 5 (S 2))) (w1 := (wd_R cI (fun k => a (k + 5)) (-6) 5 (S 2))) (ci := 5) (q0 := 0) ⟨hx, hb, hml, hown, hts⟩ (c6_at l (a := (fun k => a (k + 5))) (v := (-6)) (z := 5) hq121) (cwV 1 hts gv_X1_30 rfl rfl rfl hd6_at ⟨Nat.le_of_ble_eq_true rfl, Nat.le_of_ble_eq_true rfl⟩) hK [0] rfl hA hG [5, 6] rfl rfl rfl rfl rfl rfl hl.1 rfl (Nat.le_of_ble_eq_true rfl) dX1_clearRing_121 ⟨Nat.zero_le _, Nat.zero_le _⟩ (fun H locs hG9 => ?_)
    have hG : gd_W (dC, dI) A s (wd_D cI a S) H locs := hG9
    refine lv_aload_n hx hb dX1_clearRing_124 rfl (lv_at hl 0 rfl) ?_
    refine va_get (D := (dC, dI)) (ci := 1) (v := .ref (a 5)) (C := RX1) (T := TX1) (N := 3) hx hb hts inlX1 hown hK hG.1 0 rfl rfl 2 (by decide) (hts (Cond.fieldLink RX1 23 "DiceRoads$Debts" "ring" "LDiceRoads$Row;") wq_73) (fun _ h9 => h9) rfl dX1_clearRing_125 ?_
    refine lv_iload hx hb dX1_clearRing_128 (lv_at hl 3 rfl) ?_
    refine lv_iconst (v := (1 : Int32)) hx hb dX1_clearRing_130 (by decide) ?_
    refine lv_iadd hx hb dX1_clearRing_131 ?_
    obtain ⟨q132, hq132, h⟩ := fo_bd_some h
    refine gc_iV (b := a 5) (C := RX6) (As := [.int (v4 + (1 : Int32))]) (rest := [.int q121, .ref (a 0)]) (wc := (wd_R cI (fun k => a (k + 5)) (-6) 5 (S 2))) (w1 := (wd_R cI (fun k => a (k + 5)) (-6) 5 (S 2))) (ci := 5) (q0 := 0) ⟨hx, hb, hml, hown, hts⟩ (c6_at l (a := (fun k => a (k + 5))) (v := (-6)) (z := 5) hq132) (cwV 1 hts gv_X1_30 rfl rfl rfl hd6_at ⟨Nat.le_of_ble_eq_true rfl, Nat.le_of_ble_eq_true rfl⟩) hK [0] rfl hA hG [5, 6] rfl rfl rfl rfl rfl rfl hl.1 rfl (Nat.le_of_ble_eq_true rfl) dX1_clearRing_132 ⟨Nat.zero_le _, Nat.zero_le _⟩ (fun H locs hG9 => ?_)
    have hG : gd_W (dC, dI) A s (wd_D cI a S) H locs := hG9
    refine lv_iload_n hx hb dX1_clearRing_135 rfl (lv_at hl 2 rfl) ?_
    obtain ⟨q136, hq136, h⟩ := fo_bd_some h
    refine gs_vV (b := a 0) (C := RX1) (As := [.int q121, .int q132, .int v3]) (rest := []) (w1 := (wd_D cI a q136)) (ci := 1) (q0 := 0) ⟨hx, hb, hml, hown, hts⟩ (c1_shrink l (a := a) hq136) (cwV 3 hts gv_X1_60 rfl rfl rfl hd1_shrink ⟨Nat.le_of_ble_eq_true rfl, Nat.le_of_ble_eq_true rfl⟩) hK hA hG rfl rfl rfl hl.1 rfl (Nat.le_of_ble_eq_true rfl) dX1_clearRing_136 ⟨Nat.zero_le _, Nat.zero_le _⟩ (fun H locs hG9 => ?_)
    have hG : gd_W (dC, dI) A s (wd_D cI a q136) H locs := hG9
    refine lv_iinc (v := (v4 + (1 : Int32))) (lv' := [(4, .int (v4 + (1 : Int32))), (0, .ref (a 0)), (2, .int v2), (3, .int v3)]) hx hb dX1_clearRing_139 hl (k := 3) rfl rfl (by decide) rfl (fun ls hl => ?_)
    refine lv_goto (tgt := 108) hx hb dX1_clearRing_142 (by decide) ?_
    exact hrec108 h hG (lv_sub hl [1, 2, 3, 0] rfl)
set_option maxRecDepth 100000 in
set_option maxHeartbeats 4000000 in
theorem w1_clearRing_L108 (C : cx_M p s m args meth c RX1 cX1_clearRing (some .int) 8) (hK : va_K (dC, dI) vwCl [(cI, .int)] s) (hA : ∀ q, s.heap.size ≤ q → A q) {a : Nat → Nat} {q : (Int32 × ms_T)} : ∀ (n : Nat) {v2 : Int32} {v3 : Int32} {v4 : Int32} {S : ms_T}, f1_clearRing_L108 n v2 v3 v4 S = some q → ∀ {H : Heap} {locs : List Loc} {ls : Array Slot}, gd_W (dC, dI) A s (wd_D cI a S) H locs → lv_has ls 8 [(0, .ref (a 0)), (2, .int v2), (3, .int v3), (4, .int v4)] → W p l e RM1_clearRing s m args below meth c H locs 0 0 (MQ below (qi_W (dC, dI) [(cI, .int)] A q.1 (wd_D cI a q.2)) args s 0 0 A) (F0 m 108 ls []) := by
  intro n
  induction n with
  | zero => intro _ _ _ _ h; exact nomatch h
  | succ n ih => intro v2 v3 v4 S h H locs ls hG hl; exact w1_clearRing_b108 C hK hA (fun h => ih h) (show f1_clearRing_b108 (f1_clearRing_L108 n) v2 v3 v4 S = some q from h) hG hl
set_option maxRecDepth 100000 in
set_option maxHeartbeats 4000000 in
theorem w1_clearRing_b98 (C : cx_M p s m args meth c RX1 cX1_clearRing (some .int) 8) (hK : va_K (dC, dI) vwCl [(cI, .int)] s) (hA : ∀ q, s.heap.size ≤ q → A q) {a : Nat → Nat} {q : (Int32 × ms_T)} {rec29 : Int32 → Int32 → Int32 → Int32 → ms_T → Option (Int32 × ms_T)} (hrec29 : ∀ {v1 : Int32} {v2 : Int32} {v3 : Int32} {v4 : Int32} {S : ms_T} , rec29 v1 v2 v3 v4 S = some q → ∀ {H : Heap} {locs : List Loc} {ls : Array Slot}, gd_W (dC, dI) A s (wd_D cI a S) H locs → lv_has ls 8 [(0, .ref (a 0)), (1, .int v1), (2, .int v2), (3, .int v3), (4, .int v4)] → W p l e RM1_clearRing s m args below meth c H locs 0 0 (MQ below (qi_W (dC, dI) [(cI, .int)] A q.1 (wd_D cI a q.2)) args s 0 0 A) (F0 m 29 ls [])) {v1 : Int32} {v2 : Int32} {v4 : Int32} {t0 : Int32} {S : ms_T} (h : f1_clearRing_b98 rec29 v1 v2 v4 t0 S = some q) {H : Heap} {locs : List Loc} {ls : Array Slot} (hG : gd_W (dC, dI) A s (wd_D cI a S) H locs) (hl : lv_has ls 8 [(0, .ref (a 0)), (1, .int v1), (2, .int v2), (4, .int v4)]) : W p l e RM1_clearRing s m args below meth c H locs 0 0 (MQ below (qi_W (dC, dI) [(cI, .int)] A q.1 (wd_D cI a q.2)) args s 0 0 A) (F0 m 98 ls [.int t0]) := by
  unfold f1_clearRing_b98 at h
  obtain ⟨hx, hb, hr, hts, hown, hlocks, hml⟩ := id C
  refine lv_istore_n (lv' := [(3, .int t0), (0, .ref (a 0)), (1, .int v1), (2, .int v2), (4, .int v4)]) hx hb dX1_clearRing_98 rfl hl (by decide) rfl (fun ls hl => ?_)
  refine lv_iinc (v := (v4 + (1 : Int32))) (lv' := [(4, .int (v4 + (1 : Int32))), (3, .int t0), (0, .ref (a 0)), (1, .int v1), (2, .int v2)]) hx hb dX1_clearRing_99 hl (k := 4) rfl rfl (by decide) rfl (fun ls hl => ?_)
  refine lv_goto (tgt := 29) hx hb dX1_clearRing_102 (by decide) ?_
  exact hrec29 h hG (lv_sub hl [2, 3, 4, 1, 0] rfl)
set_option maxRecDepth 100000 in
set_option maxHeartbeats 4000000 in
theorem w1_clearRing_b29 (C : cx_M p s m args meth c RX1 cX1_clearRing (some .int) 8) (hK : va_K (dC, dI) vwCl [(cI, .int)] s) (hA : ∀ q, s.heap.size ≤ q → A q) {a : Nat → Nat} {q : (Int32 × ms_T)} {rec29 : Int32 → Int32 → Int32 → Int32 → ms_T → Option (Int32 × ms_T)} (hrec29 : ∀ {v1 : Int32} {v2 : Int32} {v3 : Int32} {v4 : Int32} {S : ms_T} , rec29 v1 v2 v3 v4 S = some q → ∀ {H : Heap} {locs : List Loc} {ls : Array Slot}, gd_W (dC, dI) A s (wd_D cI a S) H locs → lv_has ls 8 [(0, .ref (a 0)), (1, .int v1), (2, .int v2), (3, .int v3), (4, .int v4)] → W p l e RM1_clearRing s m args below meth c H locs 0 0 (MQ below (qi_W (dC, dI) [(cI, .int)] A q.1 (wd_D cI a q.2)) args s 0 0 A) (F0 m 29 ls [])) {v1 : Int32} {v2 : Int32} {v3 : Int32} {v4 : Int32} {S : ms_T} (h : f1_clearRing_b29 rec29 v1 v2 v3 v4 S = some q) {H : Heap} {locs : List Loc} {ls : Array Slot} (hG : gd_W (dC, dI) A s (wd_D cI a S) H locs) (hl : lv_has ls 8 [(0, .ref (a 0)), (1, .int v1), (2, .int v2), (3, .int v3), (4, .int v4)]) : W p l e RM1_clearRing s m args below meth c H locs 0 0 (MQ below (qi_W (dC, dI) [(cI, .int)] A q.1 (wd_D cI a q.2)) args s 0 0 A) (F0 m 29 ls []) := by
  unfold f1_clearRing_b29 at h
  obtain ⟨hx, hb, hr, hts, hown, hlocks, hml⟩ := id C
  refine lv_iload hx hb dX1_clearRing_29 (lv_at hl 4 rfl) ?_
  refine lv_iload_n hx hb dX1_clearRing_31 rfl (lv_at hl 2 rfl) ?_
  refine lv_icmp_ge (tgt := 105) hx hb dX1_clearRing_32 (by decide) (fun hc => ?_) (fun hc => ?_)
  · have h := fo_it h hc
    refine lv_iconst (v := (0 : Int32)) hx hb dX1_clearRing_105 (by decide) ?_
    refine lv_istore (lv' := [(4, .int (0 : Int32)), (0, .ref (a 0)), (1, .int v1), (2, .int v2), (3, .int v3)]) hx hb dX1_clearRing_106 hl (by decide) rfl (fun ls hl => ?_)
    exact w1_clearRing_L108 C hK hA fo_fu h hG (lv_sub hl [1, 3, 4, 0] rfl)
  · have h := fo_if h hc
    refine lv_aload_n hx hb dX1_clearRing_35 rfl (lv_at hl 0 rfl) ?_
    refine va_get (D := (dC, dI)) (ci := 1) (v := .ref (a 5)) (C := RX1) (T := TX1) (N := 3) hx hb hts inlX1 hown hK hG.1 0 rfl rfl 2 (by decide) (hts (Cond.fieldLink RX1 23 "DiceRoads$Debts" "ring" "LDiceRoads$Row;") wq_73) (fun _ h9 => h9) rfl dX1_clearRing_36 ?_
    refine lv_iload hx hb dX1_clearRing_39 (lv_at hl 4 rfl) ?_
    obtain ⟨q41, hq41, h⟩ := fo_bd_some h
    refine gc_iV (b := a 5) (C := RX6) (As := [.int v4]) (rest := []) (wc := (wd_R cI (fun k => a (k + 5)) (-6) 5 (S 2))) (w1 := (wd_R cI (fun k => a (k + 5)) (-6) 5 (S 2))) (ci := 5) (q0 := 0) ⟨hx, hb, hml, hown, hts⟩ (c6_at l (a := (fun k => a (k + 5))) (v := (-6)) (z := 5) hq41) (cwV 1 hts gv_X1_30 rfl rfl rfl hd6_at ⟨Nat.le_of_ble_eq_true rfl, Nat.le_of_ble_eq_true rfl⟩) hK [0] rfl hA hG [5, 6] rfl rfl rfl rfl rfl rfl hl.1 rfl (Nat.le_of_ble_eq_true rfl) dX1_clearRing_41 ⟨Nat.zero_le _, Nat.zero_le _⟩ (fun H locs hG9 => ?_)
    have hG : gd_W (dC, dI) A s (wd_D cI a S) H locs := hG9
    refine lv_istore (lv' := [(5, .int q41), (0, .ref (a 0)), (1, .int v1), (2, .int v2), (3, .int v3), (4, .int v4)]) hx hb dX1_clearRing_44 hl (by decide) rfl (fun ls hl => ?_)
    refine lv_aload_n hx hb dX1_clearRing_46 rfl (lv_at hl 1 rfl) ?_
    refine lv_iload hx hb dX1_clearRing_47 (lv_at hl 0 rfl) ?_
    refine lv_iload_n hx hb dX1_clearRing_49 rfl (lv_at hl 2 rfl) ?_
    refine lv_iload_n hx hb dX1_clearRing_50 rfl (lv_at hl 3 rfl) ?_
    refine lv_iload hx hb dX1_clearRing_51 (lv_at hl 5 rfl) ?_
    refine lv_isub hx hb dX1_clearRing_53 ?_
    obtain ⟨q54, hq54, h⟩ := fo_bd_some h
    refine gs_iV (b := a 0) (C := RX1) (As := [.int q41, .int v1, .int (v2 - v4)]) (rest := []) (w1 := (wd_D cI a S)) (ci := 1) (q0 := 0) ⟨hx, hb, hml, hown, hts⟩ (c1_nextOnRing l (a := a) hq54) (cwV 3 hts gv_X1_48 rfl rfl rfl hd1_nextOnRing ⟨Nat.le_of_ble_eq_true rfl, Nat.le_of_ble_eq_true rfl⟩) hK hA hG rfl rfl rfl hl.1 rfl (Nat.le_of_ble_eq_true rfl) dX1_clearRing_54 ⟨Nat.zero_le _, Nat.zero_le _⟩ (fun H locs hG9 => ?_)
    have hG : gd_W (dC, dI) A s (wd_D cI a S) H locs := hG9
    refine lv_istore (lv' := [(6, .int q54), (5, .int q41), (0, .ref (a 0)), (1, .int v1), (2, .int v2), (3, .int v3), (4, .int v4)]) hx hb dX1_clearRing_57 hl (by decide) rfl (fun ls hl => ?_)
    refine lv_aload_n hx hb dX1_clearRing_59 rfl (lv_at hl 2 rfl) ?_
    refine va_get (D := (dC, dI)) (ci := 1) (v := .ref (a 5)) (C := RX1) (T := TX1) (N := 3) hx hb hts inlX1 hown hK hG.1 0 rfl rfl 2 (by decide) (hts (Cond.fieldLink RX1 23 "DiceRoads$Debts" "ring" "LDiceRoads$Row;") wq_73) (fun _ h9 => h9) rfl dX1_clearRing_60 ?_
    refine lv_iload hx hb dX1_clearRing_63 (lv_at hl 6 rfl) ?_
    refine lv_iconst (v := (1 : Int32)) hx hb dX1_clearRing_65 (by decide) ?_
    refine lv_iadd hx hb dX1_clearRing_66 ?_
    refine lv_iload hx hb dX1_clearRing_67 (lv_at hl 0 rfl) ?_
    obtain ⟨q69, hq69, h⟩ := fo_bd_some h
    refine gc_vV (b := a 5) (C := RX6) (As := [.int (v4 + (1 : Int32)), .int q54]) (rest := []) (wc := (wd_R cI (fun k => a (k + 5)) (-6) 5 (S 2))) (w1 := (wd_R cI (fun k => a (k + 5)) (-6) 5 q69)) (ci := 5) (q0 := 0) ⟨hx, hb, hml, hown, hts⟩ (c6_write l (a := (fun k => a (k + 5))) (v := (-6)) (z := 5) hq69) (cwV 2 hts gv_X1_34 rfl rfl rfl hd6_write ⟨Nat.le_of_ble_eq_true rfl, Nat.le_of_ble_eq_true rfl⟩) hK [0] rfl hA hG [5, 6] rfl rfl rfl rfl rfl rfl hl.1 rfl (Nat.le_of_ble_eq_true rfl) dX1_clearRing_69 ⟨Nat.zero_le _, Nat.zero_le _⟩ (fun H locs hG9 => ?_)
    have hG : gd_W (dC, dI) A s (wd_D cI a (ms_set S 2 q69)) H locs := hG9
    refine lv_aload_n hx hb dX1_clearRing_72 rfl (lv_at hl 2 rfl) ?_
    refine lv_iload hx hb dX1_clearRing_73 (lv_at hl 1 rfl) ?_
    refine lv_iload hx hb dX1_clearRing_75 (lv_at hl 0 rfl) ?_
    obtain ⟨q77, hq77, h⟩ := fo_bd_some h
    refine gs_iV (b := a 0) (C := RX1) (As := [.int q41, .int q54]) (rest := []) (w1 := (wd_D cI a (ms_set S 2 q69))) (ci := 1) (q0 := 0) ⟨hx, hb, hml, hown, hts⟩ (c1_coinsOf l (a := a) hq77) (cwV 2 hts gv_X1_52 rfl rfl rfl hd1_coinsOf ⟨Nat.le_of_ble_eq_true rfl, Nat.le_of_ble_eq_true rfl⟩) hK hA hG rfl rfl rfl hl.1 rfl (Nat.le_of_ble_eq_true rfl) dX1_clearRing_77 ⟨Nat.zero_le _, Nat.zero_le _⟩ (fun H locs hG9 => ?_)
    have hG : gd_W (dC, dI) A s (wd_D cI a (ms_set S 2 q69)) H locs := hG9
    refine lv_istore (lv' := [(7, .int q77), (6, .int q54), (5, .int q41), (0, .ref (a 0)), (1, .int v1), (2, .int v2), (3, .int v3), (4, .int v4)]) hx hb dX1_clearRing_80 hl (by decide) rfl (fun ls hl => ?_)
    refine lv_iload hx hb dX1_clearRing_82 (lv_at hl 7 rfl) ?_
    refine lv_if_ne (tgt := 92) hx hb dX1_clearRing_84 (by decide) (fun hc => ?_) (fun hc => ?_)
    · have h := fo_if h hc
      refine lv_iload_n hx hb dX1_clearRing_92 rfl (lv_at hl 6 rfl) ?_
      refine lv_iload hx hb dX1_clearRing_93 (lv_at hl 0 rfl) ?_
      refine va_mmin hx hb (hml.trans hl.1.symm) hown (hts (Cond.methodLink RX1 55 Lib.Math.min.name) wq_396) (hts (Cond.static Lib.Math.min.name) wq_239) (hts (Cond.initialized "java/lang/Math") wq_15) (hts (Cond.code Lib.Math.min.name Lib.Math.min.code 2 (some .int)) wq_240) (Nat.le_of_ble_eq_true rfl) (Nat.le_of_ble_eq_true rfl) (Nat.zero_le _) (Nat.zero_le _) dX1_clearRing_95 ?_
      exact w1_clearRing_b98 C hK hA (fun h => hrec29 h) h hG (lv_sub hl [3, 4, 5, 7] rfl)
    · have h := fo_it h hc
      refine lv_iload hx hb dX1_clearRing_87 (lv_at hl 0 rfl) ?_
      refine lv_goto (tgt := 98) hx hb dX1_clearRing_89 (by decide) ?_
      exact w1_clearRing_b98 C hK hA (fun h => hrec29 h) h hG (lv_sub hl [3, 4, 5, 7] rfl)
set_option maxRecDepth 100000 in
set_option maxHeartbeats 4000000 in
theorem w1_clearRing_L29 (C : cx_M p s m args meth c RX1 cX1_clearRing (some .int) 8) (hK : va_K (dC, dI) vwCl [(cI, .int)] s) (hA : ∀ q, s.heap.size ≤ q → A q) {a : Nat → Nat} {q : (Int32 × ms_T)} : ∀ (n : Nat) {v1 : Int32} {v2 : Int32} {v3 : Int32} {v4 : Int32} {S : ms_T}, f1_clearRing_L29 n v1 v2 v3 v4 S = some q → ∀ {H : Heap} {locs : List Loc} {ls : Array Slot}, gd_W (dC, dI) A s (wd_D cI a S) H locs → lv_has ls 8 [(0, .ref (a 0)), (1, .int v1), (2, .int v2), (3, .int v3), (4, .int v4)] → W p l e RM1_clearRing s m args below meth c H locs 0 0 (MQ below (qi_W (dC, dI) [(cI, .int)] A q.1 (wd_D cI a q.2)) args s 0 0 A) (F0 m 29 ls []) := by
  intro n
  induction n with
  | zero => intro _ _ _ _ _ h; exact nomatch h
  | succ n ih => intro v1 v2 v3 v4 S h H locs ls hG hl; exact w1_clearRing_b29 C hK hA (fun h => ih h) (show f1_clearRing_b29 (f1_clearRing_L29 n) v1 v2 v3 v4 S = some q from h) hG hl
set_option maxRecDepth 100000 in
set_option maxHeartbeats 4000000 in
theorem w1_clearRing (C : cx_M p s m args meth c RX1 cX1_clearRing (some .int) 8) (hK : va_K (dC, dI) vwCl [(cI, .int)] s) (hA : ∀ q, s.heap.size ≤ q → A q) {a : Nat → Nat} {q : (Int32 × ms_T)} {v1 : Int32} {S : ms_T} (h : f1_clearRing v1 S = some q) {H : Heap} {locs : List Loc} {ls : Array Slot} (hG : gd_W (dC, dI) A s (wd_D cI a S) H locs) (hl : lv_has ls 8 [(0, .ref (a 0)), (1, .int v1)]) : W p l e RM1_clearRing s m args below meth c H locs 0 0 (MQ below (qi_W (dC, dI) [(cI, .int)] A q.1 (wd_D cI a q.2)) args s 0 0 A) (F0 m 0 ls []) := by
  unfold f1_clearRing at h
  obtain ⟨hx, hb, hr, hts, hown, hlocks, hml⟩ := id C
  refine lv_aload_n hx hb dX1_clearRing_0 rfl (lv_at hl 0 rfl) ?_
  refine lv_iload_n hx hb dX1_clearRing_1 rfl (lv_at hl 1 rfl) ?_
  refine lv_iload_n hx hb dX1_clearRing_2 rfl (lv_at hl 1 rfl) ?_
  obtain ⟨q3, hq3, h⟩ := fo_bd_some h
  refine gs_iV (b := a 0) (C := RX1) (As := [.int v1, .int v1]) (rest := []) (w1 := (wd_D cI a S)) (ci := 1) (q0 := 0) ⟨hx, hb, hml, hown, hts⟩ (c1_distance l (a := a) hq3) (cwV 2 hts gv_X1_44 rfl rfl rfl hd1_distance ⟨Nat.le_of_ble_eq_true rfl, Nat.le_of_ble_eq_true rfl⟩) hK hA hG rfl rfl rfl hl.1 rfl (Nat.le_of_ble_eq_true rfl) dX1_clearRing_3 ⟨Nat.zero_le _, Nat.zero_le _⟩ (fun H locs hG9 => ?_)
  have hG : gd_W (dC, dI) A s (wd_D cI a S) H locs := hG9
  refine lv_istore_n (lv' := [(2, .int q3), (0, .ref (a 0)), (1, .int v1)]) hx hb dX1_clearRing_6 rfl hl (by decide) rfl (fun ls hl => ?_)
  refine lv_iload_n hx hb dX1_clearRing_7 rfl (lv_at hl 0 rfl) ?_
  refine lv_bipush (v := (-6 : Int32)) hx hb dX1_clearRing_8 (by decide) ?_
  refine lv_icmp_ne (tgt := 15) hx hb dX1_clearRing_10 (by decide) (fun hc => ?_) (fun hc => ?_)
  · have h := fo_if h hc
    refine lv_aload_n hx hb dX1_clearRing_15 rfl (lv_at hl 1 rfl) ?_
    refine va_get (D := (dC, dI)) (ci := 1) (v := .ref (a 5)) (C := RX1) (T := TX1) (N := 3) hx hb hts inlX1 hown hK hG.1 0 rfl rfl 2 (by decide) (hts (Cond.fieldLink RX1 23 "DiceRoads$Debts" "ring" "LDiceRoads$Row;") wq_73) (fun _ h9 => h9) rfl dX1_clearRing_16 ?_
    refine lv_iconst (v := (0 : Int32)) hx hb dX1_clearRing_19 (by decide) ?_
    refine lv_iload_n hx hb dX1_clearRing_20 rfl (lv_at hl 2 rfl) ?_
    obtain ⟨q21, hq21, h⟩ := fo_bd_some h
    refine gc_vV (b := a 5) (C := RX6) (As := [.int (0 : Int32), .int v1]) (rest := []) (wc := (wd_R cI (fun k => a (k + 5)) (-6) 5 (S 2))) (w1 := (wd_R cI (fun k => a (k + 5)) (-6) 5 q21)) (ci := 5) (q0 := 0) ⟨hx, hb, hml, hown, hts⟩ (c6_write l (a := (fun k => a (k + 5))) (v := (-6)) (z := 5) hq21) (cwV 2 hts gv_X1_34 rfl rfl rfl hd6_write ⟨Nat.le_of_ble_eq_true rfl, Nat.le_of_ble_eq_true rfl⟩) hK [0] rfl hA hG [5, 6] rfl rfl rfl rfl rfl rfl hl.1 rfl (Nat.le_of_ble_eq_true rfl) dX1_clearRing_21 ⟨Nat.zero_le _, Nat.zero_le _⟩ (fun H locs hG9 => ?_)
    have hG : gd_W (dC, dI) A s (wd_D cI a (ms_set S 2 q21)) H locs := hG9
    refine lv_iconst (v := (0 : Int32)) hx hb dX1_clearRing_24 (by decide) ?_
    refine lv_istore_n (lv' := [(3, .int (0 : Int32)), (2, .int q3), (0, .ref (a 0)), (1, .int v1)]) hx hb dX1_clearRing_25 rfl hl (by decide) rfl (fun ls hl => ?_)
    refine lv_iconst (v := (0 : Int32)) hx hb dX1_clearRing_26 (by decide) ?_
    refine lv_istore (lv' := [(4, .int (0 : Int32)), (3, .int (0 : Int32)), (2, .int q3), (0, .ref (a 0)), (1, .int v1)]) hx hb dX1_clearRing_27 hl (by decide) rfl (fun ls hl => ?_)
    exact w1_clearRing_L29 C hK hA fo_fu h hG (lv_sub hl [3, 4, 2, 1, 0] rfl)
  · have h := fo_it h hc
    refine lv_iconst (v := (0 : Int32)) hx hb dX1_clearRing_13 (by decide) ?_
    obtain rfl := Option.some.inj h
    exact gr_i hx hb hr hlocks hK hG rfl dX1_clearRing_14
set_option maxRecDepth 100000 in
set_option maxHeartbeats 4000000 in
theorem c1_clearRing (l : Launch) {dC : Nat → ClassId} {dI : Nat → Nat → Nat} {cI : ClassId} {a : Nat → Nat} {v1 : Int32} {S : ms_T} {q : (Int32 × ms_T)} (h : f1_clearRing v1 S = some q) : mi_M l yX1_clearRing wm1_clearRing RM1_clearRing (dC, dI) [(cI, .int)] [.ref (a 0), .int v1] (wd_D cI a S) q.1 (wd_D cI a q.2) := by
  intro sz
  refine Met.ofW (cc := cX1_clearRing) (maxL := 8) (ret := (some .int)) (by decide) rfl ?_
  intro p e s m args below meth c s₁ B hml hv
  obtain ⟨rfl, hsz, hP, hK, hD0⟩ := hv
  subst hsz
  have hl := lv_entry ([.ref (a 0), .int v1] : List Value) (n := 8) (Nat.le_of_ble_eq_true rfl)
  rw [lg_entry_eq]
  generalize (lg_sl ([.ref (a 0), .int v1] : List Value) ++ List.replicate (8 - (lg_sl ([.ref (a 0), .int v1] : List Value)).length) Slot.unset).toArray = ls at hl ⊢
  exact w1_clearRing (a := a) ⟨B.exec, B.bytes, B.returns, fun w hw => atoms_spec (ws := wm1_clearRing) B.pre w (List.mem_cons_of_mem _ hw), findClass_of_methodNamed B.named, B.notSynchronized, hml⟩ hK (fun _ h => Or.inr h) h ⟨hP, hD0.self, va_S.rf⟩ hl
end
/-! ## DiceRoads$Debts.copyFrom(LDiceRoads$Debts;)V -/
section
variable {p : Program} {l : Launch} {e : Env} {s : State} {m : MethodId} {args : Array Value} {below : List Frame} {meth : Method} {c : Code} {dC : Nat → ClassId} {dI : Nat → Nat → Nat} {cI : ClassId} {A : Nat → Prop}
set_option maxRecDepth 100000 in
set_option maxHeartbeats 4000000 in
theorem w1_copyFrom (C : cx_M p s m args meth c RX1 cX1_copyFrom none 2) (hK : va_K (dC, dI) vwCl [(cI, .int)] s) (hA : ∀ q, s.heap.size ≤ q → A q) {a : Nat → Nat} {Z : ms_T} {q : ms_T} {S : ms_T} (h : f1_copyFrom Z S = some q) {H : Heap} {locs : List Loc} {ls : Array Slot} (hG : gd_W (dC, dI) A s (wd_DD cI a Z S) H locs) (hl : lv_has ls 2 [(0, .ref (a 0)), (1, .ref (a 7))]) : W p l e RM1_copyFrom s m args below meth c H locs 0 0 (MQ below (qv_W (dC, dI) [(cI, .int)] A (wd_DD cI a Z q)) args s 0 0 A) (F0 m 0 ls []) := by
  unfold f1_copyFrom at h
  obtain ⟨hx, hb, hr, hts, hown, hlocks, hml⟩ := id C
  refine lv_aload_n hx hb dX1_copyFrom_0 rfl (lv_at hl 0 rfl) ?_
  refine va_get (D := (dC, dI)) (ci := 1) (v := .ref (a 1)) (C := RX1) (T := TX1) (N := 3) hx hb hts inlX1 hown hK hG.1 0 rfl rfl 0 (by decide) (hts (Cond.fieldLink RX1 14 "DiceRoads$Debts" "coins" "LDiceRoads$Row;") wq_71) (fun _ h9 => h9) rfl dX1_copyFrom_1 ?_
  refine lv_aload_n hx hb dX1_copyFrom_4 rfl (lv_at hl 1 rfl) ?_
  refine va_get (D := (dC, dI)) (ci := 1) (v := .ref (a 8)) (C := RX1) (T := TX1) (N := 3) hx hb hts inlX1 hown hK hG.1 7 rfl rfl 0 (by decide) (hts (Cond.fieldLink RX1 14 "DiceRoads$Debts" "coins" "LDiceRoads$Row;") wq_71) (fun _ h9 => h9) rfl dX1_copyFrom_5 ?_
  obtain ⟨q8, hq8, h⟩ := fo_bd_some h
  refine gc_vV (b := a 1) (C := RX6) (As := [.ref (a 8)]) (rest := []) (wc := (wd_RR cI (fun k => match k with | 0 => a 1 | 1 => a 2 | 2 => a 8 | _ => a 9) 0 0 16 (Z 0) (S 0))) (w1 := (wd_RR cI (fun k => match k with | 0 => a 1 | 1 => a 2 | 2 => a 8 | _ => a 9) 0 0 16 (Z 0) q8)) (ci := 5) (q0 := 0) ⟨hx, hb, hml, hown, hts⟩ (c6_copyFrom l (a := (fun k => match k with | 0 => a 1 | 1 => a 2 | 2 => a 8 | _ => a 9)) (v := 0) (w := 0) (z := 16) (F := (Z 0)) hq8) (cwV 1 hts gv_X1_26 rfl rfl rfl hd6_copyFrom ⟨Nat.le_of_ble_eq_true rfl, Nat.le_of_ble_eq_true rfl⟩) hK [0] rfl hA hG [1, 2, 8, 9] rfl rfl rfl rfl rfl rfl hl.1 rfl (Nat.le_of_ble_eq_true rfl) dX1_copyFrom_8 ⟨Nat.zero_le _, Nat.zero_le _⟩ (fun H locs hG9 => ?_)
  have hG : gd_W (dC, dI) A s (wd_DD cI a Z (ms_set S 0 q8)) H locs := hG9
  refine lv_aload_n hx hb dX1_copyFrom_11 rfl (lv_at hl 0 rfl) ?_
  refine va_get (D := (dC, dI)) (ci := 1) (v := .ref (a 3)) (C := RX1) (T := TX1) (N := 3) hx hb hts inlX1 hown hK hG.1 0 rfl rfl 1 (by decide) (hts (Cond.fieldLink RX1 20 "DiceRoads$Debts" "ages" "LDiceRoads$Row;") wq_72) (fun _ h9 => h9) rfl dX1_copyFrom_12 ?_
  refine lv_aload_n hx hb dX1_copyFrom_15 rfl (lv_at hl 1 rfl) ?_
  refine va_get (D := (dC, dI)) (ci := 1) (v := .ref (a 10)) (C := RX1) (T := TX1) (N := 3) hx hb hts inlX1 hown hK hG.1 7 rfl rfl 1 (by decide) (hts (Cond.fieldLink RX1 20 "DiceRoads$Debts" "ages" "LDiceRoads$Row;") wq_72) (fun _ h9 => h9) rfl dX1_copyFrom_16 ?_
  obtain ⟨q19, hq19, h⟩ := fo_bd_some h
  refine gc_vV (b := a 3) (C := RX6) (As := [.ref (a 10)]) (rest := []) (wc := (wd_RR cI (fun k => match k with | 0 => a 3 | 1 => a 4 | 2 => a 10 | _ => a 11) (-6) (-6) 16 (Z 1) ((ms_set S 0 q8) 1))) (w1 := (wd_RR cI (fun k => match k with | 0 => a 3 | 1 => a 4 | 2 => a 10 | _ => a 11) (-6) (-6) 16 (Z 1) q19)) (ci := 5) (q0 := 0) ⟨hx, hb, hml, hown, hts⟩ (c6_copyFrom l (a := (fun k => match k with | 0 => a 3 | 1 => a 4 | 2 => a 10 | _ => a 11)) (v := (-6)) (w := (-6)) (z := 16) (F := (Z 1)) hq19) (cwV 1 hts gv_X1_26 rfl rfl rfl hd6_copyFrom ⟨Nat.le_of_ble_eq_true rfl, Nat.le_of_ble_eq_true rfl⟩) hK [0] rfl hA hG [3, 4, 10, 11] rfl rfl rfl rfl rfl rfl hl.1 rfl (Nat.le_of_ble_eq_true rfl) dX1_copyFrom_19 ⟨Nat.zero_le _, Nat.zero_le _⟩ (fun H locs hG9 => ?_)
  have hG : gd_W (dC, dI) A s (wd_DD cI a Z (ms_set (ms_set S 0 q8) 1 q19)) H locs := hG9
  obtain rfl := Option.some.inj h
  exact gr_v hx hb hr hlocks hK hG dX1_copyFrom_22
set_option maxRecDepth 100000 in
set_option maxHeartbeats 4000000 in
theorem c1_copyFrom (l : Launch) {dC : Nat → ClassId} {dI : Nat → Nat → Nat} {cI : ClassId} {a : Nat → Nat} {Z : ms_T} {S : ms_T} {q : ms_T} (h : f1_copyFrom Z S = some q) : mv_M l yX1_copyFrom wm1_copyFrom RM1_copyFrom (dC, dI) [(cI, .int)] [.ref (a 0), .ref (a 7)] (wd_DD cI a Z S) (wd_DD cI a Z q) := by
  intro sz
  refine Met.ofW (cc := cX1_copyFrom) (maxL := 2) (ret := none) (by decide) rfl ?_
  intro p e s m args below meth c s₁ B hml hv
  obtain ⟨rfl, hsz, hP, hK, hD0⟩ := hv
  subst hsz
  have hl := lv_entry ([.ref (a 0), .ref (a 7)] : List Value) (n := 2) (Nat.le_of_ble_eq_true rfl)
  rw [lg_entry_eq]
  generalize (lg_sl ([.ref (a 0), .ref (a 7)] : List Value) ++ List.replicate (2 - (lg_sl ([.ref (a 0), .ref (a 7)] : List Value)).length) Slot.unset).toArray = ls at hl ⊢
  exact w1_copyFrom (a := a) ⟨B.exec, B.bytes, B.returns, fun w hw => atoms_spec (ws := wm1_copyFrom) B.pre w (List.mem_cons_of_mem _ hw), findClass_of_methodNamed B.named, B.notSynchronized, hml⟩ hK (fun _ h => Or.inr h) h ⟨hP, hD0.self, va_S.rf⟩ hl
end
/-! ## DiceRoads$Line.length()I -/
section
variable {p : Program} {l : Launch} {e : Env} {s : State} {m : MethodId} {args : Array Value} {below : List Frame} {meth : Method} {c : Code} {dC : Nat → ClassId} {dI : Nat → Nat → Nat} {cI : ClassId} {A : Nat → Prop}
set_option maxRecDepth 100000 in
set_option maxHeartbeats 4000000 in
theorem w3_length (C : cx_M p s m args meth c RX3 cX3_length (some .int) 1) (hK : va_K (dC, dI) vwCl [(cI, .int)] s) (hA : ∀ q, s.heap.size ≤ q → A q) {a : Nat → Nat} {g : Nat} {q : Int32} {S : ms_T} (h : f3_length g S = some q) {H : Heap} {locs : List Loc} {ls : Array Slot} (hG : gd_W (dC, dI) A s (wd_L cI a g S) H locs) (hl : lv_has ls 1 [(0, .ref (a 0))]) : W p l e RM3_length s m args below meth c H locs 0 0 (MQ below (qi_W (dC, dI) [(cI, .int)] A q (wd_L cI a g S)) args s 0 0 A) (F0 m 0 ls []) := by
  unfold f3_length at h
  obtain ⟨hx, hb, hr, hts, hown, hlocks, hml⟩ := id C
  refine lv_aload_n hx hb dX3_length_0 rfl (lv_at hl 0 rfl) ?_
  refine va_get (D := (dC, dI)) (ci := 3) (v := .int (S 1 0)) (C := RX3) (T := TX3) (N := 3) hx hb hts inlX3 hown hK hG.1 0 rfl rfl 2 (by decide) (hts (Cond.fieldLink RX3 9 "DiceRoads$Line" "length" "I") wq_165) (fun _ h9 => h9) rfl dX3_length_1 ?_
  exact gr_i hx hb hr hlocks hK hG (Option.some.inj h) dX3_length_4
set_option maxRecDepth 100000 in
set_option maxHeartbeats 4000000 in
theorem c3_length (l : Launch) {dC : Nat → ClassId} {dI : Nat → Nat → Nat} {cI : ClassId} {a : Nat → Nat} {g : Nat} {S : ms_T} {q : Int32} (h : f3_length g S = some q) : mi_M l yX3_length wm3_length RM3_length (dC, dI) [(cI, .int)] [.ref (a 0)] (wd_L cI a g S) q (wd_L cI a g S) := by
  intro sz
  refine Met.ofW (cc := cX3_length) (maxL := 1) (ret := (some .int)) (by decide) rfl ?_
  intro p e s m args below meth c s₁ B hml hv
  obtain ⟨rfl, hsz, hP, hK, hD0⟩ := hv
  subst hsz
  have hl := lv_entry ([.ref (a 0)] : List Value) (n := 1) (Nat.le_of_ble_eq_true rfl)
  rw [lg_entry_eq]
  generalize (lg_sl ([.ref (a 0)] : List Value) ++ List.replicate (1 - (lg_sl ([.ref (a 0)] : List Value)).length) Slot.unset).toArray = ls at hl ⊢
  exact w3_length (a := a) ⟨B.exec, B.bytes, B.returns, fun w hw => atoms_spec (ws := wm3_length) B.pre w (List.mem_cons_of_mem _ hw), findClass_of_methodNamed B.named, B.notSynchronized, hml⟩ hK (fun _ h => Or.inr h) h ⟨hP, hD0.self, va_S.rf⟩ hl
end
/-! ## DiceRoads$Line.at(I)I -/
section
variable {p : Program} {l : Launch} {e : Env} {s : State} {m : MethodId} {args : Array Value} {below : List Frame} {meth : Method} {c : Code} {dC : Nat → ClassId} {dI : Nat → Nat → Nat} {cI : ClassId} {A : Nat → Prop}
set_option maxRecDepth 100000 in
set_option maxHeartbeats 4000000 in
theorem w3_at (C : cx_M p s m args meth c RX3 cX3_at (some .int) 2) (hK : va_K (dC, dI) vwCl [(cI, .int)] s) (hA : ∀ q, s.heap.size ≤ q → A q) {a : Nat → Nat} {g : Nat} {q : Int32} {v1 : Int32} {S : ms_T} (h : f3_at g v1 S = some q) {H : Heap} {locs : List Loc} {ls : Array Slot} (hG : gd_W (dC, dI) A s (wd_L cI a g S) H locs) (hl : lv_has ls 2 [(0, .ref (a 0)), (1, .int v1)]) : W p l e RM3_at s m args below meth c H locs 0 0 (MQ below (qi_W (dC, dI) [(cI, .int)] A q (wd_L cI a g S)) args s 0 0 A) (F0 m 0 ls []) := by
  unfold f3_at at h
  obtain ⟨hx, hb, hr, hts, hown, hlocks, hml⟩ := id C
  refine lv_iload_n hx hb dX3_at_0 rfl (lv_at hl 1 rfl) ?_
  refine lv_aload_n hx hb dX3_at_1 rfl (lv_at hl 0 rfl) ?_
  refine va_get (D := (dC, dI)) (ci := 3) (v := .int (S 1 0)) (C := RX3) (T := TX3) (N := 3) hx hb hts inlX3 hown hK hG.1 0 rfl rfl 2 (by decide) (hts (Cond.fieldLink RX3 9 "DiceRoads$Line" "length" "I") wq_165) (fun _ h9 => h9) rfl dX3_at_2 ?_
  refine lv_icmp_ge (tgt := 19) hx hb dX3_at_5 (by decide) (fun hc => ?_) (fun hc => ?_)
  · have h := fo_it h hc
    refine lv_iconst (v := (-1 : Int32)) hx hb dX3_at_19 (by decide) ?_
    exact gr_i hx hb hr hlocks hK hG (Option.some.inj h) dX3_at_20
  · have h := fo_if h hc
    refine lv_aload_n hx hb dX3_at_8 rfl (lv_at hl 0 rfl) ?_
    refine va_get (D := (dC, dI)) (ci := 3) (v := .ref (a 1)) (C := RX3) (T := TX3) (N := 3) hx hb hts inlX3 hown hK hG.1 0 rfl rfl 0 (by decide) (hts (Cond.fieldLink RX3 20 "DiceRoads$Line" "signs" "LDiceRoads$Row;") wq_163) (fun _ h9 => h9) rfl dX3_at_9 ?_
    refine lv_iload_n hx hb dX3_at_12 rfl (lv_at hl 1 rfl) ?_
    obtain ⟨q13, hq13, h⟩ := fo_bd_some h
    refine gc_iV (b := a 1) (C := RX6) (As := [.int v1]) (rest := []) (wc := (wd_R cI (fun k => a (k + 1)) (-1) g (S 0))) (w1 := (wd_R cI (fun k => a (k + 1)) (-1) g (S 0))) (ci := 5) (q0 := 0) ⟨hx, hb, hml, hown, hts⟩ (c6_at l (a := (fun k => a (k + 1))) (v := (-1)) (z := g) hq13) (cwV 1 hts gv_X3_27 rfl rfl rfl hd6_at ⟨Nat.le_of_ble_eq_true rfl, Nat.le_of_ble_eq_true rfl⟩) hK [0] rfl hA hG [1, 2] rfl rfl rfl rfl rfl rfl hl.1 rfl (Nat.le_of_ble_eq_true rfl) dX3_at_13 ⟨Nat.zero_le _, Nat.zero_le _⟩ (fun H locs hG9 => ?_)
    have hG : gd_W (dC, dI) A s (wd_L cI a g S) H locs := hG9
    refine lv_goto (tgt := 20) hx hb dX3_at_16 (by decide) ?_
    exact gr_i hx hb hr hlocks hK hG (Option.some.inj h) dX3_at_20
set_option maxRecDepth 100000 in
set_option maxHeartbeats 4000000 in
theorem c3_at (l : Launch) {dC : Nat → ClassId} {dI : Nat → Nat → Nat} {cI : ClassId} {a : Nat → Nat} {g : Nat} {v1 : Int32} {S : ms_T} {q : Int32} (h : f3_at g v1 S = some q) : mi_M l yX3_at wm3_at RM3_at (dC, dI) [(cI, .int)] [.ref (a 0), .int v1] (wd_L cI a g S) q (wd_L cI a g S) := by
  intro sz
  refine Met.ofW (cc := cX3_at) (maxL := 2) (ret := (some .int)) (by decide) rfl ?_
  intro p e s m args below meth c s₁ B hml hv
  obtain ⟨rfl, hsz, hP, hK, hD0⟩ := hv
  subst hsz
  have hl := lv_entry ([.ref (a 0), .int v1] : List Value) (n := 2) (Nat.le_of_ble_eq_true rfl)
  rw [lg_entry_eq]
  generalize (lg_sl ([.ref (a 0), .int v1] : List Value) ++ List.replicate (2 - (lg_sl ([.ref (a 0), .int v1] : List Value)).length) Slot.unset).toArray = ls at hl ⊢
  exact w3_at (a := a) ⟨B.exec, B.bytes, B.returns, fun w hw => atoms_spec (ws := wm3_at) B.pre w (List.mem_cons_of_mem _ hw), findClass_of_methodNamed B.named, B.notSynchronized, hml⟩ hK (fun _ h => Or.inr h) h ⟨hP, hD0.self, va_S.rf⟩ hl
end
/-! ## DiceRoads$Line.append(I)V -/
section
variable {p : Program} {l : Launch} {e : Env} {s : State} {m : MethodId} {args : Array Value} {below : List Frame} {meth : Method} {c : Code} {dC : Nat → ClassId} {dI : Nat → Nat → Nat} {cI : ClassId} {A : Nat → Prop}
set_option maxRecDepth 100000 in
set_option maxHeartbeats 4000000 in
theorem w3_append (C : cx_M p s m args meth c RX3 cX3_append none 2) (hK : va_K (dC, dI) vwCl [(cI, .int)] s) (hA : ∀ q, s.heap.size ≤ q → A q) {a : Nat → Nat} {g : Nat} {q : ms_T} {v1 : Int32} {S : ms_T} (h : f3_append g v1 S = some q) {H : Heap} {locs : List Loc} {ls : Array Slot} (hG : gd_W (dC, dI) A s (wd_L cI a g S) H locs) (hl : lv_has ls 2 [(0, .ref (a 0)), (1, .int v1)]) : W p l e RM3_append s m args below meth c H locs 0 0 (MQ below (qv_W (dC, dI) [(cI, .int)] A (wd_L cI a g q)) args s 0 0 A) (F0 m 0 ls []) := by
  unfold f3_append at h
  obtain ⟨hx, hb, hr, hts, hown, hlocks, hml⟩ := id C
  refine lv_aload_n hx hb dX3_append_0 rfl (lv_at hl 0 rfl) ?_
  refine va_get (D := (dC, dI)) (ci := 3) (v := .int (S 1 0)) (C := RX3) (T := TX3) (N := 3) hx hb hts inlX3 hown hK hG.1 0 rfl rfl 2 (by decide) (hts (Cond.fieldLink RX3 9 "DiceRoads$Line" "length" "I") wq_165) (fun _ h9 => h9) rfl dX3_append_1 ?_
  refine lv_aload_n hx hb dX3_append_4 rfl (lv_at hl 0 rfl) ?_
  refine va_get (D := (dC, dI)) (ci := 3) (v := .int (nI g)) (C := RX3) (T := TX3) (N := 3) hx hb hts inlX3 hown hK hG.1 0 rfl rfl 1 (by decide) (hts (Cond.fieldLink RX3 24 "DiceRoads$Line" "room" "I") wq_164) (fun _ h9 => h9) rfl dX3_append_5 ?_
  refine lv_icmp_ge (tgt := 33) hx hb dX3_append_8 (by decide) (fun hc => ?_) (fun hc => ?_)
  · have h := fo_it h hc
    obtain rfl := Option.some.inj h
    exact gr_v hx hb hr hlocks hK hG dX3_append_33
  · have h := fo_if h hc
    refine lv_aload_n hx hb dX3_append_11 rfl (lv_at hl 0 rfl) ?_
    refine va_get (D := (dC, dI)) (ci := 3) (v := .ref (a 1)) (C := RX3) (T := TX3) (N := 3) hx hb hts inlX3 hown hK hG.1 0 rfl rfl 0 (by decide) (hts (Cond.fieldLink RX3 20 "DiceRoads$Line" "signs" "LDiceRoads$Row;") wq_163) (fun _ h9 => h9) rfl dX3_append_12 ?_
    refine lv_aload_n hx hb dX3_append_15 rfl (lv_at hl 0 rfl) ?_
    refine va_get (D := (dC, dI)) (ci := 3) (v := .int (S 1 0)) (C := RX3) (T := TX3) (N := 3) hx hb hts inlX3 hown hK hG.1 0 rfl rfl 2 (by decide) (hts (Cond.fieldLink RX3 9 "DiceRoads$Line" "length" "I") wq_165) (fun _ h9 => h9) rfl dX3_append_16 ?_
    refine lv_iload_n hx hb dX3_append_19 rfl (lv_at hl 1 rfl) ?_
    obtain ⟨q20, hq20, h⟩ := fo_bd_some h
    refine gc_vV (b := a 1) (C := RX6) (As := [.int (S 1 0), .int v1]) (rest := []) (wc := (wd_R cI (fun k => a (k + 1)) (-1) g (S 0))) (w1 := (wd_R cI (fun k => a (k + 1)) (-1) g q20)) (ci := 5) (q0 := 0) ⟨hx, hb, hml, hown, hts⟩ (c6_write l (a := (fun k => a (k + 1))) (v := (-1)) (z := g) hq20) (cwV 2 hts gv_X3_31 rfl rfl rfl hd6_write ⟨Nat.le_of_ble_eq_true rfl, Nat.le_of_ble_eq_true rfl⟩) hK [0] rfl hA hG [1, 2] rfl rfl rfl rfl rfl rfl hl.1 rfl (Nat.le_of_ble_eq_true rfl) dX3_append_20 ⟨Nat.zero_le _, Nat.zero_le _⟩ (fun H locs hG9 => ?_)
    have hG : gd_W (dC, dI) A s (wd_L cI a g (ms_set S 0 q20)) H locs := hG9
    refine lv_aload_n hx hb dX3_append_23 rfl (lv_at hl 0 rfl) ?_
    refine lv_dup hx hb dX3_append_24 rfl ?_
    refine va_get (D := (dC, dI)) (ci := 3) (v := .int ((ms_set S 0 q20) 1 0)) (C := RX3) (T := TX3) (N := 3) hx hb hts inlX3 hown hK hG.1 0 rfl rfl 2 (by decide) (hts (Cond.fieldLink RX3 9 "DiceRoads$Line" "length" "I") wq_165) (fun _ h9 => h9) rfl dX3_append_25 ?_
    refine lv_iconst (v := (1 : Int32)) hx hb dX3_append_28 (by decide) ?_
    refine lv_iadd hx hb dX3_append_29 ?_
    refine va_put (D := (dC, dI)) (ci := 3) (v := .int (((ms_set S 0 q20) 1 0) + (1 : Int32))) (ty := .int) (C := RX3) (T := TX3) (N := 3) hx hb hts inlX3 tyX3 tyX3_ok nmX3 hown hK hG.1 hG.2.1 hG.2.2 0 rfl rfl 2 (by decide) (hts (Cond.fieldLink RX3 9 "DiceRoads$Line" "length" "I") wq_165) (fun _ h9 => h9) rfl (by decide +kernel) rfl rfl (Nat.le_of_ble_eq_true rfl) dX3_append_30 (fun H locs hP9 hD9 hS9 => ?_)
    have hG : gd_W (dC, dI) A s (wd_L cI a g (ms_set (ms_set S 0 q20) 1 (upd ((ms_set S 0 q20) 1) 0 (((ms_set S 0 q20) 1 0) + (1 : Int32))))) H locs := ⟨hP9, hD9, hS9⟩
    obtain rfl := Option.some.inj h
    exact gr_v hx hb hr hlocks hK hG dX3_append_33
set_option maxRecDepth 100000 in
set_option maxHeartbeats 4000000 in
theorem c3_append (l : Launch) {dC : Nat → ClassId} {dI : Nat → Nat → Nat} {cI : ClassId} {a : Nat → Nat} {g : Nat} {v1 : Int32} {S : ms_T} {q : ms_T} (h : f3_append g v1 S = some q) : mv_M l yX3_append wm3_append RM3_append (dC, dI) [(cI, .int)] [.ref (a 0), .int v1] (wd_L cI a g S) (wd_L cI a g q) := by
  intro sz
  refine Met.ofW (cc := cX3_append) (maxL := 2) (ret := none) (by decide) rfl ?_
  intro p e s m args below meth c s₁ B hml hv
  obtain ⟨rfl, hsz, hP, hK, hD0⟩ := hv
  subst hsz
  have hl := lv_entry ([.ref (a 0), .int v1] : List Value) (n := 2) (Nat.le_of_ble_eq_true rfl)
  rw [lg_entry_eq]
  generalize (lg_sl ([.ref (a 0), .int v1] : List Value) ++ List.replicate (2 - (lg_sl ([.ref (a 0), .int v1] : List Value)).length) Slot.unset).toArray = ls at hl ⊢
  exact w3_append (a := a) ⟨B.exec, B.bytes, B.returns, fun w hw => atoms_spec (ws := wm3_append) B.pre w (List.mem_cons_of_mem _ hw), findClass_of_methodNamed B.named, B.notSynchronized, hml⟩ hK (fun _ h => Or.inr h) h ⟨hP, hD0.self, va_S.rf⟩ hl
end
/-! ## DiceRoads$Line.makeEmpty()V -/
section
variable {p : Program} {l : Launch} {e : Env} {s : State} {m : MethodId} {args : Array Value} {below : List Frame} {meth : Method} {c : Code} {dC : Nat → ClassId} {dI : Nat → Nat → Nat} {cI : ClassId} {A : Nat → Prop}
set_option maxRecDepth 100000 in
set_option maxHeartbeats 4000000 in
theorem w3_makeEmpty (C : cx_M p s m args meth c RX3 cX3_makeEmpty none 1) (hK : va_K (dC, dI) vwCl [(cI, .int)] s) (hA : ∀ q, s.heap.size ≤ q → A q) {a : Nat → Nat} {g : Nat} {q : ms_T} {S : ms_T} (h : f3_makeEmpty g S = some q) {H : Heap} {locs : List Loc} {ls : Array Slot} (hG : gd_W (dC, dI) A s (wd_L cI a g S) H locs) (hl : lv_has ls 1 [(0, .ref (a 0))]) : W p l e RM3_makeEmpty s m args below meth c H locs 0 0 (MQ below (qv_W (dC, dI) [(cI, .int)] A (wd_L cI a g q)) args s 0 0 A) (F0 m 0 ls []) := by
  unfold f3_makeEmpty at h
  obtain ⟨hx, hb, hr, hts, hown, hlocks, hml⟩ := id C
  refine lv_aload_n hx hb dX3_makeEmpty_0 rfl (lv_at hl 0 rfl) ?_
  refine lv_iconst (v := (0 : Int32)) hx hb dX3_makeEmpty_1 (by decide) ?_
  refine va_put (D := (dC, dI)) (ci := 3) (v := .int (0 : Int32)) (ty := .int) (C := RX3) (T := TX3) (N := 3) hx hb hts inlX3 tyX3 tyX3_ok nmX3 hown hK hG.1 hG.2.1 hG.2.2 0 rfl rfl 2 (by decide) (hts (Cond.fieldLink RX3 9 "DiceRoads$Line" "length" "I") wq_165) (fun _ h9 => h9) rfl (by decide +kernel) rfl rfl (Nat.le_of_ble_eq_true rfl) dX3_makeEmpty_2 (fun H locs hP9 hD9 hS9 => ?_)
  have hG : gd_W (dC, dI) A s (wd_L cI a g (ms_set S 1 (upd (S 1) 0 (0 : Int32)))) H locs := ⟨hP9, hD9, hS9⟩
  obtain rfl := Option.some.inj h
  exact gr_v hx hb hr hlocks hK hG dX3_makeEmpty_5
set_option maxRecDepth 100000 in
set_option maxHeartbeats 4000000 in
theorem c3_makeEmpty (l : Launch) {dC : Nat → ClassId} {dI : Nat → Nat → Nat} {cI : ClassId} {a : Nat → Nat} {g : Nat} {S : ms_T} {q : ms_T} (h : f3_makeEmpty g S = some q) : mv_M l yX3_makeEmpty wm3_makeEmpty RM3_makeEmpty (dC, dI) [(cI, .int)] [.ref (a 0)] (wd_L cI a g S) (wd_L cI a g q) := by
  intro sz
  refine Met.ofW (cc := cX3_makeEmpty) (maxL := 1) (ret := none) (by decide) rfl ?_
  intro p e s m args below meth c s₁ B hml hv
  obtain ⟨rfl, hsz, hP, hK, hD0⟩ := hv
  subst hsz
  have hl := lv_entry ([.ref (a 0)] : List Value) (n := 1) (Nat.le_of_ble_eq_true rfl)
  rw [lg_entry_eq]
  generalize (lg_sl ([.ref (a 0)] : List Value) ++ List.replicate (1 - (lg_sl ([.ref (a 0)] : List Value)).length) Slot.unset).toArray = ls at hl ⊢
  exact w3_makeEmpty (a := a) ⟨B.exec, B.bytes, B.returns, fun w hw => atoms_spec (ws := wm3_makeEmpty) B.pre w (List.mem_cons_of_mem _ hw), findClass_of_methodNamed B.named, B.notSynchronized, hml⟩ hK (fun _ h => Or.inr h) h ⟨hP, hD0.self, va_S.rf⟩ hl
end
