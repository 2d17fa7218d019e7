/-! ## constructor of class 0 -/
abbrev RM0_init : Room := { frames := 3, cells := 26, slots := 135, locals := 73 }
def wm0_init : List Cond := .code yX0_init cX0_init 2 none :: bg_L
/-- the settings while a board is made -/
def st_0 : Nat → Nat → Int32
  | 0 => fl_R 5 0
  | k + 1 => upd (st_0 k) k (fv_1 k)
def sc_0 : Nat → Int32 := fun j => match j with | 2 => 1 | _ => 0
def bd_s (k : Nat) : ms_T := fun j => match j with | 0 => fl_R 20 (-6) | 1 => fl_R 20 (-6) | 2 => fl_R 16 0 | 3 => fl_R 16 (-6) | 4 => fl_R 5 (-6) | 5 => st_0 k | 6 => fl_R 4 0 | 7 => fl_R 4 0 | 8 => fl_R 4 0 | 9 => fl_R 4 0 | 10 => fl_R 4 0 | 11 => fl_R 4 0 | _ => sc_0
def bd_0 : ms_T := bd_s 5
theorem write_in {v x : Int32} {z k : Nat} {S : Nat → Int32} (hk : k < z) (hz : z < 1000) : f6_write v z (nI k) x S = some (upd S k x) := by
  unfold f6_write
  rw [if_neg (nI_pos (by omega)), if_neg (nI_ge hk (by omega))]
  unfold fo_ck
  rw [if_neg (vp_in_nI hk (by omega)), nI_clamp (by omega)]
set_option maxRecDepth 100000 in
set_option maxHeartbeats 4000000 in
theorem w0_initL (l : Launch) {p : Program} {e : Env} {s : State} {m : MethodId} {args : Array Value} {below : List Frame} {meth : Method} {c : Code} {dC : Nat → ClassId} {dI : Nat → Nat → Nat} {cI : ClassId} {A : Nat → Prop} (C : cx_M p s m args meth c RX0 cX0_init none 2) (hK : va_K (dC, dI) vwCl [(cI, .int)] s) (hA : ∀ q, s.heap.size ≤ q → A q) {t1 t2 t3 o : Nat} (hF : sn_W t1 t2 t3 A s s.heap) {a : Nat → Nat} (ha : a 0 = o) : ∀ (n k : Nat), k ≤ 5 → 6 ≤ k + n → ∀ {H : Heap} {locs : List Loc} {ls : Array Slot}, gd_W (dC, dI) A s (wd_B cI a (bd_s k)) H locs → lv_has ls 2 [(0, .ref (a 0)), (1, .int (nI k))] → W p l e RM0_init s m args below meth c H locs 26 135 (MQ below (va_Qv (fun (a : Nat → Nat) => a 0 = o) (fun a t => qc_W (dC, dI) [(cI, .int)] A (wd_B cI a bd_0) () t) A) args s 26 135 A) (F0 m 149 ls []) := by
  obtain ⟨hx, hb, hr, hts, hown, hlocks, hml⟩ := id C
  intro n
  induction n with
  | zero => intro k h1 h2; exact absurd h2 (by omega)
  | succ n ih =>
    intro k hk hn H locs ls hG hl
    refine lv_iload_n hx hb dX0_init_149 rfl (lv_at hl 1 rfl) ?_
    refine va_getsN (C := "DiceRoads") (n := "FIRST_VALUES") (d := "[I") (v := .ref t1) hx hb hF.1.1 hG.2.2 hown (va_Nw.use rfl hF.2.1) (fun _ h9 => h9) dX0_init_150 ?_
    refine va_tlen (v := nI 5) hx hb hF.1.2.1 hG.2.2 rfl dX0_init_153 ?_
    refine lv_icmp_ge (tgt := 176) hx hb dX0_init_154 (by decide) (fun hc => ?_) (fun hc => ?_)
    · have hk5 : k = 5 := by
        rcases Nat.lt_or_ge k 5 with h | h
        · exact absurd hc (nI_ge h (by omega))
        · omega
      subst hk5
      obtain ⟨hP, hD, hS⟩ := hG
      exact W.vret hx hb hr (fun t ht hW => ⟨⟨a, rfl, ha, by rw [ht]; exact hP, va_K.moved hW.alike hK, hD⟩, hS.F ht⟩) hS.2.2 dX0_init_176
    · have hlt : k < 5 := by
        rcases Nat.lt_or_ge k 5 with h | h
        · exact h
        · exact absurd (nI_le h (by omega)) hc
      refine lv_aload_n hx hb dX0_init_157 rfl (lv_at hl 0 rfl) ?_
      refine va_get (D := (dC, dI)) (ci := 0) (v := .ref (a 13)) (C := RX0) (T := TX0) (N := 15) hx hb hts inlX0 hown hK hG.1 0 rfl rfl 2 (by decide) (hts (Cond.fieldLink RX0 30 "DiceRoads$Board" "settings" "LDiceRoads$Row;") wr_92) (fun _ h9 => h9) rfl dX0_init_158 ?_
      refine lv_iload_n hx hb dX0_init_161 rfl (lv_at hl 1 rfl) ?_
      refine va_getsN (C := "DiceRoads") (n := "FIRST_VALUES") (d := "[I") (v := .ref t1) hx hb hF.1.1 hG.2.2 hown (va_Nw.use rfl hF.2.1) (fun _ h9 => h9) dX0_init_162 ?_
      refine lv_iload_n hx hb dX0_init_165 rfl (lv_at hl 1 rfl) ?_
      refine va_ti (v := .int (fv_1 k)) hx hb hF.1.2.1 hG.2.2 (vp_in_nI hlt (by omega)) (by rw [nI_clamp (by omega)]) dX0_init_166 ?_
      refine gc_vV (b := a 13) (C := RX6) (As := [.int (nI k), .int (fv_1 k)]) (rest := []) (wc := (wd_R cI (fun j => a (j + 13)) 0 5 (st_0 k))) (w1 := (wd_R cI (fun j => a (j + 13)) 0 5 (st_0 (k + 1)))) (ci := 5) (q0 := 0) ⟨hx, hb, hml, hown, hts⟩ (c6_write l (a := (fun j => a (j + 13))) (v := 0) (z := 5) (write_in hlt (by omega))) (cwV 2 hts gv_X0_75 rfl rfl rfl hd6_write ⟨Nat.le_of_ble_eq_true rfl, Nat.le_of_ble_eq_true rfl⟩) hK [0] rfl hA hG [13, 14] rfl rfl rfl rfl rfl rfl hl.1 rfl (Nat.le_of_ble_eq_true rfl) dX0_init_167 ⟨Nat.le_of_ble_eq_true rfl, Nat.le_of_ble_eq_true rfl⟩ (fun H locs hG9 => ?_)
      have hG : gd_W (dC, dI) A s (wd_B cI a (bd_s (k + 1))) H locs := hG9
      refine lv_iinc (v := nI (k + 1)) (lv' := [(1, .int (nI (k + 1))), (0, .ref (a 0))]) hx hb dX0_init_170 hl (k := 1) rfl (nI_1 k) (by decide) rfl (fun ls hl => ?_)
      refine lv_goto (tgt := 149) hx hb dX0_init_173 (by decide) ?_
      exact ih (k + 1) hlt (by omega) hG (lv_sub hl [1, 0] rfl)
set_option maxRecDepth 100000 in
set_option maxHeartbeats 4000000 in
theorem c0_init (l : Launch) {dC : Nat → ClassId} {dI : Nat → Nat → Nat} {cI : ClassId} {t1 t2 t3 o : Nat} : nk_M l yX0_init wm0_init RM0_init (dC, dI) [(cI, .int)] t1 t2 t3 [.ref o] [(o, .inr (0, [.null, .null, .null, .null, .null, .null, .null, .null, .null, .int 0, .int 0, .int 0, .int 0, .int 0, .int 0]))] 26 135 (fun a => wd_B cI a bd_0) o := by
  intro sz
  refine Met.ofW (cc := cX0_init) (maxL := 2) (ret := none) (by decide) rfl ?_
  intro p e s m args below meth c s₁ B hml hv
  obtain ⟨rfl, ⟨hsz, hP, hK, hD0⟩, hF⟩ := hv
  have hin : meth.name = "<init>" := (name_of_methodNamed B.named B.method).1
  subst hsz
  have C : cx_M p s m ([.ref o] : List Value).toArray meth c RX0 cX0_init none 2 := ⟨B.exec, B.bytes, B.returns, fun w hw => atoms_spec (ws := wm0_init) B.pre w (List.mem_cons_of_mem _ hw), findClass_of_methodNamed B.named, B.notSynchronized, hml⟩
  obtain ⟨hx, hb, hr, hts, hown, hlocks, -⟩ := id C
  have hD := hD0.self (sz := s.heap.size)
  have hF : sn_W t1 t2 t3 _ s s.heap := hF
  generalize hAe : va_A [(o, .inr (0, [.null, .null, .null, .null, .null, .null, .null, .null, .null, .int 0, .int 0, .int 0, .int 0, .int 0, .int 0]))] s.heap.size = A at hD hF ⊢
  have hA : ∀ q : Nat, s.heap.size ≤ q → A q := fun q h => by rw [← hAe]; exact Or.inr h
  have hl := lv_entry ([.ref o] : List Value) (n := 2) (Nat.le_of_ble_eq_true rfl)
  rw [lg_entry_eq]
  generalize (lg_sl ([.ref o] : List Value) ++ List.replicate (2 - (lg_sl ([.ref o] : List Value)).length) Slot.unset).toArray = ls at hl ⊢
  have hl : lv_has ls 2 [(0, .ref o)] := hl
  have hG : gd_W (dC, dI) A s [(o, .inr (0, [.null, .null, .null, .null, .null, .null, .null, .null, .null, .int 0, .int 0, .int 0, .int 0, .int 0, .int 0]))] s.heap [] := ⟨hP, hD, va_S.rf⟩
  refine lv_aload_n hx hb dX0_init_0 rfl (lv_at hl 0 rfl) ?_
  refine W.objInit hx hb hown (hts _ wr_32) (hts _ wr_25) (hts _ wr_26) rfl (by rw [hml]; exact hl.1) rfl dX0_init_1 (Nat.le_of_ble_eq_true rfl) (Nat.le_of_ble_eq_true rfl) ?_
  refine W.eq (g2 := F0 m 4 ls []) rfl ?_
  refine lv_aload_n hx hb dX0_init_4 rfl (lv_at hl 0 rfl) ?_
  refine va_new (ci := 4) (fs := [.null, .null]) (C := RX5) (T := TX5) (N := 2) hx hb hts inlX5 tyX5 tyX5_ok hown (hts _ wr_33) (hts _ wr_34) (hts _ wr_13) hK hG.1 hG.2.1 hG.2.2 hA rfl (fun j hj => by rcases (show j = 0 ∨ j = 1 by omega) with rfl | rfl <;> rfl) (Nat.le_of_ble_eq_true rfl) (Nat.le_of_ble_eq_true rfl) dX0_init_5 (fun q1 H hP9 hD9 hS9 => ?_)
  have hG : gd_W (dC, dI) A s ([(o, .inr (0, [.null, .null, .null, .null, .null, .null, .null, .null, .null, .int 0, .int 0, .int 0, .int 0, .int 0, .int 0]))] ++ [(q1, .inr (4, [.null, .null]))]) H _ := ⟨hP9, hD9, hS9⟩
  refine lv_dup hx hb dX0_init_8 rfl ?_
  refine gk_N (host := RX7) (q := q1) (As := []) (rest := [.ref q1, .ref o]) (ws := [(o, .inr (0, [.null, .null, .null, .null, .null, .null, .null, .null, .null, .int 0, .int 0, .int 0, .int 0, .int 0, .int 0]))]) (w1 := fun a1 => wd_O cI a1 (fun _ => fl_R 20 (-6))) ⟨hx, hb, hml, hown, hts⟩ (c5_init l) ⟨va_cnB 0 hts (gb_I wr_37) rfl rfl rfl hF.2.2.2.2.1 (hts _ wr_13) (by decide +kernel) ⟨Nat.le_of_ble_eq_true rfl, Nat.le_of_ble_eq_true rfl⟩, rfl, hts _ wr_36⟩ hK [0] rfl hA hG rfl hl.1 rfl (Nat.le_of_ble_eq_true rfl) dX0_init_9 ⟨Nat.le_of_ble_eq_true rfl, Nat.le_of_ble_eq_true rfl⟩ (fun a1 H locs ha hG8 => ?_)
  subst ha
  have hG := hG8
  refine va_putF (D := (dC, dI)) (ci := 0) (v := .ref (a1 0)) (ty := .object "DiceRoads$Roads") (C := RX0) (T := TX0) (N := 15) hx hb hts inlX0 tyX0 tyX0_ok nmX0 hown hK hG.1 hG.2.1 hG.2.2 0 rfl rfl 0 (by decide) (hts _ wr_89) (fun _ h9 => h9) rfl hin rfl (by decide +kernel) rfl rfl (Nat.le_of_ble_eq_true rfl) dX0_init_12 (fun H locs hP9 hD9 hS9 => ?_)
  have hG : gd_W (dC, dI) A s ([(o, .inr (0, [.ref (a1 0), .null, .null, .null, .null, .null, .null, .null, .null, .int 0, .int 0, .int 0, .int 0, .int 0, .int 0]))] ++ wd_O cI a1 (fun _ => fl_R 20 (-6))) H locs := ⟨hP9, hD9, hS9⟩
  refine lv_aload_n hx hb dX0_init_15 rfl (lv_at hl 0 rfl) ?_
  refine va_new (ci := 1) (fs := [.null, .null, .null]) (C := RX1) (T := TX1) (N := 3) hx hb hts inlX1 tyX1 tyX1_ok hown (hts _ wr_63) (hts _ wr_64) (hts _ wr_16) hK hG.1 hG.2.1 hG.2.2 hA rfl (fun j hj => by rcases (show j = 0 ∨ j = 1 ∨ j = 2 by omega) with rfl | rfl | rfl <;> rfl) (Nat.le_of_ble_eq_true rfl) (Nat.le_of_ble_eq_true rfl) dX0_init_16 (fun q2 H hP9 hD9 hS9 => ?_)
  have hG : gd_W (dC, dI) A s ([(o, .inr (0, [.ref (a1 0), .null, .null, .null, .null, .null, .null, .null, .null, .int 0, .int 0, .int 0, .int 0, .int 0, .int 0]))] ++ wd_O cI a1 (fun _ => fl_R 20 (-6)) ++ [(q2, .inr (1, [.null, .null, .null]))]) H _ := ⟨hP9, hD9, hS9⟩
  refine lv_dup hx hb dX0_init_19 rfl ?_
  refine gk_N (host := RX7) (q := q2) (As := []) (rest := [.ref q2, .ref o]) (ws := [(o, .inr (0, [.ref (a1 0), .null, .null, .null, .null, .null, .null, .null, .null, .int 0, .int 0, .int 0, .int 0, .int 0, .int 0]))] ++ wd_O cI a1 (fun _ => fl_R 20 (-6))) (w1 := fun a2 => wd_D cI a2 (fun k => match k with | 0 => fl_R 16 0 | 1 => fl_R 16 (-6) | _ => fl_R 5 (-6))) ⟨hx, hb, hml, hown, hts⟩ (c1_init l) ⟨va_cnB 0 hts (gb_I wr_67) rfl rfl rfl hF.2.2.2.2.2 (hts _ wr_16) (by decide +kernel) ⟨Nat.le_of_ble_eq_true rfl, Nat.le_of_ble_eq_true rfl⟩, rfl, hts _ wr_66⟩ hK [0] rfl hA hG rfl hl.1 rfl (Nat.le_of_ble_eq_true rfl) dX0_init_20 ⟨Nat.le_of_ble_eq_true rfl, Nat.le_of_ble_eq_true rfl⟩ (fun a2 H locs ha hG8 => ?_)
  subst ha
  have hG := hG8
  refine va_putF (D := (dC, dI)) (ci := 0) (v := .ref (a2 0)) (ty := .object "DiceRoads$Debts") (C := RX0) (T := TX0) (N := 15) hx hb hts inlX0 tyX0 tyX0_ok nmX0 hown hK hG.1 hG.2.1 hG.2.2 0 rfl rfl 1 (by decide) (hts _ wr_90) (fun _ h9 => h9) rfl hin rfl (by decide +kernel) rfl rfl (Nat.le_of_ble_eq_true rfl) dX0_init_23 (fun H locs hP9 hD9 hS9 => ?_)
  have hG : gd_W (dC, dI) A s ([(o, .inr (0, [.ref (a1 0), .ref (a2 0), .null, .null, .null, .null, .null, .null, .null, .int 0, .int 0, .int 0, .int 0, .int 0, .int 0]))] ++ wd_O cI a1 (fun _ => fl_R 20 (-6)) ++ wd_D cI a2 (fun k => match k with | 0 => fl_R 16 0 | 1 => fl_R 16 (-6) | _ => fl_R 5 (-6))) H locs := ⟨hP9, hD9, hS9⟩
  refine lv_aload_n hx hb dX0_init_26 rfl (lv_at hl 0 rfl) ?_
  refine va_new (ci := 5) (fs := [.null, .int 0]) (C := RX6) (T := TX6) (N := 2) hx hb hts inlX6 tyX6 tyX6_ok hown (hts _ wr_81) (hts _ wr_40) (hts _ wr_14) hK hG.1 hG.2.1 hG.2.2 hA rfl (fun j hj => by rcases (show j = 0 ∨ j = 1 by omega) with rfl | rfl <;> rfl) (Nat.le_of_ble_eq_true rfl) (Nat.le_of_ble_eq_true rfl) dX0_init_27 (fun q3 H hP9 hD9 hS9 => ?_)
  have hG : gd_W (dC, dI) A s ([(o, .inr (0, [.ref (a1 0), .ref (a2 0), .null, .null, .null, .null, .null, .null, .null, .int 0, .int 0, .int 0, .int 0, .int 0, .int 0]))] ++ wd_O cI a1 (fun _ => fl_R 20 (-6)) ++ wd_D cI a2 (fun k => match k with | 0 => fl_R 16 0 | 1 => fl_R 16 (-6) | _ => fl_R 5 (-6)) ++ [(q3, .inr (5, [.null, .int 0]))]) H _ := ⟨hP9, hD9, hS9⟩
  refine lv_dup hx hb dX0_init_30 rfl ?_
  refine lv_iconst (v := 5) hx hb dX0_init_31 (by decide) ?_
  refine lv_iconst (v := 0) hx hb dX0_init_32 (by decide) ?_
  refine gk_I (q := q3) (As := [.int 5, .int 0]) (rest := [.ref q3, .ref o]) (ws := [(o, .inr (0, [.ref (a1 0), .ref (a2 0), .null, .null, .null, .null, .null, .null, .null, .int 0, .int 0, .int 0, .int 0, .int 0, .int 0]))] ++ wd_O cI a1 (fun _ => fl_R 20 (-6)) ++ wd_D cI a2 (fun k => match k with | 0 => fl_R 16 0 | 1 => fl_R 16 (-6) | _ => fl_R 5 (-6))) (w1 := fun a3 => wd_R cI a3 0 5 (fl_R 5 0)) ⟨hx, hb, hml, hown, hts⟩ (c6_init l (z := 5) (v := 0) (by decide)) (cwI 2 hts (gb_I wr_43) rfl rfl rfl (hts _ wr_14) (hts _ wr_82) (hts _ wr_42) rfl (by decide +kernel) ⟨Nat.le_of_ble_eq_true rfl, Nat.le_of_ble_eq_true rfl⟩) hK [0] rfl hA hG rfl hl.1 rfl (Nat.le_of_ble_eq_true rfl) dX0_init_33 ⟨Nat.le_of_ble_eq_true rfl, Nat.le_of_ble_eq_true rfl⟩ (fun a3 H locs ha hG8 => ?_)
  subst ha
  have hG := hG8
  refine va_putF (D := (dC, dI)) (ci := 0) (v := .ref (a3 0)) (ty := .object "DiceRoads$Row") (C := RX0) (T := TX0) (N := 15) hx hb hts inlX0 tyX0 tyX0_ok nmX0 hown hK hG.1 hG.2.1 hG.2.2 0 rfl rfl 2 (by decide) (hts _ wr_92) (fun _ h9 => h9) rfl hin rfl (by decide +kernel) rfl rfl (Nat.le_of_ble_eq_true rfl) dX0_init_36 (fun H locs hP9 hD9 hS9 => ?_)
  have hG : gd_W (dC, dI) A s ([(o, .inr (0, [.ref (a1 0), .ref (a2 0), .ref (a3 0), .null, .null, .null, .null, .null, .null, .int 0, .int 0, .int 0, .int 0, .int 0, .int 0]))] ++ wd_O cI a1 (fun _ => fl_R 20 (-6)) ++ wd_D cI a2 (fun k => match k with | 0 => fl_R 16 0 | 1 => fl_R 16 (-6) | _ => fl_R 5 (-6)) ++ wd_R cI a3 0 5 (fl_R 5 0)) H locs := ⟨hP9, hD9, hS9⟩
  refine lv_aload_n hx hb dX0_init_39 rfl (lv_at hl 0 rfl) ?_
  refine va_new (ci := 5) (fs := [.null, .int 0]) (C := RX6) (T := TX6) (N := 2) hx hb hts inlX6 tyX6 tyX6_ok hown (hts _ wr_81) (hts _ wr_40) (hts _ wr_14) hK hG.1 hG.2.1 hG.2.2 hA rfl (fun j hj => by rcases (show j = 0 ∨ j = 1 by omega) with rfl | rfl <;> rfl) (Nat.le_of_ble_eq_true rfl) (Nat.le_of_ble_eq_true rfl) dX0_init_40 (fun q4 H hP9 hD9 hS9 => ?_)
  have hG : gd_W (dC, dI) A s ([(o, .inr (0, [.ref (a1 0), .ref (a2 0), .ref (a3 0), .null, .null, .null, .null, .null, .null, .int 0, .int 0, .int 0, .int 0, .int 0, .int 0]))] ++ wd_O cI a1 (fun _ => fl_R 20 (-6)) ++ wd_D cI a2 (fun k => match k with | 0 => fl_R 16 0 | 1 => fl_R 16 (-6) | _ => fl_R 5 (-6)) ++ wd_R cI a3 0 5 (fl_R 5 0) ++ [(q4, .inr (5, [.null, .int 0]))]) H _ := ⟨hP9, hD9, hS9⟩
  refine lv_dup hx hb dX0_init_43 rfl ?_
  refine lv_iconst (v := 4) hx hb dX0_init_44 (by decide) ?_
  refine lv_iconst (v := 0) hx hb dX0_init_45 (by decide) ?_
  refine gk_I (q := q4) (As := [.int 4, .int 0]) (rest := [.ref q4, .ref o]) (ws := [(o, .inr (0, [.ref (a1 0), .ref (a2 0), .ref (a3 0), .null, .null, .null, .null, .null, .null, .int 0, .int 0, .int 0, .int 0, .int 0, .int 0]))] ++ wd_O cI a1 (fun _ => fl_R 20 (-6)) ++ wd_D cI a2 (fun k => match k with | 0 => fl_R 16 0 | 1 => fl_R 16 (-6) | _ => fl_R 5 (-6)) ++ wd_R cI a3 0 5 (fl_R 5 0)) (w1 := fun a4 => wd_R cI a4 0 4 (fl_R 4 0)) ⟨hx, hb, hml, hown, hts⟩ (c6_init l (z := 4) (v := 0) (by decide)) (cwI 2 hts (gb_I wr_43) rfl rfl rfl (hts _ wr_14) (hts _ wr_82) (hts _ wr_42) rfl (by decide +kernel) ⟨Nat.le_of_ble_eq_true rfl, Nat.le_of_ble_eq_true rfl⟩) hK [0] rfl hA hG rfl hl.1 rfl (Nat.le_of_ble_eq_true rfl) dX0_init_46 ⟨Nat.le_of_ble_eq_true rfl, Nat.le_of_ble_eq_true rfl⟩ (fun a4 H locs ha hG8 => ?_)
  subst ha
  have hG := hG8
  refine va_putF (D := (dC, dI)) (ci := 0) (v := .ref (a4 0)) (ty := .object "DiceRoads$Row") (C := RX0) (T := TX0) (N := 15) hx hb hts inlX0 tyX0 tyX0_ok nmX0 hown hK hG.1 hG.2.1 hG.2.2 0 rfl rfl 3 (by decide) (hts _ wr_93) (fun _ h9 => h9) rfl hin rfl (by decide +kernel) rfl rfl (Nat.le_of_ble_eq_true rfl) dX0_init_49 (fun H locs hP9 hD9 hS9 => ?_)
  have hG : gd_W (dC, dI) A s ([(o, .inr (0, [.ref (a1 0), .ref (a2 0), .ref (a3 0), .ref (a4 0), .null, .null, .null, .null, .null, .int 0, .int 0, .int 0, .int 0, .int 0, .int 0]))] ++ wd_O cI a1 (fun _ => fl_R 20 (-6)) ++ wd_D cI a2 (fun k => match k with | 0 => fl_R 16 0 | 1 => fl_R 16 (-6) | _ => fl_R 5 (-6)) ++ wd_R cI a3 0 5 (fl_R 5 0) ++ wd_R cI a4 0 4 (fl_R 4 0)) H locs := ⟨hP9, hD9, hS9⟩
  refine lv_aload_n hx hb dX0_init_52 rfl (lv_at hl 0 rfl) ?_
  refine va_new (ci := 5) (fs := [.null, .int 0]) (C := RX6) (T := TX6) (N := 2) hx hb hts inlX6 tyX6 tyX6_ok hown (hts _ wr_81) (hts _ wr_40) (hts _ wr_14) hK hG.1 hG.2.1 hG.2.2 hA rfl (fun j hj => by rcases (show j = 0 ∨ j = 1 by omega) with rfl | rfl <;> rfl) (Nat.le_of_ble_eq_true rfl) (Nat.le_of_ble_eq_true rfl) dX0_init_53 (fun q5 H hP9 hD9 hS9 => ?_)
  have hG : gd_W (dC, dI) A s ([(o, .inr (0, [.ref (a1 0), .ref (a2 0), .ref (a3 0), .ref (a4 0), .null, .null, .null, .null, .null, .int 0, .int 0, .int 0, .int 0, .int 0, .int 0]))] ++ wd_O cI a1 (fun _ => fl_R 20 (-6)) ++ wd_D cI a2 (fun k => match k with | 0 => fl_R 16 0 | 1 => fl_R 16 (-6) | _ => fl_R 5 (-6)) ++ wd_R cI a3 0 5 (fl_R 5 0) ++ wd_R cI a4 0 4 (fl_R 4 0) ++ [(q5, .inr (5, [.null, .int 0]))]) H _ := ⟨hP9, hD9, hS9⟩
  refine lv_dup hx hb dX0_init_56 rfl ?_
  refine lv_iconst (v := 4) hx hb dX0_init_57 (by decide) ?_
  refine lv_iconst (v := 0) hx hb dX0_init_58 (by decide) ?_
  refine gk_I (q := q5) (As := [.int 4, .int 0]) (rest := [.ref q5, .ref o]) (ws := [(o, .inr (0, [.ref (a1 0), .ref (a2 0), .ref (a3 0), .ref (a4 0), .null, .null, .null, .null, .null, .int 0, .int 0, .int 0, .int 0, .int 0, .int 0]))] ++ wd_O cI a1 (fun _ => fl_R 20 (-6)) ++ wd_D cI a2 (fun k => match k with | 0 => fl_R 16 0 | 1 => fl_R 16 (-6) | _ => fl_R 5 (-6)) ++ wd_R cI a3 0 5 (fl_R 5 0) ++ wd_R cI a4 0 4 (fl_R 4 0)) (w1 := fun a5 => wd_R cI a5 0 4 (fl_R 4 0)) ⟨hx, hb, hml, hown, hts⟩ (c6_init l (z := 4) (v := 0) (by decide)) (cwI 2 hts (gb_I wr_43) rfl rfl rfl (hts _ wr_14) (hts _ wr_82) (hts _ wr_42) rfl (by decide +kernel) ⟨Nat.le_of_ble_eq_true rfl, Nat.le_of_ble_eq_true rfl⟩) hK [0] rfl hA hG rfl hl.1 rfl (Nat.le_of_ble_eq_true rfl) dX0_init_59 ⟨Nat.le_of_ble_eq_true rfl, Nat.le_of_ble_eq_true rfl⟩ (fun a5 H locs ha hG8 => ?_)
  subst ha
  have hG := hG8
  refine va_putF (D := (dC, dI)) (ci := 0) (v := .ref (a5 0)) (ty := .object "DiceRoads$Row") (C := RX0) (T := TX0) (N := 15) hx hb hts inlX0 tyX0 tyX0_ok nmX0 hown hK hG.1 hG.2.1 hG.2.2 0 rfl rfl 4 (by decide) (hts _ wr_94) (fun _ h9 => h9) rfl hin rfl (by decide +kernel) rfl rfl (Nat.le_of_ble_eq_true rfl) dX0_init_62 (fun H locs hP9 hD9 hS9 => ?_)
  have hG : gd_W (dC, dI) A s ([(o, .inr (0, [.ref (a1 0), .ref (a2 0), .ref (a3 0), .ref (a4 0), .ref (a5 0), .null, .null, .null, .null, .int 0, .int 0, .int 0, .int 0, .int 0, .int 0]))] ++ wd_O cI a1 (fun _ => fl_R 20 (-6)) ++ wd_D cI a2 (fun k => match k with | 0 => fl_R 16 0 | 1 => fl_R 16 (-6) | _ => fl_R 5 (-6)) ++ wd_R cI a3 0 5 (fl_R 5 0) ++ wd_R cI a4 0 4 (fl_R 4 0) ++ wd_R cI a5 0 4 (fl_R 4 0)) H locs := ⟨hP9, hD9, hS9⟩
  refine lv_aload_n hx hb dX0_init_65 rfl (lv_at hl 0 rfl) ?_
  refine va_new (ci := 5) (fs := [.null, .int 0]) (C := RX6) (T := TX6) (N := 2) hx hb hts inlX6 tyX6 tyX6_ok hown (hts _ wr_81) (hts _ wr_40) (hts _ wr_14) hK hG.1 hG.2.1 hG.2.2 hA rfl (fun j hj => by rcases (show j = 0 ∨ j = 1 by omega) with rfl | rfl <;> rfl) (Nat.le_of_ble_eq_true rfl) (Nat.le_of_ble_eq_true rfl) dX0_init_66 (fun q6 H hP9 hD9 hS9 => ?_)
  have hG : gd_W (dC, dI) A s ([(o, .inr (0, [.ref (a1 0), .ref (a2 0), .ref (a3 0), .ref (a4 0), .ref (a5 0), .null, .null, .null, .null, .int 0, .int 0, .int 0, .int 0, .int 0, .int 0]))] ++ wd_O cI a1 (fun _ => fl_R 20 (-6)) ++ wd_D cI a2 (fun k => match k with | 0 => fl_R 16 0 | 1 => fl_R 16 (-6) | _ => fl_R 5 (-6)) ++ wd_R cI a3 0 5 (fl_R 5 0) ++ wd_R cI a4 0 4 (fl_R 4 0) ++ wd_R cI a5 0 4 (fl_R 4 0) ++ [(q6, .inr (5, [.null, .int 0]))]) H _ := ⟨hP9, hD9, hS9⟩
  refine lv_dup hx hb dX0_init_69 rfl ?_
  refine lv_iconst (v := 4) hx hb dX0_init_70 (by decide) ?_
  refine lv_iconst (v := 0) hx hb dX0_init_71 (by decide) ?_
  refine gk_I (q := q6) (As := [.int 4, .int 0]) (rest := [.ref q6, .ref o]) (ws := [(o, .inr (0, [.ref (a1 0), .ref (a2 0), .ref (a3 0), .ref (a4 0), .ref (a5 0), .null, .null, .null, .null, .int 0, .int 0, .int 0, .int 0, .int 0, .int 0]))] ++ wd_O cI a1 (fun _ => fl_R 20 (-6)) ++ wd_D cI a2 (fun k => match k with | 0 => fl_R 16 0 | 1 => fl_R 16 (-6) | _ => fl_R 5 (-6)) ++ wd_R cI a3 0 5 (fl_R 5 0) ++ wd_R cI a4 0 4 (fl_R 4 0) ++ wd_R cI a5 0 4 (fl_R 4 0)) (w1 := fun a6 => wd_R cI a6 0 4 (fl_R 4 0)) ⟨hx, hb, hml, hown, hts⟩ (c6_init l (z := 4) (v := 0) (by decide)) (cwI 2 hts (gb_I wr_43) rfl rfl rfl (hts _ wr_14) (hts _ wr_82) (hts _ wr_42) rfl (by decide +kernel) ⟨Nat.le_of_ble_eq_true rfl, Nat.le_of_ble_eq_true rfl⟩) hK [0] rfl hA hG rfl hl.1 rfl (Nat.le_of_ble_eq_true rfl) dX0_init_72 ⟨Nat.le_of_ble_eq_true rfl, Nat.le_of_ble_eq_true rfl⟩ (fun a6 H locs ha hG8 => ?_)
  subst ha
  have hG := hG8
  refine va_putF (D := (dC, dI)) (ci := 0) (v := .ref (a6 0)) (ty := .object "DiceRoads$Row") (C := RX0) (T := TX0) (N := 15) hx hb hts inlX0 tyX0 tyX0_ok nmX0 hown hK hG.1 hG.2.1 hG.2.2 0 rfl rfl 5 (by decide) (hts _ wr_95) (fun _ h9 => h9) rfl hin rfl (by decide +kernel) rfl rfl (Nat.le_of_ble_eq_true rfl) dX0_init_75 (fun H locs hP9 hD9 hS9 => ?_)
  have hG : gd_W (dC, dI) A s ([(o, .inr (0, [.ref (a1 0), .ref (a2 0), .ref (a3 0), .ref (a4 0), .ref (a5 0), .ref (a6 0), .null, .null, .null, .int 0, .int 0, .int 0, .int 0, .int 0, .int 0]))] ++ wd_O cI a1 (fun _ => fl_R 20 (-6)) ++ wd_D cI a2 (fun k => match k with | 0 => fl_R 16 0 | 1 => fl_R 16 (-6) | _ => fl_R 5 (-6)) ++ wd_R cI a3 0 5 (fl_R 5 0) ++ wd_R cI a4 0 4 (fl_R 4 0) ++ wd_R cI a5 0 4 (fl_R 4 0) ++ wd_R cI a6 0 4 (fl_R 4 0)) H locs := ⟨hP9, hD9, hS9⟩
  refine lv_aload_n hx hb dX0_init_78 rfl (lv_at hl 0 rfl) ?_
  refine va_new (ci := 5) (fs := [.null, .int 0]) (C := RX6) (T := TX6) (N := 2) hx hb hts inlX6 tyX6 tyX6_ok hown (hts _ wr_81) (hts _ wr_40) (hts _ wr_14) hK hG.1 hG.2.1 hG.2.2 hA rfl (fun j hj => by rcases (show j = 0 ∨ j = 1 by omega) with rfl | rfl <;> rfl) (Nat.le_of_ble_eq_true rfl) (Nat.le_of_ble_eq_true rfl) dX0_init_79 (fun q7 H hP9 hD9 hS9 => ?_)
  have hG : gd_W (dC, dI) A s ([(o, .inr (0, [.ref (a1 0), .ref (a2 0), .ref (a3 0), .ref (a4 0), .ref (a5 0), .ref (a6 0), .null, .null, .null, .int 0, .int 0, .int 0, .int 0, .int 0, .int 0]))] ++ wd_O cI a1 (fun _ => fl_R 20 (-6)) ++ wd_D cI a2 (fun k => match k with | 0 => fl_R 16 0 | 1 => fl_R 16 (-6) | _ => fl_R 5 (-6)) ++ wd_R cI a3 0 5 (fl_R 5 0) ++ wd_R cI a4 0 4 (fl_R 4 0) ++ wd_R cI a5 0 4 (fl_R 4 0) ++ wd_R cI a6 0 4 (fl_R 4 0) ++ [(q7, .inr (5, [.null, .int 0]))]) H _ := ⟨hP9, hD9, hS9⟩
  refine lv_dup hx hb dX0_init_82 rfl ?_
  refine lv_iconst (v := 4) hx hb dX0_init_83 (by decide) ?_
  refine lv_iconst (v := 0) hx hb dX0_init_84 (by decide) ?_
  refine gk_I (q := q7) (As := [.int 4, .int 0]) (rest := [.ref q7, .ref o]) (ws := [(o, .inr (0, [.ref (a1 0), .ref (a2 0), .ref (a3 0), .ref (a4 0), .ref (a5 0), .ref (a6 0), .null, .null, .null, .int 0, .int 0, .int 0, .int 0, .int 0, .int 0]))] ++ wd_O cI a1 (fun _ => fl_R 20 (-6)) ++ wd_D cI a2 (fun k => match k with | 0 => fl_R 16 0 | 1 => fl_R 16 (-6) | _ => fl_R 5 (-6)) ++ wd_R cI a3 0 5 (fl_R 5 0) ++ wd_R cI a4 0 4 (fl_R 4 0) ++ wd_R cI a5 0 4 (fl_R 4 0) ++ wd_R cI a6 0 4 (fl_R 4 0)) (w1 := fun a7 => wd_R cI a7 0 4 (fl_R 4 0)) ⟨hx, hb, hml, hown, hts⟩ (c6_init l (z := 4) (v := 0) (by decide)) (cwI 2 hts (gb_I wr_43) rfl rfl rfl (hts _ wr_14) (hts _ wr_82) (hts _ wr_42) rfl (by decide +kernel) ⟨Nat.le_of_ble_eq_true rfl, Nat.le_of_ble_eq_true rfl⟩) hK [0] rfl hA hG rfl hl.1 rfl (Nat.le_of_ble_eq_true rfl) dX0_init_85 ⟨Nat.le_of_ble_eq_true rfl, Nat.le_of_ble_eq_true rfl⟩ (fun a7 H locs ha hG8 => ?_)
  subst ha
  have hG := hG8
  refine va_putF (D := (dC, dI)) (ci := 0) (v := .ref (a7 0)) (ty := .object "DiceRoads$Row") (C := RX0) (T := TX0) (N := 15) hx hb hts inlX0 tyX0 tyX0_ok nmX0 hown hK hG.1 hG.2.1 hG.2.2 0 rfl rfl 6 (by decide) (hts _ wr_96) (fun _ h9 => h9) rfl hin rfl (by decide +kernel) rfl rfl (Nat.le_of_ble_eq_true rfl) dX0_init_88 (fun H locs hP9 hD9 hS9 => ?_)
  have hG : gd_W (dC, dI) A s ([(o, .inr (0, [.ref (a1 0), .ref (a2 0), .ref (a3 0), .ref (a4 0), .ref (a5 0), .ref (a6 0), .ref (a7 0), .null, .null, .int 0, .int 0, .int 0, .int 0, .int 0, .int 0]))] ++ wd_O cI a1 (fun _ => fl_R 20 (-6)) ++ wd_D cI a2 (fun k => match k with | 0 => fl_R 16 0 | 1 => fl_R 16 (-6) | _ => fl_R 5 (-6)) ++ wd_R cI a3 0 5 (fl_R 5 0) ++ wd_R cI a4 0 4 (fl_R 4 0) ++ wd_R cI a5 0 4 (fl_R 4 0) ++ wd_R cI a6 0 4 (fl_R 4 0) ++ wd_R cI a7 0 4 (fl_R 4 0)) H locs := ⟨hP9, hD9, hS9⟩
  refine lv_aload_n hx hb dX0_init_91 rfl (lv_at hl 0 rfl) ?_
  refine va_new (ci := 5) (fs := [.null, .int 0]) (C := RX6) (T := TX6) (N := 2) hx hb hts inlX6 tyX6 tyX6_ok hown (hts _ wr_81) (hts _ wr_40) (hts _ wr_14) hK hG.1 hG.2.1 hG.2.2 hA rfl (fun j hj => by rcases (show j = 0 ∨ j = 1 by omega) with rfl | rfl <;> rfl) (Nat.le_of_ble_eq_true rfl) (Nat.le_of_ble_eq_true rfl) dX0_init_92 (fun q8 H hP9 hD9 hS9 => ?_)
  have hG : gd_W (dC, dI) A s ([(o, .inr (0, [.ref (a1 0), .ref (a2 0), .ref (a3 0), .ref (a4 0), .ref (a5 0), .ref (a6 0), .ref (a7 0), .null, .null, .int 0, .int 0, .int 0, .int 0, .int 0, .int 0]))] ++ wd_O cI a1 (fun _ => fl_R 20 (-6)) ++ wd_D cI a2 (fun k => match k with | 0 => fl_R 16 0 | 1 => fl_R 16 (-6) | _ => fl_R 5 (-6)) ++ wd_R cI a3 0 5 (fl_R 5 0) ++ wd_R cI a4 0 4 (fl_R 4 0) ++ wd_R cI a5 0 4 (fl_R 4 0) ++ wd_R cI a6 0 4 (fl_R 4 0) ++ wd_R cI a7 0 4 (fl_R 4 0) ++ [(q8, .inr (5, [.null, .int 0]))]) H _ := ⟨hP9, hD9, hS9⟩
  refine lv_dup hx hb dX0_init_95 rfl ?_
  refine lv_iconst (v := 4) hx hb dX0_init_96 (by decide) ?_
  refine lv_iconst (v := 0) hx hb dX0_init_97 (by decide) ?_
  refine gk_I (q := q8) (As := [.int 4, .int 0]) (rest := [.ref q8, .ref o]) (ws := [(o, .inr (0, [.ref (a1 0), .ref (a2 0), .ref (a3 0), .ref (a4 0), .ref (a5 0), .ref (a6 0), .ref (a7 0), .null, .null, .int 0, .int 0, .int 0, .int 0, .int 0, .int 0]))] ++ wd_O cI a1 (fun _ => fl_R 20 (-6)) ++ wd_D cI a2 (fun k => match k with | 0 => fl_R 16 0 | 1 => fl_R 16 (-6) | _ => fl_R 5 (-6)) ++ wd_R cI a3 0 5 (fl_R 5 0) ++ wd_R cI a4 0 4 (fl_R 4 0) ++ wd_R cI a5 0 4 (fl_R 4 0) ++ wd_R cI a6 0 4 (fl_R 4 0) ++ wd_R cI a7 0 4 (fl_R 4 0)) (w1 := fun a8 => wd_R cI a8 0 4 (fl_R 4 0)) ⟨hx, hb, hml, hown, hts⟩ (c6_init l (z := 4) (v := 0) (by decide)) (cwI 2 hts (gb_I wr_43) rfl rfl rfl (hts _ wr_14) (hts _ wr_82) (hts _ wr_42) rfl (by decide +kernel) ⟨Nat.le_of_ble_eq_true rfl, Nat.le_of_ble_eq_true rfl⟩) hK [0] rfl hA hG rfl hl.1 rfl (Nat.le_of_ble_eq_true rfl) dX0_init_98 ⟨Nat.le_of_ble_eq_true rfl, Nat.le_of_ble_eq_true rfl⟩ (fun a8 H locs ha hG8 => ?_)
  subst ha
  have hG := hG8
  refine va_putF (D := (dC, dI)) (ci := 0) (v := .ref (a8 0)) (ty := .object "DiceRoads$Row") (C := RX0) (T := TX0) (N := 15) hx hb hts inlX0 tyX0 tyX0_ok nmX0 hown hK hG.1 hG.2.1 hG.2.2 0 rfl rfl 7 (by decide) (hts _ wr_97) (fun _ h9 => h9) rfl hin rfl (by decide +kernel) rfl rfl (Nat.le_of_ble_eq_true rfl) dX0_init_101 (fun H locs hP9 hD9 hS9 => ?_)
  have hG : gd_W (dC, dI) A s ([(o, .inr (0, [.ref (a1 0), .ref (a2 0), .ref (a3 0), .ref (a4 0), .ref (a5 0), .ref (a6 0), .ref (a7 0), .ref (a8 0), .null, .int 0, .int 0, .int 0, .int 0, .int 0, .int 0]))] ++ wd_O cI a1 (fun _ => fl_R 20 (-6)) ++ wd_D cI a2 (fun k => match k with | 0 => fl_R 16 0 | 1 => fl_R 16 (-6) | _ => fl_R 5 (-6)) ++ wd_R cI a3 0 5 (fl_R 5 0) ++ wd_R cI a4 0 4 (fl_R 4 0) ++ wd_R cI a5 0 4 (fl_R 4 0) ++ wd_R cI a6 0 4 (fl_R 4 0) ++ wd_R cI a7 0 4 (fl_R 4 0) ++ wd_R cI a8 0 4 (fl_R 4 0)) H locs := ⟨hP9, hD9, hS9⟩
  refine lv_aload_n hx hb dX0_init_104 rfl (lv_at hl 0 rfl) ?_
  refine va_new (ci := 5) (fs := [.null, .int 0]) (C := RX6) (T := TX6) (N := 2) hx hb hts inlX6 tyX6 tyX6_ok hown (hts _ wr_81) (hts _ wr_40) (hts _ wr_14) hK hG.1 hG.2.1 hG.2.2 hA rfl (fun j hj => by rcases (show j = 0 ∨ j = 1 by omega) with rfl | rfl <;> rfl) (Nat.le_of_ble_eq_true rfl) (Nat.le_of_ble_eq_true rfl) dX0_init_105 (fun q9 H hP9 hD9 hS9 => ?_)
  have hG : gd_W (dC, dI) A s ([(o, .inr (0, [.ref (a1 0), .ref (a2 0), .ref (a3 0), .ref (a4 0), .ref (a5 0), .ref (a6 0), .ref (a7 0), .ref (a8 0), .null, .int 0, .int 0, .int 0, .int 0, .int 0, .int 0]))] ++ wd_O cI a1 (fun _ => fl_R 20 (-6)) ++ wd_D cI a2 (fun k => match k with | 0 => fl_R 16 0 | 1 => fl_R 16 (-6) | _ => fl_R 5 (-6)) ++ wd_R cI a3 0 5 (fl_R 5 0) ++ wd_R cI a4 0 4 (fl_R 4 0) ++ wd_R cI a5 0 4 (fl_R 4 0) ++ wd_R cI a6 0 4 (fl_R 4 0) ++ wd_R cI a7 0 4 (fl_R 4 0) ++ wd_R cI a8 0 4 (fl_R 4 0) ++ [(q9, .inr (5, [.null, .int 0]))]) H _ := ⟨hP9, hD9, hS9⟩
  refine lv_dup hx hb dX0_init_108 rfl ?_
  refine lv_iconst (v := 4) hx hb dX0_init_109 (by decide) ?_
  refine lv_iconst (v := 0) hx hb dX0_init_110 (by decide) ?_
  refine gk_I (q := q9) (As := [.int 4, .int 0]) (rest := [.ref q9, .ref o]) (ws := [(o, .inr (0, [.ref (a1 0), .ref (a2 0), .ref (a3 0), .ref (a4 0), .ref (a5 0), .ref (a6 0), .ref (a7 0), .ref (a8 0), .null, .int 0, .int 0, .int 0, .int 0, .int 0, .int 0]))] ++ wd_O cI a1 (fun _ => fl_R 20 (-6)) ++ wd_D cI a2 (fun k => match k with | 0 => fl_R 16 0 | 1 => fl_R 16 (-6) | _ => fl_R 5 (-6)) ++ wd_R cI a3 0 5 (fl_R 5 0) ++ wd_R cI a4 0 4 (fl_R 4 0) ++ wd_R cI a5 0 4 (fl_R 4 0) ++ wd_R cI a6 0 4 (fl_R 4 0) ++ wd_R cI a7 0 4 (fl_R 4 0) ++ wd_R cI a8 0 4 (fl_R 4 0)) (w1 := fun a9 => wd_R cI a9 0 4 (fl_R 4 0)) ⟨hx, hb, hml, hown, hts⟩ (c6_init l (z := 4) (v := 0) (by decide)) (cwI 2 hts (gb_I wr_43) rfl rfl rfl (hts _ wr_14) (hts _ wr_82) (hts _ wr_42) rfl (by decide +kernel) ⟨Nat.le_of_ble_eq_true rfl, Nat.le_of_ble_eq_true rfl⟩) hK [0] rfl hA hG rfl hl.1 rfl (Nat.le_of_ble_eq_true rfl) dX0_init_111 ⟨Nat.le_of_ble_eq_true rfl, Nat.le_of_ble_eq_true rfl⟩ (fun a9 H locs ha hG8 => ?_)
  subst ha
  have hG := hG8
  refine va_putF (D := (dC, dI)) (ci := 0) (v := .ref (a9 0)) (ty := .object "DiceRoads$Row") (C := RX0) (T := TX0) (N := 15) hx hb hts inlX0 tyX0 tyX0_ok nmX0 hown hK hG.1 hG.2.1 hG.2.2 0 rfl rfl 8 (by decide) (hts _ wr_98) (fun _ h9 => h9) rfl hin rfl (by decide +kernel) rfl rfl (Nat.le_of_ble_eq_true rfl) dX0_init_114 (fun H locs hP9 hD9 hS9 => ?_)
  have hG : gd_W (dC, dI) A s ([(o, .inr (0, [.ref (a1 0), .ref (a2 0), .ref (a3 0), .ref (a4 0), .ref (a5 0), .ref (a6 0), .ref (a7 0), .ref (a8 0), .ref (a9 0), .int 0, .int 0, .int 0, .int 0, .int 0, .int 0]))] ++ wd_O cI a1 (fun _ => fl_R 20 (-6)) ++ wd_D cI a2 (fun k => match k with | 0 => fl_R 16 0 | 1 => fl_R 16 (-6) | _ => fl_R 5 (-6)) ++ wd_R cI a3 0 5 (fl_R 5 0) ++ wd_R cI a4 0 4 (fl_R 4 0) ++ wd_R cI a5 0 4 (fl_R 4 0) ++ wd_R cI a6 0 4 (fl_R 4 0) ++ wd_R cI a7 0 4 (fl_R 4 0) ++ wd_R cI a8 0 4 (fl_R 4 0) ++ wd_R cI a9 0 4 (fl_R 4 0)) H locs := ⟨hP9, hD9, hS9⟩
  refine lv_aload_n hx hb dX0_init_117 rfl (lv_at hl 0 rfl) ?_
  refine lv_iconst (v := 0) hx hb dX0_init_118 (by decide) ?_
  refine va_put (D := (dC, dI)) (ci := 0) (v := .int 0) (ty := .int) (C := RX0) (T := TX0) (N := 15) hx hb hts inlX0 tyX0 tyX0_ok nmX0 hown hK hG.1 hG.2.1 hG.2.2 0 rfl rfl 9 (by decide) (hts _ wr_99) (fun _ h9 => h9) rfl (by decide +kernel) rfl rfl (Nat.le_of_ble_eq_true rfl) dX0_init_119 (fun H locs hP9 hD9 hS9 => ?_)
  have hG : gd_W (dC, dI) A s ([(o, .inr (0, [.ref (a1 0), .ref (a2 0), .ref (a3 0), .ref (a4 0), .ref (a5 0), .ref (a6 0), .ref (a7 0), .ref (a8 0), .ref (a9 0), .int 0, .int 0, .int 0, .int 0, .int 0, .int 0]))] ++ wd_O cI a1 (fun _ => fl_R 20 (-6)) ++ wd_D cI a2 (fun k => match k with | 0 => fl_R 16 0 | 1 => fl_R 16 (-6) | _ => fl_R 5 (-6)) ++ wd_R cI a3 0 5 (fl_R 5 0) ++ wd_R cI a4 0 4 (fl_R 4 0) ++ wd_R cI a5 0 4 (fl_R 4 0) ++ wd_R cI a6 0 4 (fl_R 4 0) ++ wd_R cI a7 0 4 (fl_R 4 0) ++ wd_R cI a8 0 4 (fl_R 4 0) ++ wd_R cI a9 0 4 (fl_R 4 0)) H locs := ⟨hP9, hD9, hS9⟩
  refine lv_aload_n hx hb dX0_init_122 rfl (lv_at hl 0 rfl) ?_
  refine lv_iconst (v := 0) hx hb dX0_init_123 (by decide) ?_
  refine va_put (D := (dC, dI)) (ci := 0) (v := .int 0) (ty := .int) (C := RX0) (T := TX0) (N := 15) hx hb hts inlX0 tyX0 tyX0_ok nmX0 hown hK hG.1 hG.2.1 hG.2.2 0 rfl rfl 10 (by decide) (hts _ wr_100) (fun _ h9 => h9) rfl (by decide +kernel) rfl rfl (Nat.le_of_ble_eq_true rfl) dX0_init_124 (fun H locs hP9 hD9 hS9 => ?_)
  have hG : gd_W (dC, dI) A s ([(o, .inr (0, [.ref (a1 0), .ref (a2 0), .ref (a3 0), .ref (a4 0), .ref (a5 0), .ref (a6 0), .ref (a7 0), .ref (a8 0), .ref (a9 0), .int 0, .int 0, .int 0, .int 0, .int 0, .int 0]))] ++ wd_O cI a1 (fun _ => fl_R 20 (-6)) ++ wd_D cI a2 (fun k => match k with | 0 => fl_R 16 0 | 1 => fl_R 16 (-6) | _ => fl_R 5 (-6)) ++ wd_R cI a3 0 5 (fl_R 5 0) ++ wd_R cI a4 0 4 (fl_R 4 0) ++ wd_R cI a5 0 4 (fl_R 4 0) ++ wd_R cI a6 0 4 (fl_R 4 0) ++ wd_R cI a7 0 4 (fl_R 4 0) ++ wd_R cI a8 0 4 (fl_R 4 0) ++ wd_R cI a9 0 4 (fl_R 4 0)) H locs := ⟨hP9, hD9, hS9⟩
  refine lv_aload_n hx hb dX0_init_127 rfl (lv_at hl 0 rfl) ?_
  refine lv_iconst (v := 1) hx hb dX0_init_128 (by decide) ?_
  refine va_put (D := (dC, dI)) (ci := 0) (v := .int 1) (ty := .int) (C := RX0) (T := TX0) (N := 15) hx hb hts inlX0 tyX0 tyX0_ok nmX0 hown hK hG.1 hG.2.1 hG.2.2 0 rfl rfl 11 (by decide) (hts _ wr_101) (fun _ h9 => h9) rfl (by decide +kernel) rfl rfl (Nat.le_of_ble_eq_true rfl) dX0_init_129 (fun H locs hP9 hD9 hS9 => ?_)
  have hG : gd_W (dC, dI) A s ([(o, .inr (0, [.ref (a1 0), .ref (a2 0), .ref (a3 0), .ref (a4 0), .ref (a5 0), .ref (a6 0), .ref (a7 0), .ref (a8 0), .ref (a9 0), .int 0, .int 0, .int 1, .int 0, .int 0, .int 0]))] ++ wd_O cI a1 (fun _ => fl_R 20 (-6)) ++ wd_D cI a2 (fun k => match k with | 0 => fl_R 16 0 | 1 => fl_R 16 (-6) | _ => fl_R 5 (-6)) ++ wd_R cI a3 0 5 (fl_R 5 0) ++ wd_R cI a4 0 4 (fl_R 4 0) ++ wd_R cI a5 0 4 (fl_R 4 0) ++ wd_R cI a6 0 4 (fl_R 4 0) ++ wd_R cI a7 0 4 (fl_R 4 0) ++ wd_R cI a8 0 4 (fl_R 4 0) ++ wd_R cI a9 0 4 (fl_R 4 0)) H locs := ⟨hP9, hD9, hS9⟩
  refine lv_aload_n hx hb dX0_init_132 rfl (lv_at hl 0 rfl) ?_
  refine lv_iconst (v := 0) hx hb dX0_init_133 (by decide) ?_
  refine va_put (D := (dC, dI)) (ci := 0) (v := .int 0) (ty := .int) (C := RX0) (T := TX0) (N := 15) hx hb hts inlX0 tyX0 tyX0_ok nmX0 hown hK hG.1 hG.2.1 hG.2.2 0 rfl rfl 12 (by decide) (hts _ wr_102) (fun _ h9 => h9) rfl (by decide +kernel) rfl rfl (Nat.le_of_ble_eq_true rfl) dX0_init_134 (fun H locs hP9 hD9 hS9 => ?_)
  have hG : gd_W (dC, dI) A s ([(o, .inr (0, [.ref (a1 0), .ref (a2 0), .ref (a3 0), .ref (a4 0), .ref (a5 0), .ref (a6 0), .ref (a7 0), .ref (a8 0), .ref (a9 0), .int 0, .int 0, .int 1, .int 0, .int 0, .int 0]))] ++ wd_O cI a1 (fun _ => fl_R 20 (-6)) ++ wd_D cI a2 (fun k => match k with | 0 => fl_R 16 0 | 1 => fl_R 16 (-6) | _ => fl_R 5 (-6)) ++ wd_R cI a3 0 5 (fl_R 5 0) ++ wd_R cI a4 0 4 (fl_R 4 0) ++ wd_R cI a5 0 4 (fl_R 4 0) ++ wd_R cI a6 0 4 (fl_R 4 0) ++ wd_R cI a7 0 4 (fl_R 4 0) ++ wd_R cI a8 0 4 (fl_R 4 0) ++ wd_R cI a9 0 4 (fl_R 4 0)) H locs := ⟨hP9, hD9, hS9⟩
  refine lv_aload_n hx hb dX0_init_137 rfl (lv_at hl 0 rfl) ?_
  refine lv_iconst (v := 0) hx hb dX0_init_138 (by decide) ?_
  refine va_put (D := (dC, dI)) (ci := 0) (v := .int 0) (ty := .int) (C := RX0) (T := TX0) (N := 15) hx hb hts inlX0 tyX0 tyX0_ok nmX0 hown hK hG.1 hG.2.1 hG.2.2 0 rfl rfl 13 (by decide) (hts _ wr_103) (fun _ h9 => h9) rfl (by decide +kernel) rfl rfl (Nat.le_of_ble_eq_true rfl) dX0_init_139 (fun H locs hP9 hD9 hS9 => ?_)
  have hG : gd_W (dC, dI) A s ([(o, .inr (0, [.ref (a1 0), .ref (a2 0), .ref (a3 0), .ref (a4 0), .ref (a5 0), .ref (a6 0), .ref (a7 0), .ref (a8 0), .ref (a9 0), .int 0, .int 0, .int 1, .int 0, .int 0, .int 0]))] ++ wd_O cI a1 (fun _ => fl_R 20 (-6)) ++ wd_D cI a2 (fun k => match k with | 0 => fl_R 16 0 | 1 => fl_R 16 (-6) | _ => fl_R 5 (-6)) ++ wd_R cI a3 0 5 (fl_R 5 0) ++ wd_R cI a4 0 4 (fl_R 4 0) ++ wd_R cI a5 0 4 (fl_R 4 0) ++ wd_R cI a6 0 4 (fl_R 4 0) ++ wd_R cI a7 0 4 (fl_R 4 0) ++ wd_R cI a8 0 4 (fl_R 4 0) ++ wd_R cI a9 0 4 (fl_R 4 0)) H locs := ⟨hP9, hD9, hS9⟩
  refine lv_aload_n hx hb dX0_init_142 rfl (lv_at hl 0 rfl) ?_
  refine lv_iconst (v := 0) hx hb dX0_init_143 (by decide) ?_
  refine va_put (D := (dC, dI)) (ci := 0) (v := .int 0) (ty := .int) (C := RX0) (T := TX0) (N := 15) hx hb hts inlX0 tyX0 tyX0_ok nmX0 hown hK hG.1 hG.2.1 hG.2.2 0 rfl rfl 14 (by decide) (hts _ wr_104) (fun _ h9 => h9) rfl (by decide +kernel) rfl rfl (Nat.le_of_ble_eq_true rfl) dX0_init_144 (fun H locs hP9 hD9 hS9 => ?_)
  have hG : gd_W (dC, dI) A s ([(o, .inr (0, [.ref (a1 0), .ref (a2 0), .ref (a3 0), .ref (a4 0), .ref (a5 0), .ref (a6 0), .ref (a7 0), .ref (a8 0), .ref (a9 0), .int 0, .int 0, .int 1, .int 0, .int 0, .int 0]))] ++ wd_O cI a1 (fun _ => fl_R 20 (-6)) ++ wd_D cI a2 (fun k => match k with | 0 => fl_R 16 0 | 1 => fl_R 16 (-6) | _ => fl_R 5 (-6)) ++ wd_R cI a3 0 5 (fl_R 5 0) ++ wd_R cI a4 0 4 (fl_R 4 0) ++ wd_R cI a5 0 4 (fl_R 4 0) ++ wd_R cI a6 0 4 (fl_R 4 0) ++ wd_R cI a7 0 4 (fl_R 4 0) ++ wd_R cI a8 0 4 (fl_R 4 0) ++ wd_R cI a9 0 4 (fl_R 4 0)) H locs := ⟨hP9, hD9, hS9⟩
  have hG : gd_W (dC, dI) A s (wd_B cI (fun k => match k with | 0 => o | 1 => a1 0 | 2 => a1 1 | 3 => a1 2 | 4 => a1 3 | 5 => a1 4 | 6 => a2 0 | 7 => a2 1 | 8 => a2 2 | 9 => a2 3 | 10 => a2 4 | 11 => a2 5 | 12 => a2 6 | 13 => a3 0 | 14 => a3 1 | 15 => a4 0 | 16 => a4 1 | 17 => a5 0 | 18 => a5 1 | 19 => a6 0 | 20 => a6 1 | 21 => a7 0 | 22 => a7 1 | 23 => a8 0 | 24 => a8 1 | 25 => a9 0 | _ => a9 1) (bd_s 0)) H locs := hG
  refine W.widen (k := 26) (n := 135) (Nat.le_of_ble_eq_true rfl) (Nat.le_of_ble_eq_true rfl) ?_
  refine lv_iconst (v := nI 0) hx hb dX0_init_147 (by decide) ?_
  refine lv_istore_n (lv' := [(1, .int (nI 0)), (0, .ref o)]) hx hb dX0_init_148 rfl hl (by decide) rfl (fun ls hl => ?_)
  exact w0_initL l C hK hA hF (a := (fun k => match k with | 0 => o | 1 => a1 0 | 2 => a1 1 | 3 => a1 2 | 4 => a1 3 | 5 => a1 4 | 6 => a2 0 | 7 => a2 1 | 8 => a2 2 | 9 => a2 3 | 10 => a2 4 | 11 => a2 5 | 12 => a2 6 | 13 => a3 0 | 14 => a3 1 | 15 => a4 0 | 16 => a4 1 | 17 => a5 0 | 18 => a5 1 | 19 => a6 0 | 20 => a6 1 | 21 => a7 0 | 22 => a7 1 | 23 => a8 0 | 24 => a8 1 | 25 => a9 0 | _ => a9 1)) rfl 6 0 (by decide) (by decide) hG (lv_sub hl [1, 0] rfl)

