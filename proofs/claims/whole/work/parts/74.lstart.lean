/-! ## the law: its start -/
theorem wl_79 : Cond.instantiable RX0 15 ∈ bg_L := bg_at 79 (by decide +kernel) (by decide +kernel)
theorem wl_115 : Cond.instantiable RX1 3 ∈ bg_L := bg_at 115 (by decide +kernel) (by decide +kernel)
theorem wl_188 : Cond.instantiable RX2 3 ∈ bg_L := bg_at 188 (by decide +kernel) (by decide +kernel)
theorem wl_207 : Cond.instantiable RX3 3 ∈ bg_L := bg_at 207 (by decide +kernel) (by decide +kernel)
theorem wl_85 : Cond.instantiable RX5 2 ∈ bg_L := bg_at 85 (by decide +kernel) (by decide +kernel)
theorem wl_91 : Cond.instantiable RX6 2 ∈ bg_L := bg_at 91 (by decide +kernel) (by decide +kernel)
theorem lw_Kc {args : Array Value} {s : State} (hts : ∀ w ∈ bg_L, w.before args s = true) : ∃ (dC : Nat → ClassId) (dI : Nat → Nat → Nat), ∀ (k : Nat) (q : vw_C), vwCl[k]? = some q → u_Kn s q.1 q.2.1 q.2.2 (dC k) (dI k) := by
  obtain ⟨c0, i0, k0⟩ := u_known (C := RX0) (T := TX0) (N := 15) hts inlX0 (hts _ wl_79)
  obtain ⟨c1, i1, k1⟩ := u_known (C := RX1) (T := TX1) (N := 3) hts inlX1 (hts _ wl_115)
  obtain ⟨c2, i2, k2⟩ := u_known (C := RX2) (T := TX2) (N := 3) hts inlX2 (hts _ wl_188)
  obtain ⟨c3, i3, k3⟩ := u_known (C := RX3) (T := TX3) (N := 3) hts inlX3 (hts _ wl_207)
  obtain ⟨c4, i4, k4⟩ := u_known (C := RX5) (T := TX5) (N := 2) hts inlX5 (hts _ wl_85)
  obtain ⟨c5, i5, k5⟩ := u_known (C := RX6) (T := TX6) (N := 2) hts inlX6 (hts _ wl_91)
  obtain ⟨c6, i6, k6⟩ := u_known (C := RX7) (T := TX7) (N := 6) hts inlX7 (hts _ wl_71)
  obtain ⟨c7, i7, k7⟩ := u_known (C := RX8) (T := TX8) (N := 17) hts inlX8 (hts _ wl_632)
  refine ⟨fun k => match k with | 0 => c0 | 1 => c1 | 2 => c2 | 3 => c3 | 4 => c4 | 5 => c5 | 6 => c6 | _ => c7, fun k => match k with | 0 => i0 | 1 => i1 | 2 => i2 | 3 => i3 | 4 => i4 | 5 => i5 | 6 => i6 | _ => i7, fun k q hq => ?_⟩
  match k, hq with
  | 0, hq => cases hq; exact k0
  | 1, hq => cases hq; exact k1
  | 2, hq => cases hq; exact k2
  | 3, hq => cases hq; exact k3
  | 4, hq => cases hq; exact k4
  | 5, hq => cases hq; exact k5
  | 6, hq => cases hq; exact k6
  | 7, hq => cases hq; exact k7
  | k + 8, hq => simp at hq
set_option maxRecDepth 100000 in
set_option maxHeartbeats 4000000 in
/-- from the entry, for every script of at most 2048 ints, the law comes to its end with true -/
theorem whole_start {p : Program} {e : Env} {s : State} {m : MethodId} {below : List Frame} {meth : Method} {c : Code} (l : Launch) (hflags : l.flags = flags0) {b L : Nat} {xs : Nat → Int32} (hL : L ≤ 2048) (C0 : lw_At p s m meth c b L xs) : W p l e room_1 s m #[Value.ref b] below meth c s.heap [] 0 0 (lw_Z below #[Value.ref b] s) (entryFrame m ([Value.ref b] : List Value).toArray 4) := by
  obtain ⟨hx, hb, hr, hml, hown0, hts0, hX, hbl, hlocks, hg⟩ := C0
  have hts : ∀ w ∈ bg_L, w.before #[Value.ref b] s = true := fun w hw => hts0 w (bg_tbl hw)
  have hown : s.vm.findClass RL = some m.cls := hown0
  obtain ⟨dC, dI, hKc⟩ := lw_Kc hts
  obtain ⟨cI, cB, hK⟩ := st_K (dC := dC) (dI := dI) hts0 hKc
  obtain ⟨t1, t2, t3, hF⟩ := st_F hg hts0
  have hO := st_O (s := s) hts0
  have hA : ∀ q, s.heap.size ≤ q → (fun q => s.heap.size ≤ q) q := fun _ h => h
  have hl := lv_entry ([.ref b] : List Value) (n := 4) (Nat.le_of_ble_eq_true rfl)
  rw [lg_entry_eq]
  generalize (lg_sl ([.ref b] : List Value) ++ List.replicate (4 - (lg_sl ([.ref b] : List Value)).length) Slot.unset).toArray = ls at hl ⊢
  have hl : lv_has ls 4 [(0, .ref b)] := hl
  have hG : gd_W (dC, dI) (fun q => s.heap.size ≤ q) s [] s.heap [] := ⟨fun k q h => by simp at h, ⟨fun i j p q h => by simp at h, fun k q h => by simp at h⟩, va_S.rf⟩
  refine va_new (ci := 6) (fs := [.null, .null, .null, .null, .null, .null]) (C := RX7) (T := TX7) (N := 6) hx hb hts inlX7 tyX7 tyX7_ok hown (hts _ wl_70) (hts _ wl_71) (hts _ wl_60) hK hG.1 hG.2.1 hG.2.2 hA rfl (fun j hj => by rcases (show j = 0 ∨ j = 1 ∨ j = 2 ∨ j = 3 ∨ j = 4 ∨ j = 5 by omega) with rfl | rfl | rfl | rfl | rfl | rfl <;> rfl) (Nat.le_of_ble_eq_true rfl) (Nat.le_of_ble_eq_true rfl) dL_law_0 (fun o H hP9 hD9 hS9 => ?_)
  have hG : gd_W (dC, dI) (fun q => s.heap.size ≤ q) s ([] ++ [(o, .inr (6, [.null, .null, .null, .null, .null, .null]))]) H _ := ⟨hP9, hD9, hS9⟩
  refine lv_dup hx hb dL_law_3 rfl ?_
  refine gk_B (q := o) (As := []) (rest := [.ref o]) (ws := []) (w1 := fun b => (gX cI cB b xs_0).flatten) ⟨hx, hb, hml, hown, hts⟩ hF hO (c7_init l) (cwI 0 hts (gb_I wl_74) rfl rfl rfl (hts _ wl_60) (hts _ wl_72) (hts _ wl_73) rfl (by decide +kernel) ⟨Nat.le_of_ble_eq_true rfl, Nat.le_of_ble_eq_true rfl⟩) hK [0, 1] rfl hA hG rfl hl.1 rfl (Nat.le_of_ble_eq_true rfl) dL_law_4 ⟨Nat.le_of_ble_eq_true rfl, Nat.le_of_ble_eq_true rfl⟩ (fun b0 H locs hb0 hG => ?_)
  refine lv_astore_n (lv' := [(1, .ref o), (0, .ref b)]) hx hb dL_law_7 rfl hl (by decide) rfl (fun ls hl => ?_)
  refine va_new (ci := 7) (fs := [.null, .null, .null, .int 0, .null, .null, .null, .int 0, .int 0, .int 0, .int 0, .null, .int 0, .null, .int 0, .int 0, .int 0]) (C := RX8) (T := TX8) (N := 17) hx hb hts inlX8 tyX8 tyX8_ok hown (hts _ wl_631) (hts _ wl_632) (hts _ wl_68) hK hG.1 hG.2.1 hG.2.2 hA rfl (fun j hj => by rcases (show j = 0 ∨ j = 1 ∨ j = 2 ∨ j = 3 ∨ j = 4 ∨ j = 5 ∨ j = 6 ∨ j = 7 ∨ j = 8 ∨ j = 9 ∨ j = 10 ∨ j = 11 ∨ j = 12 ∨ j = 13 ∨ j = 14 ∨ j = 15 ∨ j = 16 by omega) with rfl | rfl | rfl | rfl | rfl | rfl | rfl | rfl | rfl | rfl | rfl | rfl | rfl | rfl | rfl | rfl | rfl <;> rfl) (Nat.le_of_ble_eq_true rfl) (Nat.le_of_ble_eq_true rfl) dL_law_8 (fun o2 H hP9 hD9 hS9 => ?_)
  have hG : gd_W (dC, dI) (fun q => s.heap.size ≤ q) s (([] ++ (gX cI cB b0 xs_0).flatten) ++ [(o2, .inr (7, [.null, .null, .null, .int 0, .null, .null, .null, .int 0, .int 0, .int 0, .int 0, .null, .int 0, .null, .int 0, .int 0, .int 0]))]) H _ := ⟨hP9, hD9, hS9⟩
  refine lv_dup hx hb dL_law_11 rfl ?_
  refine gk_I (q := o2) (As := []) (rest := [.ref o2]) (ws := [] ++ (gX cI cB b0 xs_0).flatten) (w1 := fun a => wd_M cI a (mm_0 20)) ⟨hx, hb, hml, hown, hts⟩ (c8_init l) (cwI 0 hts (gb_I wl_635) rfl rfl rfl (hts _ wl_68) (hts _ wl_633) (hts _ wl_634) rfl (by decide +kernel) ⟨Nat.le_of_ble_eq_true rfl, Nat.le_of_ble_eq_true rfl⟩) hK [0] rfl hA hG rfl hl.1 rfl (Nat.le_of_ble_eq_true rfl) dL_law_12 ⟨Nat.le_of_ble_eq_true rfl, Nat.le_of_ble_eq_true rfl⟩ (fun a H locs ha hG => ?_)
  refine lv_astore_n (lv' := [(2, .ref o2), (1, .ref o), (0, .ref b)]) hx hb dL_law_15 rfl hl (by decide) rfl (fun ls hl => ?_)
  refine lv_iconst (v := (0 : Int32)) hx hb dL_law_16 (by decide) ?_
  refine lv_istore_n (lv' := [(3, .int (nI (4 * 0))), (2, .ref o2), (1, .ref o), (0, .ref b)]) hx hb dL_law_17 rfl hl (by decide) rfl (fun ls hl => ?_)
  have hl : lv_has ls 4 [(3, .int (nI (4 * 0))), (2, .ref (a 0)), (1, .ref o), (0, .ref b)] := by rw [ha]; exact hl
  have hG : gd_W (dC, dI) (fun q => s.heap.size ≤ q) s (gL cI cB b0 a xs_0 (mm_0 20)).flatten H locs := hG
  refine wlaw_loop (o := o) (a := a) ⟨hx, hb, hts, hown, hml⟩ hK hX hbl hF hL ?_ 513 0 b0 xs_0 (mm_0 20) H locs ls _ _ (by omega) (by omega) (Nat.le_of_ble_eq_true rfl) (Nat.le_of_ble_eq_true rfl) hb0 lb_RR0 hG hl
  intro H locs ls cells slots hc hs hS
  refine lv_iconst (v := (1 : Int32)) hx hb dL_law_691 (by decide) ?_
  refine W.widen hc hs ?_
  refine va_forget (fun q hq => hS.2.2 q hq) ?_
  exact lw_ret hx hb hr hlocks dL_law_692
