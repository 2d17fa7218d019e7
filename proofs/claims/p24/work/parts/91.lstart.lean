/-! ## the law: its loop over the acts -/
section LAWLOOP
variable {p : Program} {l : Launch} {e : Env} {s : State} {m : MethodId} {below : List Frame} {meth : Method} {c : Code} {dC : Nat → ClassId} {dI : Nat → Nat → Nat} {cI cB : ClassId} {bs L : Nat} {xs : Nat → Int32} {Q : State → Prop} {b : Nat → Nat → Nat}
set_option maxRecDepth 100000 in
set_option maxHeartbeats 4000000 in
theorem wl_loop (C : lw_C p s m meth c bs) (hK : va_K (dC, dI) vwCl [(cI, .int), (cB, .object "DiceRoads$Board")] s) (hX : va_X bs L xs s s.heap) (hbl : bs < s.heap.size) {t1 t2 t3 : Nat} (hF : sn_W t1 t2 t3 (fun q => s.heap.size ≤ q) s s.heap) (hL : L ≤ 260)
    (kend : ∀ (H : Heap) (locs : List Loc) (ls : Array Slot) (cells slots : Nat), cells ≤ room_1.cells → slots ≤ room_1.slots → va_S (fun q => s.heap.size ≤ q) s.heap H locs → W p l e room_1 s m #[.ref bs] below meth c H locs cells slots Q (F0 m 597 ls [])) :
    ∀ (n k : Nat) (X : xs_T) (S : ms_T) (Z1 Z2 : ms_T) (P t : Nat) (H : Heap) (locs : List Loc) (ls : Array Slot) (cells slots : Nat), k + n = 24 → RR X S → RG Z1 (S 0) → mb_J P t (S 0) → KD (S 0) t → t ≤ 99 * k → min k 2 ≤ P → cells ≤ 300 + k → slots ≤ 2000 + 5 * k → gd_W (dC, dI) (fun q => s.heap.size ≤ q) s (gY cI cB b (X, Z1, Z2)).flatten H locs → lv_has ls 19 [(12, .int (nI k)), (0, .ref bs), (1, .ref (b 0 0)), (2, .ref (b 16 0)), (3, .ref (b 16 1)), (4, .ref (b 16 2)), (5, .ref (b 16 3)), (6, .ref (b 16 4)), (7, .ref (b 17 0)), (8, .ref (b 17 1)), (9, .ref (b 17 2)), (10, .ref (b 17 3)), (11, .ref (b 17 4))] → W p l e room_1 s m #[.ref bs] below meth c H locs cells slots Q (F0 m 120 ls [])
  | 0, k, X, S, Z1, Z2, P, t, H, locs, ls, cells, slots, hk, h, hR, hJ, hD, ht, hP, hc, hs, hG, hl => by
    obtain ⟨hx, hb, hts, hown, hml⟩ := id C
    have r1 : room_1.cells = 655138 := rfl
    have r2 : room_1.slots = 7136833 := rfl
    refine lv_iload hx hb dL_law_120 (lv_at hl 0 rfl) ?_
    refine lv_bipush (v := (24 : Int32)) hx hb dL_law_122 (by decide) ?_
    refine lv_icmp_ge (tgt := 597) hx hb dL_law_124 (by decide) (fun hc1 => ?_) (fun hc1 => ?_)
    · exact kend H locs ls cells slots (by omega) (by omega) hG.2.2
    · exact absurd (show (24 : Int32) ≤ nI k from nI_le (a := 24) (by omega) (by omega)) hc1
  | n + 1, k, X, S, Z1, Z2, P, t, H, locs, ls, cells, slots, hk, h, hR, hJ, hD, ht, hP, hc, hs, hG, hl => by
    obtain ⟨hx, hb, hts, hown, hml⟩ := id C
    have r1 : room_1.cells = 655138 := rfl
    have r2 : room_1.slots = 7136833 := rfl
    refine lv_iload hx hb dL_law_120 (lv_at hl 0 rfl) ?_
    refine lv_bipush (v := (24 : Int32)) hx hb dL_law_122 (by decide) ?_
    refine lv_icmp_ge (tgt := 597) hx hb dL_law_124 (by decide) (fun hc1 => ?_) (fun hc1 => ?_)
    · exact absurd hc1 (show ¬ (24 : Int32) ≤ nI k from nI_ge (b := 24) (by omega) (by omega))
    · obtain ⟨X', Z1', Z2', S', P', t', f, h', hR', hJ', hD', ht', hP'⟩ := al_act (L := L) (xs := xs) (Z := (Z1, Z2)) (k := k) (by omega) h hR hJ hD (by omega) ht hP
      refine w9_law C hK hX hbl hF (cells := cells) (slots := slots) ⟨by omega, by omega⟩ (fun H1 locs1 ls1 hG1 hl1 => ?_) f hG (lv_sub hl [1, 2, 3, 4, 5, 6, 7, 8, 9, 10, 11, 12, 0] rfl)
      rw [ga_p1] at hl1
      exact wl_loop C hK hX hbl hF hL kend n (k + 1) X' S' Z1' Z2' P' t' H1 locs1 ls1 (cells + 1) (slots + 5) (by omega) h' hR' hJ' hD' ht' hP' (by omega) (by omega) hG1 hl1
/-- the law's board while its row of owners is filled -/
def lo_q : Nat → Int32 := upd (upd (upd (upd (upd (upd (fun _ => 0) 0 20) 1 15) 2 6) 3 3) 4 4) 8 1
def lo_o : Nat → Nat → Int32
  | 0 => fun _ => 0
  | k + 1 => upd (lo_o k) k (-6)
def lo_Z (k : Nat) : ms_T := fun j => match j with | 0 => lo_q | 2 => lo_o k | _ => fun _ => 0
def lo_N : ms_T := fun _ _ => 0
theorem lo_oE : ∀ (k i : Nat), lo_o k i = if i < k then -6 else 0
  | 0, i => rfl
  | k + 1, i => by
    show upd (lo_o k) k (-6) i = _
    by_cases e : i = k
    · subst e; rw [lb_us, if_pos (by omega)]
    · rw [lb_un e, lo_oE k i]
      by_cases c : i < k
      · rw [if_pos c, if_pos (by omega)]
      · rw [if_neg c, if_neg (by omega)]
theorem lo_qE : ∀ i, i < 11 → lo_q i = mb_0 i := by decide
theorem lo_RG : RG (lo_Z 40) (mm_0 20 0) := by
  have e : ∀ i, i < 107 → mm_0 20 0 i = mb_0 i := lb_m0
  refine RG.congr (T := mb_0) ⟨lo_qE, fun i hi => ?_, fun i hi => ?_, fun i hi => ?_, fun i hi => ?_⟩ e
  · rw [lb_00 (by omega)]; rfl
  · rw [lb_06 (by omega) (by omega)]
    show lo_o 40 i = -6
    rw [lo_oE, if_pos hi]
  · rw [lb_00 (by omega)]; rfl
  · rw [lb_00 (by omega)]; rfl
theorem lo_J : mb_J 0 0 (mm_0 20 0) := lb_J0.congr lb_m0
theorem lo_K : KD (mm_0 20 0) 0 := by
  intro p hp
  refine ⟨0, ?_, by omega, fun q hq => ?_⟩
  · show mm_0 20 0 (51 + 6 * p + 4) = nI 0
    rw [show mm_0 20 0 (51 + 6 * p + 4) = mb_0 (51 + 6 * p + 4) from lb_m0 _ (by omega), lb_00 (by omega)]
    rfl
  · rw [show mm_0 20 0 (75 + 4 * p + q) = mb_0 (75 + 4 * p + q) from lb_m0 _ (by omega), lb_00 (by omega), Int32.toInt_zero]
    omega
set_option maxRecDepth 100000 in
set_option maxHeartbeats 4000000 in
theorem wl_fill (C : lw_C p s m meth c bs) (hK : va_K (dC, dI) vwCl [(cI, .int), (cB, .object "DiceRoads$Board")] s) (hX : va_X bs L xs s s.heap) (hbl : bs < s.heap.size) {t1 t2 t3 : Nat} (hF : sn_W t1 t2 t3 (fun q => s.heap.size ≤ q) s s.heap) {cells slots : Nat}
    (kk : ∀ (H : Heap) (locs : List Loc) (ls : Array Slot), gd_W (dC, dI) (fun q => s.heap.size ≤ q) s (gY cI cB b (xs_0, lo_Z 40, lo_N)).flatten H locs → lv_has ls 19 [(12, .int (nI 0)), (0, .ref bs), (1, .ref (b 0 0)), (2, .ref (b 16 0)), (3, .ref (b 16 1)), (4, .ref (b 16 2)), (5, .ref (b 16 3)), (6, .ref (b 16 4)), (7, .ref (b 17 0)), (8, .ref (b 17 1)), (9, .ref (b 17 2)), (10, .ref (b 17 3)), (11, .ref (b 17 4))] → W p l e room_1 s m #[.ref bs] below meth c H locs cells slots Q (F0 m 120 ls [])) :
    ∀ (n k : Nat) (H : Heap) (locs : List Loc) (ls : Array Slot), k + n = 40 → gd_W (dC, dI) (fun q => s.heap.size ≤ q) s (gY cI cB b (xs_0, lo_Z k, lo_N)).flatten H locs → lv_has ls 19 [(12, .int (nI k)), (0, .ref bs), (1, .ref (b 0 0)), (2, .ref (b 16 0)), (3, .ref (b 16 1)), (4, .ref (b 16 2)), (5, .ref (b 16 3)), (6, .ref (b 16 4)), (7, .ref (b 17 0)), (8, .ref (b 17 1)), (9, .ref (b 17 2)), (10, .ref (b 17 3)), (11, .ref (b 17 4))] → W p l e room_1 s m #[.ref bs] below meth c H locs cells slots Q (F0 m 97 ls [])
  | 0, k, H, locs, ls, hk, hG, hl => by
    obtain ⟨hx, hb, hts, hown, hml⟩ := id C
    have e40 : k = 40 := by omega
    subst e40
    refine lv_iload hx hb dL_law_97 (lv_at hl 0 rfl) ?_
    refine lv_bipush (v := (40 : Int32)) hx hb dL_law_99 (by decide) ?_
    refine lv_icmp_ge (tgt := 117) hx hb dL_law_101 (by decide) (fun hc1 => ?_) (fun hc1 => ?_)
    · refine lv_iconst (v := nI 0) hx hb dL_law_117 (by decide) ?_
      refine lv_istore (lv' := [(12, .int (nI 0)), (0, .ref bs), (1, .ref (b 0 0)), (2, .ref (b 16 0)), (3, .ref (b 16 1)), (4, .ref (b 16 2)), (5, .ref (b 16 3)), (6, .ref (b 16 4)), (7, .ref (b 17 0)), (8, .ref (b 17 1)), (9, .ref (b 17 2)), (10, .ref (b 17 3)), (11, .ref (b 17 4))]) hx hb dL_law_118 hl (by decide) rfl (fun ls hl => ?_)
      exact kk H locs ls hG hl
    · exact absurd (show (40 : Int32) ≤ nI 40 from nI_le (a := 40) (by omega) (by omega)) hc1
  | n + 1, k, H, locs, ls, hk, hG, hl => by
    obtain ⟨hx, hb, hts, hown, hml⟩ := id C
    refine lv_iload hx hb dL_law_97 (lv_at hl 0 rfl) ?_
    refine lv_bipush (v := (40 : Int32)) hx hb dL_law_99 (by decide) ?_
    refine lv_icmp_ge (tgt := 117) hx hb dL_law_101 (by decide) (fun hc1 => ?_) (fun hc1 => ?_)
    · exact absurd hc1 (show ¬ (40 : Int32) ≤ nI k from nI_ge (b := 40) (by omega) (by omega))
    · refine lv_aload hx hb dL_law_104 (lv_at hl 5 rfl) ?_
      refine lv_iload hx hb dL_law_106 (lv_at hl 0 rfl) ?_
      refine lv_bipush (v := (-6 : Int32)) hx hb dL_law_108 (by decide) ?_
      refine va_iast hx hb hK hG.1 hG.2.1 hG.2.2 2 0 rfl rfl (vp_in_nI (n := k) (N := 40) (by omega) (by omega)) dL_law_110 (fun H locs hP9 hD9 hS9 => ?_)
      rw [nI_clamp (show k < 2 ^ 31 by omega)] at hP9 hD9
      have hG : gd_W (dC, dI) (fun q => s.heap.size ≤ q) s (gY cI cB b (xs_0, lo_Z (k + 1), lo_N)).flatten H locs := ⟨hP9, hD9, hS9⟩
      refine lv_iinc (v := nI (k + 1)) (lv' := [(12, .int (nI (k + 1))), (0, .ref bs), (1, .ref (b 0 0)), (2, .ref (b 16 0)), (3, .ref (b 16 1)), (4, .ref (b 16 2)), (5, .ref (b 16 3)), (6, .ref (b 16 4)), (7, .ref (b 17 0)), (8, .ref (b 17 1)), (9, .ref (b 17 2)), (10, .ref (b 17 3)), (11, .ref (b 17 4))]) hx hb dL_law_111 hl (k := 0) rfl (nI_1 k) (by decide) rfl (fun ls hl => ?_)
      refine lv_goto (tgt := 97) hx hb dL_law_114 (by decide) ?_
      exact wl_fill C hK hX hbl hF kk n (k + 1) H locs ls (by omega) hG hl
end LAWLOOP
/-! ## the law: its start -/
theorem lw_Kc {args : Array Value} {s : State} (hts : ∀ w ∈ bg_L, w.before args s = true) : ∃ (dC : Nat → ClassId) (dI : Nat → Nat → Nat), ∀ (k : Nat) (q : vw_C), vwCl[k]? = some q → u_Kn s q.1 q.2.1 q.2.2 (dC k) (dI k) := by
  obtain ⟨c0, i0, k0⟩ := u_known (C := RX0) (T := TX0) (N := 15) hts inlX0 (hts _ wr_28)
  obtain ⟨c1, i1, k1⟩ := u_known (C := RX1) (T := TX1) (N := 3) hts inlX1 (hts _ wr_64)
  obtain ⟨c2, i2, k2⟩ := u_known (C := RX2) (T := TX2) (N := 3) hts inlX2 (hts _ wr_137)
  obtain ⟨c3, i3, k3⟩ := u_known (C := RX3) (T := TX3) (N := 3) hts inlX3 (hts _ wr_156)
  obtain ⟨c4, i4, k4⟩ := u_known (C := RX5) (T := TX5) (N := 2) hts inlX5 (hts _ wr_34)
  obtain ⟨c5, i5, k5⟩ := u_known (C := RX6) (T := TX6) (N := 2) hts inlX6 (hts _ wr_40)
  obtain ⟨c6, i6, k6⟩ := u_known (C := RX7) (T := TX7) (N := 6) hts inlX7 (hts _ wr_20)
  refine ⟨fun k => match k with | 0 => c0 | 1 => c1 | 2 => c2 | 3 => c3 | 4 => c4 | 5 => c5 | _ => c6, fun k => match k with | 0 => i0 | 1 => i1 | 2 => i2 | 3 => i3 | 4 => i4 | 5 => i5 | _ => i6, fun k q hq => ?_⟩
  match k, hq with
  | 0, hq => cases hq; exact k0
  | 1, hq => cases hq; exact k1
  | 2, hq => cases hq; exact k2
  | 3, hq => cases hq; exact k3
  | 4, hq => cases hq; exact k4
  | 5, hq => cases hq; exact k5
  | 6, hq => cases hq; exact k6
  | k + 7, hq => simp at hq
def lo_b (b0 : Nat → Nat → Nat) (a1 a2 : Nat → Nat) : Nat → Nat → Nat := fun g i => if g = 16 then a1 i else if g = 17 then a2 i else b0 g i
def lo_a (q0 q1 q2 q3 q4 : Nat) : Nat → Nat := fun i => match i with | 0 => q0 | 1 => q1 | 2 => q2 | 3 => q3 | _ => q4
abbrev lo_R (cI : ClassId) (b : Nat → Nat → Nat) : List va_W := [wd_L cI (b 3) 80 (xs_0 3), wd_L cI (b 4) 44 (xs_0 4), wd_B cI (b 5) (xs_0 5), wd_B cI (b 6) (xs_0 6), wd_B cI (b 7) (xs_0 7), wd_B cI (b 8) (xs_0 8), wd_B cI (b 9) (xs_0 9), wd_B cI (b 10) (xs_0 10), wd_B cI (b 11) (xs_0 11), wd_B cI (b 12) (xs_0 12), wd_B cI (b 13) (xs_0 13), sl_w cI (xs_0 1 0 0) (b 14) (xs_0 14), sl_w cI (xs_0 1 0 1) (b 15) (xs_0 15)]
theorem lo_bn {b0 : Nat → Nat → Nat} {a1 a2 : Nat → Nat} {g : Nat} (h : g < 16) : lo_b b0 a1 a2 g = b0 g := by
  funext i
  unfold lo_b
  rw [if_neg (by omega), if_neg (by omega)]
theorem lo_Rb {cI : ClassId} {b0 : Nat → Nat → Nat} {a1 a2 : Nat → Nat} : lo_R cI (lo_b b0 a1 a2) = lo_R cI b0 := by
  unfold lo_R
  rw [lo_bn (by omega), lo_bn (by omega), lo_bn (by omega), lo_bn (by omega), lo_bn (by omega), lo_bn (by omega), lo_bn (by omega), lo_bn (by omega), lo_bn (by omega), lo_bn (by omega), lo_bn (by omega), lo_bn (by omega), lo_bn (by omega)]
theorem lo_gX {cI cB : ClassId} {b : Nat → Nat → Nat} : (gX cI cB b xs_0).flatten = [(b 0 0, .inr (6, [.ref (b 5 0), .ref (b 6 0), .ref (b 2 0), .ref (b 1 0), .ref (b 3 0), .ref (b 4 0)])), (b 1 0, .inl (cB, (2, .inr (.inr (.inr (.inr (fun k => match k with | 0 => sl_r (xs_0 1 0 0) (b 14 0) | _ => sl_r (xs_0 1 0 1) (b 15 0)))))))), (b 2 0, .inr (2, [.ref (b 2 1), .int (xs_0 2 0 0), .int (xs_0 2 0 1)]))] ++ (b 2 1, .inl (cB, (7, .inr (.inr (.inr (.inr (fun k => some (b (7 + k) 0)))))))) :: (lo_R cI b).flatten := rfl
theorem lo_gXb {D : va_G} {A : Nat → Prop} {s : State} {cI cB : ClassId} {b0 : Nat → Nat → Nat} {a1 a2 : Nat → Nat} {ws : va_W} {H : Heap} {locs : List Loc} (hG : gd_W D A s (ws ++ (gX cI cB b0 xs_0).flatten) H locs) : gd_W D A s (ws ++ (gX cI cB (lo_b b0 a1 a2) xs_0).flatten) H locs := by
  rw [lo_gX, ← List.append_assoc] at hG
  rw [lo_gX, ← List.append_assoc]
  rw [lo_Rb, lo_bn (show 0 < 16 by omega), lo_bn (show 1 < 16 by omega), lo_bn (show 2 < 16 by omega), lo_bn (show 3 < 16 by omega), lo_bn (show 4 < 16 by omega), lo_bn (show 5 < 16 by omega), lo_bn (show 6 < 16 by omega), lo_bn (show 14 < 16 by omega), lo_bn (show 15 < 16 by omega)]
  exact gd_refs (f := fun k => some (b0 (7 + k) 0)) (g := fun k => some (lo_b b0 a1 a2 (7 + k) 0)) (n := 7) (fun j hj => by rw [lo_bn (show 7 + j < 16 by omega)]) hG
set_option maxRecDepth 100000 in
set_option maxHeartbeats 4000000 in
/-- from the entry, for every script of at most 260 ints, the law comes to its end with true -/
theorem whole_start {p : Program} {e : Env} {s : State} {m : MethodId} {below : List Frame} {meth : Method} {c : Code} (l : Launch) (hflags : l.flags = flags0) {b L : Nat} {xs : Nat → Int32} (hL : L ≤ 260) (C0 : lw_At p s m meth c b L xs) : W p l e room_1 s m #[Value.ref b] below meth c s.heap [] 0 0 (lw_Z below #[Value.ref b] s) (entryFrame m ([Value.ref b] : List Value).toArray 19) := by
  obtain ⟨hx, hb, hr, hml, hown0, hts0, hX, hbl, hlocks, hg⟩ := C0
  have hts : ∀ w ∈ bg_L, w.before #[Value.ref b] s = true := fun w hw => hts0 w (bg_tbl hw)
  have hown : s.vm.findClass RL = some m.cls := hown0
  obtain ⟨dC, dI, hKc⟩ := lw_Kc hts
  obtain ⟨cI, cB, hK⟩ := st_K (dC := dC) (dI := dI) hts0 hKc
  obtain ⟨t1, t2, t3, hF⟩ := st_F hg hts0
  have hO := st_O (s := s) hts0
  have hA : ∀ q, s.heap.size ≤ q → (fun q => s.heap.size ≤ q) q := fun _ h => h
  have hl := lv_entry ([.ref b] : List Value) (n := 19) (Nat.le_of_ble_eq_true rfl)
  rw [lg_entry_eq]
  generalize (lg_sl ([.ref b] : List Value) ++ List.replicate (19 - (lg_sl ([.ref b] : List Value)).length) Slot.unset).toArray = ls at hl ⊢
  have hl : lv_has ls 19 [(0, .ref b)] := hl
  have hG : gd_W (dC, dI) (fun q => s.heap.size ≤ q) s [] s.heap [] := ⟨fun k q h => by simp at h, ⟨fun i j p q h => by simp at h, fun k q h => by simp at h⟩, va_S.rf⟩
  refine va_new (ci := 6) (fs := [.null, .null, .null, .null, .null, .null]) (C := RX7) (T := TX7) (N := 6) hx hb hts inlX7 tyX7 tyX7_ok hown (hts _ wr_19) (hts _ wr_20) (hts _ wr_11) hK hG.1 hG.2.1 hG.2.2 hA rfl (fun j hj => by rcases (show j = 0 ∨ j = 1 ∨ j = 2 ∨ j = 3 ∨ j = 4 ∨ j = 5 by omega) with rfl | rfl | rfl | rfl | rfl | rfl <;> rfl) (Nat.le_of_ble_eq_true rfl) (Nat.le_of_ble_eq_true rfl) dL_law_0 (fun o H hP9 hD9 hS9 => ?_)
  have hG : gd_W (dC, dI) (fun q => s.heap.size ≤ q) s ([] ++ [(o, .inr (6, [.null, .null, .null, .null, .null, .null]))]) H _ := ⟨hP9, hD9, hS9⟩
  refine lv_dup hx hb dL_law_3 rfl ?_
  refine gk_B (q := o) (As := []) (rest := [.ref o]) (ws := []) (w1 := fun b => (gX cI cB b xs_0).flatten) ⟨hx, hb, hml, hown, hts⟩ hF hO (c7_init l) (cwI 0 hts (gb_I wr_23) rfl rfl rfl (hts _ wr_11) (hts _ wr_21) (hts _ wr_22) rfl (by decide +kernel) ⟨Nat.le_of_ble_eq_true rfl, Nat.le_of_ble_eq_true rfl⟩) hK [0, 1] rfl hA hG rfl hl.1 rfl (Nat.le_of_ble_eq_true rfl) dL_law_4 ⟨Nat.le_of_ble_eq_true rfl, Nat.le_of_ble_eq_true rfl⟩ (fun b0 H locs hb0 hG => ?_)
  refine lv_astore_n (lv' := [(1, .ref o), (0, .ref b)]) hx hb dL_law_7 rfl hl (by decide) rfl (fun ls hl => ?_)
  have hG : gd_W (dC, dI) (fun q => s.heap.size ≤ q) s (gX cI cB b0 xs_0).flatten H locs := hG
  generalize hFl : (gX cI cB b0 xs_0).flatten = F at hG
  refine lv_bipush (v := (11 : Int32)) hx hb dL_law_8 (by decide) ?_
  refine gn_newa (N' := 11) hx hb (hts _ wr_55) hK hA hG (by decide) (by decide) (by decide) (Nat.le_of_ble_eq_true rfl) (Nat.le_of_ble_eq_true rfl) dL_law_10 (fun q0 H hG => ?_)
  refine lv_astore_n (lv' := [(2, .ref q0), (1, .ref o), (0, .ref b)]) hx hb dL_law_12 rfl hl (by decide) rfl (fun ls hl => ?_)
  refine lv_bipush (v := (24 : Int32)) hx hb dL_law_13 (by decide) ?_
  refine gn_newa (N' := 24) hx hb (hts _ wr_55) hK hA hG (by decide) (by decide) (by decide) (Nat.le_of_ble_eq_true rfl) (Nat.le_of_ble_eq_true rfl) dL_law_15 (fun q1 H hG => ?_)
  refine lv_astore_n (lv' := [(3, .ref q1), (2, .ref q0), (1, .ref o), (0, .ref b)]) hx hb dL_law_17 rfl hl (by decide) rfl (fun ls hl => ?_)
  refine lv_bipush (v := (40 : Int32)) hx hb dL_law_18 (by decide) ?_
  refine gn_newa (N' := 40) hx hb (hts _ wr_55) hK hA hG (by decide) (by decide) (by decide) (Nat.le_of_ble_eq_true rfl) (Nat.le_of_ble_eq_true rfl) dL_law_20 (fun q2 H hG => ?_)
  refine lv_astore (lv' := [(4, .ref q2), (3, .ref q1), (2, .ref q0), (1, .ref o), (0, .ref b)]) hx hb dL_law_22 hl (by decide) rfl (fun ls hl => ?_)
  refine lv_bipush (v := (16 : Int32)) hx hb dL_law_24 (by decide) ?_
  refine gn_newa (N' := 16) hx hb (hts _ wr_55) hK hA hG (by decide) (by decide) (by decide) (Nat.le_of_ble_eq_true rfl) (Nat.le_of_ble_eq_true rfl) dL_law_26 (fun q3 H hG => ?_)
  refine lv_astore (lv' := [(5, .ref q3), (4, .ref q2), (3, .ref q1), (2, .ref q0), (1, .ref o), (0, .ref b)]) hx hb dL_law_28 hl (by decide) rfl (fun ls hl => ?_)
  refine lv_bipush (v := (16 : Int32)) hx hb dL_law_30 (by decide) ?_
  refine gn_newa (N' := 16) hx hb (hts _ wr_55) hK hA hG (by decide) (by decide) (by decide) (Nat.le_of_ble_eq_true rfl) (Nat.le_of_ble_eq_true rfl) dL_law_32 (fun q4 H hG => ?_)
  refine lv_astore (lv' := [(6, .ref q4), (5, .ref q3), (4, .ref q2), (3, .ref q1), (2, .ref q0), (1, .ref o), (0, .ref b)]) hx hb dL_law_34 hl (by decide) rfl (fun ls hl => ?_)
  refine lv_bipush (v := (11 : Int32)) hx hb dL_law_36 (by decide) ?_
  refine gn_newa (N' := 11) hx hb (hts _ wr_55) hK hA hG (by decide) (by decide) (by decide) (Nat.le_of_ble_eq_true rfl) (Nat.le_of_ble_eq_true rfl) dL_law_38 (fun q5 H hG => ?_)
  refine lv_astore (lv' := [(7, .ref q5), (6, .ref q4), (5, .ref q3), (4, .ref q2), (3, .ref q1), (2, .ref q0), (1, .ref o), (0, .ref b)]) hx hb dL_law_40 hl (by decide) rfl (fun ls hl => ?_)
  refine lv_bipush (v := (24 : Int32)) hx hb dL_law_42 (by decide) ?_
  refine gn_newa (N' := 24) hx hb (hts _ wr_55) hK hA hG (by decide) (by decide) (by decide) (Nat.le_of_ble_eq_true rfl) (Nat.le_of_ble_eq_true rfl) dL_law_44 (fun q6 H hG => ?_)
  refine lv_astore (lv' := [(8, .ref q6), (7, .ref q5), (6, .ref q4), (5, .ref q3), (4, .ref q2), (3, .ref q1), (2, .ref q0), (1, .ref o), (0, .ref b)]) hx hb dL_law_46 hl (by decide) rfl (fun ls hl => ?_)
  refine lv_bipush (v := (40 : Int32)) hx hb dL_law_48 (by decide) ?_
  refine gn_newa (N' := 40) hx hb (hts _ wr_55) hK hA hG (by decide) (by decide) (by decide) (Nat.le_of_ble_eq_true rfl) (Nat.le_of_ble_eq_true rfl) dL_law_50 (fun q7 H hG => ?_)
  refine lv_astore (lv' := [(9, .ref q7), (8, .ref q6), (7, .ref q5), (6, .ref q4), (5, .ref q3), (4, .ref q2), (3, .ref q1), (2, .ref q0), (1, .ref o), (0, .ref b)]) hx hb dL_law_52 hl (by decide) rfl (fun ls hl => ?_)
  refine lv_bipush (v := (16 : Int32)) hx hb dL_law_54 (by decide) ?_
  refine gn_newa (N' := 16) hx hb (hts _ wr_55) hK hA hG (by decide) (by decide) (by decide) (Nat.le_of_ble_eq_true rfl) (Nat.le_of_ble_eq_true rfl) dL_law_56 (fun q8 H hG => ?_)
  refine lv_astore (lv' := [(10, .ref q8), (9, .ref q7), (8, .ref q6), (7, .ref q5), (6, .ref q4), (5, .ref q3), (4, .ref q2), (3, .ref q1), (2, .ref q0), (1, .ref o), (0, .ref b)]) hx hb dL_law_58 hl (by decide) rfl (fun ls hl => ?_)
  refine lv_bipush (v := (16 : Int32)) hx hb dL_law_60 (by decide) ?_
  refine gn_newa (N' := 16) hx hb (hts _ wr_55) hK hA hG (by decide) (by decide) (by decide) (Nat.le_of_ble_eq_true rfl) (Nat.le_of_ble_eq_true rfl) dL_law_62 (fun q9 H hG => ?_)
  refine lv_astore (lv' := [(11, .ref q9), (10, .ref q8), (9, .ref q7), (8, .ref q6), (7, .ref q5), (6, .ref q4), (5, .ref q3), (4, .ref q2), (3, .ref q1), (2, .ref q0), (1, .ref o), (0, .ref b)]) hx hb dL_law_64 hl (by decide) rfl (fun ls hl => ?_)
  simp only [List.append_assoc, List.cons_append, List.nil_append] at hG
  have hG := gd_perm (List.perm_append_comm (l₁ := F) (l₂ := [(q0, .inl (cI, (11, .inl (fun _ => 0)))), (q1, .inl (cI, (24, .inl (fun _ => 0)))), (q2, .inl (cI, (40, .inl (fun _ => 0)))), (q3, .inl (cI, (16, .inl (fun _ => 0)))), (q4, .inl (cI, (16, .inl (fun _ => 0)))), (q5, .inl (cI, (11, .inl (fun _ => 0)))), (q6, .inl (cI, (24, .inl (fun _ => 0)))), (q7, .inl (cI, (40, .inl (fun _ => 0)))), (q8, .inl (cI, (16, .inl (fun _ => 0)))), (q9, .inl (cI, (16, .inl (fun _ => 0))))])) hG
  rw [← hFl] at hG
  have hG := lo_gXb (a1 := lo_a q0 q1 q2 q3 q4) (a2 := lo_a q5 q6 q7 q8 q9) hG
  generalize hbb : lo_b b0 (lo_a q0 q1 q2 q3 q4) (lo_a q5 q6 q7 q8 q9) = bb at hG
  have e0 : bb 0 0 = o := by rw [← hbb, lo_bn (by omega)]; exact hb0
  have e1 : q0 = bb 16 0 := by rw [← hbb]; rfl
  have e2 : q1 = bb 16 1 := by rw [← hbb]; rfl
  have e3 : q2 = bb 16 2 := by rw [← hbb]; rfl
  have e4 : q3 = bb 16 3 := by rw [← hbb]; rfl
  have e5 : q4 = bb 16 4 := by rw [← hbb]; rfl
  have e6 : q5 = bb 17 0 := by rw [← hbb]; rfl
  have e7 : q6 = bb 17 1 := by rw [← hbb]; rfl
  have e8 : q7 = bb 17 2 := by rw [← hbb]; rfl
  have e9 : q8 = bb 17 3 := by rw [← hbb]; rfl
  have e10 : q9 = bb 17 4 := by rw [← hbb]; rfl
  rw [← e0] at hl
  have hl : lv_has ls 19 [(11, .ref (bb 17 4)), (10, .ref (bb 17 3)), (9, .ref (bb 17 2)), (8, .ref (bb 17 1)), (7, .ref (bb 17 0)), (6, .ref (bb 16 4)), (5, .ref (bb 16 3)), (4, .ref (bb 16 2)), (3, .ref (bb 16 1)), (2, .ref (bb 16 0)), (1, .ref (bb 0 0)), (0, .ref b)] := by
    rw [← e1, ← e2, ← e3, ← e4, ← e5, ← e6, ← e7, ← e8, ← e9, ← e10]
    exact hl
  rw [e1, e2, e3, e4, e5, e6, e7, e8, e9, e10] at hG
  have hG : gd_W (dC, dI) (fun q => s.heap.size ≤ q) s (gY cI cB bb (xs_0, fun _ _ => 0, lo_N)).flatten H locs := by
    have e : (gY cI cB bb (xs_0, fun _ _ => 0, lo_N)).flatten = [(bb 16 0, .inl (cI, (11, .inl (fun _ => 0)))), (bb 16 1, .inl (cI, (24, .inl (fun _ => 0)))), (bb 16 2, .inl (cI, (40, .inl (fun _ => 0)))), (bb 16 3, .inl (cI, (16, .inl (fun _ => 0)))), (bb 16 4, .inl (cI, (16, .inl (fun _ => 0)))), (bb 17 0, .inl (cI, (11, .inl (fun _ => 0)))), (bb 17 1, .inl (cI, (24, .inl (fun _ => 0)))), (bb 17 2, .inl (cI, (40, .inl (fun _ => 0)))), (bb 17 3, .inl (cI, (16, .inl (fun _ => 0)))), (bb 17 4, .inl (cI, (16, .inl (fun _ => 0))))] ++ (gX cI cB bb xs_0).flatten := by
      show wd_G cI (bb 16) (fun _ _ => 0) ++ (wd_G cI (bb 17) lo_N ++ ((gX cI cB bb xs_0).flatten ++ [])) = _
      rw [List.append_nil]
      rfl
    rw [e]
    exact hG
  refine lv_aload_n hx hb dL_law_66 rfl (lv_at hl 9 rfl) ?_
  refine lv_iconst (v := nI 0) hx hb dL_law_67 (by decide) ?_
  refine lv_bipush (v := (20 : Int32)) hx hb dL_law_68 (by decide) ?_
  refine va_iast hx hb hK hG.1 hG.2.1 hG.2.2 0 0 rfl rfl (vp_in_nI (n := 0) (N := 11) (by omega) (by omega)) dL_law_70 (fun H locs hP9 hD9 hS9 => ?_)
  rw [nI_clamp (show 0 < 2 ^ 31 by omega)] at hP9 hD9
  have hG : gd_W (dC, dI) (fun q => s.heap.size ≤ q) s (gY cI cB bb (xs_0, (fun j => match j with | 0 => (upd (fun _ => 0) 0 20) | _ => fun _ => 0), lo_N)).flatten H locs := ⟨hP9, hD9, hS9⟩
  refine lv_aload_n hx hb dL_law_71 rfl (lv_at hl 9 rfl) ?_
  refine lv_iconst (v := nI 1) hx hb dL_law_72 (by decide) ?_
  refine lv_bipush (v := (15 : Int32)) hx hb dL_law_73 (by decide) ?_
  refine va_iast hx hb hK hG.1 hG.2.1 hG.2.2 0 0 rfl rfl (vp_in_nI (n := 1) (N := 11) (by omega) (by omega)) dL_law_75 (fun H locs hP9 hD9 hS9 => ?_)
  rw [nI_clamp (show 1 < 2 ^ 31 by omega)] at hP9 hD9
  have hG : gd_W (dC, dI) (fun q => s.heap.size ≤ q) s (gY cI cB bb (xs_0, (fun j => match j with | 0 => (upd (upd (fun _ => 0) 0 20) 1 15) | _ => fun _ => 0), lo_N)).flatten H locs := ⟨hP9, hD9, hS9⟩
  refine lv_aload_n hx hb dL_law_76 rfl (lv_at hl 9 rfl) ?_
  refine lv_iconst (v := nI 2) hx hb dL_law_77 (by decide) ?_
  refine lv_bipush (v := (6 : Int32)) hx hb dL_law_78 (by decide) ?_
  refine va_iast hx hb hK hG.1 hG.2.1 hG.2.2 0 0 rfl rfl (vp_in_nI (n := 2) (N := 11) (by omega) (by omega)) dL_law_80 (fun H locs hP9 hD9 hS9 => ?_)
  rw [nI_clamp (show 2 < 2 ^ 31 by omega)] at hP9 hD9
  have hG : gd_W (dC, dI) (fun q => s.heap.size ≤ q) s (gY cI cB bb (xs_0, (fun j => match j with | 0 => (upd (upd (upd (fun _ => 0) 0 20) 1 15) 2 6) | _ => fun _ => 0), lo_N)).flatten H locs := ⟨hP9, hD9, hS9⟩
  refine lv_aload_n hx hb dL_law_81 rfl (lv_at hl 9 rfl) ?_
  refine lv_iconst (v := nI 3) hx hb dL_law_82 (by decide) ?_
  refine lv_iconst (v := (3 : Int32)) hx hb dL_law_83 (by decide) ?_
  refine va_iast hx hb hK hG.1 hG.2.1 hG.2.2 0 0 rfl rfl (vp_in_nI (n := 3) (N := 11) (by omega) (by omega)) dL_law_84 (fun H locs hP9 hD9 hS9 => ?_)
  rw [nI_clamp (show 3 < 2 ^ 31 by omega)] at hP9 hD9
  have hG : gd_W (dC, dI) (fun q => s.heap.size ≤ q) s (gY cI cB bb (xs_0, (fun j => match j with | 0 => (upd (upd (upd (upd (fun _ => 0) 0 20) 1 15) 2 6) 3 3) | _ => fun _ => 0), lo_N)).flatten H locs := ⟨hP9, hD9, hS9⟩
  refine lv_aload_n hx hb dL_law_85 rfl (lv_at hl 9 rfl) ?_
  refine lv_iconst (v := nI 4) hx hb dL_law_86 (by decide) ?_
  refine lv_iconst (v := (4 : Int32)) hx hb dL_law_87 (by decide) ?_
  refine va_iast hx hb hK hG.1 hG.2.1 hG.2.2 0 0 rfl rfl (vp_in_nI (n := 4) (N := 11) (by omega) (by omega)) dL_law_88 (fun H locs hP9 hD9 hS9 => ?_)
  rw [nI_clamp (show 4 < 2 ^ 31 by omega)] at hP9 hD9
  have hG : gd_W (dC, dI) (fun q => s.heap.size ≤ q) s (gY cI cB bb (xs_0, (fun j => match j with | 0 => (upd (upd (upd (upd (upd (fun _ => 0) 0 20) 1 15) 2 6) 3 3) 4 4) | _ => fun _ => 0), lo_N)).flatten H locs := ⟨hP9, hD9, hS9⟩
  refine lv_aload_n hx hb dL_law_89 rfl (lv_at hl 9 rfl) ?_
  refine lv_bipush (v := nI 8) hx hb dL_law_90 (by decide) ?_
  refine lv_iconst (v := (1 : Int32)) hx hb dL_law_92 (by decide) ?_
  refine va_iast hx hb hK hG.1 hG.2.1 hG.2.2 0 0 rfl rfl (vp_in_nI (n := 8) (N := 11) (by omega) (by omega)) dL_law_93 (fun H locs hP9 hD9 hS9 => ?_)
  rw [nI_clamp (show 8 < 2 ^ 31 by omega)] at hP9 hD9
  have hG : gd_W (dC, dI) (fun q => s.heap.size ≤ q) s (gY cI cB bb (xs_0, (fun j => match j with | 0 => (upd (upd (upd (upd (upd (upd (fun _ => 0) 0 20) 1 15) 2 6) 3 3) 4 4) 8 1) | _ => fun _ => 0), lo_N)).flatten H locs := ⟨hP9, hD9, hS9⟩
  refine lv_iconst (v := nI 0) hx hb dL_law_94 (by decide) ?_
  refine lv_istore (lv' := [(12, .int (nI 0)), (11, .ref (bb 17 4)), (10, .ref (bb 17 3)), (9, .ref (bb 17 2)), (8, .ref (bb 17 1)), (7, .ref (bb 17 0)), (6, .ref (bb 16 4)), (5, .ref (bb 16 3)), (4, .ref (bb 16 2)), (3, .ref (bb 16 1)), (2, .ref (bb 16 0)), (1, .ref (bb 0 0)), (0, .ref b)]) hx hb dL_law_95 hl (by decide) rfl (fun ls hl => ?_)
  have hG : gd_W (dC, dI) (fun q => s.heap.size ≤ q) s (gY cI cB bb (xs_0, lo_Z 0, lo_N)).flatten H locs := hG
  have C : lw_C p s m meth c b := ⟨hx, hb, hts, hown, hml⟩
  refine wl_fill C hK hX hbl hF (fun H locs ls hG hl => ?_) 40 0 H locs ls (by omega) hG (lv_sub hl [0, 12, 11, 10, 9, 8, 7, 6, 5, 4, 3, 2, 1] rfl)
  refine wl_loop C hK hX hbl hF hL ?_ 24 0 xs_0 (mm_0 20) (lo_Z 40) lo_N 0 0 H locs ls _ _ (by omega) lb_RR0 lo_RG lo_J lo_K (by omega) (by omega) (Nat.le_of_ble_eq_true rfl) (Nat.le_of_ble_eq_true rfl) hG hl
  intro H locs ls cells slots hc hs hS
  refine lv_iconst (v := (1 : Int32)) hx hb dL_law_597 (by decide) ?_
  refine W.widen hc hs ?_
  refine va_forget (fun q hq => hS.2.2 q hq) ?_
  exact lw_ret hx hb hr hlocks dL_law_598
