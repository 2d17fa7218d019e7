/-! ## the law: its loop -/
theorem lw_out {x : Int32} (h0 : ¬ x = (0 : Int32)) (h1 : ¬ x = (1 : Int32)) (h2 : ¬ x = (2 : Int32)) (h3 : ¬ x = (3 : Int32)) (h4 : ¬ x = (4 : Int32)) (h5 : ¬ x = (5 : Int32)) (h6 : ¬ x = (6 : Int32)) (h7 : ¬ x = (7 : Int32)) (h8 : ¬ x = (8 : Int32)) (h9 : ¬ x = (9 : Int32)) (h10 : ¬ x = (10 : Int32)) (h11 : ¬ x = (11 : Int32)) (h12 : ¬ x = (12 : Int32)) (h13 : ¬ x = (13 : Int32)) (h14 : ¬ x = (14 : Int32)) (h15 : ¬ x = (15 : Int32)) (h16 : ¬ x = (16 : Int32)) (h17 : ¬ x = (17 : Int32)) (h18 : ¬ x = (18 : Int32)) (h19 : ¬ x = (19 : Int32)) (h20 : ¬ x = (20 : Int32)) : x.toInt < 0 ∨ 20 < x.toInt := by
  by_cases hlt : x.toInt < 0
  · exact Or.inl hlt
  · right
    obtain ⟨n, hn, e, ei⟩ := lb_nat (a := x) (by omega)
    by_cases hle : n ≤ 20
    · exfalso
      have : n = 0 ∨ n = 1 ∨ n = 2 ∨ n = 3 ∨ n = 4 ∨ n = 5 ∨ n = 6 ∨ n = 7 ∨ n = 8 ∨ n = 9 ∨ n = 10 ∨ n = 11 ∨ n = 12 ∨ n = 13 ∨ n = 14 ∨ n = 15 ∨ n = 16 ∨ n = 17 ∨ n = 18 ∨ n = 19 ∨ n = 20 := by omega
      rcases this with rfl | rfl | rfl | rfl | rfl | rfl | rfl | rfl | rfl | rfl | rfl | rfl | rfl | rfl | rfl | rfl | rfl | rfl | rfl | rfl | rfl
      · exact h0 e
      · exact h1 e
      · exact h2 e
      · exact h3 e
      · exact h4 e
      · exact h5 e
      · exact h6 e
      · exact h7 e
      · exact h8 e
      · exact h9 e
      · exact h10 e
      · exact h11 e
      · exact h12 e
      · exact h13 e
      · exact h14 e
      · exact h15 e
      · exact h16 e
      · exact h17 e
      · exact h18 e
      · exact h19 e
      · exact h20 e
    · omega
section LAWLOOP
variable {p : Program} {l : Launch} {e : Env} {s : State} {m : MethodId} {below : List Frame} {meth : Method} {c : Code} {dC : Nat → ClassId} {dI : Nat → Nat → Nat} {cI cB : ClassId} {bs L : Nat} {xs : Nat → Int32} {Q : State → Prop}
set_option maxRecDepth 100000 in
set_option maxHeartbeats 4000000 in
theorem wlaw_loop (C : lw_C p s m meth c bs) (hK : va_K (dC, dI) vwCl [(cI, .int), (cB, .object "DiceRoads$Board")] s) (hX : va_X bs L xs s s.heap) (hbl : bs < s.heap.size) {t1 t2 t3 : Nat} (hF : sn_W t1 t2 t3 (fun q => s.heap.size ≤ q) s s.heap) (hL : L ≤ 2048) {o : Nat} {a : Nat → Nat}
    (kend : ∀ (H : Heap) (locs : List Loc) (ls : Array Slot) (cells slots : Nat), cells ≤ room_1.cells → slots ≤ room_1.slots → va_S (fun q => s.heap.size ≤ q) s.heap H locs → W p l e room_1 s m #[.ref bs] below meth c H locs cells slots Q (F0 m 691 ls [])) :
    ∀ (n k : Nat) (b : Nat → Nat → Nat) (X : xs_T) (S : ms_T) (H : Heap) (locs : List Loc) (ls : Array Slot) (cells slots : Nat), L < 4 * k + 4 * n → 4 * k ≤ L → cells ≤ 262 + 27 * k → slots ≤ 2679 + 150 * k → b 0 0 = o → RR X S → gd_W (dC, dI) (fun q => s.heap.size ≤ q) s (gL cI cB b a X S).flatten H locs → lv_has ls 4 [(3, .int (nI (4 * k))), (2, .ref (a 0)), (1, .ref o), (0, .ref bs)] → W p l e room_1 s m #[.ref bs] below meth c H locs cells slots Q (F0 m 18 ls [])
  | 0, k, b, X, S, H, locs, ls, cells, slots, h, hk, hc, hs, hb0, hR, hG, hl => by omega
  | n + 1, k, b, X, S, H, locs, ls, cells, slots, h, hk, hc, hs, hb0, hR, hG, hl => by
    subst hb0
    obtain ⟨hx, hb, hts, hown, hml⟩ := id C
    have r1 : room_1.cells = 600000 := rfl
    have r2 : room_1.slots = 7302250 := rfl
    refine lv_iload_n hx hb dL_law_18 rfl (lv_at hl 0 rfl) ?_
    refine lv_aload_n hx hb dL_law_19 rfl (lv_at hl 3 rfl) ?_
    refine va_slen hx hb hX hbl (Nat.not_le.mpr hbl) hG.2.2 dL_law_20 ?_
    refine lv_iconst (v := (4 : Int32)) hx hb dL_law_21 (by decide) ?_
    refine lv_isub hx hb dL_law_22 ?_
    have eL : (Int32.ofNat L - (4 : Int32)).toInt = (L : Int) - 4 := by
      have e1 : (Int32.ofNat L).toInt = L := nI_toInt (n := L) (by omega)
      have e4 : (4 : Int32).toInt = 4 := rfl
      rw [lb_sub_toInt (by rw [e1, e4]; omega) (by rw [e1, e4]; omega), e1, e4]
    have ek : (nI (4 * k)).toInt = (4 * k : Nat) := nI_toInt (by omega)
    refine lv_icmp_gt (tgt := 691) hx hb dL_law_23 (by decide) (fun hc1 => ?_) (fun hc1 => ?_)
    · exact kend H locs ls cells slots (by omega) (by omega) hG.2.2
    · rw [lb_lt, eL, ek] at hc1
      have hk4 : 4 * k + 4 ≤ L := by omega
      refine lv_aload_n hx hb dL_law_26 rfl (lv_at hl 3 rfl) ?_
      refine lv_iload_n hx hb dL_law_27 rfl (lv_at hl 0 rfl) ?_
      refine gl_ld hx hb hX hbl (i := 4 * k) (by omega) hL hG.2.2 dL_law_28 rfl ?_
      refine lv_bipush (v := (31 : Int32)) hx hb dL_law_29 (by decide) ?_
      refine lv_iand hx hb dL_law_31 ?_
      have kk : ∀ (b' : Nat → Nat → Nat) (X' : xs_T) (S' : ms_T) (H1 : Heap) (locs1 : List Loc), b' 0 0 = b 0 0 → RR X' S' → gd_W (dC, dI) (fun q => s.heap.size ≤ q) s (gL cI cB b' a X' S').flatten H1 locs1 → W p l e room_1 s m #[.ref bs] below meth c H1 locs1 (cells + 27) (slots + 150) Q (F0 m 685 ls []) := by
        intro b' X' S' H1 locs1 hb' hR' hG'
        refine lv_iinc (k := 0) (v := nI (4 * (k + 1))) (lv' := [(3, .int (nI (4 * (k + 1)))), (2, .ref (a 0)), (1, .ref (b 0 0)), (0, .ref bs)]) hx hb dL_law_685 hl rfl (lb_add (4 * k) 4) (by decide) rfl (fun ls hl => ?_)
        refine lv_goto (tgt := 18) hx hb dL_law_688 (by decide) ?_
        exact wlaw_loop C hK hX hbl hF hL kend n (k + 1) b' X' S' H1 locs1 ls (cells + 27) (slots + 150) (by omega) (by omega) (by omega) (by omega) hb' hR' hG' hl
      have hf : cells + 27 ≤ room_1.cells ∧ slots + 150 ≤ room_1.slots := ⟨by omega, by omega⟩
      by_cases h0 : xs (4 * k) &&& 31 = (0 : Int32)
      · refine W.eq (g2 := F0 m 32 ls [.int (0 : Int32)]) (by rw [h0]) ?_
        refine lv_tableIn (tgt := 132) hx hb dL_law_32 (by decide) (by decide) rfl (by decide) ?_
        exact wlaw_0 C hK hX hbl hF hR hk4 hL hf hG hl kk
      by_cases h1 : xs (4 * k) &&& 31 = (1 : Int32)
      · refine W.eq (g2 := F0 m 32 ls [.int (1 : Int32)]) (by rw [h1]) ?_
        refine lv_tableIn (tgt := 165) hx hb dL_law_32 (by decide) (by decide) rfl (by decide) ?_
        exact wlaw_1 C hK hX hbl hF hR hk4 hL hf hG hl kk
      by_cases h2 : xs (4 * k) &&& 31 = (2 : Int32)
      · refine W.eq (g2 := F0 m 32 ls [.int (2 : Int32)]) (by rw [h2]) ?_
        refine lv_tableIn (tgt := 188) hx hb dL_law_32 (by decide) (by decide) rfl (by decide) ?_
        exact wlaw_2 C hK hX hbl hF hR hk4 hL hf hG hl kk
      by_cases h3 : xs (4 * k) &&& 31 = (3 : Int32)
      · refine W.eq (g2 := F0 m 32 ls [.int (3 : Int32)]) (by rw [h3]) ?_
        refine lv_tableIn (tgt := 211) hx hb dL_law_32 (by decide) (by decide) rfl (by decide) ?_
        exact wlaw_3 C hK hX hbl hF hR hk4 hL hf hG hl kk
      by_cases h4 : xs (4 * k) &&& 31 = (4 : Int32)
      · refine W.eq (g2 := F0 m 32 ls [.int (4 : Int32)]) (by rw [h4]) ?_
        refine lv_tableIn (tgt := 234) hx hb dL_law_32 (by decide) (by decide) rfl (by decide) ?_
        exact wlaw_4 C hK hX hbl hF hR hk4 hL hf hG hl kk
      by_cases h5 : xs (4 * k) &&& 31 = (5 : Int32)
      · refine W.eq (g2 := F0 m 32 ls [.int (5 : Int32)]) (by rw [h5]) ?_
        refine lv_tableIn (tgt := 257) hx hb dL_law_32 (by decide) (by decide) rfl (by decide) ?_
        exact wlaw_5 C hK hX hbl hF hR hk4 hL hf hG hl kk
      by_cases h6 : xs (4 * k) &&& 31 = (6 : Int32)
      · refine W.eq (g2 := F0 m 32 ls [.int (6 : Int32)]) (by rw [h6]) ?_
        refine lv_tableIn (tgt := 290) hx hb dL_law_32 (by decide) (by decide) rfl (by decide) ?_
        exact wlaw_6 C hK hX hbl hF hR hk4 hL hf hG hl kk
      by_cases h7 : xs (4 * k) &&& 31 = (7 : Int32)
      · refine W.eq (g2 := F0 m 32 ls [.int (7 : Int32)]) (by rw [h7]) ?_
        refine lv_tableIn (tgt := 323) hx hb dL_law_32 (by decide) (by decide) rfl (by decide) ?_
        exact wlaw_7 C hK hX hbl hF hR hk4 hL hf hG hl kk
      by_cases h8 : xs (4 * k) &&& 31 = (8 : Int32)
      · refine W.eq (g2 := F0 m 32 ls [.int (8 : Int32)]) (by rw [h8]) ?_
        refine lv_tableIn (tgt := 366) hx hb dL_law_32 (by decide) (by decide) rfl (by decide) ?_
        exact wlaw_8 C hK hX hbl hF hR hk4 hL hf hG hl kk
      by_cases h9 : xs (4 * k) &&& 31 = (9 : Int32)
      · refine W.eq (g2 := F0 m 32 ls [.int (9 : Int32)]) (by rw [h9]) ?_
        refine lv_tableIn (tgt := 389) hx hb dL_law_32 (by decide) (by decide) rfl (by decide) ?_
        exact wlaw_9 C hK hX hbl hF hR hk4 hL hf hG hl kk
      by_cases h10 : xs (4 * k) &&& 31 = (10 : Int32)
      · refine W.eq (g2 := F0 m 32 ls [.int (10 : Int32)]) (by rw [h10]) ?_
        refine lv_tableIn (tgt := 412) hx hb dL_law_32 (by decide) (by decide) rfl (by decide) ?_
        exact wlaw_10 C hK hX hbl hF hR hk4 hL hf hG hl kk
      by_cases h11 : xs (4 * k) &&& 31 = (11 : Int32)
      · refine W.eq (g2 := F0 m 32 ls [.int (11 : Int32)]) (by rw [h11]) ?_
        refine lv_tableIn (tgt := 445) hx hb dL_law_32 (by decide) (by decide) rfl (by decide) ?_
        exact wlaw_11 C hK hX hbl hF hR hk4 hL hf hG hl kk
      by_cases h12 : xs (4 * k) &&& 31 = (12 : Int32)
      · refine W.eq (g2 := F0 m 32 ls [.int (12 : Int32)]) (by rw [h12]) ?_
        refine lv_tableIn (tgt := 468) hx hb dL_law_32 (by decide) (by decide) rfl (by decide) ?_
        exact wlaw_12 C hK hX hbl hF hR hk4 hL hf hG hl kk
      by_cases h13 : xs (4 * k) &&& 31 = (13 : Int32)
      · refine W.eq (g2 := F0 m 32 ls [.int (13 : Int32)]) (by rw [h13]) ?_
        refine lv_tableIn (tgt := 501) hx hb dL_law_32 (by decide) (by decide) rfl (by decide) ?_
        exact wlaw_13 C hK hX hbl hF hR hk4 hL hf hG hl kk
      by_cases h14 : xs (4 * k) &&& 31 = (14 : Int32)
      · refine W.eq (g2 := F0 m 32 ls [.int (14 : Int32)]) (by rw [h14]) ?_
        refine lv_tableIn (tgt := 534) hx hb dL_law_32 (by decide) (by decide) rfl (by decide) ?_
        exact wlaw_14 C hK hX hbl hF hR hk4 hL hf hG hl kk
      by_cases h15 : xs (4 * k) &&& 31 = (15 : Int32)
      · refine W.eq (g2 := F0 m 32 ls [.int (15 : Int32)]) (by rw [h15]) ?_
        refine lv_tableIn (tgt := 587) hx hb dL_law_32 (by decide) (by decide) rfl (by decide) ?_
        exact wlaw_15 C hK hX hbl hF hR hk4 hL hf hG hl kk
      by_cases h16 : xs (4 * k) &&& 31 = (16 : Int32)
      · refine W.eq (g2 := F0 m 32 ls [.int (16 : Int32)]) (by rw [h16]) ?_
        refine lv_tableIn (tgt := 600) hx hb dL_law_32 (by decide) (by decide) rfl (by decide) ?_
        exact wlaw_16 C hK hX hbl hF hR hk4 hL hf hG hl kk
      by_cases h17 : xs (4 * k) &&& 31 = (17 : Int32)
      · refine W.eq (g2 := F0 m 32 ls [.int (17 : Int32)]) (by rw [h17]) ?_
        refine lv_tableIn (tgt := 613) hx hb dL_law_32 (by decide) (by decide) rfl (by decide) ?_
        exact wlaw_17 C hK hX hbl hF hR hk4 hL hf hG hl kk
      by_cases h18 : xs (4 * k) &&& 31 = (18 : Int32)
      · refine W.eq (g2 := F0 m 32 ls [.int (18 : Int32)]) (by rw [h18]) ?_
        refine lv_tableIn (tgt := 626) hx hb dL_law_32 (by decide) (by decide) rfl (by decide) ?_
        exact wlaw_18 C hK hX hbl hF hR hk4 hL hf hG hl kk
      by_cases h19 : xs (4 * k) &&& 31 = (19 : Int32)
      · refine W.eq (g2 := F0 m 32 ls [.int (19 : Int32)]) (by rw [h19]) ?_
        refine lv_tableIn (tgt := 639) hx hb dL_law_32 (by decide) (by decide) rfl (by decide) ?_
        exact wlaw_19 C hK hX hbl hF hR hk4 hL hf hG hl kk
      by_cases h20 : xs (4 * k) &&& 31 = (20 : Int32)
      · refine W.eq (g2 := F0 m 32 ls [.int (20 : Int32)]) (by rw [h20]) ?_
        refine lv_tableIn (tgt := 662) hx hb dL_law_32 (by decide) (by decide) rfl (by decide) ?_
        exact wlaw_20 C hK hX hbl hF hR hk4 hL hf hG hl kk
      refine lv_tableOut (tgt := 685) hx hb dL_law_32 (lw_out h0 h1 h2 h3 h4 h5 h6 h7 h8 h9 h10 h11 h12 h13 h14 h15 h16 h17 h18 h19 h20) (by decide) ?_
      exact W.widen (Nat.le_add_right _ _) (Nat.le_add_right _ _) (kk b X S H locs rfl hR hG)
end LAWLOOP
