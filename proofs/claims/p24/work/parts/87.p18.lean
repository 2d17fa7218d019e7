/-! ## would: the chain -/
section WOULD4
variable {Y : ys_T} {T : Nat → Int32} {v12 v17 v19 v20 : Int32} {rec370 : Int32 → Int32 → Int32 → Int32 → Int32 → ys_T → Option (Int32 × ys_T)}
theorem ga_bfI {rec387 : Int32 → Int32 → Int32 → Int32 → Int32 → Int32 → Int32 → ys_T → Option (Int32 × ys_T)} (hR : RG Y.2.1 T) {m k : Nat} (hm : m < 16) (hk : k < 4) : ∀ (r i n f : Nat), i + r = 4 → r < n → f < 16 →
    ∃ f', f' < 16 ∧ (∀ y, y < 4 → (f'.testBit y = true ↔ f.testBit y = true ∨ (i ≤ y ∧ m.testBit k = true ∧ mb_E T k y))) ∧ f9_would_L396 rec370 rec387 n v12 v17 (nI m) v19 v20 (nI f) (nI k) (nI i) Y = rec387 v12 v17 (nI m) v19 v20 (nI f') (nI (k + 1)) Y
  | r, i, 0, _, _, hn, _ => by omega
  | 0, i, n + 1, f, hi, _, hf => by
    refine ⟨f, hf, fun y hy => ⟨Or.inl, fun x => x.elim id (fun z => by omega)⟩, ?_⟩
    show f9_would_b396 rec370 rec387 (f9_would_L396 rec370 rec387 n) v12 v17 (nI m) v19 v20 (nI f) (nI k) (nI i) Y = _
    unfold f9_would_b396
    rw [show (4 : Int32) = nI 4 from rfl, if_pos (nI_le (by omega) (by omega)), ga_p1]
  | r + 1, i, n + 1, f, hi, hn, hf => by
    have ih := fun g hg => ga_bfI (rec387 := rec387) hR hm hk r (i + 1) n g (by omega) (by omega) hg
    have ed : Y.2.1 3 (4 * k + i) = T (75 + 4 * k + i) := by rw [hR.d (by omega), Nat.add_assoc]
    show ∃ f', _ ∧ _ ∧ f9_would_b396 rec370 rec387 (f9_would_L396 rec370 rec387 n) v12 v17 (nI m) v19 v20 (nI f) (nI k) (nI i) Y = _
    unfold f9_would_b396 f9_would_b435 f9_would_b436
    rw [if_neg (show ¬ (4 : Int32) ≤ nI i from nI_ge (b := 4) (by omega) (by omega)), ga_p1, Int32.or_zero]
    by_cases c : m.testBit k = true
    · rw [if_pos ((lb_bit1 m hm k hk).mpr c), ga_4, lb_add, lb_ck (by omega) (by omega), lb_cl (by omega), ed]
      by_cases d : T (75 + 4 * k + i) ≤ 0
      · rw [if_pos d]
        obtain ⟨f', h1, h2, h3⟩ := ih f hf
        refine ⟨f', h1, fun y hy => ?_, h3⟩
        rw [h2 y hy]
        constructor
        · rintro (x | ⟨x1, x2, x3⟩)
          · exact Or.inl x
          · exact Or.inr ⟨by omega, x2, x3⟩
        · rintro (x | ⟨x1, x2, x3⟩)
          · exact Or.inl x
          · by_cases e : y = i
            · subst e; exact absurd x3 (fun z => lb_npos.mpr z d)
            · exact Or.inr ⟨by omega, x2, x3⟩
      · rw [if_neg d, lb_bitS f hf i (by omega)]
        obtain ⟨f', h1, h2, h3⟩ := ih (f ||| 1 <<< i) (lb_bitL f hf i (by omega))
        refine ⟨f', h1, fun y hy => ?_, h3⟩
        rw [h2 y hy, lb_bitT f hf i (by omega) y hy]
        constructor
        · rintro (x | ⟨x1, x2, x3⟩)
          · rw [Bool.or_eq_true] at x
            rcases x with x | x
            · exact Or.inl x
            · have : y = i := eq_of_beq x
              subst this
              exact Or.inr ⟨Nat.le_refl _, c, lb_npos.mp d⟩
          · exact Or.inr ⟨by omega, x2, x3⟩
        · rintro (x | ⟨x1, x2, x3⟩)
          · exact Or.inl (by rw [x, Bool.true_or])
          · by_cases e : y = i
            · subst e; exact Or.inl (by rw [beq_self_eq_true, Bool.or_true])
            · exact Or.inr ⟨by omega, x2, x3⟩
    · rw [if_neg (fun x => c ((lb_bit1 m hm k hk).mp x))]
      obtain ⟨f', h1, h2, h3⟩ := ih f hf
      refine ⟨f', h1, fun y hy => ?_, h3⟩
      rw [h2 y hy]
      constructor
      · rintro (x | ⟨x1, x2, x3⟩)
        · exact Or.inl x
        · exact absurd x2 c
      · rintro (x | ⟨x1, x2, x3⟩)
        · exact Or.inl x
        · exact absurd x2 c
theorem ga_bfK (hR : RG Y.2.1 T) {m to : Nat} (hm : m < 16) (hto : to < 4) : ∀ (r k n f : Nat), k + r = 4 → r < n → f < 16 →
    ∃ f', f' < 16 ∧ (∀ y, y < 4 → (f'.testBit y = true ↔ f.testBit y = true ∨ ∃ j, k ≤ j ∧ j < 4 ∧ m.testBit j = true ∧ mb_E T j y)) ∧
      f9_would_L387 rec370 n v12 (nI to) (nI m) v19 v20 (nI f) (nI k) Y = rec370 v12 (nI to) (nI f') (if f'.testBit to = true then v20 else v19) (v20 + 1) Y
  | r, k, 0, _, _, hn, _ => by omega
  | 0, k, n + 1, f, hk, _, hf => by
    refine ⟨f, hf, fun y hy => ⟨Or.inl, fun x => x.elim id (fun ⟨j, j1, j2, _⟩ => by omega)⟩, ?_⟩
    show f9_would_b387 rec370 (f9_would_L387 rec370 n) v12 (nI to) (nI m) v19 v20 (nI f) (nI k) Y = _
    unfold f9_would_b387 f9_would_b469
    rw [show (4 : Int32) = nI 4 from rfl, if_pos (nI_le (by omega) (by omega))]
    by_cases c : f.testBit to = true
    · rw [if_pos ((lb_bit1 f hf to hto).mpr c), if_pos c]
    · rw [if_neg (fun x => c ((lb_bit1 f hf to hto).mp x)), if_neg c]
  | r + 1, k, n + 1, f, hk, hn, hf => by
    have h4fu : 4 < fo_fu := by show 4 < 1000; omega
    obtain ⟨f1, g1, g2, g3⟩ := ga_bfI (rec370 := rec370) (rec387 := f9_would_L387 rec370 n) (v12 := v12) (v17 := nI to) (v19 := v19) (v20 := v20) hR hm (show k < 4 by omega) 4 0 fo_fu f (by omega) h4fu hf
    rw [show nI 0 = (0 : Int32) from rfl] at g3
    obtain ⟨f', h1, h2, h3⟩ := ga_bfK hR hm hto r (k + 1) n f1 (by omega) (by omega) g1
    refine ⟨f', h1, fun y hy => ?_, ?_⟩
    · rw [h2 y hy, g2 y hy]
      constructor
      · rintro ((x | ⟨-, x2, x3⟩) | ⟨j, j1, j2, j3⟩)
        · exact Or.inl x
        · exact Or.inr ⟨k, Nat.le_refl _, by omega, x2, x3⟩
        · exact Or.inr ⟨j, by omega, j2, j3⟩
      · rintro (x | ⟨j, j1, j2, j3⟩)
        · exact Or.inl (Or.inl x)
        · by_cases e : j = k
          · subst e; exact Or.inl (Or.inr ⟨Nat.zero_le _, j3⟩)
          · exact Or.inr ⟨j, by omega, j2, j3⟩
    · rw [← h3]
      show f9_would_b387 rec370 (f9_would_L387 rec370 n) v12 (nI to) (nI m) v19 v20 (nI f) (nI k) Y = _
      unfold f9_would_b387
      rw [if_neg (show ¬ (4 : Int32) ≤ nI k from nI_ge (b := 4) (by omega) (by omega))]
      exact g3
theorem ga_bfS (hR : RG Y.2.1 T) {p to : Nat} (hto : to < 4) : ∀ (r s n m : Nat), s + r = 5 → r < n → 1 ≤ s → m < 16 → (∀ y, y < 4 → (m.testBit y = true ↔ mb_R T p (s - 1) y)) → (∀ e, 1 ≤ e → e < s → ¬ mb_R T p e to) →
    ∃ v, mb_Ds T p to v ∧ f9_would_L370 n (nI p) (nI to) (nI m) (-6) (nI s) Y = f9_would_b481 (nI p) (nI to) v Y
  | r, s, 0, _, _, hn, _, _, _, _ => by omega
  | 0, s, n + 1, m, hs, _, h1, hm, hb, hno => by
    refine ⟨-6, Or.inr ⟨rfl, fun d a b => hno d a (by omega)⟩, ?_⟩
    show f9_would_b370 (f9_would_L370 n) (nI p) (nI to) (nI m) (-6) (nI s) Y = _
    unfold f9_would_b370
    rw [if_pos (show (5 : Int32) ≤ nI s from nI_le (a := 5) (by omega) (by omega))]
  | r + 1, s, n + 1, m, hs, hn, h1, hm, hb, hno => by
    have h4fu : 4 < fo_fu := by show 4 < 1000; omega
    obtain ⟨f', g1, g2, g3⟩ := ga_bfK (rec370 := f9_would_L370 n) (v12 := nI p) (v19 := -6) (v20 := nI s) hR hm hto 4 0 fo_fu 0 (by omega) h4fu (by omega)
    rw [show nI 0 = (0 : Int32) from rfl] at g3
    obtain ⟨s', rfl⟩ : ∃ s', s = s' + 1 := ⟨s - 1, by omega⟩
    have hb' : ∀ y, y < 4 → (m.testBit y = true ↔ mb_R T p s' y) := hb
    have hnx : ∀ y, y < 4 → (f'.testBit y = true ↔ mb_R T p (s' + 1) y) := by
      intro y hy
      rw [g2 y hy]
      show _ ↔ ∃ k, k < 4 ∧ mb_R T p s' k ∧ 0 < T (75 + 4 * k + y)
      constructor
      · rintro (x | ⟨j, j1, j2, j3, j4⟩)
        · rw [Nat.zero_testBit] at x; exact absurd x (by decide)
        · exact ⟨j, j2, (hb' j j2).mp j3, j4⟩
      · rintro ⟨j, j2, j3, j4⟩
        exact Or.inr ⟨j, Nat.zero_le _, j2, (hb' j j2).mpr j3, j4⟩
    have e0 : f9_would_L370 (n + 1) (nI p) (nI to) (nI m) (-6) (nI (s' + 1)) Y = f9_would_L370 n (nI p) (nI to) (nI f') (if f'.testBit to = true then nI (s' + 1) else -6) (nI (s' + 1 + 1)) Y := by
      show f9_would_b370 (f9_would_L370 n) (nI p) (nI to) (nI m) (-6) (nI (s' + 1)) Y = _
      unfold f9_would_b370
      rw [if_neg (show ¬ (5 : Int32) ≤ nI (s' + 1) from nI_ge (b := 5) (by omega) (by omega)), if_neg (show ¬ (0 : Int32) ≤ -6 by decide), g3, ga_p1]
    rw [e0]
    by_cases c : f'.testBit to = true
    · rw [if_pos c]
      refine ⟨nI (s' + 1), Or.inl ⟨s' + 1, by omega, by omega, rfl, (hnx to hto).mp c, hno⟩, ?_⟩
      obtain ⟨n, rfl⟩ : ∃ n', n = n' + 1 := ⟨n - 1, by omega⟩
      show f9_would_b370 (f9_would_L370 n) (nI p) (nI to) (nI f') (nI (s' + 1)) (nI (s' + 1 + 1)) Y = _
      unfold f9_would_b370
      rw [if_pos (show (0 : Int32) ≤ nI (s' + 1) from nI_pos' (by omega)), ite_self]
    · rw [if_neg c]
      exact ga_bfS hR hto r (s' + 1 + 1) n f' (by omega) (by omega) (by omega) g1 hnx (fun e a b => by
        by_cases ee : e = s' + 1
        · subst ee; exact fun x => c ((hnx to hto).mpr x)
        · exact hno e a (by omega))
end WOULD4
/-! ## would -/
section WOULD5
variable {P t : Nat} {X : xs_T} {S : ms_T} {Z : ms_T × ms_T}
/-- no player is worth less -/
theorem ga_weB {T : Nat → Int32} {p N : Nat} (hp : p < P) (hN : N ≤ 60) (hJ : mb_J P t T) (ht : t ≤ 2400) {k : Nat} (hk : k < 50) : -9999999 ≤ (mb_we T p N k).toInt := by
  have hP := hJ.P4
  have hJ2 : mb_J P t (upd T 8 (nI k)) := hJ.setDraw (by omega)
  have hJ3 := mb_J.turns (show 0 < P by omega) N t _ hJ2 (by omega)
  unfold mb_we
  generalize mb_turns N (upd T 8 (nI k)) = U at hJ3
  have pu := hJ3.purse (p := p) (by omega)
  have co : ∀ i, i < 16 → 0 ≤ (U (75 + i)).toInt ∧ (U (75 + i)).toInt ≤ 2922480 := fun i hi => by
    have := hJ3.co i hi; omega
  have cz := hJ3.cz p p (by omega) (by omega) (Or.inl rfl)
  have pb : (U (51 + 6 * p)).toInt ≤ 300000 := by omega
  unfold mb_to mb_by
  rw [lb_fo4, lb_fo4]
  have a0 := co (4 * 0 + p) (by omega)
  have a1 := co (4 * 1 + p) (by omega)
  have a2 := co (4 * 2 + p) (by omega)
  have a3 := co (4 * 3 + p) (by omega)
  have b0 := co (4 * p + 0) (by omega)
  have b1 := co (4 * p + 1) (by omega)
  have b2 := co (4 * p + 2) (by omega)
  have b3 := co (4 * p + 3) (by omega)
  rw [← Nat.add_assoc] at a0 a1 a2 a3 b0 b1 b2 b3
  have hz : (U (75 + 4 * p + p)).toInt = 0 := by rw [cz]; rfl
  have hsum : (U (75 + 4 * p + 0)).toInt + (U (75 + 4 * p + 1)).toInt + (U (75 + 4 * p + 2)).toInt + (U (75 + 4 * p + 3)).toInt ≤ 8767440 := by
    have : p = 0 ∨ p = 1 ∨ p = 2 ∨ p = 3 := by omega
    rcases this with rfl | rfl | rfl | rfl <;> omega
  generalize U (75 + 4 * 0 + p) = x0 at *
  generalize U (75 + 4 * 1 + p) = x1 at *
  generalize U (75 + 4 * 2 + p) = x2 at *
  generalize U (75 + 4 * 3 + p) = x3 at *
  generalize U (75 + 4 * p + 0) = y0 at *
  generalize U (75 + 4 * p + 1) = y1 at *
  generalize U (75 + 4 * p + 2) = y2 at *
  generalize U (75 + 4 * p + 3) = y3 at *
  generalize U (51 + 6 * p) = z at *
  have s1 : (x0 + x1).toInt = x0.toInt + x1.toInt := lb_add_toInt (by omega) (by omega)
  have s2 : (x0 + x1 + x2).toInt = x0.toInt + x1.toInt + x2.toInt := by rw [lb_add_toInt (by omega) (by omega), s1]
  have s3 : (x0 + x1 + x2 + x3).toInt = x0.toInt + x1.toInt + x2.toInt + x3.toInt := by rw [lb_add_toInt (by omega) (by omega), s2]
  have r1 : (y0 + y1).toInt = y0.toInt + y1.toInt := lb_add_toInt (by omega) (by omega)
  have r2 : (y0 + y1 + y2).toInt = y0.toInt + y1.toInt + y2.toInt := by rw [lb_add_toInt (by omega) (by omega), r1]
  have r3 : (y0 + y1 + y2 + y3).toInt = y0.toInt + y1.toInt + y2.toInt + y3.toInt := by rw [lb_add_toInt (by omega) (by omega), r2]
  have q1 : (z + (x0 + x1 + x2 + x3)).toInt = z.toInt + (x0.toInt + x1.toInt + x2.toInt + x3.toInt) := by rw [lb_add_toInt (by omega) (by omega), s3]
  rw [lb_sub_toInt (by omega) (by omega), q1, r3]
  omega
theorem ga_would (hJ : mb_J P t (S 0)) (hP0 : 0 < P) (ht : t ≤ 2400) (hR : RG Z.1 (S 0)) (h : RR X S) (v1 : Int32) : ∃ X' Z2, f9_would v1 (X, Z) = some (1, (X', Z.1, Z2)) ∧ RR X' S := by
  have hP := hJ.P4
  obtain ⟨Z1, Z2⟩ := Z
  have hR : RG Z1 (S 0) := hR
  have e06 : Z1 0 6 = nI P := (hR.q (i := 6) (by omega)).trans hJ.h6
  obtain ⟨p, hp, l1⟩ := ga_low v1 (n := P) hP0 (by omega)
  obtain ⟨x, hx, l2⟩ := ga_low (v1 >>> ((3 : Int32) &&& 31)) (n := 60) (by omega) (by omega)
  obtain ⟨to, hto, l3⟩ := ga_low (v1 >>> ((6 : Int32) &&& 31)) (n := P) hP0 (by omega)
  have hfu : 400 + 1 < fo_fu := by show 401 < 1000; omega
  have hxfu : 1 + x < fo_fu := by show 1 + x < 1000; omega
  have h50 : 50 < fo_fu := by show 50 < 1000; omega
  have h5 : 4 < fo_fu := by show 4 < 1000; omega
  obtain ⟨B1, c1, r1⟩ := ga_copy hR Z2
  obtain ⟨m, B2, hm, em, f2⟩ := ga_emL (X := X) (Z1 := Z1) (v1 := v1) (v13 := nI (1 + x)) hp 400 0 fo_fu t B1 (S 0) (by omega) hfu r1 hJ (by omega)
  obtain ⟨q1, g1, d1, h1⟩ := ak_em h hJ hp
  obtain ⟨B3, c3, r3⟩ := ga_copy hR B2
  obtain ⟨B4, r4, f4⟩ := ga_tuL (X := q1.2) (Z1 := Z1) (v1 := v1) (p := p) (N := 1 + x) hP0 (by omega) (1 + x) 0 fo_fu t B3 (S 0) (by omega) hxfu r3 hJ (by omega)
  obtain ⟨q2, g2, d2, h2⟩ := ak_pi (N := 1 + x) h1 hJ hp (by omega) (by omega)
  obtain ⟨B5, j, hj, hM, f5⟩ := ga_seL (X := q2.2) (v1 := v1) (N := 1 + x) hp (by omega) hR hJ (by omega) (fun i hi => ga_weB hp (by omega) hJ ht hi) 50 fo_fu B4 0 (-9999999) (by omega) h50 (Or.inl ⟨rfl, rfl⟩) trivial
  obtain ⟨q3, g3, d3, h3⟩ := ak_bs (N := 1 + x) h2 hJ hp (by omega) (by omega)
  obtain ⟨j2, hj2, ej, hM2⟩ := ga_bs (T := S 0) (p := p) (N := 1 + x)
  have ejj : j2 = j := gb_uniq hj2 hj hM2 hM
  rw [ej, ejj] at d3
  obtain ⟨r6, g6, d6⟩ := ak_ch h3 hJ hp hto
  have hbit := lb_bitO p (by omega)
  obtain ⟨w, hw, f7⟩ := ga_bfS (Y := (q3.2, Z1, B5)) (T := S 0) (p := p) (to := to) hR (by omega) 4 1 fo_fu (1 <<< p) (by omega) h5 (by omega) hbit.2.1 (fun y hy => by
    rw [hbit.2.2 y hy]; exact Iff.rfl) (fun e a b => by omega)
  have ewr : r6 = w := d6.uniq hw
  rw [show nI 0 = (0 : Int32) from rfl] at f2 f4
  rw [show nI 50 - 1 = (49 : Int32) from by decide] at f5
  rw [show nI 1 = (1 : Int32) from rfl] at f7
  refine ⟨q3.2, B5, ?_, h3⟩
  unfold f9_would
  rw [ga_k6, lb_c6, show (X, Z1, Z2).2.1 0 6 = nI P from e06, l1, lb_bd, show (60 : Int32) = nI 60 from rfl, l2, lb_bd, c1, lb_bd, ga_1p, f2]
  unfold f9_would_b84
  rw [g1, lb_bd]
  have e84 : ∀ v : Int32, v = (if nI m ≤ (400 : Int32) then nI m else -6) → f9_would_b105 v1 (nI p) (nI (1 + x)) q1.1 v (q1.2, Z1, B2) = some (1, (q3.2, Z1, B5)) := by
    intro v hv
    unfold f9_would_b105
    rw [if_pos (by rw [d1, hv, em]), c3, lb_bd, f4]
    unfold f9_would_b134
    have ep : B4 1 (6 * p) = mb_turns (1 + x) (S 0) (51 + 6 * p) := r4.p (by omega)
    rw [if_pos (nI_le (Nat.le_refl _) (by omega)), g2, lb_bd, ga_6, lb_ck (by omega) (by omega), lb_cl (by omega), if_pos (show q2.1 = B4 1 (6 * p) by rw [ep]; exact d2), f5]
    unfold f9_would_b192
    rw [if_pos (show (-1 : Int32) < 0 by decide), g3, lb_bd, if_pos d3, ga_k6, lb_c6, show (q2.2, Z1, B5).2.1 0 6 = nI P from e06, l3, lb_bd, hbit.1, f7]
    unfold f9_would_b481
    rw [g6, lb_bd, if_pos ewr]
  by_cases c : nI m ≤ (400 : Int32)
  · rw [if_pos c]
    exact e84 (nI m) (by rw [if_pos c])
  · rw [if_neg c]
    exact e84 (-6) (by rw [if_neg c])
end WOULD5
