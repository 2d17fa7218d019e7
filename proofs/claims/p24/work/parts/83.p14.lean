/-! ## same: the players -/
section SAME3
variable {P t : Nat} {b C A : Int} {T : Nat → Int32} {Z : ms_T × ms_T} {rec15 : Int32 → Int32 → Int32 → Int32 → Int32 → ys_T → Option (Int32 × ys_T)} {X : xs_T} {S : ms_T}
theorem as_294 (hI : mb_I P t b C A T) (hR : RG Z.1 T) (h : RR X S) (h0 : S 0 = T) {p : Nat} (hp : p < P) {v6 v7 v8 v9 v12 : Int32} : ∀ (r k n : Nat), k + r = 6 → 2 ≤ k → r < n → f9_same_L294 rec15 n v6 v7 v8 v9 (nI p) v12 (nI k) (X, Z) = rec15 (v6 + T (51 + 6 * p)) v7 (v8 + v12) v9 (nI (p + 1)) (X, Z)
  | r, k, 0, _, _, hn => by omega
  | 0, k, n + 1, hk, _, _ => by
    have hP := hI.P4
    show f9_same_b294 rec15 (f9_same_L294 rec15 n) v6 v7 v8 v9 (nI p) v12 (nI k) (X, Z) = _
    unfold f9_same_b294
    rw [show (6 : Int32) = nI 6 from rfl, if_pos (nI_le (by omega) (by omega)), show nI 6 * nI p = nI (6 * p) from lb_mul 6 p, lb_ck (by omega) (by omega), lb_cl (by omega), ga_p1]
    have e : Z.1 1 (6 * p) = T (51 + 6 * p) := hR.p (by omega)
    show rec15 (v6 + Z.1 1 (6 * p)) v7 (v8 + v12) v9 (nI (p + 1)) (X, Z) = _
    rw [e]
  | r + 1, k, n + 1, hk, h2, hn => by
    have hP := hI.P4
    have hI' : mb_I P t b C A (S 0) := by rw [h0]; exact hI
    show f9_same_b294 rec15 (f9_same_L294 rec15 n) v6 v7 v8 v9 (nI p) v12 (nI k) (X, Z) = _
    unfold f9_same_b294
    have e : S 0 (51 + 6 * p + k) = Z.1 1 (6 * p + k) := by rw [hR.p (by omega), h0, Nat.add_assoc]
    rw [show (6 : Int32) = nI 6 from rfl, if_neg (nI_ge (by omega) (by omega)), ak_of h hI' (ao_5 hI' hp h2 (by omega)), lb_bd, show nI 6 * nI p = nI (6 * p) from lb_mul 6 p, lb_add, lb_ck (by omega) (by omega), lb_cl (by omega), if_pos e, ga_p1]
    exact as_294 hI hR h h0 hp r (k + 1) n (by omega) (by omega) (by omega)
theorem as_86 (hI : mb_I P t b C A T) (hR : RG Z.1 T) (h : RR X S) (h0 : S 0 = T) {p : Nat} (hp : p < P) {v6 v8 v9 : Int32} : ∀ (r k n : Nat) (v7 v12 v13 : Int32), k + r = P → r < n →
    mb_fo (fun j => T (75 + 4 * p + j)) (4 - k) k v12 = mb_by T p → mb_fo (fun j => T (75 + 4 * j + p)) (4 - k) k v13 = mb_to T p →
      f9_same_L86 rec15 n v6 v7 v8 v9 (nI p) (mb_sq T p 20 0 0) v12 v13 (nI k) (X, Z) = rec15 (v6 + T (51 + 6 * p)) (mb_fo (fun j => mb_one T (4 * p + j)) (4 - k) k v7) (v8 + mb_by T p) v9 (nI (p + 1)) (X, Z)
  | r, k, 0, _, _, _, _, hn, _, _ => by omega
  | 0, k, n + 1, v7, v12, v13, hk, _, hb, ht => by
    have hP := hI.P4
    have e06 : Z.1 0 6 = nI P := (hR.q (i := 6) (by omega)).trans hI.h6
    rw [lb_foZ _ _ _ (fun j h1 h2 => hI.cz p j (by omega) (by omega) (Or.inr (Or.inr (by omega))))] at hb
    rw [lb_foZ _ _ _ (fun j h1 h2 => hI.cz j p (by omega) (by omega) (Or.inr (Or.inl (by omega))))] at ht
    have hone : mb_fo (fun j => mb_one T (4 * p + j)) (4 - k) k v7 = v7 := lb_foZ _ _ _ (fun j h1 h2 => by
      show mb_one T (4 * p + j) = 0
      unfold mb_one
      rw [← Nat.add_assoc, hI.cz p j (by omega) (by omega) (Or.inr (Or.inr (by omega))), if_pos (by decide)])
    have hfu : 4 < fo_fu := by show 4 < 1000; omega
    rw [hone]
    subst h0
    have ep0 : S 0 (51 + 6 * p) = Z.1 1 (6 * p) := by rw [hR.p (by omega)]
    have ep1 : S 0 (51 + 6 * p + 1) = Z.1 1 (6 * p + 1) := by rw [hR.p (by omega)]; rfl
    have e294 := as_294 (rec15 := rec15) (v6 := v6) (v7 := v7) (v8 := v8) (v9 := v9) (v12 := v12) hI hR h rfl hp 4 2 fo_fu (by omega) (by omega) hfu
    rw [show nI 2 = (2 : Int32) from rfl] at e294
    show f9_same_b86 rec15 (f9_same_L86 rec15 n) v6 v7 v8 v9 (nI p) (mb_sq (S 0) p 20 0 0) v12 v13 (nI k) (X, Z) = _
    unfold f9_same_b86
    rw [ga_k6, lb_c6, if_pos (show Z.1 0 6 ≤ nI k by rw [e06]; exact nI_le (by omega) (by omega)), ak_of h hI (ao_0 hI hp), lb_bd, ga_6, lb_ck (by omega) (by omega), lb_cl (by omega), if_pos ep0, ak_of h hI (ao_1 hI hp), lb_bd, ga_p1, lb_ck (by omega) (by omega), lb_cl (by omega), if_pos ep1, ak_of h hI (ao_2 hI hp), lb_bd, if_pos rfl, ak_of h hI (ao_3 hI hp), lb_bd, if_pos hb.symm, ak_of h hI (ao_4 hI hp), lb_bd, if_pos ht.symm, e294, hb]
  | r + 1, k, n + 1, v7, v12, v13, hk, hn, hb, ht => by
    have hP := hI.P4
    have e06 : Z.1 0 6 = nI P := (hR.q (i := 6) (by omega)).trans hI.h6
    have ed : Z.1 3 (4 * p + k) = T (75 + 4 * p + k) := by rw [hR.d (by omega), Nat.add_assoc]
    have ed2 : Z.1 3 (4 * k + p) = T (75 + 4 * k + p) := by rw [hR.d (by omega), Nat.add_assoc]
    have eg : Z.1 4 (4 * p + k) = T (91 + 4 * p + k) := by rw [hR.g (by omega), Nat.add_assoc]
    have h4 : 4 - k = (4 - (k + 1)) + 1 := by omega
    rw [h4] at hb ht ⊢
    have hb' : mb_fo (fun j => T (75 + 4 * p + j)) (4 - (k + 1)) (k + 1) (v12 + T (75 + 4 * p + k)) = mb_by T p := hb
    have ht' : mb_fo (fun j => T (75 + 4 * j + p)) (4 - (k + 1)) (k + 1) (v13 + T (75 + 4 * k + p)) = mb_to T p := ht
    have ih := fun w => as_86 (v6 := v6) (v8 := v8) (v9 := v9) hI hR h h0 hp r (k + 1) n w (v12 + T (75 + 4 * p + k)) (v13 + T (75 + 4 * k + p)) (by omega) (by omega) hb' ht'
    have nn := (hI.co (4 * p + k) (by omega)).1
    rw [← Nat.add_assoc] at nn
    subst h0
    have tail : ∀ t1 : Int32, t1 = mb_one (S 0) (4 * p + k) → f9_same_b141 rec15 (f9_same_L86 rec15 n) v6 v8 v9 (nI p) (mb_sq (S 0) p 20 0 0) (v12 + S 0 (75 + 4 * p + k)) (v13 + S 0 (75 + 4 * k + p)) (nI k) (S 0 (75 + 4 * p + k)) v7 t1 (X, Z) = rec15 (v6 + S 0 (51 + 6 * p)) (mb_fo (fun j => mb_one (S 0) (4 * p + j)) (4 - (k + 1) + 1) k v7) (v8 + mb_by (S 0) p) v9 (nI (p + 1)) (X, Z) := by
      intro t1 h1
      have eR : rec15 (v6 + S 0 (51 + 6 * p)) (mb_fo (fun j => mb_one (S 0) (4 * p + j)) (4 - (k + 1) + 1) k v7) (v8 + mb_by (S 0) p) v9 (nI (p + 1)) (X, Z) = rec15 (v6 + S 0 (51 + 6 * p)) (mb_fo (fun j => mb_one (S 0) (4 * p + j)) (4 - (k + 1)) (k + 1) (v7 + t1)) (v8 + mb_by (S 0) p) v9 (nI (p + 1)) (X, Z) := by rw [h1]; rfl
      rw [eR, ← ih (v7 + t1)]
      unfold f9_same_b141 f9_same_b167 f9_same_b206 f9_same_b211
      rw [ak_ow h hI (aw_0 hI hp (by omega)), lb_bd, ga_p1]
      by_cases e : k = p
      · subst e
        rw [if_pos rfl, if_pos rfl, if_pos rfl, if_pos rfl]
      · have en : ¬ nI k = nI p := fun x => e ((lb_inj (by omega) (by omega)).mp x)
        rw [if_neg e, if_neg en, if_neg en, if_pos rfl, ak_ow h hI (aw_1 hI hp (show k < P by omega) e), lb_bd]
        by_cases c : S 0 (75 + 4 * p + k) ≤ 0
        · have z : S 0 (75 + 4 * p + k) = 0 := by rw [lb_eq0]; rw [lb_le0] at c; omega
          rw [if_pos c, if_pos z, if_pos rfl]
        · have z : ¬ S 0 (75 + 4 * p + k) = 0 := fun x => c (by rw [x]; decide)
          rw [if_neg c, if_neg z, ga_4, lb_add, lb_ck (by omega) (by omega), lb_cl (by omega), if_pos (show S 0 (91 + 4 * p + k) = Z.1 4 (4 * p + k) from eg.symm)]
    show f9_same_b86 rec15 (f9_same_L86 rec15 n) v6 v7 v8 v9 (nI p) (mb_sq (S 0) p 20 0 0) v12 v13 (nI k) (X, Z) = _
    unfold f9_same_b86
    rw [ga_k6, lb_c6, if_neg (show ¬ Z.1 0 6 ≤ nI k by rw [e06]; exact nI_ge (by omega) (by omega)), ga_4, ga_4, lb_add, lb_add, lb_ck (by omega) (by omega), lb_ck (by omega) (by omega), lb_cl (by omega), lb_cl (by omega)]
    rw [show (X, Z).2.1 3 (4 * p + k) = S 0 (75 + 4 * p + k) from ed, show (X, Z).2.1 3 (4 * k + p) = S 0 (75 + 4 * k + p) from ed2]
    by_cases c : S 0 (75 + 4 * p + k) ≤ 0
    · rw [if_pos c]
      exact tail 0 (by unfold mb_one; rw [← Nat.add_assoc, if_pos c])
    · rw [if_neg c]
      exact tail 1 (by unfold mb_one; rw [← Nat.add_assoc, if_neg c])
theorem as_36 (hI : mb_I P t b C A T) (hR : RG Z.1 T) {p : Nat} {v6 v7 v8 v9 v12 v13 : Int32} : ∀ (r s n : Nat) (a : Int32), s + r = 20 → r < n → f9_same_L36 rec15 n v6 v7 v8 v9 (nI p) a v12 v13 (nI s) (X, Z) = f9_same_L86 rec15 fo_fu v6 v7 v8 v9 (nI p) (mb_sq T p r s a) v12 v13 0 (X, Z)
  | r, s, 0, _, _, hn => by omega
  | 0, s, n + 1, a, hs, _ => by
    show f9_same_b36 rec15 (f9_same_L36 rec15 n) v6 v7 v8 v9 (nI p) a v12 v13 (nI s) (X, Z) = _
    unfold f9_same_b36
    rw [show (20 : Int32) = nI 20 from rfl, if_pos (nI_le (by omega) (by omega))]
    rfl
  | r + 1, s, n + 1, a, hs, hn => by
    have ih := fun w => as_36 (v6 := v6) (v7 := v7) (v8 := v8) (v9 := v9) (v12 := v12) (v13 := v13) (p := p) hI hR r (s + 1) n w (by omega) (by omega)
    show f9_same_b36 rec15 (f9_same_L36 rec15 n) v6 v7 v8 v9 (nI p) a v12 v13 (nI s) (X, Z) = f9_same_L86 rec15 fo_fu v6 v7 v8 v9 (nI p) (mb_sq T p r (s + 1) (a ||| if mb_owns T p s then (1 : Int32) <<< (nI s &&& 31) else 0)) v12 v13 0 (X, Z)
    rw [← ih]
    unfold f9_same_b36 f9_same_b66 f9_same_b74
    have e1 : Z.1 2 s = T (11 + s) := hR.o (by omega)
    have e2 : Z.1 2 (20 + s) = T (31 + s) := hR.o2 (by omega)
    rw [if_neg (show ¬ (20 : Int32) ≤ nI s from nI_ge (b := 20) (by omega) (by omega)), lb_ck (by omega) (by omega), lb_cl (by omega), ga_p1, ga_20, lb_ck (by omega) (by omega), lb_cl (by omega)]
    by_cases c1 : T (11 + s) = nI p
    · rw [if_pos (show Z.1 2 s = nI p from e1.trans c1), if_pos (show mb_owns T p s from Or.inl c1)]
    · rw [if_neg (show ¬ Z.1 2 s = nI p from fun x => c1 (e1.symm.trans x))]
      by_cases c2 : T (31 + s) = nI p
      · rw [if_pos (show Z.1 2 (20 + s) = nI p from e2.trans c2), if_pos (show mb_owns T p s from Or.inr c2)]
      · rw [if_neg (show ¬ Z.1 2 (20 + s) = nI p from fun x => c2 (e2.symm.trans x)), if_neg (show ¬ mb_owns T p s by rintro (x | x); exact c1 x; exact c2 x)]
theorem as_15 (hI : mb_I P t b C A T) (hR : RG Z.1 T) (h : RR X S) (h0 : S 0 = T) : ∀ (r p n : Nat) (v6 v7 v8 : Int32), p + r = P → r < n →
    mb_fo (fun j => T (51 + 6 * j + 0)) (4 - p) p v6 = mb_s4 T 0 → mb_fo (mb_one T) (4 * (4 - p)) (4 * p) v7 = mb_many T → mb_fo (fun j => T (75 + j)) (4 * (4 - p)) (4 * p) v8 = mb_all T → SF (f9_same_L15 n v6 v7 v8 0 (nI p) (X, Z)) T Z
  | r, p, 0, _, _, _, _, hn, _, _, _ => by omega
  | 0, p, n + 1, v6, v7, v8, hp, _, e6, e7, e8 => by
    have hP := hI.P4
    have e06 : Z.1 0 6 = nI P := (hR.q (i := 6) (by omega)).trans hI.h6
    have hfu : 20 < fo_fu := ga_fu20
    have zd : ∀ j, 4 * p ≤ j → j < 16 → T (75 + j) = 0 := by
      intro j h1 h2
      have := hI.cz (j / 4) (j % 4) (by omega) (by omega) (Or.inr (Or.inl (by omega)))
      rw [show 75 + 4 * (j / 4) + j % 4 = 75 + j by omega] at this
      exact this
    rw [lb_foZ _ _ _ (fun j h1 h2 => hI.pz _ (by omega) (by omega))] at e6
    rw [lb_foZ _ _ _ (fun j h1 h2 => by unfold mb_one; rw [zd j h1 (by omega), if_pos (by decide)])] at e7
    rw [lb_foZ _ _ _ (fun j h1 h2 => zd j h1 (by omega))] at e8
    show SF (f9_same_b15 (f9_same_L15 n) v6 v7 v8 0 (nI p) (X, Z)) T Z
    unfold f9_same_b15
    rw [ga_k6, lb_c6, if_pos (show Z.1 0 6 ≤ nI p by rw [e06]; exact nI_le (by omega) (by omega))]
    exact as_360 hI hR e7.symm e6.symm e8.symm 20 0 fo_fu X S [] (by omega) hfu h h0 rfl
  | r + 1, p, n + 1, v6, v7, v8, hp, hn, e6, e7, e8 => by
    have hP := hI.P4
    have e06 : Z.1 0 6 = nI P := (hR.q (i := 6) (by omega)).trans hI.h6
    have hfu : 20 < fo_fu := ga_fu20
    have hpf : P < fo_fu := by show P < 1000; omega
    have h4 : 4 - p = (4 - (p + 1)) + 1 := by omega
    rw [h4] at e6 e7 e8
    rw [lb_fo16] at e7 e8
    have e8' : mb_fo (fun j => T (75 + j)) (4 * (4 - (p + 1))) (4 * (p + 1)) (v8 + mb_by T p) = mb_all T := by
      rw [← e8]
      congr 1
      have : mb_fo (fun j => T (75 + (4 * p + j))) 4 0 (v8 + 0) = v8 + mb_fo (fun j => T (75 + (4 * p + j))) 4 0 0 := lb_foA 4 0 v8 0
      rw [Int32.add_zero] at this
      rw [this]
      unfold mb_by
      congr 2
      funext j
      rw [Nat.add_assoc]
    have e36 := as_36 (rec15 := f9_same_L15 n) (X := X) (v6 := v6) (v7 := v7) (v8 := v8) (v9 := 0) (v12 := 0) (v13 := 0) (p := p) hI hR 20 0 fo_fu 0 (by omega) hfu
    have e86 := as_86 (rec15 := f9_same_L15 n) (v6 := v6) (v8 := v8) (v9 := 0) hI hR h h0 (show p < P by omega) P 0 fo_fu v7 0 0 (by omega) hpf rfl rfl
    rw [show nI 0 = (0 : Int32) from rfl] at e36 e86
    show SF (f9_same_b15 (f9_same_L15 n) v6 v7 v8 0 (nI p) (X, Z)) T Z
    unfold f9_same_b15
    rw [ga_k6, lb_c6, if_neg (show ¬ Z.1 0 6 ≤ nI p by rw [e06]; exact nI_ge (by omega) (by omega)), e36, e86]
    exact as_15 hI hR h h0 r (p + 1) n _ _ _ (by omega) (by omega) e6 e7 e8'
/-- same: the law's board and the class agree -/
theorem as_same (hI : mb_I P t b C A (S 0)) (hR : RG Z.1 (S 0)) (h : RR X S) : SF (f9_same (X, Z)) (S 0) Z := by
  have hP := hI.P4
  have hpf : P < fo_fu := by show P < 1000; omega
  exact as_15 hI hR h rfl P 0 fo_fu 0 0 0 (by omega) hpf rfl rfl rfl
end SAME3
