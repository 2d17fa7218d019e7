/-! ## same: the squares and the text -/
section SAME2
variable {P t : Nat} {b C A : Int} {T : Nat → Int32} {Z : ms_T × ms_T} {v6 v7 v8 : Int32} {rec360 : Int32 → Int32 → Int32 → Int32 → Int32 → ys_T → Option (Int32 × ys_T)}
theorem as_474 (hI : mb_I P t b C A T) (hR : RG Z.1 T) {s : Nat} (hs : s < 20) {L rest : List Int32} (hL : L = mb_tx T P 20 0) (cont : ∀ (X : xs_T) (S : ms_T) (pre : List Int32), RR X S → S 0 = T → L = pre ++ rest → SF (rec360 v6 v7 v8 (nI pre.length) (nI (s + 1)) (X, Z)) T Z) :
    ∀ (r k n : Nat) (X : xs_T) (S : ms_T) (pre : List Int32) (a : Int32), k + r = P → r < n → RR X S → S 0 = T → L = pre ++ (mb_txP T s r k ++ rest) → mb_on T (nI s) r k a = mb_on T (nI s) P 0 0 → SF (f9_same_L474 rec360 n v6 v7 v8 (nI pre.length) (nI s) a (nI k) (X, Z)) T Z
  | r, k, 0, _, _, _, _, _, hn, _, _, _, _ => by omega
  | 0, k, n + 1, X, S, pre, a, hk, _, h, h0, hpre, ha => by
    have hP := hI.P4
    have fo4 : T (11 + s) = -6 ∨ ∃ q, q < 4 ∧ T (11 + s) = nI q := (hI.fo s hs).imp id (fun ⟨q, hq, e⟩ => ⟨q, by omega, e⟩)
    have ha : a = mb_on T (nI s) P 0 0 := ha
    subst h0
    show SF (f9_same_b474 rec360 (f9_same_L474 rec360 n) v6 v7 v8 (nI pre.length) (nI s) a (nI k) (X, Z)) (S 0) Z
    unfold f9_same_b474
    rw [ga_k6, lb_c6]
    have e06 : Z.1 0 6 = nI P := (hR.q (i := 6) (by omega)).trans hI.h6
    rw [if_pos (show Z.1 0 6 ≤ nI k by rw [e06]; exact nI_le (by omega) (by omega))]
    rw [ak_sq h hI (as_1 hs), lb_bd, lb_ck (by omega) (by omega), lb_cl (by omega), if_pos (hR.o (i := s) (by omega)).symm, ak_sq h hI (as_2 hs), lb_bd, ga_20, lb_ck (by omega) (by omega), lb_cl (by omega), if_pos (hR.o2 hs).symm, ak_sq h hI (as_3 hs), lb_bd, ga_toll (B := Z.1) hR hs fo4, lb_bd, if_pos rfl, ak_sq h hI (as_4 hI hs), lb_bd, if_pos ha.symm, ga_p1]
    exact cont X S pre h rfl hpre
  | r + 1, k, n + 1, X, S, pre, a, hk, hn, h, h0, hpre, ha => by
    have hP := hI.P4
    have hlen := hI.tx
    have e06 : Z.1 0 6 = nI P := (hR.q (i := 6) (by omega)).trans hI.h6
    have epl : Z.1 1 (6 * k + 1) = T (51 + 6 * k + 1) := by rw [hR.p (by omega)]; rfl
    have ih := as_474 hI hR hs hL cont r (k + 1) n
    show SF (f9_same_b474 rec360 (f9_same_L474 rec360 n) v6 v7 v8 (nI pre.length) (nI s) a (nI k) (X, Z)) T Z
    unfold f9_same_b474 f9_same_b528
    rw [ga_k6, lb_c6, if_neg (show ¬ Z.1 0 6 ≤ nI k by rw [e06]; exact nI_ge (by omega) (by omega)), ga_6, ga_p1, lb_ck (by omega) (by omega), lb_cl (by omega)]
    have hpre' : L = pre ++ (((if T (51 + 6 * k + 1) = nI s then [65 + nI k] else []) ++ mb_txP T s r (k + 1)) ++ rest) := hpre
    have ha' : mb_on T (nI s) r (k + 1) (a ||| if T (51 + 6 * k + 1) = nI s then (1 : Int32) <<< (nI k &&& 31) else 0) = mb_on T (nI s) P 0 0 := ha
    by_cases c : T (51 + 6 * k + 1) = nI s
    · rw [if_pos (show Z.1 1 (6 * k + 1) = nI s from epl.trans c)]
      rw [if_pos c] at hpre' ha'
      subst h0
      obtain ⟨q1, S1, f1, d1, h1, z1⟩ := ak_sign h hI (nI pre.length)
      have d2 : q1.1 = 65 + nI k := by
        rw [d1, ← hL]
        exact at_fd (x := 65 + nI k) (post := mb_txP (S 0) s r (k + 1) ++ rest) (by rw [hpre']; simp) (by rw [hL]; omega)
      rw [f1, lb_bd, if_pos d2, ga_p1, ga_p1]
      have := ih q1.2 S1 (pre ++ [65 + nI k]) (a ||| (1 : Int32) <<< (nI k &&& 31)) (by omega) (by omega) h1 z1 (by rw [hpre']; simp) ha'
      rw [List.length_append] at this
      exact this
    · rw [if_neg (show ¬ Z.1 1 (6 * k + 1) = nI s from fun x => c (epl.symm.trans x))]
      rw [if_neg c] at hpre' ha'
      rw [Int32.or_zero] at ha'
      rw [ga_p1]
      exact ih X S pre a (by omega) (by omega) h h0 hpre' ha'
theorem as_437 (hI : mb_I P t b C A T) (hR : RG Z.1 T) {s : Nat} (hs : s < 20) {L rest : List Int32} (hL : L = mb_tx T P 20 0) (cont : ∀ (X : xs_T) (S : ms_T) (pre : List Int32), RR X S → S 0 = T → L = pre ++ rest → SF (rec360 v6 v7 v8 (nI pre.length) (nI (s + 1)) (X, Z)) T Z)
    {X : xs_T} {S : ms_T} {pre : List Int32} (h : RR X S) (h0 : S 0 = T) (hpre : L = pre ++ ((if T (31 + s) = -6 then [] else [97 + T (31 + s)]) ++ (mb_txP T s P 0 ++ rest))) : SF (f9_same_b437 rec360 v6 v7 v8 (nI pre.length) (nI s) 0 (X, Z)) T Z := by
  have hP := hI.P4
  have hlen := hI.tx
  have se4 : T (31 + s) = -6 ∨ ∃ q, q < 4 ∧ T (31 + s) = nI q := (hI.se s hs).imp id (fun ⟨_, ⟨q, hq, e⟩, _⟩ => ⟨q, by omega, e⟩)
  have hfu : P < fo_fu := by show P < 1000; omega
  unfold f9_same_b437 f9_same_b471
  rw [ga_20, lb_ck (by omega) (by omega), lb_cl (by omega)]
  have eo : Z.1 2 (20 + s) = T (31 + s) := hR.o2 hs
  have fin : ∀ (X1 : xs_T) (S1 : ms_T) (pre1 : List Int32), RR X1 S1 → S1 0 = T → L = pre1 ++ (mb_txP T s P 0 ++ rest) → SF (f9_same_L474 rec360 fo_fu v6 v7 v8 (nI pre1.length) (nI s) 0 0 (X1, Z)) T Z := fun X1 S1 pre1 g1 g2 g3 => as_474 hI hR hs hL cont P 0 fo_fu X1 S1 pre1 0 (by omega) hfu g1 g2 g3 rfl
  by_cases c : T (31 + s) = -6
  · rw [if_pos (show Z.1 2 (20 + s) < 0 by rw [eo]; exact (ga_own se4).1.mpr c)]
    rw [if_pos c] at hpre
    exact fin X S pre h h0 hpre
  · rw [if_neg (show ¬ Z.1 2 (20 + s) < 0 by rw [eo]; exact fun x => c ((ga_own se4).1.mp x))]
    rw [if_neg c] at hpre
    subst h0
    obtain ⟨q1, S1, f1, d1, h1, z1⟩ := ak_sign h hI (nI pre.length)
    have d2 : q1.1 = 97 + Z.1 2 (20 + s) := by
      rw [d1, ← hL, eo]
      exact at_fd (x := 97 + S 0 (31 + s)) (post := mb_txP (S 0) s P 0 ++ rest) (by rw [hpre]; simp) (by rw [hL]; omega)
    rw [f1, lb_bd, lb_ck (by omega) (by omega), if_pos d2, ga_p1]
    have := fin q1.2 S1 (pre ++ [97 + S 0 (31 + s)]) h1 z1 (by rw [hpre]; simp)
    rw [List.length_append] at this
    exact this
theorem as_408 (hI : mb_I P t b C A T) (hR : RG Z.1 T) {s : Nat} (hs : s < 20) {L rest : List Int32} (hL : L = mb_tx T P 20 0) (cont : ∀ (X : xs_T) (S : ms_T) (pre : List Int32), RR X S → S 0 = T → L = pre ++ rest → SF (rec360 v6 v7 v8 (nI pre.length) (nI (s + 1)) (X, Z)) T Z)
    {X : xs_T} {S : ms_T} {pre : List Int32} (h : RR X S) (h0 : S 0 = T) (hpre : L = pre ++ ((if T (11 + s) = -6 then [] else [97 + T (11 + s)]) ++ ((if T (31 + s) = -6 then [] else [97 + T (31 + s)]) ++ (mb_txP T s P 0 ++ rest)))) {t0 t1 : Int32} (ht : t0 = t1) : SF (f9_same_b408 rec360 v6 v7 v8 (nI pre.length) (nI s) 0 t0 t1 (X, Z)) T Z := by
  have hP := hI.P4
  have hlen := hI.tx
  have fo4 : T (11 + s) = -6 ∨ ∃ q, q < 4 ∧ T (11 + s) = nI q := (hI.fo s hs).imp id (fun ⟨q, hq, e⟩ => ⟨q, by omega, e⟩)
  unfold f9_same_b408
  rw [if_pos ht, lb_ck (by omega) (by omega), lb_cl (by omega)]
  have eo : Z.1 2 s = T (11 + s) := hR.o (by omega)
  by_cases c : T (11 + s) = -6
  · rw [if_pos (show Z.1 2 s < 0 by rw [eo]; exact (ga_own fo4).1.mpr c)]
    rw [if_pos c] at hpre
    exact as_437 hI hR hs hL cont h h0 hpre
  · rw [if_neg (show ¬ Z.1 2 s < 0 by rw [eo]; exact fun x => c ((ga_own fo4).1.mp x))]
    rw [if_neg c] at hpre
    subst h0
    obtain ⟨q1, S1, f1, d1, h1, z1⟩ := ak_sign h hI (nI pre.length)
    have d2 : q1.1 = 97 + Z.1 2 s := by
      rw [d1, ← hL, eo]
      exact at_fd (x := 97 + S 0 (11 + s)) (post := (if S 0 (31 + s) = -6 then [] else [97 + S 0 (31 + s)]) ++ (mb_txP (S 0) s P 0 ++ rest)) (by rw [hpre]; simp) (by rw [hL]; omega)
    rw [f1, lb_bd, lb_ck (by omega) (by omega), if_pos d2, ga_p1]
    have := as_437 (X := q1.2) (S := S1) (pre := pre ++ [97 + S 0 (11 + s)]) hI hR hs hL cont h1 z1 (by rw [hpre]; simp)
    rw [List.length_append] at this
    exact this
theorem as_360 (hI : mb_I P t b C A T) (hR : RG Z.1 T) (e7 : mb_many T = v7) (e6 : mb_s4 T 0 = v6) (e8 : mb_all T = v8) : ∀ (r s n : Nat) (X : xs_T) (S : ms_T) (pre : List Int32), s + r = 20 → r < n → RR X S → S 0 = T → mb_tx T P 20 0 = pre ++ mb_tx T P r s → SF (f9_same_L360 n v6 v7 v8 (nI pre.length) (nI s) (X, Z)) T Z
  | r, s, 0, _, _, _, _, hn, _, _, _ => by omega
  | 0, s, n + 1, X, S, pre, hs, _, h, h0, hpre => by
    have hfu : 5 < fo_fu := by show 5 < 1000; omega
    show SF (f9_same_b360 (f9_same_L360 n) v6 v7 v8 (nI pre.length) (nI s) (X, Z)) T Z
    unfold f9_same_b360
    rw [show (20 : Int32) = nI 20 from rfl, if_pos (nI_le (by omega) (by omega))]
    subst h0
    have hpre : mb_tx (S 0) P 20 0 = pre ++ [] := hpre
    rw [List.append_nil] at hpre
    have := as_605 (Z := Z) hI hR e7 e6 e8 5 0 fo_fu X (by omega) hfu h
    rw [hpre] at this
    exact this
  | r + 1, s, n + 1, X, S, pre, hs, hn, h, h0, hpre => by
    have hs20 : s < 20 := by omega
    have hlen := hI.tx
    have hpre' : mb_tx T P 20 0 = pre ++ (([mb_sg s] ++ ((if T (11 + s) = -6 then [] else [97 + T (11 + s)]) ++ ((if T (31 + s) = -6 then [] else [97 + T (31 + s)]) ++ mb_txP T s P 0))) ++ mb_tx T P r (s + 1)) := hpre
    have cont : ∀ (X : xs_T) (S : ms_T) (pre : List Int32), RR X S → S 0 = T → mb_tx T P 20 0 = pre ++ mb_tx T P r (s + 1) → SF (f9_same_L360 n v6 v7 v8 (nI pre.length) (nI (s + 1)) (X, Z)) T Z := fun X S pre g1 g2 g3 => as_360 hI hR e7 e6 e8 r (s + 1) n X S pre (by omega) (by omega) g1 g2 g3
    show SF (f9_same_b360 (f9_same_L360 n) v6 v7 v8 (nI pre.length) (nI s) (X, Z)) T Z
    unfold f9_same_b360
    subst h0
    obtain ⟨q1, S1, f1, d1, h1, z1⟩ := ak_sign h hI (nI pre.length)
    have d2 : q1.1 = mb_sg s := by
      rw [d1]
      exact at_fd (x := mb_sg s) (post := (if S 0 (11 + s) = -6 then [] else [97 + S 0 (11 + s)]) ++ ((if S 0 (31 + s) = -6 then [] else [97 + S 0 (31 + s)]) ++ (mb_txP (S 0) s P 0 ++ mb_tx (S 0) P r (s + 1)))) (by rw [hpre']; simp) (by omega)
    have e10 : nI s - nI s / (10 : Int32) * (10 : Int32) = nI (s % 10) := lb_mod (b := 10) (by omega) (by omega)
    have go : ∀ t1 : Int32, mb_sg s = t1 → SF (f9_same_b408 (f9_same_L360 n) v6 v7 v8 (nI (pre.length + 1)) (nI s) 0 q1.1 t1 (q1.2, Z)) (S 0) Z := by
      intro t1 ht
      have := as_408 (X := q1.2) (S := S1) (pre := pre ++ [mb_sg s]) (t0 := q1.1) (t1 := t1) hI hR hs20 rfl cont h1 z1 (by rw [hpre']; simp) (d2.trans ht)
      rw [List.length_append] at this
      exact this
    rw [show (20 : Int32) = nI 20 from rfl, if_neg (nI_ge (by omega) (by omega)), f1, lb_bd, e10, ga_p1]
    unfold mb_sg mb_sort at go
    by_cases c0 : s % 10 = 0
    · rw [if_pos (show nI (s % 10) = 0 by rw [c0]; rfl)]
      refine go 111 ?_
      rw [if_pos c0, if_pos rfl]
    · rw [if_neg (nI_ne0 (by omega) (by omega))]
      by_cases c5 : s % 10 = 5
      · rw [if_pos (show nI (s % 10) = (5 : Int32) by rw [c5]; rfl)]
        refine go 61 ?_
        rw [if_neg c0, if_pos c5]; rfl
      · rw [if_neg (show ¬ nI (s % 10) = (5 : Int32) from fun x => c5 ((lb_inj (by omega) (by omega)).mp (x : nI (s % 10) = nI 5)))]
        refine go 45 ?_
        rw [if_neg c0, if_neg c5]; rfl
end SAME2
