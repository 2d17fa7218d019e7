/-! ## same: its end, the counts -/
abbrev SF (f : Option (Int32 × ys_T)) (T : Nat → Int32) (Z : ms_T × ms_T) : Prop := ∃ X' S', f = some (1, (X', Z)) ∧ RR X' S' ∧ S' 0 = T
section SAME
variable {P t : Nat} {b C A : Int} {X : xs_T} {S : ms_T} {Z : ms_T × ms_T}
theorem as_700 (hI : mb_I P t b C A (S 0)) (hR : RG Z.1 (S 0)) (h : RR X S) {v6 v7 v8 t0 t1 : Int32} (e0 : t0 = t1) (e7 : mb_many (S 0) = v7) (e6 : mb_s4 (S 0) 0 = v6) (e8 : mb_all (S 0) = v8) : SF (f9_same_b700 v6 v7 v8 t0 t1 (X, Z)) (S 0) Z := by
  obtain ⟨q1, f1, d1, h1⟩ := ak_c h (ac_3 hI)
  obtain ⟨q2, f2, d2, h2⟩ := ak_c h1 (ac_4 hI)
  obtain ⟨q3, f3, d3, h3⟩ := ak_c h2 (ac_5 hI)
  obtain ⟨q4, f4, d4, h4⟩ := ak_c h3 (ac_6)
  obtain ⟨q5, f5, d5, h5⟩ := ak_c h4 (ac_7)
  obtain ⟨q6, f6, d6, h6⟩ := ak_c h5 (ac_8)
  unfold f9_same_b700
  rw [if_pos e0, f1, lb_bd, if_pos (d1.trans e7), f2, lb_bd, if_pos (d2.trans e6), f3, lb_bd, if_pos (d3.trans e8), f4, lb_bd, ga_k9, lb_c9, if_pos (d4.trans (hR.q (i := 9) (by omega)).symm), f5, lb_bd, ga_k10, lb_c10, if_pos (d5.trans (hR.q (i := 10) (by omega)).symm), f6, lb_bd, ga_k8, lb_c8, if_pos (d6.trans (hR.q (i := 8) (by omega)).symm)]
  exact ⟨q6.2, S, rfl, h6, rfl⟩
theorem at_fd {L pre post : List Int32} {x : Int32} (h : L = pre ++ x :: post) (hl : L.length < 1000) : mb_fd (nI pre.length) L = x := by
  have h2 : pre.length < L.length := by rw [h, List.length_append]; simp
  unfold mb_fd
  rw [if_neg (nI_pos (by omega)), lb_cl (by omega), h, List.getElem?_append_right (Nat.le_refl _), Nat.sub_self]
  rfl
theorem at_end {L : List Int32} (hl : L.length < 1000) : mb_fd (nI L.length) L = -1 := by
  unfold mb_fd
  rw [if_neg (nI_pos (by omega)), lb_cl (by omega), List.getElem?_eq_none (Nat.le_refl _)]
  rfl
theorem as_605 (hI : mb_I P t b C A (S 0)) (hR : RG Z.1 (S 0)) {v6 v7 v8 : Int32} (e7 : mb_many (S 0) = v7) (e6 : mb_s4 (S 0) 0 = v6) (e8 : mb_all (S 0) = v8) : ∀ (r k n : Nat) (X : xs_T), k + r = 5 → r < n → RR X S → SF (f9_same_L605 n v6 v7 v8 (nI (mb_tx (S 0) P 20 0).length) (nI k) (X, Z)) (S 0) Z
  | r, k, 0, _, _, hn, _ => by omega
  | 0, k, n + 1, X, hk, _, h => by
    have hl := hI.tx
    have hP := hI.P4
    obtain ⟨q1, S1, f1, d1, h1, z1⟩ := ak_sign h hI (nI (mb_tx (S 0) P 20 0).length)
    rw [at_end (by omega)] at d1
    rw [← z1] at hI hR e7 e6 e8 ⊢
    obtain ⟨S2, c2, z2⟩ := ac_14 hI
    obtain ⟨q2, f2, d2, h2⟩ := ak_c h1 c2
    rw [← z2] at hI hR e7 e6 e8 ⊢
    obtain ⟨q3, f3, d3, h3⟩ := ak_c h2 ac_0
    obtain ⟨q4, f4, d4, h4⟩ := ak_c h3 ac_1
    obtain ⟨q5, f5, d5, h5⟩ := ak_c h4 ac_2
    rw [← z1, ← z2] at f1
    rw [← z2] at d2
    show SF (f9_same_b605 (f9_same_L605 n) v6 v7 v8 (nI (mb_tx (S2 0) P 20 0).length) (nI k) (X, Z)) (S2 0) Z
    unfold f9_same_b605
    rw [show (5 : Int32) = nI 5 from rfl, if_pos (nI_le (by omega) (by omega)), f1, lb_bd, if_pos d1, f2, lb_bd, if_pos d2, f3, lb_bd, show nI 5 = (5 : Int32) from rfl, ga_k5, lb_c5, if_pos (d3.trans (hR.q (i := 5) (by omega)).symm), f4, lb_bd, ga_k6, lb_c6, if_pos (d4.trans (hR.q (i := 6) (by omega)).symm), f5, lb_bd, ga_k6, ga_k7, lb_c7]
    have e06 : Z.1 0 6 = S2 0 6 := hR.q (by omega)
    have e07 : Z.1 0 7 = S2 0 7 := hR.q (by omega)
    by_cases c : S2 0 6 = 0
    · rw [if_pos (show Z.1 0 6 = 0 from e06.trans c)]
      rw [if_pos c] at d5
      exact as_700 hI hR h5 d5 e7 e6 e8
    · rw [if_neg (show ¬ Z.1 0 6 = 0 from fun x => c (e06.symm.trans x))]
      rw [if_neg c] at d5
      exact as_700 hI hR h5 (d5.trans e07.symm) e7 e6 e8
  | r + 1, k, n + 1, X, hk, hn, h => by
    obtain ⟨q1, f1, d1, h1⟩ := ak_c h (ac_9 (S := S) (k := k) (by omega))
    show SF (f9_same_b605 (f9_same_L605 n) v6 v7 v8 (nI (mb_tx (S 0) P 20 0).length) (nI k) (X, Z)) (S 0) Z
    unfold f9_same_b605
    rw [show (5 : Int32) = nI 5 from rfl, if_neg (nI_ge (by omega) (by omega)), f1, lb_bd, lb_ck (by omega) (by omega), lb_cl (by omega), if_pos (d1.trans (hR.q (i := k) (by omega)).symm), ga_p1]
    exact as_605 hI hR e7 e6 e8 r (k + 1) n q1.2 (by omega) (by omega) h1
end SAME
