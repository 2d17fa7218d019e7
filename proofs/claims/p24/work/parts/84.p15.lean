/-! ## would: the class's answers; the board is copied -/
section WOULD1
variable {P t : Nat} {b C A : Int} {X : xs_T} {S : ms_T}
theorem ak_J (h : RR X S) (hI : mb_I P t b C A (S 0)) : ∃ t', t' ≤ 9999 ∧ mb_J P t' (S 0) ∧ RB (X 5) (S 0) := by
  obtain ⟨⟨P', t', ht, hJ, hR⟩, -, -, -⟩ := h
  have hP := hI.P4
  have hP' := hJ.P4
  have e : P' = P := (lb_inj (by omega) (by omega)).mp (hJ.h6.symm.trans hI.h6)
  subst e
  exact ⟨t', ht, hJ, hR⟩
theorem ak_hp (hI : mb_I P t b C A (S 0)) (hR : RB (X 5) (S 0)) {p : Nat} (hp : p < P) : f0_hasPlayer (nI p) (X 5) = some 1 := by
  rcases lb_hasP hR hI.h6 hI.P4 (nI p) with ⟨-, b1⟩ | ⟨p', hp', e, b1⟩
  · exact absurd ⟨p, hp, rfl⟩ b1
  · exact b1
theorem ak_em (h : RR X S) (hI : mb_I P t b C A (S 0)) {p : Nat} (hp : p < P) : ∃ q, f7_emptyIn (nI p) X = some q ∧ q.1 = mb_em p 400 0 (S 0) ∧ RR q.2 S := by
  have hP := hI.P4
  obtain ⟨t', ht, hJ, hR⟩ := ak_J h hI
  have b1 := ak_hp hI hR hp
  obtain ⟨B, c1, c2⟩ := lb_copyB (S := X 6) hR
  obtain ⟨B2, u⟩ := lb_em7L hp hP 400 0 1000 t' (xs_set X 6 B) (S 0) rfl (by omega) hJ (by rw [lb_xs]; exact c2) (by omega)
  rw [lb_xx] at u
  refine ⟨(mb_em p 400 0 (S 0), xs_set X 6 B2), ?_, rfl, h.trial (fun _ _ => rfl) (fun _ _ => rfl) ⟨rfl, rfl⟩⟩
  unfold f7_emptyIn
  rw [b1, lb_bd, if_neg (show ¬ (1 : Int32) = 0 by decide), c1, lb_bd]
  exact u
theorem ak_pi (h : RR X S) (hI : mb_I P t b C A (S 0)) {p N : Nat} (hp : p < P) (h1 : 1 ≤ N) (h99 : N ≤ 99) : ∃ q, f7_purseIn (nI p) (nI N) X = some q ∧ q.1 = mb_turns N (S 0) (51 + 6 * p) ∧ RR q.2 S := by
  have hP := hI.P4
  obtain ⟨t', ht, hJ, hR⟩ := ak_J h hI
  have b1 := ak_hp hI hR hp
  obtain ⟨B, c1, c2⟩ := lb_copyB (S := X 6) hR
  obtain ⟨S1, k1, k2⟩ := hJ.take c2 (N := N) (by omega) (by omega) (by omega)
  have e0 : S1 6 p = mb_turns N (S 0) (51 + 6 * p) := k2.p (k := 0) (by omega) (by omega)
  have ep : f0_purseOf (nI p) S1 = some (mb_turns N (S 0) (51 + 6 * p)) := by
    unfold f0_purseOf; rw [lb_at (by omega) (by omega), lb_bd, e0]
  refine ⟨(mb_turns N (S 0) (51 + 6 * p), xs_set X 6 S1), ?_, rfl, h.trial (fun _ _ => rfl) (fun _ _ => rfl) ⟨rfl, rfl⟩⟩
  unfold f7_purseIn
  rw [b1, lb_bd, if_neg (show ¬ (1 : Int32) = 0 by decide), if_neg (show ¬ nI N < (1 : Int32) from nI_nlt (b := 1) (by omega) (by omega)), if_pos (show nI N ≤ (99 : Int32) from nI_le (b := 99) (by omega) (by omega)), c1, lb_bd, lb_xs, k1, lb_bd, lb_xs, ep, lb_bd, lb_xx]
theorem ak_bs (h : RR X S) (hI : mb_I P t b C A (S 0)) {p N : Nat} (hp : p < P) (h1 : 1 ≤ N) (h60 : N ≤ 60) : ∃ q, f7_bestSeed (nI p) (nI N) X = some q ∧ q.1 = mb_bs (S 0) p N 50 0 0 0 ∧ RR q.2 S := by
  have hP := hI.P4
  obtain ⟨t', ht, hJ, hR⟩ := ak_J h hI
  have b1 := ak_hp hI hR hp
  obtain ⟨B, u1⟩ := lb_bs7L hp hP (by omega) hJ ht (N := N) 50 0 1000 0 0 X rfl (by omega) hR
  refine ⟨(mb_bs (S 0) p N 50 0 0 0, xs_set X 6 B), ?_, rfl, h.trial (fun _ _ => rfl) (fun _ _ => rfl) ⟨rfl, rfl⟩⟩
  unfold f7_bestSeed
  rw [b1, lb_bd, if_neg (show ¬ (1 : Int32) = 0 by decide), if_neg (show ¬ nI N < (1 : Int32) from nI_nlt (b := 1) (by omega) (by omega)), if_pos (show nI N ≤ (60 : Int32) from nI_le (b := 60) (by omega) (by omega))]
  exact u1
theorem ak_ch (h : RR X S) (hI : mb_I P t b C A (S 0)) {p q : Nat} (hp : p < P) (hq : q < P) : ∃ r, f7_chain (nI p) (nI q) X = some r ∧ mb_Ds (S 0) p q r := by
  have hP := hI.P4
  obtain ⟨t', ht, hJ, hR⟩ := ak_J h hI
  have b1 := ak_hp hI hR hp
  have b2 := ak_hp hI hR hq
  obtain ⟨r1, u1, u2⟩ := lb_dist (D := ms_from (X 5) 2) (fun i hi => hR.c hi) (x := p) (c := q) (by omega) (by omega)
  refine ⟨r1, ?_, u2⟩
  unfold f7_chain
  rw [b1, lb_bd, if_neg (show ¬ (1 : Int32) = 0 by decide), b2, lb_bd, if_neg (show ¬ (1 : Int32) = 0 by decide), u1, lb_bd]
end WOULD1
section COPY
variable {Z : ms_T} {T : Nat → Int32}
theorem ga_cp4 : ∀ (r k n : Nat) (B : ms_T), k + r = 16 → r < n → (∀ g, g < 3 → ∀ i, B g i = B g i) → (∀ i, i < k → B 3 i = Z 3 i ∧ B 4 i = Z 4 i) → ∃ B', f9_copy_L78 Z n (nI k) B = some B' ∧ B' 0 = B 0 ∧ B' 1 = B 1 ∧ B' 2 = B 2 ∧ ∀ i, i < 16 → B' 3 i = Z 3 i ∧ B' 4 i = Z 4 i
  | r, k, 0, _, _, hn, _, _ => by omega
  | 0, k, n + 1, B, hk, _, _, he => by
    refine ⟨B, ?_, rfl, rfl, rfl, fun i hi => he i (by omega)⟩
    show f9_copy_b78 Z (f9_copy_L78 Z n) (nI k) B = _
    unfold f9_copy_b78
    rw [show (16 : Int32) = nI 16 from rfl, if_pos (nI_le (by omega) (by omega))]
  | r + 1, k, n + 1, B, hk, hn, hg, he => by
    show ∃ B', f9_copy_b78 Z (f9_copy_L78 Z n) (nI k) B = some B' ∧ _
    unfold f9_copy_b78
    rw [show (16 : Int32) = nI 16 from rfl, if_neg (nI_ge (by omega) (by omega)), lb_ck (by omega) (by omega), lb_ck (by omega) (by omega), lb_bd, lb_ck (by omega) (by omega), lb_ck (by omega) (by omega), lb_bd, lb_cl (by omega), ga_p1]
    obtain ⟨B', f1, g0, g1, g2, g3⟩ := ga_cp4 r (k + 1) n (ms_set (ms_set B 3 (upd (B 3) k (Z 3 k))) 4 (upd (ms_set B 3 (upd (B 3) k (Z 3 k)) 4) k (Z 4 k))) (by omega) (by omega) (fun _ _ _ => rfl) (fun i hi => by
      rw [lb_mn (show (3 : Nat) ≠ 4 by decide), lb_ms, lb_ms, lb_mn (show (4 : Nat) ≠ 3 by decide)]
      by_cases e : i = k
      · subst e; exact ⟨lb_us _ _ _, lb_us _ _ _⟩
      · rw [lb_un e, lb_un e]; exact he i (by omega))
    refine ⟨B', f1, ?_, ?_, ?_, g3⟩
    · rw [g0, lb_mn (by decide), lb_mn (by decide)]
    · rw [g1, lb_mn (by decide), lb_mn (by decide)]
    · rw [g2, lb_mn (by decide), lb_mn (by decide)]
theorem ga_cp3 : ∀ (r k n : Nat) (B : ms_T), k + r = 40 → r < n → (∀ i, i < k → B 2 i = Z 2 i) → ∃ B', f9_copy_L53 Z n (nI k) B = some B' ∧ B' 0 = B 0 ∧ B' 1 = B 1 ∧ (∀ i, i < 40 → B' 2 i = Z 2 i) ∧ ∀ i, i < 16 → B' 3 i = Z 3 i ∧ B' 4 i = Z 4 i
  | r, k, 0, _, _, hn, _ => by omega
  | 0, k, n + 1, B, hk, _, he => by
    have hfu : 16 < fo_fu := by show 16 < 1000; omega
    obtain ⟨B', f1, g0, g1, g2, g3⟩ := ga_cp4 (Z := Z) 16 0 fo_fu B (by omega) hfu (fun _ _ _ => rfl) (fun i hi => by omega)
    refine ⟨B', ?_, g0, g1, fun i hi => by rw [g2]; exact he i (by omega), g3⟩
    show f9_copy_b53 Z (f9_copy_L53 Z n) (nI k) B = _
    unfold f9_copy_b53
    rw [show (40 : Int32) = nI 40 from rfl, if_pos (nI_le (by omega) (by omega))]
    exact f1
  | r + 1, k, n + 1, B, hk, hn, he => by
    show ∃ B', f9_copy_b53 Z (f9_copy_L53 Z n) (nI k) B = some B' ∧ _
    unfold f9_copy_b53
    rw [show (40 : Int32) = nI 40 from rfl, if_neg (nI_ge (by omega) (by omega)), lb_ck (by omega) (by omega), lb_ck (by omega) (by omega), lb_bd, lb_cl (by omega), ga_p1]
    obtain ⟨B', f1, g0, g1, g2⟩ := ga_cp3 r (k + 1) n (ms_set B 2 (upd (B 2) k (Z 2 k))) (by omega) (by omega) (fun i hi => by
      rw [lb_ms]
      by_cases e : i = k
      · subst e; exact lb_us _ _ _
      · rw [lb_un e]; exact he i (by omega))
    refine ⟨B', f1, ?_, ?_, g2⟩
    · rw [g0, lb_mn (by decide)]
    · rw [g1, lb_mn (by decide)]
theorem ga_cp2 : ∀ (r k n : Nat) (B : ms_T), k + r = 24 → r < n → (∀ i, i < k → B 1 i = Z 1 i) → ∃ B', f9_copy_L28 Z n (nI k) B = some B' ∧ B' 0 = B 0 ∧ (∀ i, i < 24 → B' 1 i = Z 1 i) ∧ (∀ i, i < 40 → B' 2 i = Z 2 i) ∧ ∀ i, i < 16 → B' 3 i = Z 3 i ∧ B' 4 i = Z 4 i
  | r, k, 0, _, _, hn, _ => by omega
  | 0, k, n + 1, B, hk, _, he => by
    have hfu : 40 < fo_fu := by show 40 < 1000; omega
    obtain ⟨B', f1, g0, g1, g2⟩ := ga_cp3 (Z := Z) 40 0 fo_fu B (by omega) hfu (fun i hi => by omega)
    refine ⟨B', ?_, g0, fun i hi => by rw [g1]; exact he i (by omega), g2⟩
    show f9_copy_b28 Z (f9_copy_L28 Z n) (nI k) B = _
    unfold f9_copy_b28
    rw [show (24 : Int32) = nI 24 from rfl, if_pos (nI_le (by omega) (by omega))]
    exact f1
  | r + 1, k, n + 1, B, hk, hn, he => by
    show ∃ B', f9_copy_b28 Z (f9_copy_L28 Z n) (nI k) B = some B' ∧ _
    unfold f9_copy_b28
    rw [show (24 : Int32) = nI 24 from rfl, if_neg (nI_ge (by omega) (by omega)), lb_ck (by omega) (by omega), lb_ck (by omega) (by omega), lb_bd, lb_cl (by omega), ga_p1]
    obtain ⟨B', f1, g0, g1⟩ := ga_cp2 r (k + 1) n (ms_set B 1 (upd (B 1) k (Z 1 k))) (by omega) (by omega) (fun i hi => by
      rw [lb_ms]
      by_cases e : i = k
      · subst e; exact lb_us _ _ _
      · rw [lb_un e]; exact he i (by omega))
    refine ⟨B', f1, ?_, g1⟩
    rw [g0, lb_mn (by decide)]
theorem ga_cp1 : ∀ (r k n : Nat) (B : ms_T), k + r = 11 → r < n → (∀ i, i < k → B 0 i = Z 0 i) → ∃ B', f9_copy_L3 Z n (nI k) B = some B' ∧ (∀ i, i < 11 → B' 0 i = Z 0 i) ∧ (∀ i, i < 24 → B' 1 i = Z 1 i) ∧ (∀ i, i < 40 → B' 2 i = Z 2 i) ∧ ∀ i, i < 16 → B' 3 i = Z 3 i ∧ B' 4 i = Z 4 i
  | r, k, 0, _, _, hn, _ => by omega
  | 0, k, n + 1, B, hk, _, he => by
    have hfu : 24 < fo_fu := by show 24 < 1000; omega
    obtain ⟨B', f1, g0, g1⟩ := ga_cp2 (Z := Z) 24 0 fo_fu B (by omega) hfu (fun i hi => by omega)
    refine ⟨B', ?_, fun i hi => by rw [g0]; exact he i (by omega), g1⟩
    show f9_copy_b3 Z (f9_copy_L3 Z n) (nI k) B = _
    unfold f9_copy_b3
    rw [show (11 : Int32) = nI 11 from rfl, if_pos (nI_le (by omega) (by omega))]
    exact f1
  | r + 1, k, n + 1, B, hk, hn, he => by
    show ∃ B', f9_copy_b3 Z (f9_copy_L3 Z n) (nI k) B = some B' ∧ _
    unfold f9_copy_b3
    rw [show (11 : Int32) = nI 11 from rfl, if_neg (nI_ge (by omega) (by omega)), lb_ck (by omega) (by omega), lb_ck (by omega) (by omega), lb_bd, lb_cl (by omega), ga_p1]
    exact ga_cp1 r (k + 1) n (ms_set B 0 (upd (B 0) k (Z 0 k))) (by omega) (by omega) (fun i hi => by
      rw [lb_ms]
      by_cases e : i = k
      · subst e; exact lb_us _ _ _
      · rw [lb_un e]; exact he i (by omega))
theorem ga_copy (h : RG Z T) (B : ms_T) : ∃ B', f9_copy Z B = some B' ∧ RG B' T := by
  have hfu : 11 < fo_fu := by show 11 < 1000; omega
  obtain ⟨B', f1, g0, g1, g2, g3⟩ := ga_cp1 (Z := Z) 11 0 fo_fu B (by omega) hfu (fun i hi => by omega)
  exact ⟨B', f1, fun i hi => by rw [g0 i hi]; exact h.q hi, fun i hi => by rw [g1 i hi]; exact h.p hi, fun i hi => by rw [g2 i hi]; exact h.o hi, fun i hi => by rw [(g3 i hi).1]; exact h.d hi, fun i hi => by rw [(g3 i hi).2]; exact h.g hi⟩
end COPY
