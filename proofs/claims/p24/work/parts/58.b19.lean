/-! ## Layer B: the board as a text -/
def mb_sg (s : Nat) : Int32 := if mb_sort s = 0 then 111 else if mb_sort s = 1 then 45 else 61
def mb_txP (T : Nat → Int32) (s : Nat) : Nat → Nat → List Int32
  | 0, _ => []
  | r + 1, k => (if T (51 + 6 * k + 1) = nI s then [65 + nI k] else []) ++ mb_txP T s r (k + 1)
def mb_tx1 (T : Nat → Int32) (P s : Nat) : List Int32 := [mb_sg s] ++ ((if T (11 + s) = -6 then [] else [97 + T (11 + s)]) ++ ((if T (31 + s) = -6 then [] else [97 + T (31 + s)]) ++ mb_txP T s P 0))
def mb_tx (T : Nat → Int32) (P : Nat) : Nat → Nat → List Int32
  | 0, _ => []
  | r + 1, s => mb_tx1 T P s ++ mb_tx T P r (s + 1)
/-- how many of the players stand at a square from s on -/
def mb_pc (y : Nat → Nat) (s : Nat) : Nat → Nat → Nat
  | 0, _ => 0
  | r + 1, k => (if s ≤ y k then 1 else 0) + mb_pc y s r (k + 1)
theorem lb_pcB {y : Nat → Nat} {s : Nat} : ∀ (r k : Nat), mb_pc y s r k ≤ r
  | 0, _ => Nat.le_refl _
  | r + 1, k => by
    have := lb_pcB (y := y) (s := s) r (k + 1)
    show (if s ≤ y k then 1 else 0) + mb_pc y s r (k + 1) ≤ r + 1
    split <;> omega
theorem lb_pcS {T : Nat → Int32} {y : Nat → Nat} {s : Nat} (hs : s < 20) (hy : ∀ k, k < 4 → y k < 20 ∧ T (51 + 6 * k + 1) = nI (y k)) : ∀ (r k : Nat), k + r ≤ 4 → (mb_txP T s r k).length + mb_pc y (s + 1) r k = mb_pc y s r k
  | 0, _, _ => rfl
  | r + 1, k, hk => by
    have IH := lb_pcS hs hy r (k + 1) (by omega)
    have h1 := hy k (by omega)
    show ((if T (51 + 6 * k + 1) = nI s then [65 + nI k] else []) ++ mb_txP T s r (k + 1)).length + ((if s + 1 ≤ y k then 1 else 0) + mb_pc y (s + 1) r (k + 1)) = (if s ≤ y k then 1 else 0) + mb_pc y s r (k + 1)
    rw [List.length_append]
    by_cases e : y k = s
    · rw [if_pos (by rw [h1.2, e]), if_neg (by omega), if_pos (by omega)]
      simp only [List.length_cons, List.length_nil]; omega
    · rw [if_neg (by rw [h1.2]; intro e2; exact e ((lb_inj (by omega) (by omega)).mp e2))]
      by_cases e3 : s ≤ y k
      · rw [if_pos (by omega), if_pos e3]; simp only [List.length_nil]; omega
      · rw [if_neg (by omega), if_neg e3]; simp only [List.length_nil]; omega
theorem lb_txB {P t : Nat} {B C A : Int} {T : Nat → Int32} (h : mb_I P t B C A T) {y : Nat → Nat} (hy : ∀ k, k < 4 → y k < 20 ∧ T (51 + 6 * k + 1) = nI (y k)) : ∀ (r s : Nat), s + r = 20 → (mb_tx T P r s).length + (s + (s - (s + 9) / 10) + (s + 4) / 10) ≤ 40 + mb_pc y s P 0
  | 0, s, hs => by
    have : s = 20 := by omega
    subst this
    show 0 + _ ≤ _
    omega
  | r + 1, s, hs => by
    have IH := lb_txB h hy r (s + 1) (by omega)
    have hp := lb_pcS (s := s) (by omega) hy P 0 (by have := h.P4; omega)
    show (mb_tx1 T P s ++ mb_tx T P r (s + 1)).length + _ ≤ _
    unfold mb_tx1
    rw [List.length_append, List.length_append, List.length_append, List.length_append]
    have hf := h.fi s (by omega)
    have hse := h.se s (by omega)
    have l1 : (s % 10 = 0 ∧ (if T (11 + s) = -6 then ([] : List Int32) else [97 + T (11 + s)]).length = 0) ∨ (s % 10 ≠ 0 ∧ (if T (11 + s) = -6 then ([] : List Int32) else [97 + T (11 + s)]).length ≤ 1) := by
      by_cases e2 : s % 10 = 0
      · left; rw [if_pos (hf e2)]; exact ⟨e2, rfl⟩
      · right
        refine ⟨e2, ?_⟩
        by_cases e : T (11 + s) = -6
        · rw [if_pos e]; simp
        · rw [if_neg e]; simp
    have l2 : (s % 10 ≠ 5 ∧ (if T (31 + s) = -6 then ([] : List Int32) else [97 + T (31 + s)]).length = 0) ∨ (s % 10 = 5 ∧ (if T (31 + s) = -6 then ([] : List Int32) else [97 + T (31 + s)]).length ≤ 1) := by
      rcases hse with h1 | ⟨h1, -⟩
      · rw [if_pos h1]
        by_cases e2 : s % 10 = 5
        · right; exact ⟨e2, by simp⟩
        · left; exact ⟨e2, rfl⟩
      · right
        refine ⟨h1, ?_⟩
        by_cases e : T (31 + s) = -6
        · rw [if_pos e]; simp
        · rw [if_neg e]; simp
    have l0 : [mb_sg s].length = 1 := rfl
    rw [l0]
    generalize (if T (11 + s) = -6 then ([] : List Int32) else [97 + T (11 + s)]).length = z1 at l1 ⊢
    generalize (if T (31 + s) = -6 then ([] : List Int32) else [97 + T (31 + s)]).length = z2 at l2 ⊢
    generalize (mb_tx T P r (s + 1)).length = z3 at IH ⊢
    generalize (mb_txP T s P 0).length = z4 at hp ⊢
    clear hf hse h hy
    omega
theorem mb_I.tx {P t : Nat} {B C A : Int} {T : Nat → Int32} (h : mb_I P t B C A T) : (mb_tx T P 20 0).length ≤ 44 := by
  have hy : ∀ k, k < 4 → (T (51 + 6 * k + 1)).toNatClampNeg < 20 ∧ T (51 + 6 * k + 1) = nI (T (51 + 6 * k + 1)).toNatClampNeg := by
    intro k hk
    obtain ⟨y, h1, h2⟩ := h.pl' hk
    rw [h2, lb_cl (by omega)]
    exact ⟨h1, rfl⟩
  have h1 := lb_txB h (y := fun k => (T (51 + 6 * k + 1)).toNatClampNeg) hy 20 0 rfl
  have h2 := lb_pcB (y := fun k => (T (51 + 6 * k + 1)).toNatClampNeg) (s := 0) P 0
  have := h.P4
  omega
/-! the class writes -/
abbrev mb_W (S B : ms_T) (l : List Int32) : Prop := (∀ g, g < 13 → S g = B g) ∧ S 14 0 = nI l.length ∧ ∀ i, i < l.length → l[i]? = some (S 13 i)
theorem lb_app {S B : ms_T} {l : List Int32} (h : mb_W S B l) (hl : l.length < 44) (x : Int32) : ∃ q, f3_append 44 x (ms_from S 13) = some q ∧ mb_W (ms_sub S 13 2 q) B (l ++ [x]) := by
  obtain ⟨h1, h2, h3⟩ := h
  unfold f3_append
  have e1 : ms_from S 13 1 0 = nI l.length := h2
  have e0 : ms_from S 13 0 = S 13 := rfl
  rw [e1, e0, if_neg (nI_ge (by omega) (by omega)), lb_write hl (by omega), lb_bd]
  have e2 : ms_set (ms_from S 13) 0 (upd (S 13) l.length x) 1 = S 14 := lb_mn (by decide)
  rw [e2, h2]
  refine ⟨_, rfl, ?_, ?_, ?_⟩
  · intro g hg
    unfold ms_sub
    rw [if_neg (by omega)]; exact h1 g hg
  · unfold ms_sub
    rw [if_pos (by omega)]
    show ms_set _ 1 _ 1 0 = _
    rw [lb_ms, lb_us, List.length_append]
    exact (nI_succ l.length).symm
  · intro i hi
    unfold ms_sub
    rw [if_pos (by omega)]
    show _ = some (ms_set _ 1 _ 0 i)
    rw [lb_mn (by decide), lb_ms]
    rw [List.length_append] at hi
    by_cases e : i = l.length
    · subst e; rw [lb_us]; simp
    · have hi' : i < l.length := by simp at hi; omega
      rw [lb_un e, List.getElem?_append_left hi']; exact h3 i hi'
theorem lb_wrP {B : ms_T} {T : Nat → Int32} (hR : RB B T) {P : Nat} (h6 : T 6 = nI P) (hP : P ≤ 4) {s : Nat} (hs : s < 20) {rec6 : Int32 → ms_T → Option ms_T} : ∀ (r k n : Nat) (S : ms_T) (l : List Int32), k + r = P → r < n → mb_W S B l → (l ++ mb_txP T s r k).length ≤ 44 → ∃ S', f0_describe_L101 44 rec6 n (nI s) (nI k) S = rec6 (nI (s + 1)) S' ∧ mb_W S' B (l ++ mb_txP T s r k)
  | _, _, 0, _, _, _, h, _, _ => by omega
  | 0, k, n + 1, S, l, hk, hn, hW, hl => by
    refine ⟨S, ?_, by rw [show l ++ mb_txP T s 0 k = l from List.append_nil l]; exact hW⟩
    show f0_describe_b101 44 rec6 _ (nI s) (nI k) S = _
    unfold f0_describe_b101
    rw [hW.1 12 (by omega), hR.z.1, h6, if_pos (nI_le (by omega) (by omega)), nI_succ]
  | r + 1, k, n + 1, S, l, hk, hn, hW, hl => by
    show ∃ S', f0_describe_b101 44 rec6 (f0_describe_L101 44 rec6 n) (nI s) (nI k) S = rec6 (nI (s + 1)) S' ∧ mb_W S' B (l ++ ((if T (51 + 6 * k + 1) = nI s then [65 + nI k] else []) ++ mb_txP T s r (k + 1)))
    have hl' : (l ++ ((if T (51 + 6 * k + 1) = nI s then [65 + nI k] else []) ++ mb_txP T s r (k + 1))).length ≤ 44 := hl
    unfold f0_describe_b101 f0_describe_b132
    have hs1 : nI k + 1 = nI (k + 1) := (nI_succ k).symm
    rw [hW.1 12 (by omega), hR.z.1, h6, if_neg (nI_ge (by omega) (by omega)), hW.1 7 (by omega), lb_at (by omega) (by omega), lb_bd, hR.p (k := 1) (i := k) (by omega) (by omega), hs1]
    by_cases c : T (51 + 6 * k + 1) = nI s
    · rw [if_pos c] at hl' ⊢
      rw [if_pos c]
      obtain ⟨q, e1, e2⟩ := lb_app hW (by simp only [List.length_append, List.length_cons] at hl'; omega) (65 + nI k)
      rw [e1, lb_bd]
      obtain ⟨S', u1, u2⟩ := lb_wrP hR h6 hP hs (rec6 := rec6) r (k + 1) n _ _ (by omega) (by omega) e2 (by rw [List.append_assoc]; exact hl')
      rw [List.append_assoc] at u2
      exact ⟨S', u1, u2⟩
    · rw [if_neg c] at hl' ⊢
      rw [if_neg c]
      exact lb_wrP hR h6 hP hs r (k + 1) n _ _ (by omega) (by omega) hW hl'
theorem lb_wr0 {B : ms_T} {T : Nat → Int32} (hR : RB B T) {P : Nat} (h6 : T 6 = nI P) (hP : P ≤ 4) : ∀ (r s n : Nat) (S : ms_T) (l : List Int32), s + r = 20 → r < n → mb_W S B l → (l ++ mb_tx T P r s).length ≤ 44 → ∃ S', f0_describe_L6 44 n (nI s) S = some S' ∧ mb_W S' B (l ++ mb_tx T P r s)
  | _, _, 0, _, _, _, h, _, _ => by omega
  | 0, s, n + 1, S, l, hs, hn, hW, hl => by
    refine ⟨S, ?_, by rw [show l ++ mb_tx T P 0 s = l from List.append_nil l]; exact hW⟩
    show f0_describe_b6 44 _ (nI s) S = _
    unfold f0_describe_b6
    rw [show (20 : Int32) = nI 20 from rfl, if_pos (nI_le (by omega) (by omega))]
  | r + 1, s, n + 1, S, l, hs, hn, hW, hl => by
    have hs20 : s < 20 := by omega
    show ∃ S', f0_describe_b6 44 (f0_describe_L6 44 n) (nI s) S = some S' ∧ mb_W S' B (l ++ (mb_tx1 T P s ++ mb_tx T P r (s + 1)))
    have hl' : (l ++ (mb_tx1 T P s ++ mb_tx T P r (s + 1))).length ≤ 44 := hl
    have l39 : ∀ S l, mb_W S B l → (l ++ (mb_tx1 T P s ++ mb_tx T P r (s + 1))).length ≤ 44 → ∃ S', f0_describe_b39 44 (f0_describe_L6 44 n) (nI s) (mb_sg s) S = some S' ∧ mb_W S' B (l ++ (mb_tx1 T P s ++ mb_tx T P r (s + 1))) := by
      intro S l hW hl
      unfold mb_tx1 at hl ⊢
      simp only [List.append_assoc] at hl ⊢
      have l98 : ∀ S l, mb_W S B l → (l ++ (mb_txP T s P 0 ++ mb_tx T P r (s + 1))).length ≤ 44 → ∃ S', f0_describe_b98 44 (f0_describe_L6 44 n) (nI s) S = some S' ∧ mb_W S' B (l ++ (mb_txP T s P 0 ++ mb_tx T P r (s + 1))) := by
        intro S l hW hl
        unfold f0_describe_b98
        rw [← List.append_assoc] at hl ⊢
        obtain ⟨S', u1, u2⟩ := lb_wrP hR h6 hP hs20 (rec6 := f0_describe_L6 44 n) P 0 1000 S l (by omega) (by omega) hW (by rw [List.length_append] at hl; omega)
        rw [show f0_describe_L101 44 (f0_describe_L6 44 n) fo_fu (nI s) 0 S = _ from u1]
        exact lb_wr0 hR h6 hP r (s + 1) n S' _ (by omega) (by omega) u2 hl
      have l70 : ∀ S l, mb_W S B l → (l ++ ((if T (31 + s) = -6 then [] else [97 + T (31 + s)]) ++ (mb_txP T s P 0 ++ mb_tx T P r (s + 1)))).length ≤ 44 → ∃ S', f0_describe_b70 44 (f0_describe_L6 44 n) (nI s) S = some S' ∧ mb_W S' B (l ++ ((if T (31 + s) = -6 then [] else [97 + T (31 + s)]) ++ (mb_txP T s P 0 ++ mb_tx T P r (s + 1)))) := by
        intro S l hW hl
        unfold f0_describe_b70 f5_secondOwner
        rw [hW.1 1 (by omega), lb_at hs20 (by omega), lb_bd, lb_bd, lb_bd, hR.s hs20]
        by_cases c : T (31 + s) = -6
        · rw [if_pos c] at hl ⊢
          rw [if_pos c]
          exact l98 S l hW hl
        · rw [if_neg c] at hl ⊢
          rw [if_neg c]
          obtain ⟨q, e1, e2⟩ := lb_app hW (by simp only [List.length_append, List.length_cons] at hl; omega) (97 + T (31 + s))
          rw [e1, lb_bd]
          rw [← List.append_assoc] at hl ⊢
          exact l98 _ _ e2 hl
      unfold f0_describe_b39
      obtain ⟨q, e1, e2⟩ := lb_app hW (by simp only [List.length_append, List.length_cons] at hl; omega) (mb_sg s)
      rw [e1, lb_bd]
      generalize hS1 : ms_sub S 13 2 q = S1 at e2
      unfold f5_firstOwner
      rw [e2.1 0 (by omega), lb_at hs20 (by omega), lb_bd, lb_bd, lb_bd, hR.f hs20]
      rw [← List.append_assoc l [mb_sg s]] at hl ⊢
      by_cases c : T (11 + s) = -6
      · rw [if_pos c] at hl ⊢
        rw [if_pos c]
        exact l70 _ _ e2 hl
      · rw [if_neg c] at hl ⊢
        rw [if_neg c]
        obtain ⟨q2, e3, e4⟩ := lb_app e2 (by simp only [List.length_append, List.length_cons] at hl ⊢; omega) (97 + T (11 + s))
        rw [e3, lb_bd]
        rw [← List.append_assoc (l ++ [mb_sg s])] at hl ⊢
        exact l70 _ _ e4 hl
    unfold f0_describe_b6
    rw [show (20 : Int32) = nI 20 from rfl, if_neg (nI_ge (by omega) (by omega)), lb_sort5 s hs20, lb_bd]
    have h3 : mb_sort s < 3 := by unfold mb_sort; split; omega; split <;> omega
    have h3 : mb_sort s = 0 ∨ mb_sort s = 1 ∨ mb_sort s = 2 := by omega
    have hh := l39 S l hW hl'
    have sg : mb_sg s = if mb_sort s = 0 then 111 else if mb_sort s = 1 then 45 else 61 := rfl
    rw [sg] at hh
    rcases h3 with h3 | h3 | h3 <;> rw [h3] at hh ⊢
    · rw [if_pos (show nI 0 = 0 from rfl)]; exact hh
    · rw [if_neg (show ¬ nI 1 = 0 by decide), if_pos (show nI 1 = 1 from rfl)]; exact hh
    · rw [if_neg (show ¬ nI 2 = 0 by decide), if_neg (show ¬ nI 2 = 1 by decide)]; exact hh
/-! the reference writes -/
def mb_fd (w : Int32) (l : List Int32) : Int32 := if w < 0 then -1 else (l[w.toNatClampNeg]?).getD (-1)
theorem lb_fdA {w : Int32} {l : List Int32} {x : Int32} (hl : l.length < 1000) : mb_fd w (l ++ [x]) = if nI l.length = w then x else mb_fd w l := by
  unfold mb_fd
  rcases lb_lt0n w with h | ⟨n, hn, rfl, h⟩
  · rw [if_pos h, if_pos h, if_neg (fun e => nI_pos (by omega) (e ▸ h))]
  · rw [if_neg h, if_neg h, lb_cl hn]
    by_cases e : l.length = n
    · subst e; rw [if_pos rfl]; simp
    · rw [if_neg (fun e2 => e ((lb_inj (by omega) hn).mp e2))]
      by_cases e2 : n < l.length
      · rw [List.getElem?_append_left e2]
      · rw [List.getElem?_eq_none (by simp; omega), List.getElem?_eq_none (by omega)]
abbrev mb_V (S S0 : ms_T) (w : Int32) (l : List Int32) : Prop := (∀ g, g ≠ 8 → S g = S0 g) ∧ (∀ i, i ≠ 2 → i ≠ 3 → i ≠ 4 → S 8 i = S0 8 i) ∧ S 8 2 = nI l.length ∧ S 8 3 = w ∧ S 8 4 = mb_fd w l
theorem lb_ws {S S0 : ms_T} {w : Int32} {l : List Int32} (h : mb_V S S0 w l) (hl : l.length < 1000) (x : Int32) : ∃ S', f8_writesSign x S = some S' ∧ mb_V S' S0 w (l ++ [x]) := by
  obtain ⟨h1, h2, h3, h4, h5⟩ := h
  have e : f8_writesSign x S = f8_writesSign_b20 (mb_fd w (l ++ [x])) S := by
    unfold f8_writesSign
    rw [h3, h4, h5, lb_fdA hl]
    by_cases c : nI l.length = w
    · rw [if_pos c, if_pos c]
    · rw [if_neg c, if_neg c]
  rw [e]
  unfold f8_writesSign_b20
  refine ⟨_, rfl, ?_, ?_, ?_, ?_, ?_⟩
  · intro g hg; rw [lb_mn hg, lb_mn hg]; exact h1 g hg
  · intro i a b c; rw [lb_ms, lb_un a, lb_ms, lb_un c]; exact h2 i a b c
  · rw [lb_ms, lb_us, lb_ms, lb_un (by omega), h3, List.length_append]; exact (nI_succ l.length).symm
  · rw [lb_ms, lb_un (by omega), lb_ms, lb_un (by omega)]; exact h4
  · rw [lb_ms, lb_un (by omega), lb_ms, lb_us]
theorem lb_wsP {S0 : ms_T} {w : Int32} {P : Nat} (h6 : S0 0 6 = nI P) (hP : P ≤ 4) {s : Nat} : ∀ (r k n : Nat) (S : ms_T) (l : List Int32), k + r = P → r < n → mb_V S S0 w l → (l ++ mb_txP (S0 0) s r k).length ≤ 44 → ∃ S', f8_writesSquare_L93 n (nI s) (nI k) S = some S' ∧ mb_V S' S0 w (l ++ mb_txP (S0 0) s r k)
  | _, _, 0, _, _, _, h, _, _ => by omega
  | 0, k, n + 1, S, l, hk, hn, hW, hl => by
    refine ⟨S, ?_, by rw [show l ++ mb_txP (S0 0) s 0 k = l from List.append_nil l]; exact hW⟩
    show f8_writesSquare_b93 _ (nI s) (nI k) S = _
    unfold f8_writesSquare_b93
    rw [lb_k6, lb_c6, hW.1 0 (by omega), h6, if_pos (nI_le (by omega) (by omega))]
  | r + 1, k, n + 1, S, l, hk, hn, hW, hl => by
    show ∃ S', f8_writesSquare_b93 (f8_writesSquare_L93 n) (nI s) (nI k) S = some S' ∧ mb_V S' S0 w (l ++ ((if S0 0 (51 + 6 * k + 1) = nI s then [65 + nI k] else []) ++ mb_txP (S0 0) s r (k + 1)))
    have hl' : (l ++ ((if S0 0 (51 + 6 * k + 1) = nI s then [65 + nI k] else []) ++ mb_txP (S0 0) s r (k + 1))).length ≤ 44 := hl
    unfold f8_writesSquare_b93 f8_writesSquare_b122
    have hs1 : nI k + 1 = nI (k + 1) := (nI_succ k).symm
    rw [lb_k6, lb_c6, hW.1 0 (by omega), h6, if_neg (nI_ge (by omega) (by omega)), lb_part1 (by omega), lb_bd, hs1]
    by_cases c : S0 0 (51 + 6 * k + 1) = nI s
    · rw [if_pos c] at hl' ⊢
      rw [if_pos c]
      obtain ⟨q, e1, e2⟩ := lb_ws hW (by simp only [List.length_append, List.length_cons] at hl'; omega) (65 + nI k)
      rw [e1, lb_bd]
      obtain ⟨S', u1, u2⟩ := lb_wsP h6 hP r (k + 1) n _ _ (by omega) (by omega) e2 (by rw [List.append_assoc]; exact hl')
      rw [List.append_assoc] at u2
      exact ⟨S', u1, u2⟩
    · rw [if_neg c] at hl' ⊢
      rw [if_neg c]
      exact lb_wsP h6 hP r (k + 1) n _ _ (by omega) (by omega) hW hl'
theorem lb_ws1 {S0 : ms_T} {w : Int32} {P : Nat} (h6 : S0 0 6 = nI P) (hP : P ≤ 4) {s : Nat} (hs : s < 20) {S : ms_T} {l : List Int32} (hW : mb_V S S0 w l) (hl : (l ++ mb_tx1 (S0 0) P s).length ≤ 44) : ∃ S', f8_writesSquare (nI s) S = some S' ∧ mb_V S' S0 w (l ++ mb_tx1 (S0 0) P s) := by
  have k11 : ∀ {β : Type} (k : Option β), fo_ck (nI (11 + s)) 107 k = k := fun k => lb_ck (by omega) (by omega)
  have k31 : ∀ {β : Type} (k : Option β), fo_ck (nI (31 + s)) 107 k = k := fun k => lb_ck (by omega) (by omega)
  have cl11 : (nI (11 + s)).toNatClampNeg = 11 + s := lb_cl (by omega)
  have cl31 : (nI (31 + s)).toNatClampNeg = 31 + s := lb_cl (by omega)
  have l61 : ∀ S l, mb_V S S0 w l → (l ++ ((if S0 0 (31 + s) = -6 then [] else [97 + S0 0 (31 + s)]) ++ mb_txP (S0 0) s P 0)).length ≤ 44 → ∃ S', f8_writesSquare_b61 (nI s) S = some S' ∧ mb_V S' S0 w (l ++ ((if S0 0 (31 + s) = -6 then [] else [97 + S0 0 (31 + s)]) ++ mb_txP (S0 0) s P 0)) := by
    intro S l hW hl
    unfold f8_writesSquare_b61 f8_writesSquare_b91
    simp only [lb_ix31, k31, cl31]
    rw [hW.1 0 (by omega)]
    by_cases c : S0 0 (31 + s) = -6
    · rw [if_pos c] at hl ⊢
      rw [if_pos c]
      exact lb_wsP h6 hP P 0 1000 S l (by omega) (by omega) hW hl
    · rw [if_neg c] at hl ⊢
      rw [if_neg c]
      obtain ⟨q, e1, e2⟩ := lb_ws hW (by simp only [List.length_append, List.length_cons] at hl; omega) (97 + S0 0 (31 + s))
      rw [e1, lb_bd]
      rw [← List.append_assoc] at hl ⊢
      exact lb_wsP h6 hP P 0 1000 _ _ (by omega) (by omega) e2 hl
  have l28 : ∃ S', f8_writesSquare_b28 (nI s) (mb_sg s) S = some S' ∧ mb_V S' S0 w (l ++ mb_tx1 (S0 0) P s) := by
    unfold mb_tx1 at hl ⊢
    unfold f8_writesSquare_b28
    obtain ⟨q, e1, e2⟩ := lb_ws hW (by simp only [List.length_append, List.length_cons] at hl; omega) (mb_sg s)
    rw [e1, lb_bd]
    simp only [lb_ix11, k11, cl11]
    rw [e2.1 0 (by omega)]
    rw [← List.append_assoc l [mb_sg s]] at hl ⊢
    by_cases c : S0 0 (11 + s) = -6
    · rw [if_pos c] at hl ⊢
      rw [if_pos c]
      exact l61 _ _ e2 hl
    · rw [if_neg c] at hl ⊢
      rw [if_neg c]
      obtain ⟨q2, e3, e4⟩ := lb_ws e2 (by simp only [List.length_append, List.length_cons] at hl ⊢; omega) (97 + S0 0 (11 + s))
      rw [e3, lb_bd]
      rw [← List.append_assoc (l ++ [mb_sg s])] at hl ⊢
      exact l61 _ _ e4 hl
  unfold f8_writesSquare
  rw [lb_sort8 s hs, lb_bd, lb_bd]
  have h3 : mb_sort s < 3 := by unfold mb_sort; split; omega; split <;> omega
  have h3 : mb_sort s = 0 ∨ mb_sort s = 1 ∨ mb_sort s = 2 := by omega
  have sg : mb_sg s = if mb_sort s = 0 then 111 else if mb_sort s = 1 then 45 else 61 := rfl
  rw [sg] at l28
  rcases h3 with h3 | h3 | h3 <;> rw [h3] at l28 ⊢
  · rw [if_pos (show nI 0 = 0 from rfl)]; exact l28
  · rw [if_neg (show ¬ nI 1 = 0 by decide), if_pos (show nI 1 = 1 from rfl)]; exact l28
  · rw [if_neg (show ¬ nI 2 = 0 by decide), if_neg (show ¬ nI 2 = 1 by decide)]; exact l28
theorem lb_ws8 {S0 : ms_T} {w : Int32} {P : Nat} (h6 : S0 0 6 = nI P) (hP : P ≤ 4) : ∀ (r s n : Nat) (S : ms_T) (l : List Int32), s + r = 20 → r < n → mb_V S S0 w l → (l ++ mb_tx (S0 0) P r s).length ≤ 44 → ∃ S', f8_writes_L17 n (nI s) S = some S' ∧ mb_V S' S0 w (l ++ mb_tx (S0 0) P r s)
  | _, _, 0, _, _, _, h, _, _ => by omega
  | 0, s, n + 1, S, l, hs, hn, hW, hl => by
    refine ⟨S, ?_, by rw [show l ++ mb_tx (S0 0) P 0 s = l from List.append_nil l]; exact hW⟩
    show f8_writes_b17 _ (nI s) S = _
    unfold f8_writes_b17
    rw [show (20 : Int32) = nI 20 from rfl, if_pos (nI_le (by omega) (by omega))]
  | r + 1, s, n + 1, S, l, hs, hn, hW, hl => by
    show ∃ S', f8_writes_b17 (f8_writes_L17 n) (nI s) S = some S' ∧ mb_V S' S0 w (l ++ (mb_tx1 (S0 0) P s ++ mb_tx (S0 0) P r (s + 1)))
    have hl' : (l ++ (mb_tx1 (S0 0) P s ++ mb_tx (S0 0) P r (s + 1))).length ≤ 44 := hl
    unfold f8_writes_b17
    have hs1 : nI s + 1 = nI (s + 1) := (nI_succ s).symm
    rw [← List.append_assoc] at hl' ⊢
    obtain ⟨S1, e1, e2⟩ := lb_ws1 h6 hP (s := s) (by omega) hW (by rw [List.length_append] at hl'; omega)
    rw [show (20 : Int32) = nI 20 from rfl, if_neg (nI_ge (by omega) (by omega)), e1, lb_bd, hs1]
    exact lb_ws8 h6 hP r (s + 1) n S1 _ (by omega) (by omega) e2 hl'
theorem lb_writes {S : ms_T} {P t : Nat} {B C A : Int} (h : mb_I P t B C A (S 0)) (w : Int32) : ∃ S', f8_writes w S = some S' ∧ mb_V S' S w (mb_tx (S 0) P 20 0) := by
  have hP := h.P4
  unfold f8_writes
  have hW : mb_V (ms_set (ms_set (ms_set S 8 (upd (S 8) 2 (0 : Int32))) 8 (upd ((ms_set S 8 (upd (S 8) 2 (0 : Int32))) 8) 3 w)) 8 (upd ((ms_set (ms_set S 8 (upd (S 8) 2 (0 : Int32))) 8 (upd ((ms_set S 8 (upd (S 8) 2 (0 : Int32))) 8) 3 w)) 8) 4 (-1 : Int32))) S w [] := by
    refine ⟨?_, ?_, ?_, ?_, ?_⟩
    · intro g hg; rw [lb_mn hg, lb_mn hg, lb_mn hg]
    · intro i a b c; rw [lb_ms, lb_un c, lb_ms, lb_un b, lb_ms, lb_un a]
    · rw [lb_ms, lb_un (by omega), lb_ms, lb_un (by omega), lb_ms, lb_us]; rfl
    · rw [lb_ms, lb_un (by omega), lb_ms, lb_us]
    · rw [lb_ms, lb_us]
      unfold mb_fd
      split
      · rfl
      · rfl
  obtain ⟨S', u1, u2⟩ := lb_ws8 h.h6 hP 20 0 1000 _ [] rfl (by omega) hW (by rw [List.nil_append]; exact h.tx)
  rw [List.nil_append] at u2
  exact ⟨S', u1, u2⟩
theorem lb_describe {B L : ms_T} {T : Nat → Int32} {P t : Nat} {b C A : Int} (hR : RB B T) (h : mb_I P t b C A T) : ∃ q, f0_describe 44 (ms_sub B 13 2 L) = some q ∧ mb_W q B (mb_tx T P 20 0) := by
  have hP := h.P4
  unfold f0_describe f3_makeEmpty
  rw [lb_bd]
  have hW : mb_W (ms_sub (ms_sub B 13 2 L) 13 2 (ms_set (ms_from (ms_sub B 13 2 L) 13) 1 (upd ((ms_from (ms_sub B 13 2 L) 13) 1) 0 0))) B [] := by
    refine ⟨?_, ?_, ?_⟩
    · intro g hg; unfold ms_sub; rw [if_neg (by omega), if_neg (by omega)]
    · rfl
    · intro i hi; exact absurd hi (by simp)
  obtain ⟨S', u1, u2⟩ := lb_wr0 hR h.h6 hP 20 0 1000 _ [] rfl (by omega) hW (by rw [List.nil_append]; exact h.tx)
  rw [List.nil_append] at u2
  exact ⟨S', u1, u2⟩
theorem RB.rows {B B' : ms_T} {T : Nat → Int32} (h : RB B T) (e : ∀ g, g < 13 → B' g = B g) : RB B' T :=
  ⟨fun g i ok => by rw [e g (by have := rb_cl ok; omega)]; exact h.r g i ok, fun i hi => by rw [e 3 (by omega)]; exact h.a i hi⟩
/-- where the board's text and the reference's numbers for it change -/
theorem RR.text {X : xs_T} {S S' : ms_T} (h : RR X S) {q D : ms_T} (e : ∀ g, g < 13 → q g = X 5 g) (e1 : ∀ g, g ≠ 8 → g ≠ 6 → g ≠ 7 → S' g = S g) (e8 : S' 8 0 = S 8 0 ∧ S' 8 1 = S 8 1) : RR (xs_set (xs_set X 5 q) 4 D) S' := by
  obtain ⟨⟨P, t, ht, hJ, hR⟩, ⟨f, k, hf, hk, a1, a2, a3, a4⟩, h3, ⟨L, b0, b1, b2, b3⟩⟩ := h
  refine ⟨⟨P, t, ht, ?_, ?_⟩, ⟨f, k, hf, hk, ?_, ?_, ?_, ?_⟩, ?_, ⟨L, b0, ?_, ?_, ?_⟩⟩
  · rw [e1 0 (by omega) (by omega) (by omega)]; exact hJ
  · rw [lb_xn (by omega), lb_xs, e1 0 (by omega) (by omega) (by omega)]; exact hR.rows e
  · rw [lb_xn (by omega), lb_xn (by omega)]; exact a1
  · rw [lb_xn (by omega), lb_xn (by omega)]; exact a2
  · rw [e8.1]; exact a3
  · intro j hj
    rw [lb_xn (by omega), lb_xn (by omega), e1 2 (by omega) (by omega) (by omega)]; exact a4 j hj
  · intro s hs
    rw [lb_xn (by omega), lb_xn (by omega), lb_xn (by omega), lb_xn (by omega), e1 3 (by omega) (by omega) (by omega), e1 4 (by omega) (by omega) (by omega)]; exact h3 s hs
  · rw [lb_xn (by omega), lb_xn (by omega)]; exact b1
  · rw [e8.2]; exact b2
  · intro i hi
    rw [lb_xn (by omega), lb_xn (by omega), e1 5 (by omega) (by omega) (by omega)]; exact b3 i hi
theorem lb_sign {X : xs_T} {S : ms_T} (h : RR X S) (v : Int32) : ∃ r X' S', f7_sign v X = some (r, X') ∧ f8_sign v S = some (r, S') ∧ RR X' S' := by
  have h0 := h
  obtain ⟨⟨P, t, ht, hJ, hR⟩, -, -, -⟩ := h
  obtain ⟨q, u1, u2, u3, u4⟩ := lb_describe (L := X 4) hR hJ
  obtain ⟨S', w1, w2, w3, w4, w5, w6⟩ := lb_writes hJ v
  have hl := hJ.tx
  unfold f7_sign f8_sign f3_at
  rw [u1, lb_bd, w1, lb_bd, lb_xs, show ms_from q 13 1 0 = q 14 0 from rfl, u3, show ms_from q 13 0 = q 13 from rfl, w6]
  generalize mb_tx (S 0) P 20 0 = l at u3 u4 w6 hl
  have rr : RR (xs_set (xs_set X 5 q) 4 (ms_from q 13)) S' := h0.text u2 (fun g h1 _ _ => w2 g h1) ⟨w3 0 (by omega) (by omega) (by omega), w3 1 (by omega) (by omega) (by omega)⟩
  refine ⟨_, _, S', ?_, rfl, rr⟩
  unfold mb_fd
  rcases lb_lt0n v with hv | ⟨n, hn, rfl, hv⟩
  · rw [if_pos hv]
    by_cases c : nI l.length ≤ v
    · rw [if_pos c]; rfl
    · rw [if_neg c]
      unfold f6_at f6_at_b22
      rw [if_pos hv]; rfl
  · rw [if_neg hv, lb_cl hn]
    by_cases c : l.length ≤ n
    · rw [if_pos (nI_le c hn), List.getElem?_eq_none c]; rfl
    · rw [if_neg (nI_ge (by omega) (by omega)), lb_at (by omega) (by omega), lb_bd, lb_bd, u4 n (by omega)]; rfl
theorem lb_count {X : xs_T} {S : ms_T} (h : RR X S) (v : Int32) : ∃ r X' S', f7_count v X = some (r, X') ∧ f8_count v S = some (r, S') ∧ RR X' S' := by
  have h0 := h
  obtain ⟨⟨P, t, ht, hJ, hR⟩, ⟨f, k, hf, hk, a1, a2, a3, a4⟩, h3, ⟨L, b0, b1, b2, b3⟩⟩ := h
  have z := hR.z
  unfold f7_count f8_count
  have hw : f8_within v (9 : Int32) (13 : Int32) = f8_within v (nI 9) (nI 13) := rfl
  rw [hw]
  by_cases c14 : v = 14
  · subst c14
    obtain ⟨q, u1, u2, u3, u4⟩ := lb_describe (L := X 4) hR hJ
    obtain ⟨S', w1, w2, w3, w4, w5, w6⟩ := lb_writes hJ (-6)
    have rr : RR (xs_set (xs_set X 5 q) 4 (ms_from q 13)) S' := h0.text u2 (fun g h1 _ _ => w2 g h1) ⟨w3 0 (by omega) (by omega) (by omega), w3 1 (by omega) (by omega) (by omega)⟩
    have e14 : f8_within (14 : Int32) (nI 9) (nI 13) = some 0 := by decide
    rw [if_pos rfl, u1, lb_bd, e14, lb_bd, if_pos rfl]
    unfold f3_length
    rw [lb_xs, show ms_from q 13 1 0 = q 14 0 from rfl, u3, lb_bd]
    refine ⟨_, _, S', rfl, ?_, rr⟩
    have : (if (14 : Int32) = 14 then fo_bd (f8_writes (-6 : Int32) S) (fun q185 => some ((q185 8 2), q185)) else none) = some (nI (mb_tx (S 0) P 20 0).length, S') := by
      rw [if_pos rfl, w1, lb_bd, w4]
    exact this
  · by_cases c15 : v = 15
    · subst c15
      rw [if_neg c14, if_pos rfl]
      unfold f3_length
      rw [b1, lb_bd, show f8_within (15 : Int32) (nI 9) (nI 13) = some 0 by decide, lb_bd, if_pos rfl]
      refine ⟨_, X, S, rfl, ?_, h0⟩
      show some (S 8 1, S) = _
      rw [b2]
    · by_cases c16 : v = 16
      · subst c16
        rw [if_neg c14, if_neg c15, if_pos rfl]
        unfold f2_kept
        rw [a2, lb_bd, show f8_within (16 : Int32) (nI 9) (nI 13) = some 0 by decide, lb_bd, if_pos rfl]
        refine ⟨_, X, S, rfl, ?_, h0⟩
        show some (S 8 0, S) = _
        rw [a3]
      · rw [if_neg c14, if_neg c15, if_neg c16]
        rcases lb_within (v := v) (a := 9) (b := 13) (by omega) (by omega) with ⟨d1, d2⟩ | ⟨d1, d2, d3, n, rfl, d4, d5⟩
        · rw [d1, lb_bd, if_pos rfl, if_neg c14, if_neg c15, if_neg c16]
          unfold f0_fact
          rw [hR.hM1, lb_bd, show f6_sum 0 4 (X 5 6) = some (mb_s4 (S 0) 0) from hR.sum (c := 0) (by omega), lb_bd, hR.sD1, lb_bd, hJ.dM8, lb_bd, show f8_sumOf (0 : Int32) (S 0) = some (mb_s4 (S 0) 0) from hJ.sumOf (c := 0) (by omega), lb_bd, hJ.sD8, lb_bd, z.1, z.2.1, z.2.2.1, z.2.2.2.1, z.2.2.2.2.1, z.2.2.2.2.2, lb_k5, lb_c5, lb_k6, lb_k6, lb_c6, lb_k7, lb_c7, lb_k8, lb_c8, lb_k9, lb_c9, lb_k10, lb_c10]
          by_cases e0 : v = 0
          · rw [if_pos e0, if_pos e0]; exact ⟨_, X, S, rfl, rfl, h0⟩
          · rw [if_neg e0, if_neg e0]
            by_cases e1 : v = 1
            · rw [if_pos e1, if_pos e1]; exact ⟨_, X, S, rfl, rfl, h0⟩
            · rw [if_neg e1, if_neg e1]
              by_cases e2 : v = 2
              · rw [if_pos e2, if_pos e2]
                by_cases ep : S 0 6 = 0
                · rw [if_pos ep, if_pos ep]; exact ⟨_, X, S, rfl, rfl, h0⟩
                · rw [if_neg ep, if_neg ep]; exact ⟨_, X, S, rfl, rfl, h0⟩
              · rw [if_neg e2, if_neg e2]
                by_cases e3 : v = 3
                · rw [if_pos e3, if_pos e3]; exact ⟨_, X, S, rfl, rfl, h0⟩
                · rw [if_neg e3, if_neg e3]
                  by_cases e4 : v = 4
                  · rw [if_pos e4, if_pos e4]; exact ⟨_, X, S, rfl, rfl, h0⟩
                  · rw [if_neg e4, if_neg e4]
                    by_cases e5 : v = 5
                    · rw [if_pos e5, if_pos e5]; exact ⟨_, X, S, rfl, rfl, h0⟩
                    · rw [if_neg e5, if_neg e5]
                      by_cases e6 : v = 6
                      · rw [if_pos e6, if_pos e6]; exact ⟨_, X, S, rfl, rfl, h0⟩
                      · rw [if_neg e6, if_neg e6]
                        by_cases e7 : v = 7
                        · rw [if_pos e7, if_pos e7]; exact ⟨_, X, S, rfl, rfl, h0⟩
                        · rw [if_neg e7, if_neg e7]
                          by_cases e8 : v = 8
                          · rw [if_pos e8, if_pos e8]; exact ⟨_, X, S, rfl, rfl, h0⟩
                          · rw [if_neg e8, if_neg e8]
                            have e9 : (if v < 9 then some (-2 : Int32) else if 14 ≤ v then some (-2) else fo_bd (f6_at 0 5 (v - 9) (X 5 5)) (fun q138 => some q138)) = some (-2) := by
                              by_cases y1 : v < 9
                              · rw [if_pos y1]
                              · rw [if_neg y1, if_pos]
                                rcases d2 with d2 | d2
                                · exact absurd d2 y1
                                · rw [lb_le, nI_toInt (by omega)] at d2
                                  rw [show (14 : Int32) = nI 14 from rfl, lb_le, nI_toInt (by omega)]
                                  omega
                            rw [e9]
                            refine ⟨-2, X, S, rfl, ?_, h0⟩
                            simp only [lb_ifs, ite_self]
        · have hn : n = 9 ∨ n = 10 ∨ n = 11 ∨ n = 12 ∨ n = 13 := by omega
          have e9 : nI n - (9 : Int32) = nI (n - 9) := lb_sub (b := 9) d4
          rw [d1, lb_bd, if_neg (show ¬ (1 : Int32) = 0 by decide), e9, lb_ck (by omega) (by omega), lb_cl (by omega)]
          refine ⟨S 0 (n - 9), X, S, ?_, rfl, h0⟩
          have ef : f0_fact (nI n) (X 5) = some (S 0 (n - 9)) := by
            unfold f0_fact
            rw [e9, lb_at (by omega) (by omega), lb_bd, hR.g (by omega)]
            rcases hn with rfl | rfl | rfl | rfl | rfl <;> rfl
          rw [ef]; rfl
