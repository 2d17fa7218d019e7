/-! ## Layer B: debts grow older, squares are lost -/
def mb_ol (p : Nat) : Nat → Nat → (Nat → Int32) → (Nat → Int32)
  | 0, _, T => T
  | r + 1, k, T => mb_ol p r (k + 1) (if 0 < T (75 + 4 * p + k) then upd T (91 + 4 * p + k) (T (91 + 4 * p + k) + 1) else T)
def mb_older (T : Nat → Int32) (p : Nat) : Nat → Int32 := mb_ol p 4 0 T
theorem lb_olOld {p : Nat} : ∀ (r k : Nat) (T : Nat → Int32) (j : Nat), (j < 91 + 4 * p + k ∨ 91 + 4 * p + k + r ≤ j) → mb_ol p r k T j = T j
  | 0, _, _, _, _ => rfl
  | r + 1, k, T, j, hj => by
    show mb_ol p r (k + 1) _ j = T j
    rw [lb_olOld r (k + 1) _ j (by omega)]
    split
    · exact lb_un (by omega)
    · rfl
theorem lb_olZ {p : Nat} : ∀ (r k : Nat) (T : Nat → Int32), (∀ j, k ≤ j → j < k + r → T (75 + 4 * p + j) = 0) → mb_ol p r k T = T
  | 0, _, _, _ => rfl
  | r + 1, k, T, h => by
    show mb_ol p r (k + 1) _ = T
    rw [if_neg (by rw [h k (by omega) (by omega)]; decide)]
    exact lb_olZ r (k + 1) T (fun j h1 h2 => h j (by omega) (by omega))
theorem lb_olI {P t : Nat} {B C A : Int} {p : Nat} (hp : p < 4) (hA0 : 0 ≤ A) (hA : A + 1 ≤ 1000000000) : ∀ (r k : Nat) (T : Nat → Int32), k + r = 4 → mb_I P t B C (A + 1) T → (∀ j, k ≤ j → j < 4 → (T (91 + 4 * p + j)).toInt ≤ A) → mb_I P t B C (A + 1) (mb_ol p r k T)
  | 0, _, _, _, h, _ => h
  | r + 1, k, T, hk, h, ha => by
    show mb_I P t B C (A + 1) (mb_ol p r (k + 1) _)
    by_cases hc : 0 < T (75 + 4 * p + k)
    · rw [if_pos hc]
      obtain ⟨h1, h2, h3⟩ := h.pos hp (by omega) hc
      have a1 := h.ag (4 * p + k) (by omega)
      rw [show 91 + (4 * p + k) = 91 + 4 * p + k by omega] at a1
      have a2 := ha k (by omega) (by omega)
      have s1 : (T (91 + 4 * p + k) + 1).toInt = (T (91 + 4 * p + k)).toInt + 1 := lb_add_toInt (by rw [show (1 : Int32).toInt = 1 from rfl]; omega) (by rw [show (1 : Int32).toInt = 1 from rfl]; omega)
      have cc := h.co (4 * p + k) (by omega)
      rw [show 75 + (4 * p + k) = 75 + 4 * p + k by omega] at cc
      have g := h.setDebt (C' := C) (A' := A + 1) h1 h2 h3 (x := T (75 + 4 * p + k)) (y := T (91 + 4 * p + k) + 1) cc (by rw [s1]; omega) (fun e => by rw [e] at hc; exact absurd hc (by decide)) (Int.le_refl _) (Int.le_refl _) h.bC hA
      rw [lb_ui] at g
      refine lb_olI hp hA0 hA r (k + 1) _ (by omega) g ?_
      intro j h4 h5
      rw [lb_un (by omega)]; exact ha j (by omega) h5
    · rw [if_neg hc]
      exact lb_olI hp hA0 hA r (k + 1) T (by omega) h (fun j h4 h5 => ha j (by omega) h5)
theorem mb_I.older {P t : Nat} {B C A : Int} {T : Nat → Int32} (h : mb_I P t B C A T) {p : Nat} (hp : p < 4) (hA0 : 0 ≤ A) (hA : A + 1 ≤ 1000000000) : mb_I P t B C (A + 1) (mb_older T p) := by
  refine lb_olI hp hA0 hA 4 0 T rfl (h.up (Int.le_refl _) (Int.le_refl _) (by omega) h.bB h.bC hA) ?_
  intro j h1 h2
  have a1 := h.ag (4 * p + j) (by omega)
  rw [show 91 + (4 * p + j) = 91 + 4 * p + j by omega] at a1
  exact a1.2
/-- the class's -/
theorem lb_olC {p : Nat} (hp : p < 4) : ∀ (r k n : Nat) (T : Nat → Int32) (D : ms_T), k + r = 4 → r < n → (∀ i, i < 16 → D 0 i = T (75 + i)) → (∀ i, i < 16 → D 1 i = if T (75 + i) = 0 then -6 else T (91 + i)) → (∀ i, i < 16 → 0 ≤ (T (75 + i)).toInt) →
    ∃ D', f1_makeOlder_L2 n (nI p) (nI k) D = some D' ∧ (∀ i, i < 16 → D' 0 i = mb_ol p r k T (75 + i)) ∧ (∀ i, i < 16 → D' 1 i = if mb_ol p r k T (75 + i) = 0 then -6 else mb_ol p r k T (91 + i))
  | _, _, 0, _, _, _, h, _, _, _ => by omega
  | 0, k, n + 1, T, D, hk, hn, h0, h1, h2 => by
    refine ⟨D, ?_, h0, h1⟩
    show f1_makeOlder_b2 _ (nI p) (nI k) D = some D
    unfold f1_makeOlder_b2
    rw [show (4 : Int32) = nI 4 from rfl, if_pos (nI_le (by omega) (by omega))]
  | r + 1, k, n + 1, T, D, hk, hn, h0, h1, h2 => by
    show ∃ D', f1_makeOlder_b2 (f1_makeOlder_L2 n) (nI p) (nI k) D = some D' ∧ (∀ i, i < 16 → D' 0 i = mb_ol p r (k + 1) _ (75 + i)) ∧ (∀ i, i < 16 → D' 1 i = if mb_ol p r (k + 1) _ (75 + i) = 0 then -6 else mb_ol p r (k + 1) _ (91 + i))
    unfold f1_makeOlder_b2 f1_makeOlder_b33
    have e0 : D 0 (p * 4 + k) = T (75 + 4 * p + k) := by rw [h0 _ (by omega)]; congr 1; omega
    have hs : nI k + 1 = nI (k + 1) := (nI_succ k).symm
    rw [show (4 : Int32) = nI 4 from rfl, if_neg (nI_ge (by omega) (by omega)), lb_mul, lb_add, lb_at (by omega) (by omega), lb_bd, e0, lb_radd (by omega) (by omega), lb_bd, hs]
    by_cases hc : 0 < T (75 + 4 * p + k)
    · rw [if_neg (by rw [lb_npos]; exact hc), if_pos hc]
      refine lb_olC hp r (k + 1) n _ _ (by omega) (by omega) ?_ ?_ ?_
      · intro i hi; rw [lb_mn (by decide), lb_un (by omega)]; exact h0 i hi
      · intro i hi
        rw [lb_ms, lb_un (show 75 + i ≠ 91 + 4 * p + k by omega)]
        by_cases hi2 : i = p * 4 + k
        · subst hi2
          have hz : ¬ T (75 + 4 * p + k) = 0 := by intro e; rw [e] at hc; exact absurd hc (by decide)
          rw [lb_us, h1 _ (by omega), show 75 + (p * 4 + k) = 75 + 4 * p + k by omega, show 91 + (p * 4 + k) = 91 + 4 * p + k by omega, if_neg hz, if_neg hz, lb_us]
        · rw [lb_un hi2, lb_un (by omega)]; exact h1 i hi
      · intro i hi; rw [lb_un (by omega)]; exact h2 i hi
    · rw [if_pos (by rw [← lb_npos] at hc; exact Decidable.not_not.mp hc), if_neg hc]
      exact lb_olC hp r (k + 1) n T D (by omega) (by omega) h0 h1 h2
theorem lb_olderC {P t : Nat} {B C A : Int} {S : ms_T} {T : Nat → Int32} (h : mb_I P t B C A T) (hR : RB S T) {p : Nat} (hp : p < 4) : ∃ D, f1_makeOlder (nI p) (ms_from S 2) = some D ∧ RB (ms_sub S 2 3 D) (mb_older T p) := by
  obtain ⟨D, e, h0, h1⟩ := lb_olC hp 4 0 1000 T (ms_from S 2) rfl (by omega) (fun i hi => hR.c hi) (fun i hi => hR.a i hi) (fun i hi => (h.co i hi).1)
  exact ⟨D, e, hR.debts h0 h1 (fun i hi => lb_olOld 4 0 T i (by omega))⟩
/-! the lowest square -/
def mb_lw (T : Nat → Int32) (p : Nat) : Nat → Nat → Int32
  | 0, _ => -6
  | r + 1, k => if mb_owns T p k then nI k else mb_lw T p r (k + 1)
def mb_low (T : Nat → Int32) (p : Nat) : Int32 := mb_lw T p 20 0
theorem lb_lwC {T : Nat → Int32} {p : Nat} : ∀ (r k : Nat), k + r = 20 → mb_lw T p r k = -6 ∨ ∃ s, s < 20 ∧ mb_lw T p r k = nI s ∧ mb_owns T p s
  | 0, _, _ => Or.inl rfl
  | r + 1, k, hk => by
    show (if mb_owns T p k then nI k else mb_lw T p r (k + 1)) = -6 ∨ ∃ s, s < 20 ∧ (if mb_owns T p k then nI k else mb_lw T p r (k + 1)) = nI s ∧ mb_owns T p s
    by_cases hc : mb_owns T p k
    · rw [if_pos hc]; exact Or.inr ⟨k, by omega, rfl, hc⟩
    · rw [if_neg hc]; exact lb_lwC r (k + 1) (by omega)
theorem lb_low8L {T : Nat → Int32} {p : Nat} : ∀ (k n : Nat), k ≤ 20 → k < n → f8_lowestOf_L6 n (nI p) (mb_lw T p (20 - k) k) (nI k - 1) T = some (mb_low T p)
  | _, 0, _, h => by omega
  | 0, n + 1, _, _ => by
    show f8_lowestOf_b6 _ (nI p) (mb_lw T p 20 0) (nI 0 - 1) T = _
    unfold f8_lowestOf_b6
    rw [if_pos (by decide)]; rfl
  | k + 1, n + 1, hk, hn => by
    show f8_lowestOf_b6 (f8_lowestOf_L6 n) (nI p) (mb_lw T p (20 - (k + 1)) (k + 1)) (nI (k + 1) - 1) T = _
    unfold f8_lowestOf_b6 f8_lowestOf_b24
    have IH := lb_low8L (T := T) (p := p) k n (by omega) (by omega)
    have e : mb_lw T p (20 - k) k = if mb_owns T p k then nI k else mb_lw T p (20 - (k + 1)) (k + 1) := by
      rw [show 20 - k = (20 - (k + 1)) + 1 by omega]; rfl
    rw [e] at IH
    have em : nI k + -1 = nI k - 1 := Int32.sub_eq_add_neg (nI k) 1 ▸ rfl
    rw [lb_sub1, if_neg (nI_pos (by omega)), lb_owns8 (by omega), lb_bd, em]
    by_cases hc : mb_owns T p k
    · rw [if_pos hc] at IH ⊢
      rw [if_neg (by decide)]; exact IH
    · rw [if_neg hc] at IH ⊢
      rw [if_pos rfl]; exact IH
theorem lb_low8 {T : Nat → Int32} {p : Nat} : f8_lowestOf (nI p) T = some (mb_low T p) := lb_low8L 20 1000 (by omega) (by omega)
theorem lb_low5L {S : ms_T} {T : Nat → Int32} (hR : RB S T) {p : Nat} : ∀ (r k n : Nat), k + r = 20 → r < n → f5_lowestOf_L2 n (nI p) (nI k) S = some (mb_lw T p r k)
  | _, _, 0, _, h => by omega
  | 0, k, n + 1, hk, _ => by
    show f5_lowestOf_b2 _ (nI p) (nI k) S = _
    unfold f5_lowestOf_b2
    rw [show (20 : Int32) = nI 20 from rfl, if_pos (nI_le (by omega) (by omega))]; rfl
  | r + 1, k, n + 1, hk, hn => by
    show f5_lowestOf_b2 (f5_lowestOf_L2 n) (nI p) (nI k) S = some (if mb_owns T p k then nI k else mb_lw T p r (k + 1))
    unfold f5_lowestOf_b2
    have hs : nI k + 1 = nI (k + 1) := (nI_succ k).symm
    rw [show (20 : Int32) = nI 20 from rfl, if_neg (nI_ge (by omega) (by omega)), lb_at (by omega) (by omega), lb_bd, lb_at (by omega) (by omega), lb_bd, hR.f (by omega), hR.s (by omega), hs]
    by_cases h1 : T (11 + k) = nI p
    · rw [if_pos h1, if_pos (show mb_owns T p k from Or.inl h1)]
    · rw [if_neg h1]
      by_cases h2 : T (31 + k) = nI p
      · rw [if_pos h2, if_pos (show mb_owns T p k from Or.inr h2)]
      · rw [if_neg h2, if_neg (show ¬ mb_owns T p k by rintro (h | h) <;> contradiction)]
        exact lb_low5L hR r (k + 1) n (by omega) (by omega)
theorem lb_low5 {S : ms_T} {T : Nat → Int32} (hR : RB S T) {p : Nat} : f5_lowestOf (nI p) S = some (mb_low T p) := lb_low5L hR 20 0 1000 rfl (by omega)
/-! a part goes to another player -/
def mb_hand (T : Nat → Int32) (p s q : Nat) : Nat → Int32 :=
  if T (11 + s) = nI p then upd (upd T (11 + s) (nI q)) (31 + s) (if T (31 + s) = nI q then -6 else T (31 + s))
  else upd T (31 + s) (if T (11 + s) = nI q then -6 else nI q)
theorem lb_hand8 {T : Nat → Int32} {p s q : Nat} (hs : s < 20) : f8_hands (nI p) (nI s) (nI q) T = some (mb_hand T p s q) := by
  unfold f8_hands f8_hands_b58 f8_hands_b89 mb_hand
  have k11 : ∀ {β : Type} (k : Option β), fo_ck (nI (11 + s)) 107 k = k := fun k => lb_ck (by omega) (by omega)
  have k31 : ∀ {β : Type} (k : Option β), fo_ck (nI (31 + s)) 107 k = k := fun k => lb_ck (by omega) (by omega)
  have cl11 : (nI (11 + s)).toNatClampNeg = 11 + s := lb_cl (by omega)
  have cl31 : (nI (31 + s)).toNatClampNeg = 31 + s := lb_cl (by omega)
  have e : upd T (11 + s) (nI q) (31 + s) = T (31 + s) := lb_un (by omega)
  simp only [lb_ix11, lb_ix31, k11, k31, cl11, cl31, e]
  by_cases h1 : T (11 + s) = nI p
  · rw [if_pos h1, if_pos h1]
    by_cases h2 : T (31 + s) = nI q
    · rw [if_pos h2, if_pos h2]
    · rw [if_neg h2, if_neg h2]
  · rw [if_neg h1, if_neg h1]
    by_cases h2 : T (11 + s) = nI q
    · rw [if_pos h2, if_pos h2]
    · rw [if_neg h2, if_neg h2]
theorem mb_I.hand {P t : Nat} {B C A : Int} {T : Nat → Int32} (h : mb_I P t B C A T) {p s q : Nat} (hq : q < P) (hs : s < 20) (ho : mb_owns T p s) (hp : p < 4) : mb_I P t B C A (mb_hand T p s q) := by
  have hP := h.P4
  have nn : ∀ a, a < 4 → nI a ≠ -6 := fun a ha => lb_n6 (by omega)
  unfold mb_hand
  by_cases h1 : T (11 + s) = nI p
  · rw [if_pos h1]
    have h10 : s % 10 ≠ 0 := fun e => nn p hp (h1.symm.trans (h.fi s hs e))
    refine h.setOwn hs (Or.inr ⟨q, hq, rfl⟩) (fun e => absurd e h10) ?_
    split
    · exact Or.inl rfl
    · next h2 =>
      rcases h.se s hs with h3 | ⟨h3, h4, -, -⟩
      · exact Or.inl h3
      · exact Or.inr ⟨h3, h4, nn q (by omega), fun e => h2 e.symm⟩
  · rw [if_neg h1]
    have h2 : T (31 + s) = nI p := by
      rcases ho with h2 | h2
      · exact absurd h2 h1
      · exact h2
    rcases h.se s hs with h3 | ⟨h3, h4, h5, h6⟩
    · exact absurd (h2.symm.trans h3) (nn p hp)
    · have g := h.setOwn hs (x := T (11 + s)) (y := if T (11 + s) = nI q then -6 else nI q) (h.fo s hs) (fun e => by omega) (by
        split
        · exact Or.inl rfl
        · next h7 => exact Or.inr ⟨h3, ⟨q, hq, rfl⟩, h5, h7⟩)
      rw [lb_ui] at g
      exact g
theorem lb_handOld {T : Nat → Int32} {p s q j : Nat} (hj : ¬ (11 ≤ j ∧ j < 51)) (hs : s < 20) : mb_hand T p s q j = T j := by
  unfold mb_hand
  split
  · rw [lb_un (by omega), lb_un (by omega)]
  · rw [lb_un (by omega)]
theorem lb_handC {S : ms_T} {T : Nat → Int32} (hR : RB S T) {p s q : Nat} (hs : s < 20) : ∃ D, f5_handOn (nI s) (nI p) (nI q) S = some D ∧ RB (ms_sub S 0 2 D) (mb_hand T p s q) := by
  have key : ∀ (f g : Int32) (D : ms_T), (∀ i, i < 20 → D 0 i = if i = s then f else S 0 i) → (∀ i, i < 20 → D 1 i = if i = s then g else S 1 i) → mb_hand T p s q (11 + s) = f → mb_hand T p s q (31 + s) = g → RB (ms_sub S 0 2 D) (mb_hand T p s q) := by
    intro f g D h0 h1 e1 e2
    have oth : ∀ j, j ≠ 11 + s → j ≠ 31 + s → mb_hand T p s q j = T j := by
      intro j h1 h2
      unfold mb_hand
      split
      · rw [lb_un h2, lb_un h1]
      · rw [lb_un h2]
    refine hR.roads ?_ ?_ (fun i hi => lb_handOld hi hs)
    · intro i hi
      rw [h0 i hi]
      by_cases e : i = s
      · subst e; rw [if_pos rfl, e1]
      · rw [if_neg e, oth _ (by omega) (by omega)]; exact hR.f hi
    · intro i hi
      rw [h1 i hi]
      by_cases e : i = s
      · subst e; rw [if_pos rfl, e2]
      · rw [if_neg e, oth _ (by omega) (by omega)]; exact hR.s hi
  unfold f5_handOn f5_handOn_b17 f5_handOn_b43
  rw [lb_at hs (by omega), lb_bd, hR.f hs]
  by_cases h1 : T (11 + s) = nI p
  · rw [if_pos h1, if_neg (show ¬ (1 : Int32) = 0 by decide), lb_at hs (by omega), lb_bd, hR.s hs]
    by_cases h2 : T (31 + s) = nI q
    · rw [if_pos h2, lb_write hs (by omega), lb_bd, lb_write hs (by omega), lb_bd]
      refine ⟨_, rfl, key (nI q) (-6) _ ?_ ?_ ?_ ?_⟩
      · intro i hi; rw [lb_mn (by decide), lb_ms]; rfl
      · intro i hi; rw [lb_ms, lb_mn (by decide)]; rfl
      · unfold mb_hand; rw [if_pos h1, lb_un (by omega), lb_us]
      · unfold mb_hand; rw [if_pos h1, lb_us, if_pos h2]
    · rw [if_neg h2, if_neg (show ¬ (1 : Int32) = 0 by decide), lb_write hs (by omega), lb_bd]
      refine ⟨_, rfl, key (nI q) (T (31 + s)) _ ?_ ?_ ?_ ?_⟩
      · intro i hi; rw [lb_ms]; rfl
      · intro i hi; rw [lb_mn (by decide)]
        by_cases e : i = s
        · subst e; rw [if_pos rfl]; exact hR.s hi
        · rw [if_neg e]
      · unfold mb_hand; rw [if_pos h1, lb_un (by omega), lb_us]
      · unfold mb_hand; rw [if_pos h1, lb_us, if_neg h2]
  · rw [if_neg h1, if_pos rfl, lb_bd]
    by_cases h2 : T (11 + s) = nI q
    · rw [if_pos h2, lb_write hs (by omega), lb_bd, lb_write hs (by omega), lb_bd]
      refine ⟨_, rfl, key (nI q) (-6) _ ?_ ?_ ?_ ?_⟩
      · intro i hi; rw [lb_mn (by decide), lb_ms]; rfl
      · intro i hi; rw [lb_ms, lb_mn (by decide)]; rfl
      · unfold mb_hand; rw [if_neg h1, lb_un (by omega)]; exact h2
      · unfold mb_hand; rw [if_neg h1, lb_us, if_pos h2]
    · rw [if_neg h2, if_pos rfl, lb_write hs (by omega), lb_bd]
      refine ⟨_, rfl, key (T (11 + s)) (nI q) _ ?_ ?_ ?_ ?_⟩
      · intro i hi; rw [lb_mn (by decide)]
        by_cases e : i = s
        · subst e; rw [if_pos rfl]; exact hR.f hi
        · rw [if_neg e]
      · intro i hi; rw [lb_ms]; rfl
      · unfold mb_hand; rw [if_neg h1, lb_un (by omega)]
      · unfold mb_hand; rw [if_neg h1, lb_us, if_neg h2]
