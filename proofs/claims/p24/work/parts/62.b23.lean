/-! ## Layer B: the call clear -/
theorem lb_v4 {p m c : Nat} (hp : p < 4) (hc : c < 64) (j : Nat) : mb_v p m c j < 4 := by
  unfold mb_v mb_th mb_fr
  split
  · exact hp
  · split
    · omega
    · split
      · split <;> omega
      · split
        · split <;> omega
        · exact hp
theorem lb_vd {T : Nat → Int32} {p m c : Nat} (hp : p < 4) (hm : 2 ≤ m) (hm4 : m ≤ 4) (hc : c < 64) (dz : ∀ k, k < 4 → ¬ mb_E T k k) (h : mb_Is T p m c) : (∀ i j, i < j → j < m → mb_v p m c i ≠ mb_v p m c j) ∧ (∀ j, j < m → mb_E T (mb_v p m c j) (mb_v p m c (j + 1))) := by
  obtain ⟨⟨a, b, e⟩, f, g⟩ := h
  have hm' : m = 2 ∨ m = 3 ∨ m = 4 := by omega
  have c4 : c / 16 < 4 := by omega
  rcases hm' with rfl | rfl | rfl
  · have e : mb_E T (c / 16) p := e
    refine ⟨?_, ?_⟩
    · intro i j h1 h2
      have : i = 0 ∧ j = 1 := by omega
      obtain ⟨rfl, rfl⟩ := this
      exact fun h => a h.symm
    · intro j hj
      have : j = 0 ∨ j = 1 := by omega
      rcases this with rfl | rfl
      · exact b
      · exact e
  · have e : mb_E T (c / 16) (c / 4 % 4) := e
    have f : c / 4 % 4 ≠ p ∧ mb_E T (c / 4 % 4) p := by
      rcases f with f | f
      · omega
      · exact f
    have ne : c / 16 ≠ c / 4 % 4 := by intro h; rw [← h] at e; exact dz _ c4 e
    refine ⟨?_, ?_⟩
    · intro i j h1 h2
      have : (i = 0 ∧ j = 1) ∨ (i = 0 ∧ j = 2) ∨ (i = 1 ∧ j = 2) := by omega
      rcases this with ⟨rfl, rfl⟩ | ⟨rfl, rfl⟩ | ⟨rfl, rfl⟩
      · exact fun h => a h.symm
      · exact fun h => f.1 h.symm
      · exact ne
    · intro j hj
      have : j = 0 ∨ j = 1 ∨ j = 2 := by omega
      rcases this with rfl | rfl | rfl
      · exact b
      · exact e
      · exact f.2
  · have e : mb_E T (c / 16) (c / 4 % 4) := e
    have f : c / 4 % 4 ≠ p ∧ mb_E T (c / 4 % 4) (c % 4) := by
      rcases f with f | f
      · omega
      · exact f
    have g : c % 4 ≠ p ∧ c % 4 ≠ c / 16 ∧ mb_E T (c % 4) p := by
      rcases g with g | g
      · omega
      · exact g
    have ne : c / 16 ≠ c / 4 % 4 := by intro h; rw [← h] at e; exact dz _ c4 e
    have ne2 : c / 4 % 4 ≠ c % 4 := by intro h; have := f.2; rw [← h] at this; exact dz _ (by omega) this
    refine ⟨?_, ?_⟩
    · intro i j h1 h2
      have : (i = 0 ∧ j = 1) ∨ (i = 0 ∧ j = 2) ∨ (i = 0 ∧ j = 3) ∨ (i = 1 ∧ j = 2) ∨ (i = 1 ∧ j = 3) ∨ (i = 2 ∧ j = 3) := by omega
      rcases this with ⟨rfl, rfl⟩ | ⟨rfl, rfl⟩ | ⟨rfl, rfl⟩ | ⟨rfl, rfl⟩ | ⟨rfl, rfl⟩ | ⟨rfl, rfl⟩
      · exact fun h => a h.symm
      · exact fun h => f.1 h.symm
      · exact fun h => g.1 h.symm
      · exact ne
      · exact fun h => g.2.1 h.symm
      · exact ne2
    · intro j hj
      have : j = 0 ∨ j = 1 ∨ j = 2 ∨ j = 3 := by omega
      rcases this with rfl | rfl | rfl | rfl
      · exact b
      · exact e
      · exact f.2
      · exact g.2.2
/-- the least one of a ring -/
theorem lb_lsP {T : Nat → Int32} {v : Nat → Nat} {d : Nat} (he : ∀ j, j < d → 0 < T (75 + 4 * v j + v (j + 1))) : ∀ (r s : Nat) (l : Int32), s + r = d → 1 ≤ s → 0 < l → (∀ j, j < s → l ≤ T (75 + 4 * v j + v (j + 1))) → (∃ j, j < s ∧ l = T (75 + 4 * v j + v (j + 1))) →
    0 < mb_ls T v r s l ∧ (∀ j, j < d → mb_ls T v r s l ≤ T (75 + 4 * v j + v (j + 1))) ∧ ∃ j, j < d ∧ mb_ls T v r s l = T (75 + 4 * v j + v (j + 1))
  | 0, s, l, hs, h1, h0, h2, h3 => by
    have : s = d := by omega
    subst this
    exact ⟨h0, h2, h3⟩
  | r + 1, s, l, hs, h1, h0, h2, h3 => by
    show 0 < mb_ls T v r (s + 1) (if s = 0 then _ else if l ≤ T (75 + 4 * v s + v (s + 1)) then l else T (75 + 4 * v s + v (s + 1))) ∧ (∀ j, j < d → mb_ls T v r (s + 1) (if s = 0 then _ else if l ≤ T (75 + 4 * v s + v (s + 1)) then l else T (75 + 4 * v s + v (s + 1))) ≤ _) ∧ ∃ j, j < d ∧ mb_ls T v r (s + 1) (if s = 0 then _ else if l ≤ T (75 + 4 * v s + v (s + 1)) then l else T (75 + 4 * v s + v (s + 1))) = _
    rw [if_neg (show ¬ s = 0 by omega)]
    by_cases c : l ≤ T (75 + 4 * v s + v (s + 1))
    · rw [if_pos c]
      refine lb_lsP he r (s + 1) l (by omega) (by omega) h0 ?_ ?_
      · intro j hj
        by_cases e : j = s
        · subst e; exact c
        · exact h2 j (by omega)
      · obtain ⟨j, a, b⟩ := h3
        exact ⟨j, by omega, b⟩
    · rw [if_neg c]
      have c' := lb_nle.mp c
      refine lb_lsP he r (s + 1) _ (by omega) (by omega) (he s (by omega)) ?_ ⟨s, by omega, rfl⟩
      intro j hj
      by_cases e : j = s
      · subst e; exact lb_le.mpr (Int.le_refl _)
      · have := h2 j (by omega)
        rw [lb_le] at this ⊢; rw [lb_lt] at c'; omega
/-- what clearing a ring leaves -/
theorem lb_clI {P t : Nat} {B C A : Int} (hA : 0 ≤ A) {v : Nat → Nat} {d : Nat} {l : Int32} (hv : ∀ j, v j < 4) (di : ∀ i j, i < j → j < d → v i ≠ v j) (hl : 0 < l) : ∀ (r s : Nat) (T : Nat → Int32), s + r = d → mb_I P t B C A T → (∀ j, s ≤ j → j < d → l ≤ T (75 + 4 * v j + v (j + 1))) →
    mb_I P t B C A (mb_cl v l r s T) ∧ (∀ i, i < 75 → mb_cl v l r s T i = T i) ∧ (∀ i, i < 16 → 0 < mb_cl v l r s T (75 + i) → 0 < T (75 + i)) ∧ (∀ j, s ≤ j → j < d → mb_cl v l r s T (75 + 4 * v j + v (j + 1)) = T (75 + 4 * v j + v (j + 1)) + -l) ∧ (∀ j, j < s → j < d → mb_cl v l r s T (75 + 4 * v j + v (j + 1)) = T (75 + 4 * v j + v (j + 1))) ∧ ∀ i, 107 ≤ i → mb_cl v l r s T i = T i
  | 0, s, T, hs, h, hle => ⟨h, fun _ _ => rfl, fun _ _ h => h, fun j a b => by omega, fun j a b => rfl, fun _ _ => rfl⟩
  | r + 1, s, T, hs, h, hle => by
    have h1 := hle s (by omega) (by omega)
    have a1 := hv s; have a2 := hv (s + 1)
    have hpos : 0 < T (75 + 4 * v s + v (s + 1)) := by
      rw [lb_0lt] at hl ⊢; rw [lb_le] at h1; omega
    obtain ⟨p1, p2, p3⟩ := h.pos a1 a2 hpos
    have cc := h.co (4 * v s + v (s + 1)) (by omega)
    rw [show 75 + (4 * v s + v (s + 1)) = 75 + 4 * v s + v (s + 1) by omega] at cc
    have bc := h.bC
    rw [lb_0lt] at hl hpos
    rw [lb_le] at h1
    have nx : (-l).toInt = -l.toInt := lb_neg_toInt (by omega)
    have s1 : (T (75 + 4 * v s + v (s + 1)) + -l).toInt = (T (75 + 4 * v s + v (s + 1))).toInt - l.toInt := by
      rw [lb_add_toInt (by omega) (by omega), nx]; omega
    have g : mb_I P t B C A (mb_addD T (v s) (v (s + 1)) (-l)) := h.addD p1 p2 p3 (by rw [s1]; omega) (Int.le_refl _) hA bc
    have hoth : ∀ j, j ≠ s → j < d → mb_addD T (v s) (v (s + 1)) (-l) (75 + 4 * v j + v (j + 1)) = T (75 + 4 * v j + v (j + 1)) := by
      intro j e hj
      have a3 := hv j; have a4 := hv (j + 1)
      have : v s ≠ v j := by
        by_cases c : s < j
        · exact di s j c hj
        · exact fun h => di j s (by omega) (by omega) h.symm
      exact lb_addDn (by omega) (by omega)
    obtain ⟨u1, u2, u3, u4, u5, u6⟩ := lb_clI hA hv di (by rw [lb_0lt]; exact hl) r (s + 1) (mb_addD T (v s) (v (s + 1)) (-l)) (by omega) g (fun j a b => by rw [hoth j (by omega) b]; exact hle j (by omega) b)
    refine ⟨u1, ?_, ?_, ?_, ?_, ?_⟩
    · intro i hi
      show mb_cl v l r (s + 1) _ i = _
      rw [u2 i hi, lb_addDn (by omega) (by omega)]
    · intro i hi h
      have h' := u3 i hi h
      by_cases e : 75 + i = 75 + 4 * v s + v (s + 1)
      · rw [e, lb_0lt]; exact hpos
      · rw [lb_addDn e (by omega)] at h'; exact h'
    · intro j a b
      show mb_cl v l r (s + 1) _ _ = _
      by_cases e : j = s
      · subst e; rw [u5 j (by omega) b, lb_addDs]
      · rw [u4 j (by omega) b, hoth j e b]
    · intro j a b
      show mb_cl v l r (s + 1) _ _ = _
      rw [u5 j (by omega) b, hoth j (by omega) b]
    · intro i hi
      show mb_cl v l r (s + 1) _ i = _
      rw [u6 i hi, lb_addDn (by omega) (by omega)]
/-- how many debts there are -/
def mb_cq (T : Nat → Int32) : Nat → Nat
  | 0 => 0
  | k + 1 => mb_cq T k + if 0 < T (75 + k) then 1 else 0
theorem lb_cqB {T : Nat → Int32} : ∀ k, mb_cq T k ≤ k
  | 0 => Nat.le_refl _
  | k + 1 => by
    have := lb_cqB (T := T) k
    show mb_cq T k + (if 0 < T (75 + k) then 1 else 0) ≤ k + 1
    split <;> omega
theorem lb_cqL {T T' : Nat → Int32} : ∀ k, (∀ i, i < k → 0 < T' (75 + i) → 0 < T (75 + i)) → mb_cq T' k ≤ mb_cq T k
  | 0, _ => Nat.le_refl _
  | k + 1, h => by
    have := lb_cqL (T := T) (T' := T') k (fun i hi => h i (by omega))
    show mb_cq T' k + (if 0 < T' (75 + k) then 1 else 0) ≤ mb_cq T k + (if 0 < T (75 + k) then 1 else 0)
    by_cases c : 0 < T' (75 + k)
    · rw [if_pos c, if_pos (h k (by omega) c)]; omega
    · rw [if_neg c]; split <;> omega
theorem lb_cqS {T T' : Nat → Int32} : ∀ k, (∀ i, i < k → 0 < T' (75 + i) → 0 < T (75 + i)) → (∃ i, i < k ∧ 0 < T (75 + i) ∧ ¬ 0 < T' (75 + i)) → mb_cq T' k < mb_cq T k
  | 0, _, h => by obtain ⟨i, h, -⟩ := h; omega
  | k + 1, h, hx => by
    show mb_cq T' k + (if 0 < T' (75 + k) then 1 else 0) < mb_cq T k + (if 0 < T (75 + k) then 1 else 0)
    have hl := lb_cqL (T := T) (T' := T') k (fun i hi => h i (by omega))
    obtain ⟨i, h1, h2, h3⟩ := hx
    by_cases e : i = k
    · subst e; rw [if_neg h3, if_pos h2]; omega
    · have := lb_cqS (T := T) (T' := T') k (fun i hi => h i (by omega)) ⟨i, by omega, h2, h3⟩
      by_cases c : 0 < T' (75 + k)
      · rw [if_pos c, if_pos (h k (by omega) c)]; omega
      · rw [if_neg c]; split <;> omega
theorem lb_cq0 {T : Nat → Int32} : ∀ k, mb_cq T k = 0 → ∀ i, i < k → ¬ 0 < T (75 + i)
  | 0, _, i, hi => by omega
  | k + 1, h, i, hi => by
    have h' : mb_cq T k + (if 0 < T (75 + k) then 1 else 0) = 0 := h
    by_cases e : i = k
    · subst e; intro c; rw [if_pos c] at h'; omega
    · exact lb_cq0 k (by omega) i (by omega)
/-- one ring, on both sides -/
theorem lb_oneRing {P t : Nat} {B C A : Int} (hA : 0 ≤ A) {S : ms_T} {D : ms_T} {p : Nat} (hp : p < 4) (h : mb_I P t B C A (S 0)) (hD : mb_RD D (S 0)) :
    (∃ D', f1_clearRing (nI p) D = some (0, D') ∧ mb_RD D' (S 0) ∧ f8_findRing (nI p) 2 S = some (0, S) ∧ f8_findRing (nI p) 3 S = some (0, S) ∧ f8_findRing (nI p) 4 S = some (0, S)) ∨
    ∃ l D' S' T' m, 0 < l ∧ l.toInt ≤ C ∧ f1_clearRing (nI p) D = some (l, D') ∧ mb_RD D' T' ∧ mb_I P t B C A T' ∧ (∀ i, i < 75 → T' i = S 0 i) ∧ mb_cq T' 16 < mb_cq (S 0) 16 ∧ 2 ≤ m ∧ m ≤ 4 ∧ (∀ m', 2 ≤ m' → m' < m → f8_findRing (nI p) (nI m') S = some (0, S)) ∧ f8_findRing (nI p) (nI m) S = some (1, S') ∧ (∃ S2, f8_clearsRing S' = some (l, S2) ∧ S2 0 = T' ∧ (∀ g, g ≠ 0 → g ≠ 6 → g ≠ 8 → S2 g = S g) ∧ ∀ i, i ≠ 5 → S2 8 i = S 8 i) := by
  have dz : ∀ k, k < 4 → ¬ mb_E (S 0) k k := fun k hk h0 => by
    have := h.cz k k hk hk (Or.inl rfl)
    have h0' : 0 < S 0 (75 + 4 * k + k) := h0
    rw [this] at h0'
    exact absurd h0' (by decide)
  obtain ⟨r, u1, u2⟩ := lb_dist hD.1 hp hp
  rcases lb_ring hp dz u2 with ⟨rfl, hno⟩ | ⟨d, c, hd, hd4, hc, rfl, hlow, hI, hlt, hseq⟩
  · left
    have nf : ∀ m, 2 ≤ m → m ≤ 4 → f8_findRing (nI p) (nI m) S = some (0, S) := by
      intro m h1 h2
      rcases lb_find (S := S) hp h1 h2 with ⟨a, -⟩ | ⟨c', S', a, b, -⟩
      · exact a
      · exact absurd b (hno m c' h1 h2 a)
    refine ⟨D, ?_, hD, nf 2 (by omega) (by omega), nf 3 (by omega) (by omega), nf 4 (by omega) (by omega)⟩
    unfold f1_clearRing
    rw [u1, lb_bd, if_pos rfl]
  · right
    have hv := fun j => lb_v4 (m := d) hp hc j
    obtain ⟨di, he⟩ := lb_vd hp hd hd4 hc dz hI
    -- the class
    have e0 := he 0 (by omega)
    obtain ⟨l1, l2, j3, l3, l4⟩ := lb_lsP he (d - 1) 1 (S 0 (75 + 4 * mb_v p d c 0 + mb_v p d c 1)) (by omega) (by omega) e0 (fun j hj => by
      have : j = 0 := by omega
      subst this; exact lb_le.mpr (Int.le_refl _)) ⟨0, by omega, rfl⟩
    have els : ∀ x, mb_ls (S 0) (mb_v p d c) d 0 x = mb_ls (S 0) (mb_v p d c) (d - 1) 1 (S 0 (75 + 4 * mb_v p d c 0 + mb_v p d c 1)) := by
      intro x
      obtain ⟨d', rfl⟩ : ∃ d', d = d' + 1 := ⟨d - 1, by omega⟩
      rfl
    generalize hl : mb_ls (S 0) (mb_v p d c) (d - 1) 1 (S 0 (75 + 4 * mb_v p d c 0 + mb_v p d c 1)) = l at l1 l2 l4 els
    obtain ⟨i1, i2, i3, i4, -, -⟩ := lb_clI hA hv di l1 d 0 (S 0) (by omega) h (fun j a b => l2 j b)
    have hseq' : ∀ s', 0 ≤ s' → s' < d → (d - s' = 1 → mb_v p d c (s' + 1) = p) ∧ (1 < d - s' → mb_NX (S 0) (mb_v p d c s') p (d - s') (mb_v p d c (s' + 1))) :=
      fun s' _ h2 => ⟨fun e => (hseq s' h2).1 (by omega), fun e => (hseq s' h2).2 (by omega)⟩
    have D0 : mb_RD (ms_set D 2 (upd (D 2) 0 (nI p))) (S 0) := ⟨fun i hi => by rw [lb_mn (by decide)]; exact hD.1 i hi, fun i hi => by rw [lb_mn (by decide)]; exact hD.2 i hi⟩
    obtain ⟨D1, k1, k2, k3⟩ := lb_crL hp hd4 hv d 0 1000 0 (ms_set D 2 (upd (D 2) 0 (nI p))) (by omega) (by omega) D0 (fun j hj => by
      have : j = 0 := by omega
      subst this; rw [lb_ms, lb_us]; rfl) hseq'
    rw [els 0] at k1
    obtain ⟨D2, k4, k5⟩ := lb_crS hd4 hv di (l := l) d 0 1000 (S 0) D1 (by omega) (by omega) k2 k3 (fun j _ hj => by
      intro e
      have := he j hj
      rw [mb_E, e] at this
      exact absurd this (by decide))
    have hcr : f1_clearRing (nI p) D = some (l, D2) := by
      unfold f1_clearRing
      rw [u1, lb_bd, if_neg (lb_n6 (by omega)), show f6_write (-6) 5 (0 : Int32) (nI p) (D 2) = some (upd (D 2) 0 (nI p)) from lb_write (k := 0) (by omega) (by omega), lb_bd]
      exact k1.trans k4
    -- the reference
    rcases lb_find (S := S) hp hd hd4 with ⟨a, b⟩ | ⟨c', S', q1, q2, q3, q4, q5, q6, q7, q8⟩
    · exact absurd hI (b c hc)
    · have ecc : c' = c := by
        by_cases y1 : c' < c
        · exact absurd q2 (hlt c' y1)
        · by_cases y2 : c < c'
          · exact absurd hI (q3 c y2)
          · omega
      subst ecc
      have S0 : S' 0 = S 0 := q5 0 (by omega) (by omega)
      refine ⟨l, D2, S', mb_cl (mb_v p d c') l d 0 (S 0), d, l1, ?_, hcr, k5, i1, i2, ?_, hd, hd4, ?_, q4, ms_set S' 0 (mb_cl (mb_v p d c') l d 0 (S 0)), ?_, lb_ms _ _ _, ?_, ?_⟩
      · have a3 := hv j3; have a4 := hv (j3 + 1)
        have cc := h.co (4 * mb_v p d c' j3 + mb_v p d c' (j3 + 1)) (by omega)
        rw [show 75 + (4 * mb_v p d c' j3 + mb_v p d c' (j3 + 1)) = 75 + 4 * mb_v p d c' j3 + mb_v p d c' (j3 + 1) by omega] at cc
        rw [l4]; exact cc.2
      · have a3 := hv j3; have a4 := hv (j3 + 1)
        refine lb_cqS 16 i3 ⟨4 * mb_v p d c' j3 + mb_v p d c' (j3 + 1), by omega, ?_, ?_⟩
        · rw [show 75 + (4 * mb_v p d c' j3 + mb_v p d c' (j3 + 1)) = 75 + 4 * mb_v p d c' j3 + mb_v p d c' (j3 + 1) by omega]; exact he j3 l3
        · rw [show 75 + (4 * mb_v p d c' j3 + mb_v p d c' (j3 + 1)) = 75 + 4 * mb_v p d c' j3 + mb_v p d c' (j3 + 1) by omega, i4 j3 (by omega) l3, ← l4]
          rw [lb_0lt] at l1 ⊢
          have n1 : (-l).toInt = -l.toInt := lb_neg_toInt (by omega)
          rw [lb_add_toInt (by omega) (by omega), n1]; omega
      · intro m' h1 h2
        rcases lb_find (S := S) hp h1 (show m' ≤ 4 by omega) with ⟨a, -⟩ | ⟨c2, S2, a, b, -⟩
        · exact a
        · exact absurd b (hlow m' c2 h1 h2 a)
      · unfold f8_clearsRing
        rw [show ∀ {β : Type} (k : Option β), fo_ck (0 : Int32) 4 k = k from fun k => lb_ck (i := 0) (n := 4) (by omega) (by omega), show ∀ {β : Type} (k : Option β), fo_ck (1 : Int32) 4 k = k from fun k => lb_ck (i := 1) (n := 4) (by omega) (by omega), lb_c0, lb_c1, q8 0 (by omega), q8 1 (by omega), S0, lb_debt (hv 0) (hv 1), lb_bd]
        rw [show f8_clearsRing_L19 fo_fu (S 0 (75 + 4 * mb_v p d c' 0 + mb_v p d c' 1)) 1 S' = _ from lb_lsL hd hd4 hv q7 q8 (d - 1) 1 1000 _ (by omega) (by omega) (by omega), S0, hl]
        have := lb_clL (l := l) hd hd4 hv d 0 1000 S' (by omega) (by omega) q7 q8
        rw [S0] at this
        exact this
      · intro g h1 h2 h3
        rw [lb_mn h1]; exact q5 g h2 h3
      · intro i hi
        rw [lb_mn (by omega)]; exact q6 i hi
theorem lb_clearL {P t : Nat} {A B C : Int} (hA : 0 ≤ A) (hC : C ≤ 12000000) {p : Nat} (hp : p < 4) : ∀ (N i n7 n8 s : Nat) (S Bd : ms_T), mb_cq (S 0) 16 ≤ N → i + N ≤ 16 → N < n7 → N < n8 → s ≤ i * 12000000 → mb_I P t B C A (S 0) → RB Bd (S 0) →
    ∃ r B' S', f0_clearAround_L14 n7 (nI p) (nI s) (nI i) Bd = some (r, B') ∧ f8_clears_L2 n8 (nI p) (nI s) S = some (r, S') ∧ ¬ r < 0 ∧ mb_I P t B C A (S' 0) ∧ RB B' (S' 0) ∧ (∀ g, g ≠ 0 → g ≠ 6 → g ≠ 8 → S' g = S g) ∧ (∀ i, i ≠ 5 → S' 8 i = S 8 i)
  | N, i, n7, n8, s, S, Bd, hq, hi, h7, h8, hs, h, hR => by
    obtain ⟨n7, rfl⟩ : ∃ n', n7 = n' + 1 := ⟨n7 - 1, by omega⟩
    obtain ⟨n8, rfl⟩ : ∃ n', n8 = n' + 1 := ⟨n8 - 1, by omega⟩
    have hs31 : ¬ nI s < 0 := nI_pos (by omega)
    have hD : mb_RD (ms_from Bd 2) (S 0) := ⟨fun i hi => hR.c hi, fun i hi => hR.a i hi⟩
    have e8 : ∀ n, f8_clears_L2 (n + 1) (nI p) (nI s) S = f8_clears_b2 (f8_clears_L2 n) (nI p) (nI s) S := fun n => rfl
    have e7 : f0_clearAround_L14 (n7 + 1) (nI p) (nI s) (nI i) Bd = f0_clearAround_b14 (f0_clearAround_L14 n7) (nI p) (nI s) (nI i) Bd := rfl
    rcases lb_oneRing hA hp h hD with ⟨D', a1, a2, a3, a4, a5⟩ | ⟨l, D', S1, T', m, b0, b1, b2, b3, b4, b5, b6, b7, b8, b9, b10, S2, b11, b12, b13, b14⟩
    · have r8 : f8_clears_L2 (n8 + 1) (nI p) (nI s) S = some (nI s, S) := by
        rw [e8]
        unfold f8_clears_b2
        rw [a3, lb_bd, if_pos rfl, a4, lb_bd, if_pos rfl, a5, lb_bd, if_pos rfl]
      by_cases e16 : i = 16
      · refine ⟨nI s, Bd, S, ?_, r8, hs31, h, hR, fun _ _ _ _ => rfl, fun _ _ => rfl⟩
        rw [e7]
        unfold f0_clearAround_b14
        subst e16
        rw [if_pos (show (16 : Int32) ≤ nI 16 by decide)]
      · refine ⟨nI s, ms_sub Bd 2 3 D', S, ?_, r8, hs31, h, hR.debts a2.1 a2.2 (fun _ _ => rfl), fun _ _ _ _ => rfl, fun _ _ => rfl⟩
        rw [e7]
        unfold f0_clearAround_b14
        rw [if_neg (show ¬ (16 : Int32) ≤ nI i from nI_ge (b := 16) (by omega) (by omega)), a1, lb_bd, if_pos rfl]
    · obtain ⟨N, rfl⟩ : ∃ N', N = N' + 1 := ⟨N - 1, by omega⟩
      rw [lb_0lt] at b0
      obtain ⟨ln, hln, el, eli⟩ := lb_nat (a := l) (by omega)
      have hs1 : nI i + (1 : Int32) = nI (i + 1) := (nI_succ i).symm
      have es : nI s + l = nI (s + ln) := by rw [el, lb_add]
      obtain ⟨r, B', S', w1, w2, w3, w4, w5, w6, w7⟩ := lb_clearL hA hC hp N (i + 1) n7 n8 (s + ln) S2 (ms_sub Bd 2 3 D') (by rw [b12]; omega) (by omega) (by omega) (by omega) (by omega) (by rw [b12]; exact b4) (by rw [b12]; exact hR.debts b3.1 b3.2 b5)
      refine ⟨r, B', S', ?_, ?_, w3, w4, w5, ?_, ?_⟩
      · rw [e7]
        unfold f0_clearAround_b14
        rw [if_neg (show ¬ (16 : Int32) ≤ nI i from nI_ge (b := 16) (by omega) (by omega)), b2, lb_bd, if_neg (show ¬ l = 0 by rw [lb_eq0]; omega), es, hs1]
        exact w1
      · rw [e8]
        unfold f8_clears_b2 f8_clears_b29
        have z10 : ¬ (1 : Int32) = 0 := by decide
        have : m = 2 ∨ m = 3 ∨ m = 4 := by omega
        rcases this with rfl | rfl | rfl
        · rw [show f8_findRing (nI p) (2 : Int32) S = some (1, S1) from b10, lb_bd, if_neg z10, b11, lb_bd, es]; exact w2
        · rw [show f8_findRing (nI p) (2 : Int32) S = some (0, S) from b9 2 (by omega) (by omega), lb_bd, if_pos rfl, show f8_findRing (nI p) (3 : Int32) S = some (1, S1) from b10, lb_bd, if_neg z10, b11, lb_bd, es]; exact w2
        · rw [show f8_findRing (nI p) (2 : Int32) S = some (0, S) from b9 2 (by omega) (by omega), lb_bd, if_pos rfl, show f8_findRing (nI p) (3 : Int32) S = some (0, S) from b9 3 (by omega) (by omega), lb_bd, if_pos rfl, show f8_findRing (nI p) (4 : Int32) S = some (1, S1) from b10, lb_bd, if_neg z10, b11, lb_bd, es]; exact w2
      · intro g h1 h2 h3; rw [w6 g h1 h2 h3, b13 g h1 h2 h3]
      · intro j hj; rw [w7 j hj, b14 j hj]
/-- clear, on the boards -/
theorem lb_clearC {S Bd : ms_T} (h : mb_S Bd (S 0)) (v : Int32) : (f0_clearAround v Bd = some (-1, Bd) ∧ f8_isPlayer v (S 0) = some 0) ∨ (∃ r B' S', ¬ r < 0 ∧ f0_clearAround v Bd = some (r, B') ∧ f8_isPlayer v (S 0) = some 1 ∧ f8_clears v S = some (r, S') ∧ mb_S B' (S' 0) ∧ (∀ g, g ≠ 0 → g ≠ 6 → g ≠ 8 → S' g = S g) ∧ (∀ i, i ≠ 5 → S' 8 i = S 8 i)) := by
  obtain ⟨P, t, ht, hJ, hR⟩ := h
  have hP := hJ.P4
  rcases hJ.isPlayer v with ⟨a1, a2⟩ | ⟨p, hp, rfl, a1⟩
  · rcases lb_hasP hR hJ.h6 hP v with ⟨b1, -⟩ | ⟨p, hp, e, -⟩
    · left
      refine ⟨?_, a1⟩
      unfold f0_clearAround; rw [b1]; rfl
    · exact absurd ⟨p, hp, e⟩ a2
  · rcases lb_hasP hR hJ.h6 hP (nI p) with ⟨-, b1⟩ | ⟨p', hp', e, b1⟩
    · exact absurd ⟨p, hp, rfl⟩ b1
    · right
      have hC : (1188 * (t : Int)) ≤ 12000000 := by omega
      obtain ⟨r, B', S', w1, w2, w3, w4, w5, w6, w7⟩ := lb_clearL (by omega) hC (p := p) (by omega) 16 0 1000 1000 0 S Bd (lb_cqB 16) (by omega) (by omega) (by omega) (by omega) hJ hR
      refine ⟨r, B', S', w3, ?_, a1, w2, ⟨P, t, ht, w4, w5⟩, w6, w7⟩
      unfold f0_clearAround
      rw [b1, lb_bd, if_neg (show ¬ (1 : Int32) = 0 by decide)]
      exact w1
theorem lb_clear {X : xs_T} {S : ms_T} (h : RR X S) (v : Int32) : ∃ r X' S', f7_clear v X = some (r, X') ∧ f8_clear v S = some (r, S') ∧ RR X' S' := by
  have h0 := h
  obtain ⟨f, B, hf, e, s1, s2, s3⟩ := lb_stage h
  rcases lb_clearC (S := S) h.1 v with ⟨a1, a2⟩ | ⟨r, B', S1, a0, a1, a2, a3, a4, a5, a6⟩
  · have := lb_change h (k7 := fun B => f0_clearAround v B) (k8 := f8_clear v) (Or.inl ⟨-1, by decide, a1, by unfold f8_clear; rw [a2]; rfl⟩)
    exact this
  · -- record first, then clear
    obtain ⟨q, S', k1, k2, k3, k4, k5, k6⟩ := h.keep hf e s2 h.1
    have hS' : mb_S (X 5) (S' 0) := by rw [k3]; exact h.1
    rcases lb_clearC (S := S') hS' v with ⟨c1, c2⟩ | ⟨r', B2, S2, c0, c1, c2, c3, c4, c5, c6⟩
    · rw [k3] at c2; rw [a2] at c2; exact absurd c2 (by decide)
    · have er : r' = r ∧ B2 = B' := by
        have := c1.symm.trans a1
        injection this with this
        injection this with x y
        exact ⟨x, y⟩
      obtain ⟨rfl, rfl⟩ := er
      obtain ⟨q2, S3, m1, m2, m3, m4, m5, m6⟩ := h.keep hf e s2 c4
      have eS : S3 = S' := by have := m2.symm.trans k2; injection this
      subst eS
      refine ⟨r', xs_set (xs_set (xs_set X (7 + f) B) 5 B2) 2 q2, S2, ?_, ?_, ?_⟩
      · unfold f7_clear
        rw [s1, lb_bd, s3, lb_xn (show 5 ≠ 7 + f by omega), a1, lb_bd]
        show fo_bd (f7_changed r' (xs_set (xs_set X (7 + f) B) 5 B2)) _ = _
        unfold f7_changed
        rw [if_neg a0, m1]; rfl
      · unfold f8_clear
        rw [a2, lb_bd, if_neg (show ¬ (1 : Int32) = 0 by decide), k2, lb_bd, c3]; rfl
      · have e2 : ms_set S3 0 (S2 0) = fun g => if g = 0 then S2 0 else S3 g := rfl
        refine m6.same (S' := S2) ?_ ?_
        · intro g h8 h6 h7
          by_cases h00 : g = 0
          · subst h00; rw [lb_ms]
          · rw [lb_mn h00]; exact c5 g h00 h6 h8
        · rw [lb_mn (by omega)]; exact ⟨c6 0 (by omega), c6 1 (by omega)⟩
