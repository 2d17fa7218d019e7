/-! ## Layer B: squares -/
def mb_sort (s : Nat) : Nat := if s % 10 = 0 then 0 else if s % 10 = 5 then 2 else 1
theorem lb_sort8 : ∀ s, s < 20 → f8_sortOf (nI s) = some (nI (mb_sort s)) := by decide
theorem lb_sort5 : ∀ s, s < 20 → f5_sortOf (nI s) = some (nI (mb_sort s)) := by decide
abbrev mb_owns (T : Nat → Int32) (p s : Nat) : Prop := T (11 + s) = nI p ∨ T (31 + s) = nI p
abbrev mb_free (T : Nat → Int32) (s : Nat) : Prop := (mb_sort s = 1 ∧ T (11 + s) = -6) ∨ (mb_sort s = 2 ∧ T (31 + s) = -6)
theorem lb_ix11 {s : Nat} : (11 : Int32) + nI s = nI (11 + s) := lb_add 11 s
theorem lb_ix31 {s : Nat} : (31 : Int32) + nI s = nI (31 + s) := lb_add 31 s
theorem lb_owns8 {T : Nat → Int32} {p s : Nat} (hs : s < 20) : f8_owns (nI p) (nI s) T = some (if mb_owns T p s then 1 else 0) := by
  unfold f8_owns f8_owns_b26 mb_owns
  rw [lb_ix11, lb_ix31, lb_ck (by omega) (by omega), lb_ck (by omega) (by omega), lb_cl (by omega), lb_cl (by omega)]
  by_cases h1 : T (11 + s) = nI p
  · rw [if_pos h1, if_pos (Or.inl h1)]
  · rw [if_neg h1]
    by_cases h2 : T (31 + s) = nI p
    · rw [if_pos h2, if_pos (Or.inr h2)]
    · rw [if_neg h2, if_neg (by rintro (h | h) <;> contradiction)]
theorem lb_owns5 {S : ms_T} {T : Nat → Int32} (h : RB S T) {p s : Nat} (hs : s < 20) : f5_isOwnedBy (nI s) (nI p) S = some (if mb_owns T p s then 1 else 0) := by
  unfold f5_isOwnedBy f5_isOwnedBy_b24 mb_owns
  rw [lb_at hs (by omega), lb_bd, lb_at hs (by omega), lb_bd, h.f hs, h.s hs]
  by_cases h1 : T (11 + s) = nI p
  · rw [if_pos h1, if_pos (Or.inl h1)]
  · rw [if_neg h1]
    by_cases h2 : T (31 + s) = nI p
    · rw [if_pos h2, if_pos (Or.inr h2)]
    · rw [if_neg h2, if_neg (by rintro (h | h) <;> contradiction)]
theorem lb_free8 {T : Nat → Int32} {s : Nat} (hs : s < 20) : f8_canBeClaimed (nI s) T = some (if mb_free T s then 1 else 0) := by
  unfold f8_canBeClaimed mb_free
  rw [lb_sort8 s hs, lb_bd, lb_bd, lb_ix11, lb_ix31, lb_ck (by omega) (by omega), lb_ck (by omega) (by omega), lb_cl (by omega), lb_cl (by omega)]
  have h3 : mb_sort s < 3 := by unfold mb_sort; split; omega; split <;> omega
  have h3 : mb_sort s = 0 ∨ mb_sort s = 1 ∨ mb_sort s = 2 := by omega
  rcases h3 with h3 | h3 | h3 <;> rw [h3]
  · rw [if_neg (by decide), if_neg (by decide), if_neg (by rintro (⟨h, -⟩ | ⟨h, -⟩) <;> omega)]
  · rw [if_pos (by decide)]
    by_cases h1 : T (11 + s) = -6
    · rw [if_pos h1, if_pos (Or.inl ⟨rfl, h1⟩)]
    · rw [if_neg h1, if_neg (by rintro (⟨-, h⟩ | ⟨h, -⟩); exact h1 h; omega)]
  · rw [if_neg (by decide), if_pos (by decide)]
    by_cases h1 : T (31 + s) = -6
    · rw [if_pos h1, if_pos (Or.inr ⟨rfl, h1⟩)]
    · rw [if_neg h1, if_neg (by rintro (⟨h, -⟩ | ⟨-, h⟩); omega; exact h1 h)]
theorem lb_free5 {S : ms_T} {T : Nat → Int32} (h : RB S T) {s : Nat} (hs : s < 20) : f5_hasFreePart (nI s) S = some (if mb_free T s then 1 else 0) := by
  unfold f5_hasFreePart f5_hasFreePart_b23 f5_hasFreePart_b41 mb_free
  rw [lb_sort5 s hs, lb_bd, lb_at hs (by omega), lb_bd, lb_at hs (by omega), lb_bd, h.f hs, h.s hs]
  have h3 : mb_sort s < 3 := by unfold mb_sort; split; omega; split <;> omega
  have h3 : mb_sort s = 0 ∨ mb_sort s = 1 ∨ mb_sort s = 2 := by omega
  rcases h3 with h3 | h3 | h3 <;> rw [h3]
  · rw [if_neg (by decide), if_neg (by decide), if_neg (by rintro (⟨h, -⟩ | ⟨h, -⟩) <;> omega)]
  · rw [if_pos (show nI 1 = (1 : Int32) by decide)]
    by_cases h1 : T (11 + s) = -6
    · rw [if_pos h1, if_pos (Or.inl ⟨rfl, h1⟩)]
    · rw [if_neg h1, if_neg (show ¬ nI 1 = (2 : Int32) by decide), if_neg (by rintro (⟨-, h⟩ | ⟨h, -⟩); exact h1 h; omega)]
  · rw [if_neg (by decide), if_pos (by decide)]
    by_cases h1 : T (31 + s) = -6
    · rw [if_pos h1, if_pos (Or.inr ⟨rfl, h1⟩)]
    · rw [if_neg h1, if_neg (by rintro (⟨h, -⟩ | ⟨-, h⟩); omega; exact h1 h)]
/-! claims -/
def mb_took (T : Nat → Int32) (p s : Nat) : Nat → Int32 :=
  if T (11 + s) = -6 then upd (upd (mb_add T (51 + 6 * p) (-(T 1))) (11 + s) (nI p)) 9 (T 9 + T 1)
  else mb_add (upd (mb_add T (51 + 6 * p) (-(T 1))) (31 + s) (nI p)) (51 + 6 * (T (11 + s)).toNatClampNeg) (T 1)
def mb_claims (T : Nat → Int32) (p s : Nat) : Nat → Int32 :=
  if nI (mb_dv (T 8).toNatClampNeg) < T 3 then upd T 8 (nI (mb_dx (T 8).toNatClampNeg))
  else if T 1 ≤ T (51 + 6 * p) then mb_took (upd T 8 (nI (mb_dx (T 8).toNatClampNeg))) p s
  else upd T 8 (nI (mb_dx (T 8).toNatClampNeg))
theorem lb_claims8 {P t : Nat} {B C A : Int} {T : Nat → Int32} (h : mb_I P t B C A T) {p s : Nat} (hp : p < P) (hs : s < 20) : f8_claims (nI p) (nI s) T = some (mb_claims T p s) := by
  have hP := h.P4
  obtain ⟨x, hx, hx2⟩ := h.dr
  unfold f8_claims mb_claims
  rw [lb_die8 hx hx2, lb_bd, lb_k3, lb_c3, hx, lb_cl (by omega)]
  have g : mb_I P t B C A (upd T 8 (nI (mb_dx x))) := h.setDraw (lb_dx x)
  have e1 : upd T 8 (nI (mb_dx x)) 1 = T 1 := lb_un (by omega)
  have e3 : upd T 8 (nI (mb_dx x)) 3 = T 3 := lb_un (by omega)
  have e5 : upd T 8 (nI (mb_dx x)) (51 + 6 * p) = T (51 + 6 * p) := lb_un (by omega)
  simp only [lb_part0 (show p < 4 by omega), lb_bd, lb_k1, lb_c1, lb_k9, lb_c9, e1, e3, e5]
  by_cases c1 : nI (mb_dv x) < T 3
  · rw [if_pos c1, if_pos c1]
  · rw [if_neg c1, if_neg c1]
    by_cases c2 : T 1 ≤ T (51 + 6 * p)
    · rw [if_pos c2, if_pos c2]
      rw [← e1]
      generalize hU : upd T 8 (nI (mb_dx x)) = U at g e1 e3 e5
      rw [lb_adds0 (show p < 4 by omega), lb_bd, lb_ix11, lb_ix31, lb_ck (by omega) (by omega), lb_ck (by omega) (by omega), lb_ck (by omega) (by omega), lb_ck (by omega) (by omega), lb_cl (by omega), lb_cl (by omega)]
      unfold mb_took mb_add
      rw [lb_un (show 11 + s ≠ 51 + 6 * p by omega)]
      by_cases c3 : U (11 + s) = -6
      · rw [if_pos c3, if_pos c3]
        simp (disch := omega) only [lb_us, lb_un]
      · rw [if_neg c3, if_neg c3]
        rcases g.fo s hs with c4 | ⟨q, hq, c4⟩
        · exact absurd c4 c3
        · simp (disch := omega) only [lb_us, lb_un]
          rw [c4, lb_adds0 (show q < 4 by omega), lb_bd, lb_cl (by omega), lb_un (show 51 + 6 * q ≠ 31 + s by omega)]
    · rw [if_neg c2, if_neg c2]
/-- a claim keeps the rules -/
theorem mb_I.took {P t : Nat} {B C A : Int} {T : Nat → Int32} (h : mb_I P t B C A T) {p s : Nat} (hp : p < P) (hs : s < 20) (hf : mb_free T s) (ho : ¬ mb_owns T p s) (hm : T 1 ≤ T (51 + 6 * p)) : mb_I P t B C A (mb_took T p s) := by
  have hP := h.P4
  have b1 := h.purse (p := p) (by omega)
  have bb := h.bB
  have hps := h.ps
  have pr := h.pr
  rw [lb_le] at hm
  have n1 : (-(T 1)).toInt = -(T 1).toInt := lb_neg_toInt (by omega)
  have s1 : (T (51 + 6 * p) + -(T 1)).toInt = (T (51 + 6 * p)).toInt - (T 1).toInt := by
    rw [lb_add_toInt (by omega) (by omega), n1]; omega
  have g1 : mb_I P t B C A (mb_add T (51 + 6 * p) (-(T 1))) := h.setPurse hp (by omega) (by omega) bb
  have m1 : mb_sum (mb_add T (51 + 6 * p) (-(T 1))) = mb_sum T - (T 1).toInt := by
    unfold mb_add; rw [lb_sumU (by omega), s1]; omega
  have e11 : mb_add T (51 + 6 * p) (-(T 1)) (11 + s) = T (11 + s) := lb_an (by omega)
  have e31 : mb_add T (51 + 6 * p) (-(T 1)) (31 + s) = T (31 + s) := lb_an (by omega)
  have s0 : mb_sort s ≠ 0 := by
    intro e; rcases hf with hf | hf <;> omega
  have s10 : s % 10 ≠ 0 := by
    intro e; apply s0; unfold mb_sort; rw [if_pos e]
  unfold mb_took
  by_cases c1 : T (11 + s) = -6
  · rw [if_pos c1]
    have c2 : T (31 + s) = -6 := by
      rcases h.se s hs with h2 | ⟨-, -, h4, -⟩
      · exact h2
      · exact absurd c1 h4
    refine mb_I.setNo ?_ (Or.inl rfl) _
    have g2 := g1.setOwn hs (x := nI p) (y := -6) (Or.inr ⟨p, hp, rfl⟩) (fun e => absurd e s10) (Or.inl rfl)
    rw [lb_ui' (by rw [lb_un (by omega), e31, c2])] at g2
    exact g2
  · rw [if_neg c1]
    rcases h.fo s hs with c4 | ⟨q, hq, c4⟩
    · exact absurd c4 c1
    · have hpq : q ≠ p := by
        intro e; subst e; exact ho (Or.inl c4)
      have s5 : s % 10 = 5 := by
        rcases hf with hf | hf
        · exact absurd hf.2 c1
        · have := hf.1
          unfold mb_sort at this
          rw [if_neg s10] at this
          by_cases e : s % 10 = 5
          · exact e
          · rw [if_neg e] at this; omega
      have g2 := g1.setOwn hs (x := T (11 + s)) (y := nI p) (h.fo s hs) (fun e => absurd e s10) (Or.inr ⟨s5, ⟨p, hp, rfl⟩, c1, fun e => ho (Or.inl e)⟩)
      have e2 : upd (mb_add T (51 + 6 * p) (-(T 1))) (11 + s) (T (11 + s)) = mb_add T (51 + 6 * p) (-(T 1)) := lb_ui' e11.symm
      rw [e2] at g2
      rw [c4, lb_cl (by omega)]
      have b3 : upd (mb_add T (51 + 6 * p) (-(T 1))) (31 + s) (nI p) (51 + 6 * q) = T (51 + 6 * q) := by rw [lb_un (by omega), lb_an (by omega)]
      have b2 := h.purse (p := q) (by omega)
      have tot := lb_sumP (p := q) (by omega) g1.pu
      rw [lb_an (by omega), m1] at tot
      have s2 : (T (51 + 6 * q) + T 1).toInt = (T (51 + 6 * q)).toInt + (T 1).toInt := lb_add_toInt (by omega) (by omega)
      refine g2.setPurse hq ?_ ?_ bb
      · rw [b3]; omega
      · rw [b3, s2, lb_sumN (by omega), m1]; omega
theorem mb_I.claims {P t : Nat} {B C A : Int} {T : Nat → Int32} (h : mb_I P t B C A T) {p s : Nat} (hp : p < P) (hs : s < 20) (hf : mb_free T s) (ho : ¬ mb_owns T p s) : mb_I P t B C A (mb_claims T p s) := by
  have g : mb_I P t B C A (upd T 8 (nI (mb_dx (T 8).toNatClampNeg))) := h.setDraw (lb_dx _)
  unfold mb_claims
  split
  · exact g
  · split
    · next hm =>
      refine g.took hp hs ?_ ?_ ?_
      · unfold mb_free at hf ⊢; rw [lb_un (by omega), lb_un (by omega)]; exact hf
      · unfold mb_owns at ho ⊢; rw [lb_un (by omega), lb_un (by omega)]; exact ho
      · rw [lb_un (by omega), lb_un (by omega)]; exact hm
    · exact g
theorem lb_claimsOld {T : Nat → Int32} {p s j : Nat} (hj : j = 52 + 6 * p ∨ j = 7 ∨ j = 6) (ho : ∃ q, T (11 + s) = nI q ∧ q < 4 ∨ T (11 + s) = -6) (hs : s < 20) : mb_claims T p s j = T j := by
  have e : upd T 8 (nI (mb_dx (T 8).toNatClampNeg)) j = T j := lb_un (by omega)
  have e11 : upd T 8 (nI (mb_dx (T 8).toNatClampNeg)) (11 + s) = T (11 + s) := lb_un (by omega)
  unfold mb_claims
  split
  · exact e
  · split
    · unfold mb_took
      split
      · rw [lb_un (by omega), lb_un (by omega), lb_an (by omega)]; exact e
      · obtain ⟨q, ho | ho⟩ := ho
        · rw [e11, ho.1, lb_cl (by omega), lb_an (by omega), lb_un (by omega), lb_an (by omega)]; exact e
        · rename_i h1; rw [e11] at h1; exact absurd ho h1
    · exact e
