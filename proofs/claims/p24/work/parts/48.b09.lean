/-! ## Layer B: a toll is paid -/
def mb_half (T : Nat → Int32) (s : Nat) : Int32 := if T (31 + s) = -6 then 0 else mb_toll T s / 2
def mb_pt (T : Nat → Int32) (p q : Nat) (c : Int32) : Nat → Int32 := if c ≤ mb_paid T p c then mb_pay T p q (mb_paid T p c) else mb_addD (mb_pay T p q (mb_paid T p c)) p q (c - mb_paid T p c)
def mb_tolls (T : Nat → Int32) (p s : Nat) : Nat → Int32 :=
  if ¬ mb_owns T p s ∧ T (11 + s) ≠ -6 then
    (if T (31 + s) = -6 then mb_pt T p (T (11 + s)).toNatClampNeg (mb_toll T s - mb_half T s)
     else mb_pt (mb_pt T p (T (11 + s)).toNatClampNeg (mb_toll T s - mb_half T s)) p (T (31 + s)).toNatClampNeg (mb_half T s))
  else T
theorem lb_tollB {P t : Nat} {B C A : Int} {T : Nat → Int32} (h : mb_I P t B C A T) (s : Nat) : ∃ c d, mb_half T s = nI d ∧ mb_toll T s - mb_half T s = nI c ∧ c ≤ 594 ∧ d ≤ 594 := by
  have tl := h.tl
  obtain ⟨w, hw, e, ei⟩ := lb_nat (a := T 2) (by omega)
  have : ∃ z, mb_toll T s = nI z ∧ z ≤ 594 := by
    unfold mb_toll
    split
    · exact ⟨0, rfl, by omega⟩
    · have b := lb_tFb (T := T) (o := T (11 + s)) 5 (s / 5 * 5) 1
      generalize mb_tF T (T (11 + s)) 5 (s / 5 * 5) 1 = m at b
      refine ⟨w * m, by rw [e, lb_mul], ?_⟩
      have h1 : w * m ≤ 99 * 6 := Nat.mul_le_mul (by omega) (by omega)
      omega
  obtain ⟨z, hz, hz2⟩ := this
  unfold mb_half
  rw [hz]
  split
  · exact ⟨z, 0, rfl, by rw [show (0 : Int32) = nI 0 from rfl, lb_sub (by omega)]; rfl, hz2, by omega⟩
  · refine ⟨z - z / 2, z / 2, ?_, ?_, by omega, by omega⟩
    · exact lb_div (b := 2) (by omega) (by omega)
    · rw [show nI z / 2 = nI (z / 2) from lb_div (b := 2) (by omega) (by omega), lb_sub (by omega)]
theorem lb_paysToll8 {T : Nat → Int32} {p q : Nat} {c : Int32} (hp : p < 4) (hq : q < 4) : f8_paysToll (nI p) (nI q) c T = some (mb_pt T p q c) := by
  unfold f8_paysToll mb_pt
  rw [lb_pays hp hq, lb_bd]
  by_cases h : c ≤ mb_paid T p c
  · rw [if_pos h, if_pos h]
  · rw [if_neg h, if_neg h]
    show fo_bd (f8_addsDebt (nI p) (nI q) (c - mb_paid T p c) (mb_pay T p q (mb_paid T p c))) _ = _
    rw [lb_addD hp hq, lb_bd]
theorem mb_I.pt {P t : Nat} {B C A : Int} {T : Nat → Int32} (h : mb_I P t B C A T) {p q : Nat} (hp : p < P) (hq : q < P) (hpq : p ≠ q) {c : Int32} (h0 : 0 ≤ c.toInt) (h1 : c.toInt ≤ 594) (hA : 0 ≤ A) (hC : C + 594 ≤ 1000000000) : mb_I P t B (C + 594) A (mb_pt T p q c) := by
  have hP := h.P4
  have b1 := h.purse (p := p) (by omega)
  obtain ⟨x1, x2, x3, x4⟩ := lb_paidB (c := c) b1.1 h0
  have g1 := h.pay hp hq hpq x1 x2
  unfold mb_pt
  split
  · exact g1.up (Int.le_refl _) (by omega) (Int.le_refl _) h.bB hC h.bA
  · have cc := g1.co (4 * p + q) (by omega)
    rw [show 75 + (4 * p + q) = 75 + 4 * p + q by omega] at cc
    have s1 : (c - mb_paid T p c).toInt = c.toInt - (mb_paid T p c).toInt := lb_sub_toInt (by omega) (by omega)
    have bc := h.bC
    refine g1.addD hp hq hpq ?_ (by omega) hA hC
    rw [lb_add_toInt (by omega) (by omega), s1]
    omega
theorem lb_ptOld {T : Nat → Int32} {p q : Nat} {c : Int32} (hp : p < 4) (hq : q < 4) {j : Nat} (hj : j < 51) : mb_pt T p q c j = T j := by
  unfold mb_pt
  split
  · exact lb_pay75 hp hq (by omega)
  · rw [lb_addDn (by omega) (by omega)]; exact lb_pay75 hp hq (by omega)
/-- the class's part of a toll -/
theorem lb_ptC {P t : Nat} {B C A : Int} {S : ms_T} {T : Nat → Int32} (h : mb_I P t B C A T) (hR : RB S T) {p q : Nat} (hp : p < P) (hq : q < P) (hpq : p ≠ q) {c : Int32} (h0 : 0 ≤ c.toInt) (h1 : c.toInt ≤ 594) :
    ∃ S1 D, f0_payWhatThereIs (nI p) (nI q) c S = some (mb_paid T p c, S1) ∧ f1_grow (nI p) (nI q) (c - mb_paid T p c) (ms_from S1 2) = some D ∧ RB (ms_sub S1 2 3 D) (mb_pt T p q c) := by
  have hP := h.P4
  have b1 := h.purse (p := p) (by omega)
  obtain ⟨x1, x2, x3, x4⟩ := lb_paidB (c := c) b1.1 h0
  obtain ⟨S1, e1, r1⟩ := lb_pay0 hR (p := p) (q := q) (c := c) (by omega) (by omega)
  have g1 := h.pay hp hq hpq x1 x2
  have cc := g1.co (4 * p + q) (by omega)
  rw [show 75 + (4 * p + q) = 75 + 4 * p + q by omega] at cc
  have s1 : (c - mb_paid T p c).toInt = c.toInt - (mb_paid T p c).toInt := lb_sub_toInt (by omega) (by omega)
  have bc := h.bC
  obtain ⟨D, e2, r2⟩ := lb_grow r1 (p := p) (q := q) (x := c - mb_paid T p c) (by omega) (by omega) (by omega) (fun hx => by
    rw [lb_0lt] at hx
    intro e
    rw [lb_eq0, lb_add_toInt (by omega) (by omega)] at e
    omega)
  refine ⟨S1, D, e1, e2, ?_⟩
  unfold mb_pt
  by_cases hc : c ≤ mb_paid T p c
  · rw [if_pos hc]
    rw [if_neg (by rw [lb_0lt, s1]; rw [lb_le] at hc; omega)] at r2
    exact r2
  · rw [if_neg hc]
    rw [if_pos (by rw [lb_0lt, s1]; rw [lb_le] at hc; omega)] at r2
    exact r2
def mb_arr (T : Nat → Int32) (p s : Nat) : Nat → Int32 := mb_tolls (if ¬ mb_owns T p s ∧ mb_free T s then mb_claims T p s else T) p s
theorem lb_tolls8 {P t : Nat} {B C A : Int} {T : Nat → Int32} (h : mb_I P t B C A T) {p s : Nat} (hp : p < P) (hs : s < 20) (hA : 0 ≤ A) (hC : C + 1188 ≤ 1000000000) : f8_arrives_b23 (nI p) (nI s) T = some (mb_tolls T p s) ∧ mb_I P t B (C + 1188) A (mb_tolls T p s) := by
  have hP := h.P4
  have gC := h.up (C' := C + 1188) (Int.le_refl _) (by omega) (Int.le_refl _) h.bB hC h.bA
  unfold f8_arrives_b23 f8_arrives_b73 mb_tolls
  have k11 : ∀ {β : Type} (k : Option β), fo_ck (nI (11 + s)) 107 k = k := fun k => lb_ck (by omega) (by omega)
  have k31 : ∀ {β : Type} (k : Option β), fo_ck (nI (31 + s)) 107 k = k := fun k => lb_ck (by omega) (by omega)
  have cl11 : (nI (11 + s)).toNatClampNeg = 11 + s := lb_cl (by omega)
  have cl31 : (nI (31 + s)).toNatClampNeg = 31 + s := lb_cl (by omega)
  rw [lb_owns8 hs, lb_bd]
  simp only [lb_ix11, lb_ix31, k11, k31, cl11, cl31, lb_toll8 hs, lb_bd]
  by_cases ho : mb_owns T p s
  · rw [if_pos ho, if_neg (show ¬ (1 : Int32) = 0 by decide), if_neg (by rintro ⟨h1, -⟩; exact h1 ho)]
    exact ⟨rfl, gC⟩
  · rw [if_neg ho, if_pos rfl]
    by_cases c1 : T (11 + s) = -6
    · rw [if_pos c1, if_neg (by rintro ⟨-, h1⟩; exact h1 c1)]
      exact ⟨rfl, gC⟩
    · rw [if_neg c1, if_pos (show ¬ mb_owns T p s ∧ T (11 + s) ≠ -6 from ⟨ho, c1⟩)]
      rcases h.fo s hs with c2 | ⟨a, ha, c2⟩
      · exact absurd c2 c1
      · obtain ⟨c, d, hd, hc, hc2, hd2⟩ := lb_tollB h s
        have hpa : p ≠ a := by intro e; subst e; exact ho (Or.inl c2)
        rw [c2, lb_cl (by omega), hc, hd]
        have g1 := h.pt hp ha hpa (c := nI c) (by rw [nI_toInt (by omega)]; omega) (by rw [nI_toInt (by omega)]; omega) hA (by omega)
        have e31 : mb_pt T p a (nI c) (31 + s) = T (31 + s) := lb_ptOld (by omega) (by omega) (by omega)
        by_cases c3 : T (31 + s) = -6
        · have hd0 : (0 : Int32) = nI d := by rw [← hd]; unfold mb_half; rw [if_pos c3]
          rw [if_pos c3, if_pos c3, hd0, ← hd, hc, lb_paysToll8 (by omega) (by omega), lb_bd, e31, if_pos c3]
          exact ⟨rfl, g1.up (Int.le_refl _) (by omega) (Int.le_refl _) h.bB hC h.bA⟩
        · have hd0 : mb_toll T s / 2 = nI d := by rw [← hd]; unfold mb_half; rw [if_neg c3]
          rcases h.se s hs with c4 | ⟨-, ⟨b, hb, c4⟩, -, -⟩
          · exact absurd c4 c3
          · have hpb : p ≠ b := by intro e; subst e; exact ho (Or.inr c4)
            rw [if_neg c3, if_neg c3, hd0, ← hd, hc, lb_paysToll8 (by omega) (by omega), lb_bd, e31, if_neg c3, c4, hd, lb_paysToll8 (by omega) (by omega), lb_bd, lb_cl (by omega)]
            have g2 := g1.pt hp hb hpb (c := nI d) (by rw [nI_toInt (by omega)]; omega) (by rw [nI_toInt (by omega)]; omega) hA (by omega)
            exact ⟨rfl, g2.up (Int.le_refl _) (by omega) (Int.le_refl _) h.bB hC h.bA⟩
theorem lb_arr8 {P t : Nat} {B C A : Int} {T : Nat → Int32} (h : mb_I P t B C A T) {p s : Nat} (hp : p < P) (hs : s < 20) (hA : 0 ≤ A) (hC : C + 1188 ≤ 1000000000) : f8_arrives (nI p) (nI s) T = some (mb_arr T p s) ∧ mb_I P t B (C + 1188) A (mb_arr T p s) := by
  unfold f8_arrives mb_arr
  rw [lb_owns8 hs, lb_bd, lb_free8 hs, lb_bd, lb_claims8 h hp hs, lb_bd]
  by_cases ho : mb_owns T p s
  · rw [if_pos ho, if_neg (show ¬ (1 : Int32) = 0 by decide), if_neg (by rintro ⟨h1, -⟩; exact h1 ho)]
    exact lb_tolls8 h hp hs hA hC
  · rw [if_neg ho, if_pos rfl]
    by_cases hf : mb_free T s
    · rw [if_pos hf, if_neg (show ¬ (1 : Int32) = 0 by decide), if_pos ⟨ho, hf⟩]
      exact lb_tolls8 (h.claims hp hs hf ho) hp hs hA hC
    · rw [if_neg hf, if_pos rfl, if_neg (by rintro ⟨-, h1⟩; exact hf h1)]
      exact lb_tolls8 h hp hs hA hC
theorem lb_tollsC {P t : Nat} {B C A : Int} {S : ms_T} {T : Nat → Int32} (h : mb_I P t B C A T) (hR : RB S T) {p s : Nat} (hp : p < P) (hs : s < 20) (hT : T (51 + 6 * p + 1) = nI s) (hA : 0 ≤ A) (hC : C + 1188 ≤ 1000000000) : ∃ S', f0_payToll (nI p) S = some S' ∧ RB S' (mb_tolls T p s) := by
  have hP := h.P4
  have a1 : S 7 p = nI s := by rw [hR.p (k := 1) (i := p) (by omega) (by omega), hT]
  have ef : f5_firstOwner (nI s) S = some (T (11 + s)) := by
    unfold f5_firstOwner; rw [lb_at hs (by omega), lb_bd, hR.f hs]
  have es : f5_secondOwner (nI s) S = some (T (31 + s)) := by
    unfold f5_secondOwner; rw [lb_at hs (by omega), lb_bd, hR.s hs]
  unfold f0_payToll f0_payToll_b80 mb_tolls
  rw [lb_at (by omega) (by omega), lb_bd, a1, ef, lb_bd, es, lb_bd, lb_owns5 hR hs, lb_bd, show f6_at 0 5 (2 : Int32) (S 5) = some (S 5 2) from lb_at (k := 2) (by omega) (by omega), lb_bd, hR.g (by omega), lb_toll5 hR hs, lb_bd]
  by_cases c1 : T (11 + s) = -6
  · rw [if_pos c1, if_neg (by rintro ⟨-, h1⟩; exact h1 c1)]; exact ⟨S, rfl, hR⟩
  · rw [if_neg c1]
    by_cases ho : mb_owns T p s
    · rw [if_pos ho, if_neg (show ¬ (1 : Int32) = 0 by decide), if_neg (by rintro ⟨h1, -⟩; exact h1 ho)]
      exact ⟨S, rfl, hR⟩
    · rw [if_neg ho, if_pos rfl, if_pos (show ¬ mb_owns T p s ∧ T (11 + s) ≠ -6 from ⟨ho, c1⟩)]
      rcases h.fo s hs with c2 | ⟨a, ha, c2⟩
      · exact absurd c2 c1
      · obtain ⟨c, d, hd, hc, hc2, hd2⟩ := lb_tollB h s
        have hpa : p ≠ a := by intro e; subst e; exact ho (Or.inl c2)
        rw [c2, lb_cl (by omega), hc, hd]
        have g1 := h.pt hp ha hpa (c := nI c) (by rw [nI_toInt (by omega)]; omega) (by rw [nI_toInt (by omega)]; omega) hA (by omega)
        obtain ⟨S1, D1, e1, e2, r1⟩ := lb_ptC h hR hp ha hpa (c := nI c) (by rw [nI_toInt (by omega)]; omega) (by rw [nI_toInt (by omega)]; omega)
        by_cases c3 : T (31 + s) = -6
        · have hd0 : (0 : Int32) = nI d := by rw [← hd]; unfold mb_half; rw [if_pos c3]
          rw [if_pos c3, if_pos c3, hd0, ← hd, hc, e1, lb_bd]
          simp only [e2, lb_bd]
          rw [if_pos c3]
          exact ⟨_, rfl, r1⟩
        · have hd0 : mb_toll T s / 2 = nI d := by rw [← hd]; unfold mb_half; rw [if_neg c3]
          rcases h.se s hs with c4 | ⟨-, ⟨b, hb, c4⟩, -, -⟩
          · exact absurd c4 c3
          · have hpb : p ≠ b := by intro e; subst e; exact ho (Or.inr c4)
            obtain ⟨S2, D2, e3, e4, r2⟩ := lb_ptC g1 r1 hp hb hpb (c := nI d) (by rw [nI_toInt (by omega)]; omega) (by rw [nI_toInt (by omega)]; omega)
            rw [if_neg c3, if_neg c3, hd0, ← hd, hc, e1, lb_bd]
            simp only [e2, lb_bd]
            rw [if_neg c3, c4, hd, e3, lb_bd, lb_cl (by omega)]
            simp only [e4, lb_bd]
            exact ⟨_, rfl, r2⟩
