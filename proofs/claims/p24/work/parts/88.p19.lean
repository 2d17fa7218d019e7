/-! ## How great a debt can become -/
abbrev gd_R (D : Int) (T T' : Nat → Int32) (p : Nat) : Prop := (∀ j, j < 4 → T' (51 + 6 * j + 4) = T (51 + 6 * j + 4)) ∧ (∀ j q, j < 4 → q < 4 → j ≠ p → T' (75 + 4 * j + q) = T (75 + 4 * j + q)) ∧ ∀ q, q < 4 → (T' (75 + 4 * p + q)).toInt ≤ (T (75 + 4 * p + q)).toInt + D
theorem gd_R.refl (T : Nat → Int32) (p : Nat) : gd_R 0 T T p := ⟨fun _ _ => rfl, fun _ _ _ _ _ => rfl, fun _ _ => by omega⟩
theorem gd_R.trans {D E : Int} {T T' T'' : Nat → Int32} {p : Nat} (h : gd_R D T T' p) (g : gd_R E T' T'' p) : gd_R (D + E) T T'' p :=
  ⟨fun j hj => by rw [g.1 j hj, h.1 j hj], fun j q hj hq hn => by rw [g.2.1 j q hj hq hn, h.2.1 j q hj hq hn], fun q hq => by
    have := h.2.2 q hq
    have := g.2.2 q hq
    omega⟩
theorem ga_payD {T : Nat → Int32} {p q j : Nat} {x : Int32} : mb_pay T p q x (51 + 6 * j + 4) = T (51 + 6 * j + 4) := by
  unfold mb_pay
  rw [lb_an (by omega), lb_an (by omega), lb_an (by omega), lb_an (by omega)]
theorem ga_oneR {P t : Nat} {b C A : Int} {T : Nat → Int32} (h : mb_I P t b C A T) {p q : Nat} (hp : p < 4) (hq : q < 4) (hc : 0 < T (75 + 4 * p + q)) : gd_R 0 T (mb_payOne T p q) p := by
  have b1 := h.purse (p := p) hp
  have bb := h.bB
  have bc := h.bC
  have cc := h.co (4 * p + q) (by omega)
  rw [show 75 + (4 * p + q) = 75 + 4 * p + q by omega] at cc
  obtain ⟨x1, x2, x3, -⟩ := lb_paidB (c := T (75 + 4 * p + q)) b1.1 cc.1
  unfold mb_payOne
  generalize mb_paid T p (T (75 + 4 * p + q)) = x at x1 x2 x3
  refine ⟨fun j hj => ?_, fun j i hj hi hn => ?_, fun i hi => ?_⟩
  · rw [lb_addDn (by omega) (by omega), ga_payD]
  · rw [lb_addDn (by omega) (by omega), lb_pay75 hp hq (by omega)]
  · by_cases e : i = q
    · subst e
      have nx : (-x).toInt = -x.toInt := lb_neg_toInt (by omega)
      rw [lb_addDs, lb_pay75 hp hq (by omega), lb_add_toInt (by omega) (by omega), nx]
      omega
    · rw [lb_addDn (by omega) (by omega), lb_pay75 hp hq (by omega)]
      omega
theorem ga_pdR {P t : Nat} {b C A : Int} (hA : 0 ≤ A) {p : Nat} (hp : p < 4) : ∀ (k : Nat) (T : Nat → Int32), mb_I P t b C A T → gd_R 0 T (mb_pd k T p) p
  | 0, T, _ => gd_R.refl T p
  | k + 1, T, h => by
    show gd_R 0 T (if T (51 + 6 * p) ≤ 0 then T else if mb_old T p 0 = -6 then T else mb_pd k (mb_payOne T p (mb_old T p 0).toNatClampNeg) p) p
    by_cases c : T (51 + 6 * p) ≤ 0
    · rw [if_pos c]; exact gd_R.refl T p
    · rw [if_neg c]
      rcases lb_oldC T p 0 with ⟨e, -⟩ | ⟨q, hq, e, he, -⟩
      · rw [if_pos e]; exact gd_R.refl T p
      · rw [e, if_neg (lb_n6 (by omega)), lb_cl (by omega)]
        have g1 := (h.one hA hp hq he.1).1
        exact (ga_oneR h hp hq he.1).trans (ga_pdR hA hp k _ g1)
theorem ga_goesR {T : Nat → Int32} {p : Nat} (hp : p < 4) : gd_R 0 T (mb_goes T p) p := by
  have key : ∀ j, (∃ i, i < 4 ∧ j = 51 + 6 * i + 4) ∨ (75 ≤ j ∧ j < 91) → mb_goes T p j = T j := by
    intro j hj
    unfold mb_goes mb_goesX
    split
    · rw [lb_un (by omega), lb_un (by omega), lb_un (by omega)]
    · rw [lb_un (by omega), lb_an (by omega), lb_an (by omega), lb_un (by omega), lb_un (by omega)]
  exact ⟨fun j hj => key _ (Or.inl ⟨j, hj, rfl⟩), fun j q hj hq _ => key _ (Or.inr (by omega)), fun q hq => by rw [key _ (Or.inr (by omega))]; omega⟩
theorem ga_claimsR {T : Nat → Int32} {p s : Nat} (hp : p < 4) (hs : s < 20) (ho : T (11 + s) = -6 ∨ ∃ q, q < 4 ∧ T (11 + s) = nI q) : gd_R 0 T (mb_claims T p s) p := by
  have key : ∀ j, (∃ i, i < 4 ∧ j = 51 + 6 * i + 4) ∨ (75 ≤ j ∧ j < 91) → mb_claims T p s j = T j := by
    intro j hj
    unfold mb_claims mb_took
    split
    · rw [lb_un (by omega)]
    · split
      · rw [lb_un (show 11 + s ≠ 8 by omega)]
        rcases ho with e | ⟨q, hq, e⟩
        · rw [if_pos e, lb_un (by omega), lb_un (by omega), lb_an (by omega), lb_un (by omega)]
        · rw [e, if_neg (lb_n6 (by omega)), lb_cl (by omega), lb_an (by omega), lb_un (by omega), lb_an (by omega), lb_un (by omega)]
      · rw [lb_un (by omega)]
  exact ⟨fun j hj => key _ (Or.inl ⟨j, hj, rfl⟩), fun j q hj hq _ => key _ (Or.inr (by omega)), fun q hq => by rw [key _ (Or.inr (by omega))]; omega⟩
theorem ga_ptX {P t : Nat} {b C A : Int} {T : Nat → Int32} (h : mb_I P t b C A T) {p q : Nat} {c : Int32} (hp : p < 4) (hq : q < 4) (h0 : 0 ≤ c.toInt) (h1 : c.toInt ≤ 594) :
    (∀ j, j < 4 → mb_pt T p q c (51 + 6 * j + 4) = T (51 + 6 * j + 4)) ∧ (∀ j i, j < 4 → i < 4 → (j ≠ p ∨ i ≠ q) → mb_pt T p q c (75 + 4 * j + i) = T (75 + 4 * j + i)) ∧ (mb_pt T p q c (75 + 4 * p + q)).toInt ≤ (T (75 + 4 * p + q)).toInt + 594 := by
  have b1 := h.purse (p := p) hp
  have bc := h.bC
  have cc := h.co (4 * p + q) (by omega)
  rw [show 75 + (4 * p + q) = 75 + 4 * p + q by omega] at cc
  obtain ⟨x1, x2, x3, -⟩ := lb_paidB (c := c) b1.1 h0
  unfold mb_pt
  generalize mb_paid T p c = x at x1 x2 x3
  split
  · refine ⟨fun j hj => ga_payD, fun j i hj hi _ => lb_pay75 hp hq (by omega), ?_⟩
    rw [lb_pay75 hp hq (by omega)]
    omega
  · refine ⟨fun j hj => ?_, fun j i hj hi hn => ?_, ?_⟩
    · rw [lb_addDn (by omega) (by omega), ga_payD]
    · rw [lb_addDn (by omega) (by omega), lb_pay75 hp hq (by omega)]
    · have s1 : (c - x).toInt = c.toInt - x.toInt := lb_sub_toInt (by omega) (by omega)
      rw [lb_addDs, lb_pay75 hp hq (by omega), lb_add_toInt (by omega) (by omega), s1]
      omega
theorem ga_tollsR {P t : Nat} {b C A : Int} {T : Nat → Int32} (h : mb_I P t b C A T) {p s : Nat} (hp : p < P) (hs : s < 20) (hA : 0 ≤ A) (bC : C + 1188 ≤ 1000000000) : gd_R 594 T (mb_tolls T p s) p := by
  have hP := h.P4
  have r0 : gd_R 594 T T p := ⟨fun _ _ => rfl, fun _ _ _ _ _ => rfl, fun _ _ => by omega⟩
  unfold mb_tolls
  split
  · next hc =>
    obtain ⟨ho, e1⟩ := hc
    obtain ⟨q1, hq1, e1'⟩ : ∃ q, q < P ∧ T (11 + s) = nI q := by rcases h.fo s hs with x | x; exact absurd x e1; exact x
    have hne1 : p ≠ q1 := fun x => ho (Or.inl (by rw [e1', x]))
    obtain ⟨c, d, ed, ec, hc, hd⟩ := lb_tollB h s
    have ct : (nI c).toInt = c := nI_toInt (by omega)
    have dt : (nI d).toInt = d := nI_toInt (by omega)
    rw [e1', lb_cl (by omega), ec, ed]
    obtain ⟨a1, a2, a3⟩ := ga_ptX h (p := p) (q := q1) (c := nI c) (by omega) (by omega) (by omega) (by omega)
    split
    · refine ⟨a1, fun j q hj hq hn => a2 j q hj hq (Or.inl hn), fun q hq => ?_⟩
      by_cases e : q = q1
      · subst e; exact a3
      · rw [a2 p q (by omega) hq (Or.inr e)]; omega
    · next e2 =>
      obtain ⟨-, ⟨q2, hq2, e2'⟩, -, hne⟩ : s % 10 = 5 ∧ (∃ q, q < P ∧ T (31 + s) = nI q) ∧ T (11 + s) ≠ -6 ∧ T (11 + s) ≠ T (31 + s) := by rcases h.se s hs with x | x; exact absurd x e2; exact x
      have hne2 : p ≠ q2 := fun x => ho (Or.inr (by rw [e2', x]))
      have h12 : q1 ≠ q2 := fun x => hne (by rw [e1', e2', x])
      rw [e2', lb_cl (by omega)]
      have i1 := h.pt hp hq1 hne1 (c := nI c) (by omega) (by omega) hA (by omega)
      obtain ⟨b1, b2, b3⟩ := ga_ptX i1 (p := p) (q := q2) (c := nI d) (by omega) (by omega) (by omega) (by omega)
      refine ⟨fun j hj => by rw [b1 j hj, a1 j hj], fun j q hj hq hn => by rw [b2 j q hj hq (Or.inl hn), a2 j q hj hq (Or.inl hn)], fun q hq => ?_⟩
      by_cases e : q = q2
      · subst e
        rw [a2 p q (by omega) hq (Or.inr (fun x => h12 x.symm))] at b3
        exact b3
      · rw [b2 p q (by omega) hq (Or.inr e)]
        by_cases e' : q = q1
        · subst e'; exact a3
        · rw [a2 p q (by omega) hq (Or.inr e')]; omega
  · exact r0
theorem ga_arrR {P t : Nat} {b C A : Int} {T : Nat → Int32} (h : mb_I P t b C A T) {p s : Nat} (hp : p < P) (hs : s < 20) (hA : 0 ≤ A) (bC : C + 1188 ≤ 1000000000) : gd_R 594 T (mb_arr T p s) p := by
  have hP := h.P4
  have fo4 : T (11 + s) = -6 ∨ ∃ q, q < 4 ∧ T (11 + s) = nI q := (h.fo s hs).imp id (fun ⟨q, hq, e⟩ => ⟨q, by omega, e⟩)
  unfold mb_arr
  split
  · next hc =>
    have := (ga_claimsR (p := p) (by omega) hs fo4).trans (ga_tollsR (h.claims hp hs hc.2 hc.1) hp hs hA bC)
    rw [Int.zero_add] at this
    exact this
  · exact ga_tollsR h hp hs hA bC
theorem ga_olderR {T : Nat → Int32} {p : Nat} (hp : p < 4) : gd_R 0 T (mb_older T p) p := by
  have key : ∀ j, j < 91 → mb_older T p j = T j := fun j hj => lb_olOld 4 0 T j (by omega)
  exact ⟨fun j hj => key _ (by omega), fun j q hj hq _ => key _ (by omega), fun q hq => by rw [key _ (by omega)]; omega⟩
theorem ga_loseR {P t : Nat} {b C A : Int} (hA : 0 ≤ A) {p : Nat} (hp : p < 4) : ∀ (k : Nat) (T : Nat → Int32), mb_I P t b C A T → gd_R 0 T (mb_lose k T p) p
  | 0, T, _ => gd_R.refl T p
  | k + 1, T, h => by
    show gd_R 0 T (if mb_old T p 0 = -6 then T else if T 4 < T (91 + 4 * p + (mb_old T p 0).toNatClampNeg) then (if mb_low T p = -6 then T else mb_lose k (mb_loseOne T p (mb_old T p 0).toNatClampNeg (mb_low T p).toNatClampNeg) p) else T) p
    rcases lb_oldC T p 0 with ⟨e, -⟩ | ⟨q, hq, e, he, -⟩
    · rw [if_pos e]; exact gd_R.refl T p
    · rw [e, if_neg (lb_n6 (by omega)), lb_cl (by omega)]
      split
      · rcases ga_lowC T p with hl | ⟨s, hs, hl, ho⟩
        · rw [if_pos hl]; exact gd_R.refl T p
        · rw [hl, if_neg (lb_n6 (by omega)), lb_cl (by omega)]
          obtain ⟨g1, g2, g3⟩ := h.loseOne hA hp hq he.1 hs ho
          have r1 : gd_R 0 T (mb_loseOne T p q s) p := by
            refine ⟨fun j hj => ?_, fun j i hj hi hn => ?_, fun i hi => ?_⟩
            · unfold mb_loseOne
              rw [lb_an (by omega), lb_addDn (by omega) (by omega), lb_handOld (by omega) hs]
            · unfold mb_loseOne
              rw [lb_an (by omega), lb_addDn (by omega) (by omega), lb_handOld (by omega) hs]
            · by_cases ei : i = q
              · subst ei
                have := (h.co (4 * p + i) (by omega)).1
                rw [← Nat.add_assoc] at this
                rw [g3, Int32.toInt_zero]
                omega
              · rw [g2 i hi ei]; omega
          exact r1.trans (ga_loseR hA hp k _ g1)
      · exact gd_R.refl T p
abbrev KD (T : Nat → Int32) (t : Nat) : Prop := ∀ p, p < 4 → ∃ d : Nat, T (51 + 6 * p + 4) = nI d ∧ 2 * d ≤ t + (if T 7 = nI p then 0 else 1) ∧ ∀ q, q < 4 → (T (75 + 4 * p + q)).toInt ≤ 594 * (d : Int)
theorem KD.turn {P t : Nat} {T : Nat → Int32} (hK : KD T t) (h : mb_J P t T) (hP2 : 2 ≤ P) (ht : t < 19999) : KD (mb_turn T) (t + 1) := by
  have hP := h.P4
  obtain ⟨p, h7, hp⟩ := h.h7
  have hp : p < P := by omega
  have hp4 : p < 4 := by omega
  have e : mb_turn T = mb_turnP T p P t := by
    unfold mb_turn; rw [h7, h.h6, h.h5, lb_cl (by omega), lb_cl (by omega), lb_cl (by omega)]
  obtain ⟨-, i1⟩ := lb_pd8 (show (0 : Int) ≤ t by omega) (p := p) hp4 h
  obtain ⟨-, i2⟩ := lb_goes8 i1 hp (by omega)
  obtain ⟨s, hs, hs2⟩ := i2.pl' (p := p) hp4
  obtain ⟨-, i3⟩ := lb_arr8 i2 hp hs (show (0 : Int) ≤ t by omega) (by omega)
  have i4 := i3.older hp4 (show (0 : Int) ≤ t by omega) (by omega)
  have R := ((((ga_pdR (show (0 : Int) ≤ t by omega) hp4 4 T h).trans (ga_goesR hp4)).trans (ga_arrR i2 hp hs (show (0 : Int) ≤ t by omega) (by omega))).trans (ga_olderR hp4)).trans (ga_loseR (show (0 : Int) ≤ t + 1 by omega) hp4 4 _ i4)
  unfold mb_turnP mb_place at e
  rw [hs2, lb_cl (by omega)] at e
  generalize mb_lose 4 (mb_older (mb_arr (mb_goes (mb_pd 4 T p) p) p s) p) p = V at R e
  obtain ⟨R1, R2, R3⟩ := R
  have hm : (p + 1) % P < P := Nat.mod_lt _ (by omega)
  have hnp : (p + 1) % P ≠ p := by
    by_cases c : p + 1 < P
    · rw [Nat.mod_eq_of_lt c]; omega
    · have : p + 1 = P := by omega
      rw [this, Nat.mod_self]; omega
  have e7 : mb_turn T 7 = nI ((p + 1) % P) := by rw [e, lb_un (by omega), lb_us]
  intro j hj
  obtain ⟨d, d1, d2, d3⟩ := hK j hj
  have ed : ∀ q, q < 4 → mb_turn T (75 + 4 * j + q) = V (75 + 4 * j + q) := fun q hq => by rw [e, lb_un (by omega), lb_un (by omega), lb_an (by omega)]
  by_cases c : j = p
  · subst c
    refine ⟨d + 1, ?_, ?_, fun q hq => ?_⟩
    · rw [e, lb_un (by omega), lb_un (by omega), lb_as, R1 j hj, d1]
      exact lb_add d 1
    · rw [h7, if_pos rfl] at d2
      rw [e7, if_neg (fun x => hnp ((lb_inj (by omega) (by omega)).mp x))]
      omega
    · rw [ed q hq]
      have := R3 q hq
      have := d3 q hq
      omega
  · refine ⟨d, ?_, ?_, fun q hq => ?_⟩
    · rw [e, lb_un (by omega), lb_un (by omega), lb_an (by omega), R1 j hj, d1]
    · have : 2 * d ≤ t + 1 := by
        have : (if T 7 = nI j then 0 else 1) ≤ 1 := by split <;> omega
        omega
      split <;> omega
    · rw [ed q hq, R2 j q hj hq c]
      exact d3 q hq
theorem KD.turns {P : Nat} (hP2 : 2 ≤ P) : ∀ (n t : Nat) (T : Nat → Int32), KD T t → mb_J P t T → t + n < 19999 → KD (mb_turns n T) (t + n)
  | 0, t, T, h, _, _ => h
  | n + 1, t, T, h, hJ, ht => by
    show KD (mb_turns n (mb_turn T)) (t + (n + 1))
    have := KD.turns hP2 n (t + 1) (mb_turn T) (h.turn hJ hP2 (by omega)) (hJ.turn (by omega) (by omega)).2 (by omega)
    rw [show t + (n + 1) = t + 1 + n by omega]
    exact this
theorem KD.bound {T : Nat → Int32} {t : Nat} (h : KD T t) (ht : t ≤ 2376) : ∀ i, i < 16 → (T (75 + i)).toInt ≤ 999999 := by
  intro i hi
  obtain ⟨d, -, d2, d3⟩ := h (i / 4) (by omega)
  have := d3 (i % 4) (by omega)
  rw [show 75 + 4 * (i / 4) + i % 4 = 75 + i by omega] at this
  have : (if T 7 = nI (i / 4) then 0 else 1) ≤ 1 := by split <;> omega
  omega
theorem KD.le {T T' : Nat → Int32} {t : Nat} (h : KD T t) (h1 : ∀ i, i < 16 → (T' (75 + i)).toInt ≤ (T (75 + i)).toInt) (h7 : T' 7 = T 7) (hd : ∀ p, p < 4 → T' (51 + 6 * p + 4) = T (51 + 6 * p + 4)) : KD T' t := by
  intro p hp
  obtain ⟨d, d1, d2, d3⟩ := h p hp
  refine ⟨d, by rw [hd p hp, d1], by rw [h7]; exact d2, fun q hq => ?_⟩
  have := h1 (4 * p + q) (by omega)
  rw [← Nat.add_assoc] at this
  have := d3 q hq
  omega
