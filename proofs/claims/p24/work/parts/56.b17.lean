/-! ## Layer B: settings, players, draws, turns -/
theorem mb_I.set0 {P t : Nat} {B C A : Int} {T : Nat → Int32} (h : mb_I P t B C A T) {x : Int32} (hx : 0 ≤ x.toInt ∧ x.toInt ≤ 99) : mb_I P t B C A (upd T 0 x) :=
  ⟨(h.P4),
  (h.t9),
  (by rw [lb_un (by omega)]; exact h.h6),
  (by rw [lb_un (by omega)]; exact h.h7),
  (by rw [lb_un (by omega)]; exact h.h5),
  (by rw [lb_un (by omega)]; exact h.dr),
  (by rw [lb_us]; exact hx),
  (by rw [lb_un (by omega)]; exact h.pr),
  (by rw [lb_un (by omega)]; exact h.tl),
  (by rw [lb_un (by omega)]; exact h.cl),
  (by rw [lb_un (by omega)]; exact h.du),
  (fun s hs => by rw [lb_un (by omega)]; exact h.fo s hs),
  (fun s hs => by rw [lb_un (by omega)]; exact h.fi s hs),
  (fun s hs => by rw [lb_un (by omega), lb_un (by omega)]; exact h.se s hs),
  (fun s hs => by rw [lb_un (by omega)]; exact h.pl s hs),
  (fun s hs => by rw [lb_un (by omega)]; exact h.co s hs),
  (fun p q hp hq => by rw [lb_un (by omega)]; exact h.cz p q hp hq),
  (fun s hs => by rw [lb_un (by omega), lb_un (by omega)]; exact h.az s hs),
  (fun s hs => by rw [lb_un (by omega)]; exact h.ag s hs),
  (fun s hs => by rw [lb_un (by omega)]; exact h.pu s hs),
  (by rw [lb_sumN (by omega)]; exact h.ps),
  (fun j h1 h2 => by rw [lb_un (by omega)]; exact h.pz j h1 h2),
  (h.bB),
  (h.bC),
  (h.bA)⟩
theorem mb_I.set1 {P t : Nat} {B C A : Int} {T : Nat → Int32} (h : mb_I P t B C A T) {x : Int32} (hx : 1 ≤ x.toInt ∧ x.toInt ≤ 99) : mb_I P t B C A (upd T 1 x) :=
  ⟨(h.P4),
  (h.t9),
  (by rw [lb_un (by omega)]; exact h.h6),
  (by rw [lb_un (by omega)]; exact h.h7),
  (by rw [lb_un (by omega)]; exact h.h5),
  (by rw [lb_un (by omega)]; exact h.dr),
  (by rw [lb_un (by omega)]; exact h.wg),
  (by rw [lb_us]; exact hx),
  (by rw [lb_un (by omega)]; exact h.tl),
  (by rw [lb_un (by omega)]; exact h.cl),
  (by rw [lb_un (by omega)]; exact h.du),
  (fun s hs => by rw [lb_un (by omega)]; exact h.fo s hs),
  (fun s hs => by rw [lb_un (by omega)]; exact h.fi s hs),
  (fun s hs => by rw [lb_un (by omega), lb_un (by omega)]; exact h.se s hs),
  (fun s hs => by rw [lb_un (by omega)]; exact h.pl s hs),
  (fun s hs => by rw [lb_un (by omega)]; exact h.co s hs),
  (fun p q hp hq => by rw [lb_un (by omega)]; exact h.cz p q hp hq),
  (fun s hs => by rw [lb_un (by omega), lb_un (by omega)]; exact h.az s hs),
  (fun s hs => by rw [lb_un (by omega)]; exact h.ag s hs),
  (fun s hs => by rw [lb_un (by omega)]; exact h.pu s hs),
  (by rw [lb_sumN (by omega)]; exact h.ps),
  (fun j h1 h2 => by rw [lb_un (by omega)]; exact h.pz j h1 h2),
  (h.bB),
  (h.bC),
  (h.bA)⟩
theorem mb_I.set2 {P t : Nat} {B C A : Int} {T : Nat → Int32} (h : mb_I P t B C A T) {x : Int32} (hx : 1 ≤ x.toInt ∧ x.toInt ≤ 99) : mb_I P t B C A (upd T 2 x) :=
  ⟨(h.P4),
  (h.t9),
  (by rw [lb_un (by omega)]; exact h.h6),
  (by rw [lb_un (by omega)]; exact h.h7),
  (by rw [lb_un (by omega)]; exact h.h5),
  (by rw [lb_un (by omega)]; exact h.dr),
  (by rw [lb_un (by omega)]; exact h.wg),
  (by rw [lb_un (by omega)]; exact h.pr),
  (by rw [lb_us]; exact hx),
  (by rw [lb_un (by omega)]; exact h.cl),
  (by rw [lb_un (by omega)]; exact h.du),
  (fun s hs => by rw [lb_un (by omega)]; exact h.fo s hs),
  (fun s hs => by rw [lb_un (by omega)]; exact h.fi s hs),
  (fun s hs => by rw [lb_un (by omega), lb_un (by omega)]; exact h.se s hs),
  (fun s hs => by rw [lb_un (by omega)]; exact h.pl s hs),
  (fun s hs => by rw [lb_un (by omega)]; exact h.co s hs),
  (fun p q hp hq => by rw [lb_un (by omega)]; exact h.cz p q hp hq),
  (fun s hs => by rw [lb_un (by omega), lb_un (by omega)]; exact h.az s hs),
  (fun s hs => by rw [lb_un (by omega)]; exact h.ag s hs),
  (fun s hs => by rw [lb_un (by omega)]; exact h.pu s hs),
  (by rw [lb_sumN (by omega)]; exact h.ps),
  (fun j h1 h2 => by rw [lb_un (by omega)]; exact h.pz j h1 h2),
  (h.bB),
  (h.bC),
  (h.bA)⟩
theorem mb_I.set3 {P t : Nat} {B C A : Int} {T : Nat → Int32} (h : mb_I P t B C A T) {x : Int32} (hx : 0 ≤ x.toInt) : mb_I P t B C A (upd T 3 x) :=
  ⟨(h.P4),
  (h.t9),
  (by rw [lb_un (by omega)]; exact h.h6),
  (by rw [lb_un (by omega)]; exact h.h7),
  (by rw [lb_un (by omega)]; exact h.h5),
  (by rw [lb_un (by omega)]; exact h.dr),
  (by rw [lb_un (by omega)]; exact h.wg),
  (by rw [lb_un (by omega)]; exact h.pr),
  (by rw [lb_un (by omega)]; exact h.tl),
  (by rw [lb_us]; exact hx),
  (by rw [lb_un (by omega)]; exact h.du),
  (fun s hs => by rw [lb_un (by omega)]; exact h.fo s hs),
  (fun s hs => by rw [lb_un (by omega)]; exact h.fi s hs),
  (fun s hs => by rw [lb_un (by omega), lb_un (by omega)]; exact h.se s hs),
  (fun s hs => by rw [lb_un (by omega)]; exact h.pl s hs),
  (fun s hs => by rw [lb_un (by omega)]; exact h.co s hs),
  (fun p q hp hq => by rw [lb_un (by omega)]; exact h.cz p q hp hq),
  (fun s hs => by rw [lb_un (by omega), lb_un (by omega)]; exact h.az s hs),
  (fun s hs => by rw [lb_un (by omega)]; exact h.ag s hs),
  (fun s hs => by rw [lb_un (by omega)]; exact h.pu s hs),
  (by rw [lb_sumN (by omega)]; exact h.ps),
  (fun j h1 h2 => by rw [lb_un (by omega)]; exact h.pz j h1 h2),
  (h.bB),
  (h.bC),
  (h.bA)⟩
theorem mb_I.set4 {P t : Nat} {B C A : Int} {T : Nat → Int32} (h : mb_I P t B C A T) {x : Int32} (hx : 0 ≤ x.toInt) : mb_I P t B C A (upd T 4 x) :=
  ⟨(h.P4),
  (h.t9),
  (by rw [lb_un (by omega)]; exact h.h6),
  (by rw [lb_un (by omega)]; exact h.h7),
  (by rw [lb_un (by omega)]; exact h.h5),
  (by rw [lb_un (by omega)]; exact h.dr),
  (by rw [lb_un (by omega)]; exact h.wg),
  (by rw [lb_un (by omega)]; exact h.pr),
  (by rw [lb_un (by omega)]; exact h.tl),
  (by rw [lb_un (by omega)]; exact h.cl),
  (by rw [lb_us]; exact hx),
  (fun s hs => by rw [lb_un (by omega)]; exact h.fo s hs),
  (fun s hs => by rw [lb_un (by omega)]; exact h.fi s hs),
  (fun s hs => by rw [lb_un (by omega), lb_un (by omega)]; exact h.se s hs),
  (fun s hs => by rw [lb_un (by omega)]; exact h.pl s hs),
  (fun s hs => by rw [lb_un (by omega)]; exact h.co s hs),
  (fun p q hp hq => by rw [lb_un (by omega)]; exact h.cz p q hp hq),
  (fun s hs => by rw [lb_un (by omega), lb_un (by omega)]; exact h.az s hs),
  (fun s hs => by rw [lb_un (by omega)]; exact h.ag s hs),
  (fun s hs => by rw [lb_un (by omega)]; exact h.pu s hs),
  (by rw [lb_sumN (by omega)]; exact h.ps),
  (fun j h1 h2 => by rw [lb_un (by omega)]; exact h.pz j h1 h2),
  (h.bB),
  (h.bC),
  (h.bA)⟩
/-! coins of tolls that are paid -/
abbrev mb_Q (T T' : Nat → Int32) (D : Nat) : Prop := ∃ d : Nat, d ≤ D ∧ mb_s4 T' 2 = mb_s4 T 2 + nI d
theorem mb_Q.same {T T' : Nat → Int32} (h : ∀ p, p < 4 → T' (51 + 6 * p + 2) = T (51 + 6 * p + 2)) (D : Nat) : mb_Q T T' D := by
  refine ⟨0, by omega, ?_⟩
  unfold mb_s4
  rw [lb_fo4, lb_fo4, h 0 (by omega), h 1 (by omega), h 2 (by omega), h 3 (by omega)]
  exact (Int32.add_zero _).symm
theorem mb_Q.trans {T T' T'' : Nat → Int32} {D D' : Nat} (h : mb_Q T T' D) (h' : mb_Q T' T'' D') : mb_Q T T'' (D + D') := by
  obtain ⟨d, h1, h2⟩ := h
  obtain ⟨e, h3, h4⟩ := h'
  exact ⟨d + e, by omega, by rw [h4, h2, Int32.add_assoc, lb_add]⟩
theorem mb_Q.up {T T' : Nat → Int32} {D D' : Nat} (h : mb_Q T T' D) (hD : D ≤ D') : mb_Q T T' D' := by
  obtain ⟨d, h1, h2⟩ := h
  exact ⟨d, by omega, h2⟩
theorem lb_s4add {T : Nat → Int32} {p : Nat} {x : Int32} (hp : p < 4) : mb_s4 (mb_add T (51 + 6 * p + 2) x) 2 = mb_s4 T 2 + x := by
  unfold mb_s4 mb_add
  rw [lb_fo4, lb_fo4]
  rcases lb_case4 hp with rfl | rfl | rfl | rfl
  · rw [lb_us, lb_un (by omega), lb_un (by omega), lb_un (by omega)]; ac_rfl
  · rw [lb_un (by omega), lb_us, lb_un (by omega), lb_un (by omega)]; ac_rfl
  · rw [lb_un (by omega), lb_un (by omega), lb_us, lb_un (by omega)]; ac_rfl
  · rw [lb_un (by omega), lb_un (by omega), lb_un (by omega), lb_us]; ac_rfl
theorem lb_payQ {T : Nat → Int32} {p q W : Nat} {x : Int32} (hp : p < 4) (hq : q < 4) (h0 : 0 ≤ x.toInt) (h1 : x.toInt ≤ W) : mb_Q T (mb_pay T p q x) W := by
  obtain ⟨d, hd, e, ei⟩ := lb_nat h0
  refine ⟨d, by omega, ?_⟩
  have e1 : mb_s4 (mb_pay T p q x) 2 = mb_s4 (mb_add (mb_add T (51 + 6 * p) (-x)) (51 + 6 * p + 2) x) 2 := by
    unfold mb_pay mb_s4
    refine lb_foE 4 0 0 (fun j h2 h3 => ?_)
    show mb_add (mb_add (mb_add (mb_add T (51 + 6 * p) (-x)) (51 + 6 * p + 2) x) (51 + 6 * q) x) (51 + 6 * q + 3) x (51 + 6 * j + 2) = _
    rw [lb_an (by omega), lb_an (by omega)]
  have e2 : mb_s4 (mb_add T (51 + 6 * p) (-x)) 2 = mb_s4 T 2 := by
    unfold mb_s4
    refine lb_foE 4 0 0 (fun j h2 h3 => ?_)
    show mb_add T (51 + 6 * p) (-x) (51 + 6 * j + 2) = _
    rw [lb_an (by omega)]
  rw [e1, lb_s4add hp, e2, e]
theorem lb_pdQ {P t : Nat} {B C A : Int} (hA : 0 ≤ A) {W p : Nat} (hp : p < 4) (hW : B ≤ W) : ∀ (k : Nat) (T : Nat → Int32), mb_I P t B C A T → mb_Q T (mb_pd k T p) (k * W)
  | 0, T, _ => mb_Q.same (fun _ _ => rfl) _
  | k + 1, T, h => by
    show mb_Q T (if T (51 + 6 * p) ≤ 0 then T else if mb_old T p 0 = -6 then T else mb_pd k (mb_payOne T p (mb_old T p 0).toNatClampNeg) p) ((k + 1) * W)
    split
    · exact mb_Q.same (fun _ _ => rfl) _
    · split
      · exact mb_Q.same (fun _ _ => rfl) _
      · next h1 =>
        rcases lb_oldC T p 0 with ⟨h2, -⟩ | ⟨q, hq, h2, h3, -⟩
        · exact absurd h2 h1
        · rw [h2, lb_cl (by omega)]
          have b1 := h.purse (p := p) hp
          have cc := h.co (4 * p + q) (by omega)
          rw [show 75 + (4 * p + q) = 75 + 4 * p + q by omega] at cc
          obtain ⟨x1, x2, x3, x4⟩ := lb_paidB (c := T (75 + 4 * p + q)) b1.1 cc.1
          have q1 : mb_Q T (mb_payOne T p q) W := by
            obtain ⟨d, u1, u2⟩ := lb_payQ (T := T) (p := p) (q := q) (W := W) hp hq x1 (by omega)
            refine ⟨d, u1, ?_⟩
            rw [← u2]
            unfold mb_s4 mb_payOne
            exact lb_foE 4 0 0 (fun j h2 h3 => lb_addDn (by omega) (by omega))
          have q2 := q1.trans (lb_pdQ hA hp hW k _ (h.one hA hp hq h3.1).1)
          exact q2.up (by rw [Nat.add_one_mul]; omega)
theorem lb_ptQ {P t : Nat} {B C A : Int} {T : Nat → Int32} (h : mb_I P t B C A T) {p q W : Nat} {c : Int32} (hp : p < 4) (hq : q < 4) (hW : B ≤ W) (h0 : 0 ≤ c.toInt) : mb_Q T (mb_pt T p q c) W := by
  have b1 := h.purse (p := p) hp
  obtain ⟨x1, x2, x3, x4⟩ := lb_paidB (c := c) b1.1 h0
  obtain ⟨d, u1, u2⟩ := lb_payQ (T := T) (p := p) (q := q) (W := W) hp hq x1 (by omega)
  unfold mb_pt
  split
  · exact ⟨d, u1, u2⟩
  · refine ⟨d, u1, ?_⟩
    rw [← u2]
    unfold mb_s4
    exact lb_foE 4 0 0 (fun j h2 h3 => lb_addDn (by omega) (by omega))
theorem lb_arrQ {P t : Nat} {B C A : Int} {T : Nat → Int32} (h : mb_I P t B C A T) (hA : 0 ≤ A) (hC : C + 594 ≤ 1000000000) {p s W : Nat} (hp : p < P) (hs : s < 20) (hW : B ≤ W) : mb_Q T (mb_arr T p s) (2 * W) := by
  have hP := h.P4
  have i : mb_I P t B C A (if ¬ mb_owns T p s ∧ mb_free T s then mb_claims T p s else T) := by
    split
    · next hh => exact h.claims hp hs hh.2 hh.1
    · exact h
  have e : mb_Q T (if ¬ mb_owns T p s ∧ mb_free T s then mb_claims T p s else T) 0 := by
    split
    · refine mb_Q.same (fun j hj => ?_) _
      have e8 : ∀ x, upd T 8 x (51 + 6 * j + 2) = T (51 + 6 * j + 2) := fun x => lb_un (by omega)
      unfold mb_claims
      split
      · exact e8 _
      · split
        · unfold mb_took
          split
          · rw [lb_un (by omega), lb_un (by omega), lb_an (by omega)]; exact e8 _
          · next h1 =>
            rw [lb_un (show 11 + s ≠ 8 by omega)] at h1
            rcases h.fo s hs with h2 | ⟨q, hq, h2⟩
            · exact absurd h2 h1
            · rw [lb_un (show 11 + s ≠ 8 by omega), h2, lb_cl (by omega), lb_an (by omega), lb_un (by omega), lb_an (by omega)]; exact e8 _
        · exact e8 _
    · exact mb_Q.same (fun _ _ => rfl) _
  unfold mb_arr
  generalize (if ¬ mb_owns T p s ∧ mb_free T s then mb_claims T p s else T) = U at e i
  have e2 : mb_Q U (mb_tolls U p s) (2 * W) := by
    obtain ⟨c, d, hd, hc, hc2, hd2⟩ := lb_tollB i s
    unfold mb_tolls
    split
    · next h1 =>
      rcases i.fo s hs with h2 | ⟨q, hq, h2⟩
      · exact absurd h2 h1.2
      · have hpq : p ≠ q := by intro e; subst e; exact h1.1 (Or.inl h2)
        rw [h2, lb_cl (by omega), hc, hd]
        have g1 := lb_ptQ i (p := p) (q := q) (W := W) (c := nI c) (by omega) (by omega) hW (by rw [nI_toInt (by omega)]; omega)
        split
        · exact g1.up (by omega)
        · next h3 =>
          rcases i.se s hs with h4 | ⟨-, ⟨b, hb, h4⟩, -, -⟩
          · exact absurd h4 h3
          · rw [h4, lb_cl (by omega)]
            have i2 := i.pt hp hq hpq (c := nI c) (by rw [nI_toInt (by omega)]; omega) (by rw [nI_toInt (by omega)]; omega) hA hC
            have g2 := lb_ptQ i2 (p := p) (q := b) (W := W) (c := nI d) (by omega) (by omega) hW (by rw [nI_toInt (by omega)]; omega)
            exact (g1.trans g2).up (by omega)
    · exact mb_Q.same (fun _ _ => rfl) _
  exact (e.trans e2).up (by omega)
theorem lb_loseK {p : Nat} (hp : p < 4) {j : Nat} (hj : j < 4) : ∀ (k : Nat) (T : Nat → Int32), mb_lose k T p (51 + 6 * j + 2) = T (51 + 6 * j + 2)
  | 0, _ => rfl
  | k + 1, T => by
    show (if mb_old T p 0 = -6 then T else if T 4 < T (91 + 4 * p + (mb_old T p 0).toNatClampNeg) then (if mb_low T p = -6 then T else mb_lose k (mb_loseOne T p (mb_old T p 0).toNatClampNeg (mb_low T p).toNatClampNeg) p) else T) (51 + 6 * j + 2) = T (51 + 6 * j + 2)
    split
    · rfl
    · next h1 =>
      split
      · split
        · rfl
        · next h2 =>
          rcases lb_lwC (T := T) (p := p) 20 0 rfl with h4 | ⟨s, hs, h4, -⟩
          · exact absurd h4 h2
          · rw [lb_loseK hp hj k, show mb_low T p = nI s from h4, lb_cl (by omega)]
            unfold mb_loseOne
            rw [lb_an (by omega), lb_addDn (by omega) (by omega), lb_handOld (by omega) hs]
      · rfl
theorem mb_J.turnQ {P t : Nat} {T : Nat → Int32} (h : mb_J P t T) (hP0 : 0 < P) (ht : t < 20000) : mb_Q T (mb_turn T) 12200000 := by
  have hP := h.P4
  obtain ⟨p, h7, hp⟩ := h.h7
  have hp : p < P := by omega
  have e : mb_turn T = mb_turnP T p P t := by
    unfold mb_turn; rw [h7, h.h6, h.h5, lb_cl (by omega), lb_cl (by omega), lb_cl (by omega)]
  rw [e]
  obtain ⟨a1, i1⟩ := lb_pd8 (by omega) (p := p) (by omega) h
  obtain ⟨a2, i2⟩ := lb_goes8 i1 hp (by omega)
  obtain ⟨s, hs, hs2⟩ := i2.pl' (p := p) (by omega)
  have q1 := lb_pdQ (W := 2030000) (by omega) (p := p) (by omega) (by omega) 4 T h
  have q2 : mb_Q (mb_pd 4 T p) (mb_goes (mb_pd 4 T p) p) 0 := by
    refine mb_Q.same (fun j hj => ?_) _
    unfold mb_goes mb_goesX mb_add
    split
    · rw [lb_un (by omega), lb_un (by omega), lb_un (by omega)]
    · rw [lb_un (by omega), lb_un (by omega), lb_un (by omega), lb_un (by omega), lb_un (by omega)]
  have q3 := lb_arrQ (W := 2030000) i2 (by omega) (by omega) hp hs (by omega)
  have q4 : mb_Q (mb_arr (mb_goes (mb_pd 4 T p) p) p s) (mb_turnP T p P t) 0 := by
    refine mb_Q.same (fun j hj => ?_) _
    unfold mb_turnP mb_place
    rw [hs2, lb_cl (by omega), lb_un (by omega), lb_un (by omega), lb_an (by omega), lb_loseK (by omega) hj]
    unfold mb_older
    rw [lb_olOld 4 0 _ _ (by omega)]
  exact (((q1.trans q2).trans q3).trans q4).up (by omega)
theorem mb_J.turnsQ {P : Nat} (hP0 : 0 < P) : ∀ (n t : Nat) (T : Nat → Int32), mb_J P t T → t + n ≤ 20000 → mb_Q T (mb_turns n T) (n * 12200000)
  | 0, _, _, _, _ => mb_Q.same (fun _ _ => rfl) _
  | n + 1, t, T, h, hn => by
    have a := h.turnQ hP0 (by omega)
    have b := mb_J.turnsQ hP0 n (t + 1) (mb_turn T) (h.turn hP0 (by omega)).2 (by omega)
    exact (a.trans b).up (by omega)
theorem mb_J.paidN {P t N : Nat} {T : Nat → Int32} (h : mb_J P t T) (hP0 : 0 < P) (hN : N ≤ 99) (ht : t ≤ 9999) : ¬ mb_s4 (mb_turns N T) 2 - mb_s4 T 2 < 0 := by
  obtain ⟨d, h1, h2⟩ := mb_J.turnsQ hP0 N t T h (by omega)
  rw [h2, Int32.add_comm, Int32.add_sub_cancel]
  exact nI_pos (by omega)
/-! changes of the board, on both sides -/
theorem RB.setG {S : ms_T} {T : Nat → Int32} (h : RB S T) {i : Nat} (hi : i < 5) (x : Int32) : RB (ms_set S 5 (upd (S 5) i x)) (upd T i x) :=
  h.set (g := 5) (Or.inr (Or.inr (Or.inr (Or.inl ⟨rfl, hi⟩)))) (by omega) x
theorem lb_zz {v : Int32} (h : v = 0 ∨ v = 1) : fo_zz v (some v) = some v := by unfold fo_zz; rw [if_pos h]
theorem lb_setC {B : ms_T} {T : Nat → Int32} (h : mb_S B T) {c lo hi : Nat} {w : Int32} (hc : c < 5) (hlo : lo < 200) (hhi : hi < 200) (hv : f8_isValue (nI c) w = fo_bd (f8_within w (nI lo) (nI hi)) (fun q => fo_zz q (some q))) (h2 : fv_2 c = nI lo) (h3 : fv_3 c = nI hi)
    (hu : ∀ n, lo ≤ n → n ≤ hi → ∀ P t (T : Nat → Int32), mb_J P t T → mb_J P t (upd T c (nI n))) :
    (f0_changeSetting (nI c) w B = some (-2, B) ∧ f8_isValue (nI c) w = some 0) ∨ (∃ B', f0_changeSetting (nI c) w B = some (T c, B') ∧ f8_isValue (nI c) w = some 1 ∧ mb_S B' (upd T c w)) := by
  obtain ⟨P, t, ht, hJ, hR⟩ := h
  unfold f0_changeSetting
  rw [if_neg (nI_pos (by omega)), if_neg (show ¬ (5 : Int32) ≤ nI c from nI_ge (b := 5) hc (by omega)), if_pos (show nI c < (5 : Int32) from nI_lt (b := 5) hc (by omega)), lb_ck hc (by omega), lb_ck hc (by omega), lb_cl (by omega), h2, h3, lb_at hc (by omega), lb_bd, lb_write hc (by omega), lb_bd, hv]
  rcases lb_within (v := w) (a := lo) (b := hi) (by omega) (by omega) with ⟨d1, d2⟩ | ⟨d1, d2, d3, n, rfl, d4, d5⟩
  · left
    refine ⟨?_, by rw [d1]; rfl⟩
    by_cases k : w < nI lo
    · rw [if_pos k]
    · rw [if_neg k, if_neg]
      rcases d2 with d2 | d2
      · exact absurd d2 k
      · exact d2
  · right
    rw [if_neg d2, if_pos d3, d1]
    exact ⟨_, by rw [hR.g hc], rfl, P, t, ht, hu n d4 d5 P t T hJ, hR.setG hc _⟩
theorem lb_set {X : xs_T} {S : ms_T} (h : RR X S) (v w : Int32) : ∃ r X' S', f7_set v w X = some (r, X') ∧ f8_set v w S = some (r, S') ∧ RR X' S' := by
  have hh := h.1
  refine lb_change h (k7 := fun B => f0_changeSetting v w B) (k8 := f8_set v w) ?_
  have key : ∀ c lo hi : Nat, c < 5 → lo < 200 → hi < 200 → v = nI c → f8_isValue (nI c) w = fo_bd (f8_within w (nI lo) (nI hi)) (fun q => fo_zz q (some q)) → fv_2 c = nI lo → fv_3 c = nI hi →
      (∀ n, lo ≤ n → n ≤ hi → ∀ P t (T : Nat → Int32), mb_J P t T → mb_J P t (upd T c (nI n))) → ((∃ e : Int32, e < 0 ∧ f0_changeSetting v w (X 5) = some (e, X 5) ∧ f8_set v w S = some (e, S)) ∨ (∃ e B' T', ¬ e < 0 ∧ f0_changeSetting v w (X 5) = some (e, B') ∧ mb_S B' T' ∧ ∀ S', f8_record S = some S' → S' 0 = S 0 → f8_set v w S = some (e, ms_set S' 0 T'))) := by
    intro c lo hi hc hlo hhi ev hv h2 h3 hu
    subst ev
    rcases lb_setC hh hc hlo hhi hv h2 h3 hu with ⟨a1, a2⟩ | ⟨B', a1, a2, a3⟩
    · refine Or.inl ⟨-2, by decide, a1, ?_⟩
      unfold f8_set
      rw [a2]; rfl
    · obtain ⟨P, t, ht, hJ, hR⟩ := hh
      have hpos : ¬ S 0 c < 0 := by
        rw [lb_lt0]
        have a := hJ.wg; have b := hJ.pr; have d := hJ.tl; have e := hJ.cl; have g := hJ.du
        have h5 : c = 0 ∨ c = 1 ∨ c = 2 ∨ c = 3 ∨ c = 4 := by omega
        rcases h5 with rfl | rfl | rfl | rfl | rfl <;> omega
      refine Or.inr ⟨S 0 c, B', _, hpos, a1, a3, ?_⟩
      intro S' e1 e2
      unfold f8_set
      rw [a2, lb_bd, if_neg (show ¬ (1 : Int32) = 0 by decide), e1, lb_bd, lb_ck (by omega) (by omega), lb_ck (by omega) (by omega), lb_cl (by omega), e2]
  have nn : ∀ n, n < 200 → (nI n).toInt = n := fun n hn => nI_toInt (by omega)
  by_cases c0 : v = 0
  · exact key 0 0 99 (by omega) (by omega) (by omega) c0 rfl rfl rfl (fun n h1 h2 P t T hT => hT.set0 (by rw [nn n (by omega)]; omega))
  · by_cases c1 : v = 1
    · exact key 1 1 99 (by omega) (by omega) (by omega) c1 rfl rfl rfl (fun n h1 h2 P t T hT => hT.set1 (by rw [nn n (by omega)]; omega))
    · by_cases c2 : v = 2
      · exact key 2 1 99 (by omega) (by omega) (by omega) c2 rfl rfl rfl (fun n h1 h2 P t T hT => hT.set2 (by rw [nn n (by omega)]; omega))
      · by_cases c3 : v = 3
        · exact key 3 1 7 (by omega) (by omega) (by omega) c3 rfl rfl rfl (fun n h1 h2 P t T hT => hT.set3 (by rw [nn n (by omega)]; omega))
        · by_cases c4 : v = 4
          · exact key 4 1 20 (by omega) (by omega) (by omega) c4 rfl rfl rfl (fun n h1 h2 P t T hT => hT.set4 (by rw [nn n (by omega)]; omega))
          · refine Or.inl ⟨-2, by decide, ?_, ?_⟩
            · unfold f0_changeSetting
              rcases lb_lt0n v with h | ⟨n, hn, rfl, h⟩
              · rw [if_pos h]
              · have h5 : 5 ≤ n := by
                  by_cases a : n < 5
                  · have h5 : n = 0 ∨ n = 1 ∨ n = 2 ∨ n = 3 ∨ n = 4 := by omega
                    rcases h5 with rfl | rfl | rfl | rfl | rfl
                    · exact absurd rfl c0
                    · exact absurd rfl c1
                    · exact absurd rfl c2
                    · exact absurd rfl c3
                    · exact absurd rfl c4
                  · omega
                rw [if_neg h, if_pos (show (5 : Int32) ≤ nI n from nI_le (a := 5) h5 hn)]
            · unfold f8_set f8_isValue
              rw [if_neg c0, if_neg c1, if_neg c2, if_neg c3, if_neg c4]; rfl
theorem lb_seedC {B : ms_T} {T : Nat → Int32} (h : mb_S B T) (v : Int32) : (f0_changeDraws v B = some (-2, B) ∧ f8_within v 0 9999 = some 0) ∨ (∃ B', f0_changeDraws v B = some (T 8, B') ∧ f8_within v 0 9999 = some 1 ∧ ¬ T 8 < 0 ∧ mb_S B' (upd T 8 v)) := by
  obtain ⟨P, t, ht, hJ, hR⟩ := h
  unfold f0_changeDraws
  have hw : f8_within v (0 : Int32) (9999 : Int32) = f8_within v (nI 0) (nI 9999) := rfl
  rw [hw]
  rcases lb_within (v := v) (a := 0) (b := 9999) (by omega) (by omega) with ⟨d1, d2⟩ | ⟨d1, d2, d3, n, rfl, d4, d5⟩
  · left
    refine ⟨?_, d1⟩
    by_cases k : v < 0
    · rw [if_pos k]
    · rw [if_neg k, if_neg]
      rcases d2 with d2 | d2
      · exact absurd d2 k
      · exact d2
  · right
    rw [if_neg (show ¬ nI n < (0 : Int32) from d2), if_pos (show nI n ≤ (9999 : Int32) from d3), hR.z.2.2.1]
    obtain ⟨x, hx, hx2⟩ := hJ.dr
    exact ⟨_, rfl, d1, by rw [hx]; exact nI_pos (by omega), P, t, ht, hJ.setDraw (by omega), hR.draw _⟩
theorem lb_seed {X : xs_T} {S : ms_T} (h : RR X S) (v : Int32) : ∃ r X' S', f7_seed v X = some (r, X') ∧ f8_seed v S = some (r, S') ∧ RR X' S' := by
  refine lb_change h (k7 := fun B => f0_changeDraws v B) (k8 := f8_seed v) ?_
  rcases lb_seedC h.1 v with ⟨a1, a2⟩ | ⟨B', a1, a2, a3, a4⟩
  · refine Or.inl ⟨-2, by decide, a1, ?_⟩
    unfold f8_seed; rw [a2]; rfl
  · refine Or.inr ⟨_, B', _, a3, a1, a4, ?_⟩
    intro S' e1 e2
    unfold f8_seed
    rw [a2, lb_bd, if_neg (show ¬ (1 : Int32) = 0 by decide), e1, lb_bd, lb_k8, lb_k8, lb_c8, e2]
theorem lb_goC {B : ms_T} {T : Nat → Int32} (h : mb_S B T) (v : Int32) : (∃ e : Int32, e < 0 ∧ f0_doTurns v B = some (e, B) ∧ f8_whyNoTurns v T = some e) ∨ (∃ r B' T', ¬ r < 0 ∧ f0_doTurns v B = some (r, B') ∧ f8_whyNoTurns v T = some 0 ∧ f8_doTurns v T = some (r, T') ∧ mb_S B' T') := by
  obtain ⟨P, t, ht, hJ, hR⟩ := h
  have hP := hJ.P4
  unfold f0_doTurns f8_whyNoTurns f8_whyNoTurns_b37
  have hw : f8_within v (1 : Int32) (99 : Int32) = f8_within v (nI 1) (nI 99) := rfl
  rw [hw, lb_k6, lb_c6, lb_k5, lb_c5, hR.z.1, hR.z.2.2.2.1, hJ.h6, hJ.h5]
  rcases lb_within (v := v) (a := 1) (b := 99) (by omega) (by omega) with ⟨d1, d2⟩ | ⟨d1, d2, d3, n, rfl, d4, d5⟩
  · left
    refine ⟨-2, by decide, ?_, by rw [d1]; rfl⟩
    by_cases k : v < 1
    · rw [if_pos k]
    · rw [if_neg k, if_neg]
      rcases d2 with d2 | d2
      · exact absurd d2 k
      · exact d2
  · rw [if_neg (show ¬ nI n < (1 : Int32) from d2), if_pos (show nI n ≤ (99 : Int32) from d3), d1, lb_bd, if_neg (show ¬ (1 : Int32) = 0 by decide), lb_add]
    by_cases k0 : P = 0
    · subst k0
      exact Or.inl ⟨-5, by decide, rfl, rfl⟩
    · have kz : ¬ nI P = 0 := nI_ne0 (by omega) (by omega)
      rw [if_neg kz, if_neg kz]
      by_cases k1 : t + n ≤ 9999
      · have k2 : nI (t + n) ≤ (9999 : Int32) := nI_le (b := 9999) k1 (by omega)
        rw [if_pos k2, if_pos k2]
        right
        obtain ⟨B', u1, u2⟩ := lb_do0L (P := P) (N := n) (had := mb_s4 T 2) (by omega) (by omega) n 0 1000 t B T (by omega) (by omega) hJ hR (by omega)
        refine ⟨_, B', mb_turns n T, hJ.paidN (N := n) (by omega) (by omega) ht, ?_, rfl, hJ.doTurns (by omega) (by omega) (by omega), P, t + n, k1, mb_J.turns (by omega) n t T hJ (by omega), u2⟩
        rw [show f6_sum 0 4 (B 8) = some (mb_s4 T 2) from hR.sum (c := 2) (by omega), lb_bd]
        exact u1
      · have k2 : ¬ nI (t + n) ≤ (9999 : Int32) := nI_ge (b := t + n) (a := 9999) (by omega) (by omega)
        rw [if_neg k2, if_neg k2]
        exact Or.inl ⟨-5, by decide, rfl, rfl⟩
theorem lb_go {X : xs_T} {S : ms_T} (h : RR X S) (v : Int32) : ∃ r X' S', f7_go v X = some (r, X') ∧ f8_go v S = some (r, S') ∧ RR X' S' := by
  refine lb_change h (k7 := fun B => f0_doTurns v B) (k8 := f8_go v) ?_
  rcases lb_goC h.1 v with ⟨e, a0, a1, a2⟩ | ⟨r, B', T', a0, a1, a2, a3, a4⟩
  · refine Or.inl ⟨e, a0, a1, ?_⟩
    unfold f8_go
    rw [a2, lb_bd, if_neg (by rw [lb_nle]; exact a0)]
  · refine Or.inr ⟨r, B', T', a0, a1, a4, ?_⟩
    intro S' e1 e2
    unfold f8_go
    rw [a2, lb_bd, if_pos (by decide), e1, lb_bd, e2, a3]; rfl
