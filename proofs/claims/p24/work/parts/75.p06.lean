/-! ## The law's board: a toll, a claim, a throw, a turn -/
theorem ga_dieQ {B : ms_T} {T : Nat → Int32} (h : RG B T) {x : Nat} (h8 : T 8 = nI x) (hx : x < 65537) : ∃ q, f9_die B = some q ∧ q.1 = nI (mb_dv x) ∧ RG q.2 (upd T 8 (nI (mb_dx x))) :=
  ⟨_, ga_die h h8 hx, rfl, h.set0 (by omega) _⟩
theorem ga_hne {P t : Nat} {b C A : Int} {T : Nat → Int32} (h : mb_I P t b C A T) {p q : Nat} (hp : p < 4) (hq : q < 4) {c : Int32} (h0 : 0 ≤ c.toInt) (h1 : c.toInt ≤ 594) : T (75 + 4 * p + q) ≠ 0 → T (75 + 4 * p + q) + (c - mb_paid T p c) ≠ 0 := by
  intro hd he
  have b1 := h.purse (p := p) hp
  have bc := h.bC
  have cc := h.co (4 * p + q) (by omega)
  rw [show 75 + (4 * p + q) = 75 + 4 * p + q by omega] at cc
  obtain ⟨x1, x2, x3, -⟩ := lb_paidB (c := c) b1.1 h0
  have s1 : (c - mb_paid T p c).toInt = c.toInt - (mb_paid T p c).toInt := lb_sub_toInt (by omega) (by omega)
  have s2 : (T (75 + 4 * p + q) + (c - mb_paid T p c)).toInt = (T (75 + 4 * p + q)).toInt + (c - mb_paid T p c).toInt := lb_add_toInt (by omega) (by omega)
  rw [lb_eq0] at he
  have hd' : (T (75 + 4 * p + q)).toInt ≠ 0 := fun x => hd (lb_eq0.mpr x)
  omega
theorem ga_tolls {P t : Nat} {b C A : Int} {B : ms_T} {T : Nat → Int32} (h : mb_I P t b C A T) (hR : RG B T) (hA : 0 ≤ A) (bA : A + 1 ≤ 1000000000) (bC : C + 1188 ≤ 1000000000) {p s : Nat} (hp : p < P) (hs : s < 20) {v9 : Int32} (hv : v9 = if mb_owns T p s then 1 else 0) :
    ∃ B', f9_turn_b360 (nI p) (nI s) v9 B = some B' ∧ RG B' (ge_f (mb_lose 4 (mb_older (mb_tolls T p s) p) p) p P t) := by
  have hP := h.P4
  have hI := (lb_tolls8 h hp hs hA bC).2
  have fo := h.fo s hs
  have fo4 : T (11 + s) = -6 ∨ ∃ q, q < 4 ∧ T (11 + s) = nI q := fo.imp id (fun ⟨q, hq, e⟩ => ⟨q, by omega, e⟩)
  subst hv
  unfold f9_turn_b360
  by_cases ho : mb_owns T p s
  · rw [if_pos ho, if_neg (show ¬ (1 : Int32) = 0 by decide)]
    have e : mb_tolls T p s = T := by unfold mb_tolls; rw [if_neg (fun x => x.1 ho)]
    rw [e]
    exact ga_440 h hR hA bA hp
  · rw [if_neg ho, if_pos rfl, lb_ck (by omega) (by omega), lb_cl (by omega), hR.o (by omega)]
    by_cases e1 : T (11 + s) = -6
    · rw [if_pos ((ga_own fo4).1.mpr e1)]
      have e : mb_tolls T p s = T := by unfold mb_tolls; rw [if_neg (fun x => x.2 e1)]
      rw [e]
      exact ga_440 h hR hA bA hp
    · rw [if_neg (fun x => e1 ((ga_own fo4).1.mp x)), ga_toll hR hs fo4, lb_bd, ga_20, lb_ck (by omega) (by omega), lb_ck (by omega) (by omega), lb_cl (by omega), hR.o2 hs]
      obtain ⟨q1, hq1, e1'⟩ : ∃ q, q < P ∧ T (11 + s) = nI q := by rcases fo with x | x; exact absurd x e1; exact x
      have hne1 : p ≠ q1 := fun x => ho (Or.inl (by rw [e1', x]))
      obtain ⟨c, d, ed, ec, hc, hd⟩ := lb_tollB h s
      have ct : (nI c).toInt = c := nI_toInt (by omega)
      have dt : (nI d).toInt = d := nI_toInt (by omega)
      have eT : mb_tolls T p s = if T (31 + s) = -6 then mb_pt T p q1 (nI c) else mb_pt (mb_pt T p q1 (nI c)) p (T (31 + s)).toNatClampNeg (nI d) := by
        unfold mb_tolls
        rw [if_pos ⟨ho, e1⟩, e1', lb_cl (by omega), ec, ed]
      rw [eT] at hI ⊢
      rw [e1']
      obtain ⟨B1, f1, r1⟩ := ga_pay hR (p := p) (q := q1) (c := nI c) (by omega) (by omega) (ga_hne h (by omega) (by omega) (by omega) (by omega))
      have i1 := h.pt hp hq1 hne1 (c := nI c) (by omega) (by omega) hA (by omega)
      by_cases e2 : T (31 + s) = -6
      · have eh : mb_half T s = 0 := by unfold mb_half; rw [if_pos e2]
        have et : mb_toll T s = nI c := by rw [← ec, eh, Int32.sub_zero]
        rw [if_pos e2] at hI ⊢
        rw [e2, if_neg (show ¬ (0 : Int32) ≤ -6 by decide), et]
        unfold f9_turn_b413
        rw [f1, lb_bd, if_pos (show (-6 : Int32) < 0 by decide)]
        exact ga_440 hI r1 hA bA hp
      · rw [if_neg e2] at hI ⊢
        obtain ⟨q2, hq2, e2'⟩ : ∃ q, q < P ∧ T (31 + s) = nI q := by rcases h.se s hs with x | x; exact absurd x e2; exact x.2.1
        have hne2 : p ≠ q2 := fun x => ho (Or.inr (by rw [e2', x]))
        have eh : mb_half T s = mb_toll T s / 2 := by unfold mb_half; rw [if_neg e2]
        rw [e2', lb_cl (by omega)] at hI
        rw [e2', lb_cl (by omega), if_pos (nI_pos' (by omega)), ← eh, ec]
        unfold f9_turn_b413
        rw [f1, lb_bd, if_neg (nI_pos (by omega)), ← eh, ed]
        obtain ⟨B2, f2, r2⟩ := ga_pay r1 (p := p) (q := q2) (c := nI d) (by omega) (by omega) (ga_hne i1 (by omega) (by omega) (by omega) (by omega))
        rw [f2, lb_bd]
        exact ga_440 hI r2 hA bA hp
theorem ga_freeE {T : Nat → Int32} {s : Nat} (hs : s < 20) : mb_free T s ↔ (s % 5 ≠ 0 ∧ T (11 + s) = -6) ∨ (s % 10 = 5 ∧ T (31 + s) = -6) := by
  unfold mb_free mb_sort
  by_cases a : s % 10 = 0
  · rw [if_pos a]; constructor
    · rintro (x | x); exact absurd x.1 (by omega); exact absurd x.1 (by omega)
    · rintro (x | x); exact absurd x.1 (by omega); exact absurd x.1 (by omega)
  · rw [if_neg a]
    by_cases c : s % 10 = 5
    · rw [if_pos c]; constructor
      · rintro (x | x); exact absurd x.1 (by omega); exact Or.inr ⟨c, x.2⟩
      · rintro (x | x); exact absurd x.1 (by omega); exact Or.inr ⟨rfl, x.2⟩
    · rw [if_neg c]; constructor
      · rintro (x | x); exact Or.inl ⟨by omega, x.2⟩; exact absurd x.1 (by omega)
      · rintro (x | x); exact Or.inl ⟨rfl, x.2⟩; exact absurd x.1 c
theorem ga_free {P t : Nat} {b C A : Int} {B : ms_T} {T : Nat → Int32} (h : mb_I P t b C A T) (hR : RG B T) {p s : Nat} (hs : s < 20) {v9 : Int32} :
    f9_turn_b219 (nI p) (nI s) v9 B = f9_turn_b259 (nI p) (nI s) v9 (if mb_free T s then 1 else 0) B := by
  have hP := h.P4
  have fo4 : T (11 + s) = -6 ∨ ∃ q, q < 4 ∧ T (11 + s) = nI q := (h.fo s hs).imp id (fun ⟨q, hq, e⟩ => ⟨q, by omega, e⟩)
  have se4 : T (31 + s) = -6 ∨ ∃ q, q < 4 ∧ T (31 + s) = nI q := (h.se s hs).imp id (fun ⟨_, ⟨q, hq, e⟩, _⟩ => ⟨q, by omega, e⟩)
  have e235 : ¬ (s % 5 ≠ 0 ∧ T (11 + s) = -6) → f9_turn_b235 (nI p) (nI s) v9 B = f9_turn_b259 (nI p) (nI s) v9 (if mb_free T s then 1 else 0) B := by
    intro hn
    unfold f9_turn_b235 f9_turn_b258 f9_turn_b254
    have e10 : nI s - nI s / (10 : Int32) * (10 : Int32) = nI (s % 10) := lb_mod (b := 10) (by omega) (by omega)
    rw [e10]
    by_cases c : s % 10 = 5
    · rw [if_pos (by rw [c]; rfl), ga_20, lb_ck (by omega) (by omega), lb_cl (by omega), hR.o2 hs]
      by_cases e2 : T (31 + s) = -6
      · rw [if_neg (fun x => (ga_own se4).2.mp x e2), if_pos ((ga_freeE hs).mpr (Or.inr ⟨c, e2⟩))]
      · rw [if_pos ((ga_own se4).2.mpr e2), if_neg]
        intro x
        rcases (ga_freeE hs).mp x with y | y
        · exact hn y
        · exact e2 y.2
    · rw [if_neg, if_neg]
      · intro x
        rcases (ga_freeE hs).mp x with y | y
        · exact hn y
        · exact c y.1
      · intro x
        exact c ((lb_inj (by omega) (by omega)).mp (x : nI (s % 10) = nI 5))
  unfold f9_turn_b219
  have e5 : nI s - nI s / (5 : Int32) * (5 : Int32) = nI (s % 5) := lb_mod (b := 5) (by omega) (by omega)
  rw [e5]
  by_cases a : s % 5 = 0
  · rw [if_pos (by rw [a]; rfl)]
    exact e235 (fun x => x.1 a)
  · rw [if_neg (nI_ne0 (by omega) (by omega)), lb_ck (by omega) (by omega), lb_cl (by omega), hR.o (by omega)]
    by_cases e1 : T (11 + s) = -6
    · rw [if_pos ((ga_own fo4).1.mpr e1), if_pos ((ga_freeE hs).mpr (Or.inl ⟨a, e1⟩))]
      rfl
    · rw [if_neg (fun x => e1 ((ga_own fo4).1.mp x))]
      exact e235 (fun x => e1 x.2)
theorem ga_arr {P t : Nat} {b C A : Int} {B : ms_T} {T : Nat → Int32} (h : mb_I P t b C A T) (hR : RG B T) (hA : 0 ≤ A) (bA : A + 1 ≤ 1000000000) (bC : C + 1188 ≤ 1000000000) {p s : Nat} (hp : p < P) (hs : s < 20) {v9 : Int32} (hv : v9 = if mb_owns T p s then 1 else 0) :
    ∃ B', f9_turn_b219 (nI p) (nI s) v9 B = some B' ∧ RG B' (ge_f (mb_lose 4 (mb_older (mb_arr T p s) p) p) p P t) := by
  have hP := h.P4
  rw [ga_free h hR hs]
  unfold f9_turn_b259
  by_cases ho : mb_owns T p s
  · have eA : mb_arr T p s = mb_tolls T p s := by unfold mb_arr; rw [if_neg (fun x => x.1 ho)]
    have hv1 : ¬ v9 = 0 := by rw [hv, if_pos ho]; decide
    rw [eA, if_neg hv1]
    exact ga_tolls h hR hA bA bC hp hs hv
  · rw [if_neg ho] at hv
    rw [if_pos hv]
    by_cases hf : mb_free T s
    · have eA : mb_arr T p s = mb_tolls (mb_claims T p s) p s := by unfold mb_arr; rw [if_pos ⟨ho, hf⟩]
      rw [eA, if_pos hf, if_neg (show ¬ (1 : Int32) = 0 by decide)]
      obtain ⟨x, h8, hx⟩ := h.dr
      have iC := h.claims hp hs hf ho
      have fo4 : T (11 + s) = -6 ∨ ∃ q, q < 4 ∧ T (11 + s) = nI q := (h.fo s hs).imp id (fun ⟨q, hq, e⟩ => ⟨q, by omega, e⟩)
      obtain ⟨q8, f8, d8, r8⟩ := ga_dieQ hR h8 hx
      rw [f8, lb_bd]
      have o8 : ¬ mb_owns (upd T 8 (nI (mb_dx x))) p s := by
        rintro (y | y)
        · rw [lb_un (by omega)] at y; exact ho (Or.inl y)
        · rw [lb_un (by omega)] at y; exact ho (Or.inr y)
      have eC : mb_claims T p s = if nI (mb_dv x) < T 3 then upd T 8 (nI (mb_dx x)) else if T 1 ≤ T (51 + 6 * p) then mb_took (upd T 8 (nI (mb_dx x))) p s else upd T 8 (nI (mb_dx x)) := by
        unfold mb_claims
        rw [h8, lb_cl (by omega)]
      rw [eC] at iC ⊢
      rw [ga_k3, lb_c3, d8, r8.q (by omega), lb_un (show 3 ≠ 8 by omega)]
      by_cases g1 : nI (mb_dv x) < T 3
      · rw [if_pos g1] at iC
        rw [if_pos g1, if_pos g1]
        exact ga_tolls iC r8 hA bA bC hp hs (by rw [hv, if_neg o8])
      · rw [if_neg g1] at iC
        rw [if_neg g1, if_neg g1, ga_6, lb_ck (by omega) (by omega), ga_k1, lb_c1]
        rw [lb_cl (by omega), r8.p (by omega), r8.q (by omega), lb_un (show 51 + 6 * p ≠ 8 by omega), lb_un (show 1 ≠ 8 by omega)]
        by_cases g2 : T 1 ≤ T (51 + 6 * p)
        · rw [if_pos g2] at iC
          rw [if_pos g2, if_neg (lb_nlt.mpr g2), lb_ck (by omega) (by omega), ga_k1, lb_ck (by omega) (by omega), lb_bd]
          have r9 := r8.set1 (i := 6 * p) (by omega) (upd T 8 (nI (mb_dx x)) (51 + 6 * p) - upd T 8 (nI (mb_dx x)) 1)
          rw [Int32.sub_eq_add_neg] at r9
          rw [lb_un (show 51 + 6 * p ≠ 8 by omega), lb_un (show 1 ≠ 8 by omega)] at r9
          rw [Int32.sub_eq_add_neg]
          generalize e9 : ms_set q8.2 1 (upd (q8.2 1) (6 * p) (T (51 + 6 * p) + -T 1)) = B9 at r9 ⊢
          rw [lb_ck (by omega) (by omega), lb_cl (by omega), r9.o (by omega), lb_un (show 11 + s ≠ 51 + 6 * p by omega), lb_un (show 11 + s ≠ 8 by omega)]
          unfold mb_took at iC ⊢
          have eadd : mb_add (upd T 8 (nI (mb_dx x))) (51 + 6 * p) (-(upd T 8 (nI (mb_dx x)) 1)) = upd (upd T 8 (nI (mb_dx x))) (51 + 6 * p) (T (51 + 6 * p) + -T 1) := by
            unfold mb_add
            rw [lb_un (show 51 + 6 * p ≠ 8 by omega), lb_un (show 1 ≠ 8 by omega)]
          rw [eadd, lb_un (show 11 + s ≠ 8 by omega), lb_un (show 9 ≠ 8 by omega), lb_un (show 1 ≠ 8 by omega)] at iC ⊢
          by_cases e1 : T (11 + s) = -6
          · rw [if_pos e1] at iC
            rw [if_pos e1, if_neg (fun y => (ga_own fo4).2.mp y e1), lb_ck (by omega) (by omega), lb_bd]
            have r10 := r9.set2 (i := s) (by omega) (nI p)
            generalize ms_set B9 2 (upd (B9 2) s (nI p)) = B10 at r10 ⊢
            rw [ga_k9, ga_k1, ga_k9, lb_bd, lb_c9, r10.q (i := 9) (by omega), r10.q (i := 1) (by omega)]
            rw [lb_un (show 9 ≠ 11 + s by omega), lb_un (show 9 ≠ 51 + 6 * p by omega), lb_un (show 9 ≠ 8 by omega), lb_un (show 1 ≠ 11 + s by omega), lb_un (show 1 ≠ 51 + 6 * p by omega), lb_un (show 1 ≠ 8 by omega)]
            have r11 := r10.set0 (i := 9) (by omega) (T 9 + T 1)
            unfold f9_turn_b357
            refine ga_tolls iC r11 hA bA bC hp hs ?_
            rw [if_pos]
            left
            rw [lb_un (show 11 + s ≠ 9 by omega), lb_us]
          · rw [if_neg e1] at iC
            rw [if_neg e1, if_pos ((ga_own fo4).2.mpr e1), ga_20, lb_ck (by omega) (by omega), lb_bd, lb_cl (by omega)]
            obtain ⟨q1, hq1, e1'⟩ : ∃ q, q < 4 ∧ T (11 + s) = nI q := by rcases fo4 with y | y; exact absurd y e1; exact y
            have r10 := r9.set2' hs (nI p)
            generalize ms_set B9 2 (upd (B9 2) (20 + s) (nI p)) = B10 at r10 ⊢
            rw [r10.o (by omega), lb_un (show 11 + s ≠ 31 + s by omega), lb_un (show 11 + s ≠ 51 + 6 * p by omega), lb_un (show 11 + s ≠ 8 by omega), e1']
            rw [e1', lb_cl (by omega)] at iC
            rw [lb_cl (by omega), ga_6, lb_ck (by omega) (by omega), lb_ck (by omega) (by omega), ga_k1, lb_ck (by omega) (by omega), lb_bd, lb_cl (by omega), r10.p (by omega), r10.q (i := 1) (by omega)]
            rw [lb_un (show 1 ≠ 31 + s by omega), lb_un (show 1 ≠ 51 + 6 * p by omega), lb_un (show 1 ≠ 8 by omega)]
            have r11 := r10.set1 (i := 6 * q1) (by omega) (upd (upd (upd T 8 (nI (mb_dx x))) (51 + 6 * p) (T (51 + 6 * p) + -T 1)) (31 + s) (nI p) (51 + 6 * q1) + T 1)
            unfold f9_turn_b357
            refine ga_tolls iC r11 hA bA bC hp hs ?_
            rw [if_pos]
            right
            rw [lb_an (show 31 + s ≠ 51 + 6 * q1 by omega), lb_us]
        · rw [if_neg g2] at iC
          rw [if_neg g2, if_pos (lb_nle.mp g2)]
          exact ga_tolls iC r8 hA bA bC hp hs (by rw [hv, if_neg o8])
    · have eA : mb_arr T p s = mb_tolls T p s := by unfold mb_arr; rw [if_neg (fun x => hf x.2)]
      rw [eA, if_neg hf, if_pos rfl]
      exact ga_tolls h hR hA bA bC hp hs (by rw [hv, if_neg ho])
