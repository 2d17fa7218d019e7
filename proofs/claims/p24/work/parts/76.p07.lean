/-! ## The law's board: a turn -/
theorem ga_182 {P t : Nat} {b C A : Int} {B : ms_T} {V : Nat → Int32} {p s : Nat} (hR : RG B V) (h : mb_I P t b C A (upd V (51 + 6 * p + 1) (nI s))) (hA : 0 ≤ A) (bA : A + 1 ≤ 1000000000) (bC : C + 1188 ≤ 1000000000) (hp : p < P) (hs : s < 20) :
    ∃ B', f9_turn_b182 (nI p) (nI s) B = some B' ∧ RG B' (ge_f (mb_lose 4 (mb_older (mb_arr (upd V (51 + 6 * p + 1) (nI s)) p s) p) p) p P t) := by
  have hP := h.P4
  unfold f9_turn_b182
  rw [ga_6, ga_p1, lb_ck (by omega) (by omega), lb_bd, lb_cl (by omega)]
  have r1 := hR.set1 (i := 6 * p + 1) (by omega) (nI s)
  rw [show 51 + (6 * p + 1) = 51 + 6 * p + 1 by omega] at r1
  generalize ms_set B 1 (upd (B 1) (6 * p + 1) (nI s)) = B1 at r1 ⊢
  generalize upd V (51 + 6 * p + 1) (nI s) = T at r1 h ⊢
  have go : ∀ v9 : Int32, v9 = (if mb_owns T p s then 1 else 0) → ∃ B', f9_turn_b219 (nI p) (nI s) v9 B1 = some B' ∧ RG B' (ge_f (mb_lose 4 (mb_older (mb_arr T p s) p) p) p P t) := fun v9 hv => ga_arr h r1 hA bA bC hp hs hv
  rw [lb_ck (by omega) (by omega), lb_cl (by omega), r1.o (by omega)]
  unfold f9_turn_b214
  by_cases e1 : T (11 + s) = nI p
  · rw [if_pos e1]
    exact go 1 (by rw [if_pos (Or.inl e1)])
  · rw [if_neg e1, ga_20, lb_ck (by omega) (by omega), lb_cl (by omega), r1.o2 hs]
    by_cases e2 : T (31 + s) = nI p
    · rw [if_pos e2]
      exact go 1 (by rw [if_pos (Or.inr e2)])
    · rw [if_neg e2]
      refine go 0 ?_
      rw [if_neg]
      rintro (y | y)
      · exact e1 y
      · exact e2 y
theorem ga_goes {P t : Nat} {b C A : Int} {B : ms_T} {T : Nat → Int32} (h : mb_I P t b C A T) (hR : RG B T) (hA : 0 ≤ A) (bB : b + 99 ≤ 1000000000) (bA : A + 1 ≤ 1000000000) (bC : C + 1188 ≤ 1000000000) {p : Nat} (hp : p < P) :
    ∃ B', f9_turn_b19 (fun _ _ _ _ => none) (nI p) 0 0 B = some B' ∧ RG B' (ge_f (mb_lose 4 (mb_older (mb_arr (mb_goes T p) p (mb_place (mb_goes T p) p)) p) p) p P t) := by
  have hP := h.P4
  have hI := (lb_goes8 h hp bB).2
  obtain ⟨x, h8, hx⟩ := h.dr
  obtain ⟨y, hy, hy2⟩ := h.pl' (p := p) (by omega)
  have d1 := lb_dv x
  have d2 := lb_dv (mb_dx x)
  have hx2 := lb_dx x
  have eG : mb_goes T p = mb_goesX T p x y := by
    unfold mb_goes
    rw [h8, hy2, lb_cl (by omega), lb_cl (by omega)]
  rw [eG] at hI ⊢
  unfold f9_turn_b19
  rw [if_pos (show (0 : Int32) >>> ((8 : Int32) &&& 31) ≤ 0 by decide)]
  obtain ⟨q1, f1, e1, r1⟩ := ga_dieQ hR h8 hx
  rw [f1, lb_bd]
  obtain ⟨q2, f2, e2, r2⟩ := ga_dieQ r1 (x := mb_dx x) (lb_us _ _ _) hx2
  rw [f2, lb_bd, e1, e2, lb_add, ga_6, ga_p1, lb_ck (by omega) (by omega), lb_cl (by omega), r2.p (by omega), show 51 + (6 * p + 1) = 51 + 6 * p + 1 by omega, lb_un (show 51 + 6 * p + 1 ≠ 8 by omega), lb_un (show 51 + 6 * p + 1 ≠ 8 by omega), hy2, lb_add]
  have hpl : ∀ (V : Nat → Int32) (s : Nat), s < 20 → mb_place (upd V (51 + 6 * p + 1) (nI s)) p = s := by
    intro V s hs
    unfold mb_place
    rw [lb_us, lb_cl (by omega)]
  rw [← Nat.add_assoc, show (19 : Int32) = nI 19 from rfl]
  by_cases g : y + mb_dv x + mb_dv (mb_dx x) < 20
  · have eX : mb_goesX T p x y = upd (upd (upd T 8 (nI (mb_dx x))) 8 (nI (mb_dx (mb_dx x)))) (51 + 6 * p + 1) (nI (y + mb_dv x + mb_dv (mb_dx x))) := by
      unfold mb_goesX; rw [if_pos g]
    rw [eX] at hI ⊢
    rw [hpl _ _ g, if_pos (nI_le (by omega) (by omega))]
    exact ga_182 r2 hI hA bA bC hp g
  · have eX : mb_goesX T p x y = upd (mb_add (mb_add (upd (upd T 8 (nI (mb_dx x))) 8 (nI (mb_dx (mb_dx x)))) (51 + 6 * p) (T 0)) 10 (T 0)) (51 + 6 * p + 1) (nI (y + mb_dv x + mb_dv (mb_dx x) - 20)) := by
      unfold mb_goesX; rw [if_neg g, show (y + mb_dv x + mb_dv (mb_dx x)) % 20 = y + mb_dv x + mb_dv (mb_dx x) - 20 by omega]
    rw [eX] at hI ⊢
    rw [hpl _ _ (by omega), if_neg (nI_ge (by omega) (by omega)), lb_ck (by omega) (by omega), ga_k0, lb_ck (by omega) (by omega), lb_bd, lb_cl (by omega), lb_c0, r2.p (by omega), r2.q (i := 0) (by omega)]
    have r3 := r2.set1 (i := 6 * p) (by omega) (upd (upd T 8 (nI (mb_dx x))) 8 (nI (mb_dx (mb_dx x))) (51 + 6 * p) + T 0)
    rw [lb_un (show 0 ≠ 8 by omega), lb_un (show 0 ≠ 8 by omega)]
    generalize ms_set q2.2 1 (upd (q2.2 1) (6 * p) (upd (upd T 8 (nI (mb_dx x))) 8 (nI (mb_dx (mb_dx x))) (51 + 6 * p) + T 0)) = B3 at r3 ⊢
    have r3 : RG B3 (mb_add (upd (upd T 8 (nI (mb_dx x))) 8 (nI (mb_dx (mb_dx x)))) (51 + 6 * p) (T 0)) := r3
    rw [ga_k10, ga_k0, ga_k10, lb_bd, lb_c10, r3.q (i := 10) (by omega), r3.q (i := 0) (by omega), lb_an (show 0 ≠ 51 + 6 * p by omega), lb_un (show 0 ≠ 8 by omega), lb_un (show 0 ≠ 8 by omega), ← Int32.sub_eq_add_neg, show (20 : Int32) = nI 20 from rfl, lb_sub (by omega)]
    have r4 := r3.set0 (i := 10) (by omega) (mb_add (upd (upd T 8 (nI (mb_dx x))) 8 (nI (mb_dx (mb_dx x)))) (51 + 6 * p) (T 0) 10 + T 0)
    exact ga_182 r4 hI hA bA bC hp (by omega)
/-- one turn of the law's board is one turn of the row -/
theorem ga_turn {P t : Nat} {b C A : Int} {B : ms_T} {T : Nat → Int32} (h : mb_I P t b C A T) (hR : RG B T) (hP0 : 0 < P) (hA : 0 ≤ A) (bB : b + 99 ≤ 1000000000) (bC : C + 1188 ≤ 1000000000) (bA : A + 1 ≤ 1000000000) : ∃ B', f9_turn B = some B' ∧ RG B' (mb_turn T) := by
  have hP := h.P4
  obtain ⟨p, h7, hp⟩ := h.h7
  have hp : p < P := by omega
  have e : mb_turn T = mb_turnP T p P t := by
    unfold mb_turn; rw [h7, h.h6, h.h5, lb_cl (by omega), lb_cl (by omega), lb_cl (by have := h.t9; omega)]
  rw [e]
  obtain ⟨-, i1⟩ := lb_pd8 hA (p := p) (by omega) h
  have hp4 : p < 4 := by omega
  unfold f9_turn
  rw [ga_k7, lb_c7, hR.q (by omega), h7, ga_cr hR hp4, lb_bd]
  have hall := gc_lB (T := T) (p := p) 5 0 (by omega)
  have hF : gp_f p (gc_l T p 5 0) T = mb_pd 4 T p := ga_pdF hA hp4 4 T h (lb_cnt4 _ _)
  have hL := fun hn hc => ga_pdL (P := P) (t := t) (b := b) (C := C) hA hp4 (T := T) rfl (gc_l T p 5 0) 0 fo_fu B T (List.drop_zero) (by omega) hn hR h hc
  generalize gc_l T p 5 0 = l at hL hF hall ⊢
  have hlen : l.length < fo_fu := by
    have := hall.2.1
    show _ < 1000
    omega
  obtain ⟨B2, r2, f2⟩ := hL hlen (fun c hc => (hall.1 c hc).2.1)
  rw [show nI 0 = (0 : Int32) from rfl] at f2
  rw [f2]
  rw [hF] at r2
  exact ga_goes i1 r2 hA bB bA bC hp
theorem ga_turnJ {P t : Nat} {B : ms_T} {T : Nat → Int32} (h : mb_J P t T) (hR : RG B T) (hP0 : 0 < P) (ht : t < 20000) : ∃ B', f9_turn B = some B' ∧ RG B' (mb_turn T) := by
  have hP := h.P4
  have h9 := h.t9
  exact ga_turn h hR hP0 (by omega) (by omega) (by omega) (by omega)
