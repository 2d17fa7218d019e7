/-! ## Layer B: payments -/
def mb_paid (T : Nat → Int32) (p : Nat) (c : Int32) : Int32 := if T (51 + 6 * p) ≤ c then T (51 + 6 * p) else c
def mb_pay (T : Nat → Int32) (p q : Nat) (x : Int32) : Nat → Int32 := mb_add (mb_add (mb_add (mb_add T (51 + 6 * p) (-x)) (51 + 6 * p + 2) x) (51 + 6 * q) x) (51 + 6 * q + 3) x
theorem lb_pays {T : Nat → Int32} {p q : Nat} {c : Int32} (hp : p < 4) (hq : q < 4) : f8_pays (nI p) (nI q) c T = some (mb_paid T p c, mb_pay T p q (mb_paid T p c)) := by
  have h20 : ∀ x : Int32, f8_pays_b20 (nI p) (nI q) x T = some (x, mb_pay T p q x) := by
    intro x
    unfold f8_pays_b20
    rw [lb_adds0 hp, lb_bd, lb_adds2 hp, lb_bd, lb_adds0 hq, lb_bd, lb_adds3 hq, lb_bd]
    rfl
  unfold f8_pays mb_paid
  rw [lb_part0 hp, lb_bd, lb_bd]
  by_cases h : T (51 + 6 * p) ≤ c
  · rw [if_pos h, if_pos h]; exact h20 _
  · rw [if_neg h, if_neg h]; exact h20 _
theorem lb_paidE (a c : Int32) : (if a < c then a else c) = (if a ≤ c then a else c) := by
  by_cases h : a < c
  · rw [if_pos h, if_pos (by rw [lb_lt] at h; rw [lb_le]; omega)]
  · rw [if_neg h]
    by_cases h2 : a ≤ c
    · rw [if_pos h2, lb_eq]; rw [lb_lt] at h; rw [lb_le] at h2; omega
    · rw [if_neg h2]
theorem lb_pay0 {S : ms_T} {T : Nat → Int32} (h : RB S T) {p q : Nat} {c : Int32} (hp : p < 4) (hq : q < 4) : ∃ S', f0_payWhatThereIs (nI p) (nI q) c S = some (mb_paid T p c, S') ∧ RB S' (mb_pay T p q (mb_paid T p c)) := by
  have e0 : S 6 p = T (51 + 6 * p) := h.p (k := 0) hp (by omega)
  unfold f0_payWhatThereIs
  rw [lb_at hp (by omega), lb_bd, e0, lb_paidE]
  have hx : (if T (51 + 6 * p) ≤ c then T (51 + 6 * p) else c) = mb_paid T p c := rfl
  rw [hx]
  generalize mb_paid T p c = x
  rw [lb_radd hp (by omega), lb_bd]
  have h1 := h.setP (k := 0) hp (by omega) (S 6 p + -x)
  rw [e0] at h1
  rw [e0]
  rw [lb_radd hq (by omega), lb_bd]
  have h2 := h1.setP (k := 0) hq (by omega) (T (51 + 6 * q) + x)
  have e2 := h1.p (k := 0) hq (by omega)
  have h2 := h1.setP (k := 0) hq (by omega) (ms_set S 6 (upd (S 6) p (T (51 + 6 * p) + -x)) 6 q + x)
  rw [lb_radd hp (by omega), lb_bd]
  have h3 := h2.setP (k := 2) hp (by omega) (ms_set (ms_set S 6 (upd (S 6) p (T (51 + 6 * p) + -x))) 6 (upd (ms_set S 6 (upd (S 6) p (T (51 + 6 * p) + -x)) 6) q (ms_set S 6 (upd (S 6) p (T (51 + 6 * p) + -x)) 6 q + x)) 8 p + x)
  have e3 := h2.p (k := 2) hp (by omega)
  rw [lb_radd hq (by omega), lb_bd]
  have h4 := h3.setP (k := 3) hq (by omega) (ms_set (ms_set (ms_set S 6 (upd (S 6) p (T (51 + 6 * p) + -x))) 6 (upd (ms_set S 6 (upd (S 6) p (T (51 + 6 * p) + -x)) 6) q (ms_set S 6 (upd (S 6) p (T (51 + 6 * p) + -x)) 6 q + x))) 8 (upd (ms_set (ms_set S 6 (upd (S 6) p (T (51 + 6 * p) + -x))) 6 (upd (ms_set S 6 (upd (S 6) p (T (51 + 6 * p) + -x)) 6) q (ms_set S 6 (upd (S 6) p (T (51 + 6 * p) + -x)) 6 q + x)) 8) p (ms_set (ms_set S 6 (upd (S 6) p (T (51 + 6 * p) + -x))) 6 (upd (ms_set S 6 (upd (S 6) p (T (51 + 6 * p) + -x)) 6) q (ms_set S 6 (upd (S 6) p (T (51 + 6 * p) + -x)) 6 q + x)) 8 p + x)) 9 q + x)
  have e4 := h3.p (k := 3) hq (by omega)
  refine ⟨_, rfl, ?_⟩
  refine h4.congr (fun i hi => ?_)
  simp only [Nat.reduceAdd, Nat.add_zero] at e2 e3 e4
  rw [e2] at e3 e4 ⊢
  rw [e3] at e4 ⊢
  rw [e4]
  unfold mb_pay mb_add
  by_cases a1 : i = 51 + 6 * q + 3
  · subst a1
    simp only [lb_us]
    by_cases hpq : p = q
    · subst hpq
      simp (disch := omega) only [lb_us, lb_un]
    · simp (disch := omega) only [lb_us, lb_un]
  · simp (disch := omega) only [lb_un]
    by_cases a2 : i = 51 + 6 * q
    · subst a2
      by_cases hpq : p = q
      · subst hpq
        simp (disch := omega) only [lb_us, lb_un, Nat.add_zero]
      · simp (disch := omega) only [lb_us, lb_un, Nat.add_zero]
    · by_cases a3 : i = 51 + 6 * p + 2
      · subst a3
        by_cases hpq : p = q
        · subst hpq
          simp (disch := omega) only [lb_us, lb_un, Nat.add_zero]
        · simp (disch := omega) only [lb_us, lb_un, Nat.add_zero]
      · simp (disch := omega) only [lb_us, lb_un, Nat.add_zero]
