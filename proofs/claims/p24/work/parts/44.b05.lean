/-! ## Layer B: debts are paid -/
theorem RB.addP {S : ms_T} {T : Nat → Int32} (h : RB S T) {i k : Nat} (hi : i < 4) (hk : k < 6) (x : Int32) : RB (ms_set S (6 + k) (upd (S (6 + k)) i (S (6 + k) i + x))) (mb_add T (51 + 6 * i + k) x) := by
  have h1 := h.setP hi hk (S (6 + k) i + x)
  unfold mb_add
  rw [h.p hi hk] at h1 ⊢
  exact h1
theorem lb_paidB {T : Nat → Int32} {p : Nat} {c : Int32} (h0 : 0 ≤ (T (51 + 6 * p)).toInt) (hc : 0 ≤ c.toInt) : 0 ≤ (mb_paid T p c).toInt ∧ (mb_paid T p c).toInt ≤ (T (51 + 6 * p)).toInt ∧ (mb_paid T p c).toInt ≤ c.toInt ∧ (mb_paid T p c = c ∨ mb_paid T p c = T (51 + 6 * p)) := by
  unfold mb_paid
  by_cases h : T (51 + 6 * p) ≤ c
  · rw [if_pos h]; rw [lb_le] at h; exact ⟨h0, Int.le_refl _, h, Or.inr rfl⟩
  · rw [if_neg h]; rw [lb_le] at h; exact ⟨hc, by omega, Int.le_refl _, Or.inl rfl⟩
/-- a payment keeps the rules -/
theorem mb_I.pay {P t : Nat} {B C A : Int} {T : Nat → Int32} (h : mb_I P t B C A T) {p q : Nat} (hp : p < P) (hq : q < P) (hpq : p ≠ q) {x : Int32} (h0 : 0 ≤ x.toInt) (h1 : x.toInt ≤ (T (51 + 6 * p)).toInt) : mb_I P t B C A (mb_pay T p q x) := by
  have hP := h.P4
  have hb := h.bB
  have b1 := h.purse (p := p) (by omega)
  have b2 := h.purse (p := q) (by omega)
  have hps := h.ps
  unfold mb_pay
  have nx : (-x).toInt = -x.toInt := lb_neg_toInt (by omega)
  have s1 : (T (51 + 6 * p) + -x).toInt = (T (51 + 6 * p)).toInt - x.toInt := by
    rw [lb_add_toInt (by omega) (by omega), nx]; omega
  have g1 : mb_I P t B C A (mb_add T (51 + 6 * p) (-x)) := h.setPurse hp (by omega) (by omega) hb
  have g2 : mb_I P t B C A (mb_add (mb_add T (51 + 6 * p) (-x)) (51 + 6 * p + 2) x) := g1.free hp (by omega) (by omega) _
  have e2 : mb_add (mb_add T (51 + 6 * p) (-x)) (51 + 6 * p + 2) x (51 + 6 * q) = T (51 + 6 * q) := by rw [lb_an (by omega), lb_an (by omega)]
  have m1 : mb_sum (mb_add T (51 + 6 * p) (-x)) = mb_sum T - x.toInt := by
    unfold mb_add; rw [lb_sumU (by omega), s1]; omega
  have m2 : mb_sum (mb_add (mb_add T (51 + 6 * p) (-x)) (51 + 6 * p + 2) x) = mb_sum T - x.toInt := by
    rw [← m1]; exact lb_sumN (by omega) _
  have tot := lb_sumP (p := q) (by omega) g2.pu
  rw [e2] at tot
  have s2 : (T (51 + 6 * q) + x).toInt = (T (51 + 6 * q)).toInt + x.toInt := lb_add_toInt (by omega) (by omega)
  have g3 : mb_I P t B C A (mb_add (mb_add (mb_add T (51 + 6 * p) (-x)) (51 + 6 * p + 2) x) (51 + 6 * q) x) := by
    refine g2.setPurse hq ?_ ?_ hb
    · rw [e2]; omega
    · rw [e2, s2, m2]; omega
  exact g3.free hq (by omega) (by omega) _
theorem lb_pay75 {T : Nat → Int32} {p q : Nat} {x : Int32} (hp : p < 4) (hq : q < 4) {j : Nat} (hj : j < 51 ∨ 75 ≤ j) : mb_pay T p q x j = T j := by
  unfold mb_pay
  rw [lb_an (by omega), lb_an (by omega), lb_an (by omega), lb_an (by omega)]
theorem lb_payPlace {T : Nat → Int32} {p q : Nat} {x : Int32} (hp : p < 4) (hq : q < 4) {j : Nat} : mb_pay T p q x (51 + 6 * j + 1) = T (51 + 6 * j + 1) := by
  unfold mb_pay
  rw [lb_an (by omega), lb_an (by omega), lb_an (by omega), lb_an (by omega)]
theorem lb_payP {T : Nat → Int32} {p q : Nat} {x : Int32} (hpq : p ≠ q) : mb_pay T p q x (51 + 6 * p) = T (51 + 6 * p) + -x := by
  unfold mb_pay
  rw [lb_an (by omega), lb_an (by omega), lb_an (by omega), lb_as]
theorem mb_I.addD {P t : Nat} {B C A : Int} {T : Nat → Int32} (h : mb_I P t B C A T) {C' : Int} {p q : Nat} (hp : p < P) (hq : q < P) (hpq : p ≠ q) {v : Int32} (hx : 0 ≤ (T (75 + 4 * p + q) + v).toInt ∧ (T (75 + 4 * p + q) + v).toInt ≤ C') (hC : C ≤ C') (hA : 0 ≤ A) (bC : C' ≤ 1000000000) : mb_I P t B C' A (mb_addD T p q v) := by
  have hP := h.P4
  unfold mb_addD
  split
  · exact h.setDebt hp hq hpq hx (by rw [Int32.toInt_zero]; omega) (fun _ => rfl) hC (Int.le_refl _) bC h.bA
  · next hn =>
    have e : upd T (75 + 4 * p + q) (T (75 + 4 * p + q) + v) = upd (upd T (75 + 4 * p + q) (T (75 + 4 * p + q) + v)) (91 + 4 * p + q) (T (91 + 4 * p + q)) := by
      exact (lb_ui' (by rw [lb_un (by omega)])).symm
    rw [e]
    have ha := h.ag (4 * p + q) (by omega)
    rw [show 91 + (4 * p + q) = 91 + 4 * p + q by omega] at ha
    exact h.setDebt hp hq hpq hx ha (fun h0 => absurd (Or.inr h0) hn) hC (Int.le_refl _) bC h.bA
theorem lb_addDn {T : Nat → Int32} {p q : Nat} {v : Int32} {j : Nat} (h1 : j ≠ 75 + 4 * p + q) (h2 : j ≠ 91 + 4 * p + q) : mb_addD T p q v j = T j := by
  unfold mb_addD
  split
  · rw [lb_un h2, lb_un h1]
  · rw [lb_un h1]
theorem lb_addDs {T : Nat → Int32} {p q : Nat} {v : Int32} : mb_addD T p q v (75 + 4 * p + q) = T (75 + 4 * p + q) + v := by
  unfold mb_addD
  split
  · rw [lb_un (by omega), lb_us]
  · rw [lb_us]
theorem lb_addDa {T : Nat → Int32} {p q : Nat} {v : Int32} : mb_addD T p q v (91 + 4 * p + q) = if T (75 + 4 * p + q) = 0 ∨ T (75 + 4 * p + q) + v = 0 then 0 else T (91 + 4 * p + q) := by
  unfold mb_addD
  split
  · rw [lb_us]
  · rw [lb_un (by omega)]
/-- shrink -/
theorem lb_shrink {S : ms_T} {T : Nat → Int32} (h : RB S T) {p q : Nat} {x : Int32} (hp : p < 4) (hq : q < 4) (hw : T (75 + 4 * p + q) ≠ 0) : ∃ D', f1_shrink (nI p) (nI q) x (ms_from S 2) = some D' ∧ RB (ms_sub S 2 3 D') (mb_addD T p q (-x)) := by
  unfold f1_shrink
  have ec : (ms_from S 2) 0 = S 2 := rfl
  have ea : (ms_from S 2) 1 = S 3 := rfl
  have e0 : S 2 (p * 4 + q) = T (75 + 4 * p + q) := by rw [h.c (by omega)]; congr 1; omega
  rw [show (4 : Int32) = nI 4 from rfl, lb_mul, lb_add, ec, lb_radd (by omega) (by omega), lb_bd, lb_ms, lb_at (by omega) (by omega), lb_bd, lb_us, e0]
  by_cases h0 : T (75 + 4 * p + q) + -x = 0
  · rw [if_pos h0, lb_mn (by decide), ea, lb_write (by omega) (by omega), lb_bd]
    refine ⟨_, rfl, h.debts ?_ ?_ ?_⟩
    · intro i hi
      rw [lb_mn (by decide), lb_ms]
      by_cases hi2 : i = p * 4 + q
      · subst hi2; rw [lb_us, show 75 + (p * 4 + q) = 75 + 4 * p + q by omega, lb_addDs]
      · rw [lb_un hi2, lb_addDn (by omega) (by omega)]; exact h.c hi
    · intro i hi
      rw [lb_ms]
      by_cases hi2 : i = p * 4 + q
      · subst hi2; rw [lb_us, show 75 + (p * 4 + q) = 75 + 4 * p + q by omega, lb_addDs, if_pos h0]
      · rw [lb_un hi2, lb_addDn (by omega) (by omega), lb_addDn (by omega) (by omega)]; exact h.a i hi
    · intro i hi; exact lb_addDn (by omega) (by omega)
  · rw [if_neg h0]
    refine ⟨_, rfl, h.debts ?_ ?_ ?_⟩
    · intro i hi
      rw [lb_ms]
      by_cases hi2 : i = p * 4 + q
      · subst hi2; rw [lb_us, show 75 + (p * 4 + q) = 75 + 4 * p + q by omega, lb_addDs]
      · rw [lb_un hi2, lb_addDn (by omega) (by omega)]; exact h.c hi
    · intro i hi
      rw [lb_mn (by decide), ea]
      by_cases hi2 : i = p * 4 + q
      · subst hi2
        rw [show 75 + (p * 4 + q) = 75 + 4 * p + q by omega, show 91 + (p * 4 + q) = 91 + 4 * p + q by omega, lb_addDs, if_neg h0, lb_addDa, if_neg (by rintro (h1 | h1) <;> contradiction)]
        rw [h.a _ (by omega), show 75 + (p * 4 + q) = 75 + 4 * p + q by omega, show 91 + (p * 4 + q) = 91 + 4 * p + q by omega, if_neg hw]
      · rw [lb_addDn (by omega) (by omega), lb_addDn (by omega) (by omega)]; exact h.a i hi
    · intro i hi; exact lb_addDn (by omega) (by omega)
/-- grow -/
theorem lb_grow {S : ms_T} {T : Nat → Int32} (h : RB S T) {p q : Nat} {x : Int32} (hp : p < 4) (hq : q < 4) (hx : 0 ≤ x.toInt) (hw : 0 < x → T (75 + 4 * p + q) + x ≠ 0) : ∃ D', f1_grow (nI p) (nI q) x (ms_from S 2) = some D' ∧ RB (ms_sub S 2 3 D') (if 0 < x then mb_addD T p q x else T) := by
  unfold f1_grow f1_grow_b33
  have ec : (ms_from S 2) 0 = S 2 := rfl
  have ea : (ms_from S 2) 1 = S 3 := rfl
  have e0 : S 2 (p * 4 + q) = T (75 + 4 * p + q) := by rw [h.c (by omega)]; congr 1; omega
  rw [show (4 : Int32) = nI 4 from rfl, lb_mul, lb_add]
  by_cases h1 : x ≤ 0
  · have hx0 : x = 0 := by rw [lb_eq0]; rw [lb_le0] at h1; omega
    rw [if_pos h1, if_neg (fun h2 => lb_npos.mpr h2 h1), ec, lb_radd (by omega) (by omega), lb_bd]
    refine ⟨_, rfl, h.debts ?_ ?_ (fun i hi => rfl)⟩
    · intro i hi
      rw [lb_ms, lb_ui' (by rw [hx0]; exact Int32.add_zero _)]; exact h.c hi
    · intro i hi
      rw [lb_mn (by decide), ea]; exact h.a i hi
  · have h2 := lb_npos.mp h1
    have hw := hw h2
    rw [if_neg h1, if_pos h2, ec, lb_at (by omega) (by omega), lb_bd, e0]
    by_cases h0 : T (75 + 4 * p + q) = 0
    · rw [if_pos h0, ea, lb_write (by omega) (by omega), lb_bd, lb_mn (by decide), ec, lb_radd (by omega) (by omega), lb_bd]
      refine ⟨_, rfl, h.debts ?_ ?_ ?_⟩
      · intro i hi
        rw [lb_ms]
        by_cases hi2 : i = p * 4 + q
        · subst hi2; rw [lb_us, show 75 + (p * 4 + q) = 75 + 4 * p + q by omega, lb_addDs, e0]
        · rw [lb_un hi2, lb_addDn (by omega) (by omega)]; exact h.c hi
      · intro i hi
        rw [lb_mn (by decide), lb_ms]
        by_cases hi2 : i = p * 4 + q
        · subst hi2
          rw [lb_us, show 75 + (p * 4 + q) = 75 + 4 * p + q by omega, show 91 + (p * 4 + q) = 91 + 4 * p + q by omega, lb_addDs, if_neg hw, lb_addDa, if_pos (Or.inl h0)]
        · rw [lb_un hi2, lb_addDn (by omega) (by omega), lb_addDn (by omega) (by omega)]; exact h.a i hi
      · intro i hi; exact lb_addDn (by omega) (by omega)
    · rw [if_neg h0, lb_radd (by omega) (by omega), lb_bd]
      refine ⟨_, rfl, h.debts ?_ ?_ ?_⟩
      · intro i hi
        rw [lb_ms]
        by_cases hi2 : i = p * 4 + q
        · subst hi2; rw [lb_us, show 75 + (p * 4 + q) = 75 + 4 * p + q by omega, lb_addDs, e0]
        · rw [lb_un hi2, lb_addDn (by omega) (by omega)]; exact h.c hi
      · intro i hi
        rw [lb_mn (by decide), ea]
        by_cases hi2 : i = p * 4 + q
        · subst hi2
          rw [show 75 + (p * 4 + q) = 75 + 4 * p + q by omega, show 91 + (p * 4 + q) = 91 + 4 * p + q by omega, lb_addDs, if_neg hw, lb_addDa, if_neg (by rintro (h1 | h1) <;> contradiction)]
          rw [h.a _ (by omega), show 75 + (p * 4 + q) = 75 + 4 * p + q by omega, show 91 + (p * 4 + q) = 91 + 4 * p + q by omega, if_neg h0]
        · rw [lb_addDn (by omega) (by omega), lb_addDn (by omega) (by omega)]; exact h.a i hi
      · intro i hi; exact lb_addDn (by omega) (by omega)
/-! the loops -/
def mb_payOne (T : Nat → Int32) (p q : Nat) : Nat → Int32 := mb_addD (mb_pay T p q (mb_paid T p (T (75 + 4 * p + q)))) p q (-(mb_paid T p (T (75 + 4 * p + q))))
def mb_pd : Nat → (Nat → Int32) → Nat → (Nat → Int32)
  | 0, T, _ => T
  | k + 1, T, p => if T (51 + 6 * p) ≤ 0 then T else if mb_old T p 0 = -6 then T else mb_pd k (mb_payOne T p (mb_old T p 0).toNatClampNeg) p
def mb_c1 (T : Nat → Int32) (p j : Nat) : Nat := if 0 < T (75 + 4 * p + j) then 1 else 0
def mb_cnt (T : Nat → Int32) (p : Nat) : Nat := mb_c1 T p 0 + mb_c1 T p 1 + mb_c1 T p 2 + mb_c1 T p 3
theorem lb_cntP {T : Nat → Int32} {p q : Nat} (hq : q < 4) (h : 0 < T (75 + 4 * p + q)) : 1 ≤ mb_cnt T p := by
  have : mb_c1 T p q = 1 := by unfold mb_c1; rw [if_pos h]
  unfold mb_cnt
  rcases lb_case4 hq with rfl | rfl | rfl | rfl <;> omega
theorem lb_cntL {T T' : Nat → Int32} {p q : Nat} (hq : q < 4) (h : 0 < T (75 + 4 * p + q)) (h' : ¬ 0 < T' (75 + 4 * p + q)) (ho : ∀ j, j < 4 → j ≠ q → T' (75 + 4 * p + j) = T (75 + 4 * p + j)) : mb_cnt T' p + 1 = mb_cnt T p := by
  have a : mb_c1 T p q = 1 := by unfold mb_c1; rw [if_pos h]
  have b : mb_c1 T' p q = 0 := by unfold mb_c1; rw [if_neg h']
  have c : ∀ j, j < 4 → j ≠ q → mb_c1 T' p j = mb_c1 T p j := fun j h1 h2 => by unfold mb_c1; rw [ho j h1 h2]
  unfold mb_cnt
  rcases lb_case4 hq with rfl | rfl | rfl | rfl
  · have := c 1 (by omega) (by omega); have := c 2 (by omega) (by omega); have := c 3 (by omega) (by omega); omega
  · have := c 0 (by omega) (by omega); have := c 2 (by omega) (by omega); have := c 3 (by omega) (by omega); omega
  · have := c 0 (by omega) (by omega); have := c 1 (by omega) (by omega); have := c 3 (by omega) (by omega); omega
  · have := c 0 (by omega) (by omega); have := c 1 (by omega) (by omega); have := c 2 (by omega) (by omega); omega
/-- a debt is of two players -/
theorem mb_I.pos {P t : Nat} {B C A : Int} {T : Nat → Int32} (h : mb_I P t B C A T) {p q : Nat} (hp : p < 4) (hq : q < 4) (hc : 0 < T (75 + 4 * p + q)) : p < P ∧ q < P ∧ p ≠ q := by
  have z := h.cz p q hp hq
  by_cases e : p = q ∨ P ≤ p ∨ P ≤ q
  · rw [z e, lb_0lt, Int32.toInt_zero] at hc; omega
  · omega
theorem mb_I.one {P t : Nat} {B C A : Int} {T : Nat → Int32} (h : mb_I P t B C A T) (hA : 0 ≤ A) {p q : Nat} (hp : p < 4) (hq : q < 4) (hc : 0 < T (75 + 4 * p + q)) : mb_I P t B C A (mb_payOne T p q) ∧ (∀ j, j < 4 → j ≠ q → mb_payOne T p q (75 + 4 * p + j) = T (75 + 4 * p + j)) ∧ ((mb_payOne T p q (75 + 4 * p + q)) = 0 ∨ mb_payOne T p q (51 + 6 * p) = 0) := by
  obtain ⟨h1, h2, h3⟩ := h.pos hp hq hc
  have hP := h.P4
  have b1 := h.purse (p := p) (by omega)
  have bb := h.bB
  have bc := h.bC
  have cc := h.co (4 * p + q) (by omega)
  rw [show 75 + (4 * p + q) = 75 + 4 * p + q by omega] at cc
  have x0 := lb_paidB (c := T (75 + 4 * p + q)) b1.1 cc.1
  obtain ⟨x1, x2, x3, x4⟩ := x0
  unfold mb_payOne
  generalize mb_paid T p (T (75 + 4 * p + q)) = x at x1 x2 x3 x4
  have nx : (-x).toInt = -x.toInt := lb_neg_toInt (by omega)
  have e1 : mb_pay T p q x (75 + 4 * p + q) = T (75 + 4 * p + q) := lb_pay75 hp hq (by omega)
  have s1 : (T (75 + 4 * p + q) + -x).toInt = (T (75 + 4 * p + q)).toInt - x.toInt := by
    rw [lb_add_toInt (by omega) (by omega), nx]; omega
  refine ⟨?_, ?_, ?_⟩
  · refine (h.pay h1 h2 h3 x1 x2).addD h1 h2 h3 ?_ (Int.le_refl _) hA bc
    rw [e1, s1]; omega
  · intro j hj hn
    rw [lb_addDn (by omega) (by omega), lb_pay75 hp hq (by omega)]
  · rcases x4 with x4 | x4
    · left
      rw [lb_addDs, e1, lb_eq0, s1, x4]; omega
    · right
      rw [lb_addDn (by omega) (by omega), lb_payP h3, lb_eq0, x4, lb_add_toInt (by rw [← x4, nx]; omega) (by rw [← x4, nx]; omega), ← x4, nx]; omega
/-- with an empty purse nothing is paid -/
theorem lb_pdZ {P t : Nat} {B C A : Int} {T : Nat → Int32} (h : mb_I P t B C A T) {p : Nat} (hp : p < 4) (h0 : T (51 + 6 * p) = 0) : ∀ (n d : Nat), d < 16 → 16 - d < n → f8_paysDebts_L9 n (nI p) (nI d) (mb_old T p d) T = some T
  | 0, d, _, hn => by omega
  | n + 1, d, hd, hn => by
    show f8_paysDebts_b9 (f8_paysDebts_L9 n) (nI p) (nI d) (mb_old T p d) T = some T
    unfold f8_paysDebts_b9
    have hP := h.P4
    rcases lb_oldC T p d with ⟨h1, -⟩ | ⟨q, hq, h1, h2, -⟩
    · rw [if_pos h1]
    · rw [h1, if_neg (lb_n6 (by omega)), lb_debt hp hq, lb_bd, lb_pays hp hq, lb_bd]
      have hc := h2.1
      have hx : mb_paid T p (T (75 + 4 * p + q)) = 0 := by
        unfold mb_paid
        rw [if_pos (by rw [h0, lb_le, Int32.toInt_zero]; rw [lb_0lt] at hc; omega), h0]
      have hpay : mb_pay T p q 0 = T := by
        have z : ∀ (U : Nat → Int32) (i : Nat), mb_add U i 0 = U := fun U i => lb_ui' (Int32.add_zero _)
        have n0 : (-0 : Int32) = 0 := rfl
        unfold mb_pay
        rw [n0, z, z, z, z]
      show fo_bd (f8_addsDebt (nI p) (nI q) (-(mb_paid T p (T (75 + 4 * p + q)))) (mb_pay T p q (mb_paid T p (T (75 + 4 * p + q))))) _ = _
      rw [hx, hpay, lb_addD hp hq, lb_bd, lb_bitS d hd q hq]
      have hne : T (75 + 4 * p + q) ≠ 0 := by intro e; rw [e] at hc; exact absurd hc (by decide)
      have n0 : (-0 : Int32) = 0 := rfl
      have hD : mb_addD T p q (-0) = T := by
        unfold mb_addD
        rw [n0, Int32.add_zero, if_neg (by rintro (e | e) <;> contradiction), lb_ui]
      rw [hD, lb_old8 h.h6 hP hp (lb_bitL d hd q hq) (fun k h3 h4 => h.cz p k hp h4 (Or.inr (Or.inr h3))), lb_bd]
      have := lb_bitU d hd q hq h2.2
      exact lb_pdZ h hp h0 n _ (lb_bitL d hd q hq) (by omega)
theorem lb_pd0 {T : Nat → Int32} {p : Nat} (k : Nat) (h : T (51 + 6 * p) = 0) : mb_pd k T p = T := by
  cases k with
  | zero => rfl
  | succ k =>
    show (if T (51 + 6 * p) ≤ 0 then T else _) = T
    rw [if_pos (by rw [h]; decide)]
/-- the reference pays debts -/
theorem lb_pd8L {P t : Nat} {B C A : Int} (hA : 0 ≤ A) {p : Nat} (hp : p < 4) : ∀ (k n d : Nat) (T : Nat → Int32), mb_I P t B C A T → mb_cnt T p ≤ k → (∀ j, j < 4 → d.testBit j = true → T (75 + 4 * p + j) = 0) → d < 16 → k + 17 < n →
    f8_paysDebts_L9 n (nI p) (nI d) (mb_old T p d) T = some (mb_pd k T p) ∧ mb_I P t B C A (mb_pd k T p)
  | _, 0, _, _, _, _, _, _, h => by omega
  | k, n + 1, d, T, h, hk, hb, hd, hn => by
    have hP := h.P4
    have hold : mb_old T p d = mb_old T p 0 := by
      refine lb_oldE (fun j hj => ?_) (fun j hj => rfl)
      unfold mb_el
      by_cases hc : 0 < T (75 + 4 * p + j)
      · have : d.testBit j = false := by
          cases hx : d.testBit j
          · rfl
          · rw [hb j hj hx] at hc; exact absurd hc (by decide)
        rw [this]; simp
      · exact ⟨fun e => absurd e.1 hc, fun e => absurd e.1 hc⟩
    have cz := fun (U : Nat → Int32) (hU : mb_I P t B C A U) (k : Nat) (h3 : P ≤ k) (h4 : k < 4) => hU.cz p k hp h4 (Or.inr (Or.inr h3))
    rcases lb_oldC T p d with ⟨h1, h1'⟩ | ⟨q, hq, h1, h2, -⟩
    · have e : mb_pd k T p = T := by
        cases k with
        | zero => rfl
        | succ k =>
          show (if T (51 + 6 * p) ≤ 0 then T else if mb_old T p 0 = -6 then T else _) = T
          rw [← hold, if_pos h1, ite_self]
      rw [e]
      refine ⟨?_, h⟩
      show f8_paysDebts_b9 (f8_paysDebts_L9 n) (nI p) (nI d) (mb_old T p d) T = some T
      unfold f8_paysDebts_b9
      rw [if_pos h1]
    · have hc := h2.1
      by_cases hz : T (51 + 6 * p) = 0
      · rw [lb_pd0 k hz]
        exact ⟨lb_pdZ h hp hz (n + 1) d hd (by omega), h⟩
      · have hpos := (h.purse hp).1
        have hz' : ¬ T (51 + 6 * p) ≤ 0 := by rw [lb_le0]; rw [lb_eq0] at hz; omega
        obtain ⟨k, rfl⟩ : ∃ k', k = k' + 1 := ⟨k - 1, by have := lb_cntP hq hc; omega⟩
        have e : mb_pd (k + 1) T p = mb_pd k (mb_payOne T p q) p := by
          show (if T (51 + 6 * p) ≤ 0 then T else if mb_old T p 0 = -6 then T else mb_pd k (mb_payOne T p (mb_old T p 0).toNatClampNeg) p) = _
          rw [if_neg hz', ← hold, h1, if_neg (lb_n6 (by omega)), lb_cl (by omega)]
        have hne : T (75 + 4 * p + q) ≠ 0 := by intro e; rw [e] at hc; exact absurd hc (by decide)
        obtain ⟨g1, g2, g3⟩ := h.one hA hp hq hc
        have step : f8_paysDebts_L9 (n + 1) (nI p) (nI d) (mb_old T p d) T = f8_paysDebts_L9 n (nI p) (nI (d ||| 1 <<< q)) (mb_old (mb_payOne T p q) p (d ||| 1 <<< q)) (mb_payOne T p q) := by
          show f8_paysDebts_b9 (f8_paysDebts_L9 n) (nI p) (nI d) (mb_old T p d) T = _
          unfold f8_paysDebts_b9
          rw [h1, if_neg (lb_n6 (by omega)), lb_debt hp hq, lb_bd, lb_pays hp hq, lb_bd]
          show fo_bd (f8_addsDebt (nI p) (nI q) (-(mb_paid T p (T (75 + 4 * p + q)))) (mb_pay T p q (mb_paid T p (T (75 + 4 * p + q))))) _ = _
          rw [lb_addD hp hq, lb_bd, lb_bitS d hd q hq]
          show fo_bd (f8_oldest (nI p) (nI (d ||| 1 <<< q)) (mb_payOne T p q)) _ = _
          rw [lb_old8 g1.h6 hP hp (lb_bitL d hd q hq) (cz _ g1), lb_bd]
          rfl
        rw [e, step]
        rcases g3 with g3 | g3
        · refine lb_pd8L hA hp k n _ _ g1 ?_ ?_ (lb_bitL d hd q hq) (by omega)
          · have := lb_cntL (T' := mb_payOne T p q) hq hc (by rw [g3]; decide) g2
            omega
          · intro j hj hb'
            rw [lb_bitT d hd q hq j hj] at hb'
            by_cases e : j = q
            · subst e; exact g3
            · rw [g2 j hj e]
              refine hb j hj ?_
              simpa [e] using hb'
        · rw [lb_pd0 k g3]
          exact ⟨lb_pdZ g1 hp g3 n _ (lb_bitL d hd q hq) (by omega), g1⟩
theorem lb_cnt4 (T : Nat → Int32) (p : Nat) : mb_cnt T p ≤ 4 := by
  have hh : ∀ j, mb_c1 T p j ≤ 1 := fun j => by unfold mb_c1; split <;> omega
  unfold mb_cnt
  have h0 := hh 0
  have h1 := hh 1
  have h2 := hh 2
  have h3 := hh 3
  omega
theorem lb_pd8 {P t : Nat} {B C A : Int} (hA : 0 ≤ A) {p : Nat} (hp : p < 4) {T : Nat → Int32} (h : mb_I P t B C A T) : f8_paysDebts (nI p) T = some (mb_pd 4 T p) ∧ mb_I P t B C A (mb_pd 4 T p) := by
  have h1 := lb_pd8L hA hp 4 1000 0 T h (lb_cnt4 T p) (fun j hj hb => by simp at hb) (by omega) (by omega)
  refine ⟨?_, h1.2⟩
  unfold f8_paysDebts
  have e := lb_old8 (d := 0) h.h6 h.P4 hp (by omega) (fun k h3 h4 => h.cz p k hp h4 (Or.inr (Or.inr h3)))
  rw [show f8_oldest (nI p) (0 : Int32) T = some (mb_old T p 0) from e, lb_bd]
  exact h1.1
/-- the class pays debts -/
theorem lb_pd0L {P t : Nat} {B C A : Int} (hA : 0 ≤ A) {p : Nat} (hp : p < 4) : ∀ (k i n : Nat) (S : ms_T) (T : Nat → Int32), mb_I P t B C A T → RB S T → i + k = 4 → k < n →
    ∃ S', f0_payDebts_L2 n (nI p) (nI i) S = some S' ∧ RB S' (mb_pd k T p)
  | _, _, 0, _, _, _, _, _, h => by omega
  | 0, i, n + 1, S, T, h, hR, hk, hn => by
    refine ⟨S, ?_, hR⟩
    show f0_payDebts_b2 _ (nI p) (nI i) S = some S
    unfold f0_payDebts_b2
    rw [show (4 : Int32) = nI 4 from rfl, if_pos (nI_le (by omega) (by omega))]
  | k + 1, i, n + 1, S, T, h, hR, hk, hn => by
    show ∃ S', f0_payDebts_b2 (f0_payDebts_L2 n) (nI p) (nI i) S = some S' ∧ RB S' (if T (51 + 6 * p) ≤ 0 then T else if mb_old T p 0 = -6 then T else mb_pd k (mb_payOne T p (mb_old T p 0).toNatClampNeg) p)
    unfold f0_payDebts_b2
    have e0 : S 6 p = T (51 + 6 * p) := hR.p (k := 0) hp (by omega)
    rw [show (4 : Int32) = nI 4 from rfl, if_neg (nI_ge (by omega) (by omega)), lb_at hp (by omega), lb_bd, e0]
    by_cases hz : T (51 + 6 * p) ≤ 0
    · rw [if_pos hz, if_pos hz]; exact ⟨S, rfl, hR⟩
    · rw [if_neg hz, if_neg hz]
      have ho : f1_oldestOf (nI p) (ms_from S 2) = some (mb_old T p 0) := lb_old1 hp (fun i hi => hR.c hi) (fun i hi => hR.a i hi) (fun i hi => ⟨(h.co i hi).1, (h.ag i hi).1⟩)
      rw [ho, lb_bd]
      rcases lb_oldC T p 0 with ⟨h1, -⟩ | ⟨q, hq, h1, h2, -⟩
      · rw [if_pos h1, if_pos h1]; exact ⟨S, rfl, hR⟩
      · rw [h1, if_neg (lb_n6 (by omega)), if_neg (lb_n6 (by omega)), lb_cl (by omega)]
        have ec : f1_coinsOf (nI p) (nI q) (ms_from S 2) = some (T (75 + 4 * p + q)) := by
          unfold f1_coinsOf
          have e0 : S 2 (p * 4 + q) = T (75 + 4 * p + q) := by rw [hR.c (by omega)]; congr 1; omega
          rw [show (4 : Int32) = nI 4 from rfl, lb_mul, lb_add, lb_at (by omega) (by omega), lb_bd]
          exact congrArg some e0
        rw [ec, lb_bd]
        obtain ⟨S1, hS1, hR1⟩ := lb_pay0 hR (c := T (75 + 4 * p + q)) hp hq
        rw [hS1, lb_bd]
        have hc := h2.1
        have hne : T (75 + 4 * p + q) ≠ 0 := by intro e; rw [e] at hc; exact absurd hc (by decide)
        obtain ⟨D, hD, hR2⟩ := lb_shrink hR1 (x := mb_paid T p (T (75 + 4 * p + q))) hp hq (by rw [lb_pay75 hp hq (by omega)]; exact hne)
        show ∃ S', fo_bd (f1_shrink (nI p) (nI q) (mb_paid T p (T (75 + 4 * p + q))) (ms_from S1 2)) _ = some S' ∧ _
        rw [hD, lb_bd]
        have hs : nI i + 1 = nI (i + 1) := (nI_succ i).symm
        rw [hs]
        exact lb_pd0L hA hp k (i + 1) n _ _ (h.one hA hp hq hc).1 hR2 (by omega) (by omega)
theorem lb_pdC {P t : Nat} {B C A : Int} (hA : 0 ≤ A) {p : Nat} (hp : p < 4) {S : ms_T} {T : Nat → Int32} (h : mb_I P t B C A T) (hR : RB S T) : ∃ S', f0_payDebts (nI p) S = some S' ∧ RB S' (mb_pd 4 T p) :=
  lb_pd0L hA hp 4 0 1000 S T h hR rfl (by omega)
