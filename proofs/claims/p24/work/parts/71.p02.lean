/-! ## The law's board: low, toll, pay -/
theorem ga_and (x : Int32) : 0 ≤ (x &&& (2147483647 : Int32)).toInt := by
  have h1 : (x &&& (2147483647 : Int32)).toBitVec.msb = false := by
    rw [Int32.toBitVec_and, BitVec.msb_and]
    have : (2147483647 : Int32).toBitVec.msb = false := rfl
    rw [this, Bool.and_false]
  show 0 ≤ (x &&& (2147483647 : Int32)).toBitVec.toInt
  rw [BitVec.toInt_eq_msb_cond, h1]
  exact Int.natCast_nonneg _
theorem ga_low (x : Int32) {n : Nat} (h0 : 0 < n) (hn : n < 2 ^ 31) : ∃ r, r < n ∧ f9_low x (nI n) = some (nI r) := by
  obtain ⟨m, hm, e, -⟩ := lb_nat (ga_and x)
  refine ⟨m % n, Nat.mod_lt _ h0, ?_⟩
  unfold f9_low fo_nz
  rw [if_neg (nI_ne0 h0 hn), e, lb_mod hm hn]
theorem ga_n0 {a : Int32} (h : 0 ≤ a.toInt) : ¬ a < 0 := by rw [lb_lt0]; omega
theorem ga_neg6 : (-6 : Int32) < 0 := by decide
theorem ga_own {x : Int32} (h : x = -6 ∨ ∃ q, q < 4 ∧ x = nI q) : (x < 0 ↔ x = -6) ∧ (0 ≤ x ↔ x ≠ -6) := by
  rcases h with rfl | ⟨q, hq, rfl⟩
  · exact ⟨⟨fun _ => rfl, fun _ => ga_neg6⟩, ⟨fun h => absurd h (by decide), fun h => absurd rfl h⟩⟩
  · exact ⟨⟨fun h => absurd h (nI_pos (by omega)), fun h => absurd h (lb_n6 (by omega))⟩, ⟨fun _ => lb_n6 (by omega), fun _ => nI_pos' (by omega)⟩⟩
theorem ga_tollL {B : ms_T} {T : Nat → Int32} (h : RG B T) {s f : Nat} (hs : s < 20) (hf : f ≤ 15) (h5 : f % 5 = 0) : ∀ (r k n a : Nat), k + r = f + 5 → f < k → r < n → f9_toll_L23 n (nI s) (nI a) (nI f) (nI k) B = some (nI (mb_tF T (T (11 + s)) r k a) * T 2)
  | r, k, 0, a, _, _, hn => by omega
  | 0, k, n + 1, a, hk, _, _ => by
    show f9_toll_b23 (f9_toll_L23 n) (nI s) (nI a) (nI f) (nI k) B = _
    unfold f9_toll_b23
    rw [ga_p5, if_pos (nI_le (by omega) (by omega)), ga_k2, lb_c2, h.q (by omega)]
    rfl
  | r + 1, k, n + 1, a, hk, hfk, hn => by
    show f9_toll_b23 (f9_toll_L23 n) (nI s) (nI a) (nI f) (nI k) B = _
    unfold f9_toll_b23
    rw [ga_p5, if_neg (nI_ge (by omega) (by omega)), lb_ck (by omega) (by omega), lb_ck (by omega) (by omega), lb_cl (by omega), lb_cl (by omega), h.o (by omega), h.o (by omega)]
    have hsort : mb_sort k = 1 := by
      unfold mb_sort
      rw [if_neg (by omega), if_neg (by omega)]
    have step : ∀ t : Nat, f9_toll_b48 (f9_toll_L23 n) (nI s) (nI f) (nI k) (nI a) (nI t) B = some (nI (mb_tF T (T (11 + s)) r (k + 1) (a + t)) * T 2) := by
      intro t
      unfold f9_toll_b48
      rw [lb_add, ga_p1]
      exact ga_tollL h hs hf h5 r (k + 1) n (a + t) (by omega) (by omega) (by omega)
    show _ = some (nI (mb_tF T (T (11 + s)) r (k + 1) (a + if mb_sort k = 1 ∧ T (11 + k) = T (11 + s) then 1 else 0)) * T 2)
    by_cases e : T (11 + k) = T (11 + s)
    · rw [if_pos e, if_pos ⟨hsort, e⟩]; exact step 1
    · rw [if_neg e, if_neg (fun q => e q.2)]; exact step 0
theorem ga_toll {B : ms_T} {T : Nat → Int32} (h : RG B T) {s : Nat} (hs : s < 20) (ho : T (11 + s) = -6 ∨ ∃ q, q < 4 ∧ T (11 + s) = nI q) : f9_toll (nI s) B = some (mb_toll T s) := by
  unfold f9_toll mb_toll
  rw [lb_ck (by omega) (by omega), lb_cl (by omega), h.o (by omega)]
  by_cases e : T (11 + s) = -6
  · rw [if_pos e, if_neg (fun q => (ga_own ho).2.mp q e)]
  · rw [if_neg e, if_pos ((ga_own ho).2.mpr e)]
    have e5 : nI s - nI s / (5 : Int32) * (5 : Int32) = nI (s % 5) := lb_mod (b := 5) (by omega) (by omega)
    rw [e5, lb_sub (Nat.mod_le s 5), ga_p1]
    have hm := Nat.div_add_mod s 5
    have hm2 := Nat.mod_lt s (show 0 < 5 by omega)
    rw [show (1 : Int32) = nI 1 from rfl, ga_tollL h hs (f := s - s % 5) (by omega) (by omega) 4 (s - s % 5 + 1) fo_fu 1 (by omega) (by omega) (by show 4 < 1000; omega), Int32.mul_comm]
    have e1 : mb_tF T (T (11 + s)) 5 (s / 5 * 5) 1 = mb_tF T (T (11 + s)) 4 (s / 5 * 5 + 1) 1 := by
      show mb_tF T (T (11 + s)) 4 (s / 5 * 5 + 1) (1 + if mb_sort (s / 5 * 5) = 1 ∧ T (11 + s / 5 * 5) = T (11 + s) then 1 else 0) = _
      rw [if_neg]
      rintro ⟨q, -⟩
      unfold mb_sort at q
      by_cases e0 : s / 5 * 5 % 10 = 0
      · rw [if_pos e0] at q; omega
      · rw [if_neg e0, if_pos (by omega)] at q; omega
    rw [e1, show s - s % 5 + 1 = s / 5 * 5 + 1 by omega]
theorem ga_paidE (a c : Int32) : (if c ≤ a then c else a) = (if a ≤ c then a else c) := by
  by_cases h : c ≤ a
  · rw [if_pos h]
    by_cases h2 : a ≤ c
    · rw [if_pos h2, lb_eq]; rw [lb_le] at h h2; omega
    · rw [if_neg h2]
  · rw [if_neg h, if_pos (by rw [lb_le] at h ⊢; omega)]
theorem ga_paidC {T : Nat → Int32} {p : Nat} {c : Int32} : c ≤ mb_paid T p c ↔ mb_paid T p c = c := by
  unfold mb_paid
  by_cases h : T (51 + 6 * p) ≤ c
  · rw [if_pos h, lb_eq]; rw [lb_le] at h; rw [lb_le]; omega
  · rw [if_neg h]; exact ⟨fun _ => rfl, fun _ => by rw [lb_le]; omega⟩
theorem ga_pay {B : ms_T} {T : Nat → Int32} (h : RG B T) {p q : Nat} {c : Int32} (hp : p < 4) (hq : q < 4) (hne : T (75 + 4 * p + q) ≠ 0 → T (75 + 4 * p + q) + (c - mb_paid T p c) ≠ 0) : ∃ B', f9_pay (nI p) (nI q) c B = some B' ∧ RG B' (mb_pt T p q c) := by
  have key : ∀ t : Int32, t = mb_paid T p c → ∃ B', f9_pay_b20 (nI p) (nI q) c t B = some B' ∧ RG B' (mb_pt T p q c) := by
    intro t ht
    subst ht
    unfold f9_pay_b20
    rw [ga_6, ga_6, ga_p2, ga_p3, ga_4, lb_add]
    rw [lb_ck (by omega) (by omega), lb_ck (by omega) (by omega), lb_bd, lb_cl (by omega)]
    have h1 := h.set1 (i := 6 * p) (by omega) (B 1 (6 * p) - mb_paid T p c)
    rw [h.p (by omega), Int32.sub_eq_add_neg] at h1
    rw [h.p (by omega), Int32.sub_eq_add_neg]
    generalize ms_set B 1 (upd (B 1) (6 * p) (T (51 + 6 * p) + -mb_paid T p c)) = B1 at h1 ⊢
    rw [lb_ck (by omega) (by omega), lb_ck (by omega) (by omega), lb_bd, lb_cl (by omega)]
    have h2 := h1.set1 (i := 6 * p + 2) (by omega) (B1 1 (6 * p + 2) + mb_paid T p c)
    generalize e2 : ms_set B1 1 (upd (B1 1) (6 * p + 2) (B1 1 (6 * p + 2) + mb_paid T p c)) = B2 at h2 ⊢
    rw [h1.p (by omega)] at h2
    rw [lb_ck (by omega) (by omega), lb_ck (by omega) (by omega), lb_bd, lb_cl (by omega)]
    have h3 := h2.set1 (i := 6 * q) (by omega) (B2 1 (6 * q) + mb_paid T p c)
    generalize e3 : ms_set B2 1 (upd (B2 1) (6 * q) (B2 1 (6 * q) + mb_paid T p c)) = B3 at h3 ⊢
    rw [h2.p (by omega)] at h3
    rw [lb_ck (by omega) (by omega), lb_ck (by omega) (by omega), lb_bd, lb_cl (by omega)]
    have h4 := h3.set1 (i := 6 * q + 3) (by omega) (B3 1 (6 * q + 3) + mb_paid T p c)
    generalize e4 : ms_set B3 1 (upd (B3 1) (6 * q + 3) (B3 1 (6 * q + 3) + mb_paid T p c)) = B4 at h4 ⊢
    rw [h3.p (by omega)] at h4
    have h5 : RG B4 (mb_pay T p q (mb_paid T p c)) := h4
    clear e2 e3 e4 h1 h2 h3 h4
    unfold mb_pt
    by_cases hc : mb_paid T p c = c
    · rw [if_pos hc, if_pos (ga_paidC.mpr hc)]
      exact ⟨B4, rfl, h5⟩
    · rw [if_neg hc, if_neg (fun q => hc (ga_paidC.mp q))]
      have eD : mb_pay T p q (mb_paid T p c) (75 + 4 * p + q) = T (75 + 4 * p + q) := lb_pay75 hp hq (by omega)
      generalize hS : mb_pay T p q (mb_paid T p c) = S5 at h5 eD
      have e3 : B4 3 (4 * p + q) = S5 (75 + 4 * p + q) := by rw [h5.d (by omega), Nat.add_assoc]
      rw [lb_ck (by omega) (by omega), lb_cl (by omega), e3]
      unfold mb_addD
      by_cases h0 : S5 (75 + 4 * p + q) = 0
      · rw [if_pos h0, if_pos (Or.inl h0), lb_ck (by omega) (by omega), lb_bd]
        have h6 := h5.set4 (i := 4 * p + q) (by omega) 0
        unfold f9_pay_b97
        rw [ga_4, lb_add, lb_ck (by omega) (by omega), lb_ck (by omega) (by omega), lb_bd, lb_cl (by omega)]
        refine ⟨_, rfl, ?_⟩
        rw [lb_mn (by omega), e3]
        have h7 := h6.set3 (i := 4 * p + q) (by omega) (S5 (75 + 4 * p + q) + (c - mb_paid T p c))
        rw [lb_mn (by omega), ← Nat.add_assoc, ← Nat.add_assoc, lb_uc (by omega)] at h7
        exact h7
      · rw [if_neg h0]
        unfold f9_pay_b97
        rw [ga_4, lb_add, lb_ck (by omega) (by omega), lb_ck (by omega) (by omega), lb_bd, lb_cl (by omega), e3]
        refine ⟨_, rfl, ?_⟩
        rw [if_neg]
        · have h7 := h5.set3 (i := 4 * p + q) (by omega) (S5 (75 + 4 * p + q) + (c - mb_paid T p c))
          rw [← Nat.add_assoc] at h7
          exact h7
        · rintro (h | h)
          · exact h0 h
          · rw [eD] at h h0; exact hne h0 h
  unfold f9_pay
  rw [ga_6, lb_ck (by omega) (by omega), lb_cl (by omega), h.p (by omega)]
  have eP : mb_paid T p c = if c ≤ T (51 + 6 * p) then c else T (51 + 6 * p) := by unfold mb_paid; rw [ga_paidE]
  by_cases e : c ≤ T (51 + 6 * p)
  · rw [if_pos e]; rw [if_pos e] at eP; exact key c eP.symm
  · rw [if_neg e, lb_ck (by omega) (by omega)]; rw [if_neg e] at eP; exact key _ eP.symm
