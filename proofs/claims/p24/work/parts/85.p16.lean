/-! ## would: turns on the second board -/
section WOULD2
variable {P : Nat} {X : xs_T} {Z1 : ms_T} {v1 v13 : Int32}
theorem ga_emL {p : Nat} (hp : p < P) : ∀ (r k n t : Nat) (B : ms_T) (U : Nat → Int32), k + r = 400 → r + 1 < n → RG B U → mb_J P t U → t + r < 20000 →
    ∃ m B', m ≤ 401 ∧ (if nI m ≤ (400 : Int32) then nI m else -6) = mb_em p r k U ∧ f9_would_L46 n v1 (nI p) v13 (nI k) (X, Z1, B) = f9_would_b84 v1 (nI p) v13 (nI m) (X, Z1, B')
  | r, k, 0, _, _, _, _, hn, _, _, _ => by omega
  | 0, k, n + 1, t, B, U, hk, hn, hR, hJ, ht => by
    have hP := hJ.P4
    have pu := hJ.pu p (by omega)
    have ep : B 1 (6 * p) = U (51 + 6 * p) := hR.p (by omega)
    show ∃ m B', m ≤ 401 ∧ (if nI m ≤ (400 : Int32) then nI m else -6) = (if U (51 + 6 * p) = 0 then nI k else -6) ∧ f9_would_b46 (f9_would_L46 n) v1 (nI p) v13 (nI k) (X, Z1, B) = _
    unfold f9_would_b46
    rw [ga_6, lb_ck (by omega) (by omega), lb_cl (by omega)]
    by_cases c : U (51 + 6 * p) ≤ 0
    · have z : U (51 + 6 * p) = 0 := by rw [lb_eq0]; rw [lb_le0] at c; omega
      rw [if_pos (show B 1 (6 * p) ≤ 0 by rw [ep]; exact c), if_pos z]
      exact ⟨k, B, by omega, if_pos (nI_le (b := 400) (by omega) (by omega)), rfl⟩
    · have z : ¬ U (51 + 6 * p) = 0 := fun x => c (by rw [x]; decide)
      rw [if_neg (show ¬ B 1 (6 * p) ≤ 0 by rw [ep]; exact c), if_neg z, if_neg (show ¬ (401 : Int32) ≤ nI k from nI_ge (b := 401) (by omega) (by omega))]
      obtain ⟨B1, f1, r1⟩ := ga_turnJ hJ hR (by omega) (by omega)
      rw [f1, lb_bd, ga_p1]
      obtain ⟨n, rfl⟩ : ∃ n', n = n' + 1 := ⟨n - 1, by omega⟩
      refine ⟨k + 1, B1, by omega, if_neg (nI_ge (a := 400) (by omega) (by omega)), ?_⟩
      show f9_would_b46 (f9_would_L46 n) v1 (nI p) v13 (nI (k + 1)) (X, Z1, B1) = _
      unfold f9_would_b46
      rw [ga_6, lb_ck (by omega) (by omega), if_pos (show (401 : Int32) ≤ nI (k + 1) from nI_le (a := 401) (by omega) (by omega)), ite_self]
  | r + 1, k, n + 1, t, B, U, hk, hn, hR, hJ, ht => by
    have hP := hJ.P4
    have pu := hJ.pu p (by omega)
    have ep : B 1 (6 * p) = U (51 + 6 * p) := hR.p (by omega)
    show ∃ m B', m ≤ 401 ∧ (if nI m ≤ (400 : Int32) then nI m else -6) = (if U (51 + 6 * p) = 0 then nI k else mb_em p r (k + 1) (mb_turn U)) ∧ f9_would_b46 (f9_would_L46 n) v1 (nI p) v13 (nI k) (X, Z1, B) = _
    unfold f9_would_b46
    rw [ga_6, lb_ck (by omega) (by omega), lb_cl (by omega)]
    by_cases c : U (51 + 6 * p) ≤ 0
    · have z : U (51 + 6 * p) = 0 := by rw [lb_eq0]; rw [lb_le0] at c; omega
      rw [if_pos (show B 1 (6 * p) ≤ 0 by rw [ep]; exact c), if_pos z]
      exact ⟨k, B, by omega, if_pos (nI_le (b := 400) (by omega) (by omega)), rfl⟩
    · have z : ¬ U (51 + 6 * p) = 0 := fun x => c (by rw [x]; decide)
      rw [if_neg (show ¬ B 1 (6 * p) ≤ 0 by rw [ep]; exact c), if_neg z, if_neg (show ¬ (401 : Int32) ≤ nI k from nI_ge (b := 401) (by omega) (by omega))]
      obtain ⟨B1, f1, r1⟩ := ga_turnJ hJ hR (by omega) (by omega)
      rw [f1, lb_bd, ga_p1]
      exact ga_emL hp r (k + 1) n (t + 1) B1 (mb_turn U) (by omega) (by omega) r1 (hJ.turn (by omega) (by omega)).2 (by omega)
/-- turns, one after the other -/
theorem ga_tuL {p N : Nat} (hP0 : 0 < P) (hN : N ≤ 99) : ∀ (r k n t : Nat) (B : ms_T) (U : Nat → Int32), k + r = N → r < n → RG B U → mb_J P t U → t + r < 20000 →
    ∃ B', RG B' (mb_turns r U) ∧ f9_would_L134 n v1 (nI p) (nI N) (nI k) (X, Z1, B) = f9_would_b134 (fun _ _ _ _ _ => none) v1 (nI p) (nI N) (nI N) (X, Z1, B')
  | r, k, 0, _, _, _, _, hn, _, _, _ => by omega
  | 0, k, n + 1, t, B, U, hk, hn, hR, hJ, ht => by
    refine ⟨B, hR, ?_⟩
    have : k = N := by omega
    subst this
    show f9_would_b134 (f9_would_L134 n) v1 (nI p) (nI k) (nI k) (X, Z1, B) = _
    unfold f9_would_b134
    rw [if_pos (nI_le (Nat.le_refl _) (by omega)), if_pos (nI_le (Nat.le_refl _) (by omega))]
  | r + 1, k, n + 1, t, B, U, hk, hn, hR, hJ, ht => by
    obtain ⟨B1, f1, r1⟩ := ga_turnJ hJ hR hP0 (by omega)
    obtain ⟨B', r2, f2⟩ := ga_tuL hP0 hN r (k + 1) n (t + 1) B1 (mb_turn U) (by omega) (by omega) r1 (hJ.turn hP0 (by omega)).2 (by omega)
    refine ⟨B', r2, ?_⟩
    rw [← f2]
    show f9_would_b134 (f9_would_L134 n) v1 (nI p) (nI N) (nI k) (X, Z1, B) = _
    unfold f9_would_b134
    rw [if_neg (nI_ge (by omega) (by omega)), f1, lb_bd, ga_p1]
theorem ga_tvL {rec192 : Int32 → Int32 → Int32 → Int32 → Int32 → Int32 → ys_T → Option (Int32 × ys_T)} {p N : Nat} {v15 v16 v17 : Int32} (hP0 : 0 < P) (hp : p < 4) (hN : N ≤ 99) : ∀ (r k n t : Nat) (B : ms_T) (U : Nat → Int32), k + r = N → r < n → RG B U → mb_J P t U → t + r < 20000 →
    ∃ B', RG B' (mb_turns r U) ∧ f9_would_L228 rec192 n v1 (nI p) (nI N) v15 v16 v17 (nI k) (X, Z1, B) = f9_would_L267 rec192 fo_fu v1 (nI p) (nI N) v15 v16 v17 (mb_turns r U (51 + 6 * p)) 0 (X, Z1, B')
  | r, k, 0, _, _, _, _, hn, _, _, _ => by omega
  | 0, k, n + 1, t, B, U, hk, hn, hR, hJ, ht => by
    refine ⟨B, hR, ?_⟩
    show f9_would_b228 rec192 (f9_would_L228 rec192 n) v1 (nI p) (nI N) v15 v16 v17 (nI k) (X, Z1, B) = _
    unfold f9_would_b228
    have e : B 1 (6 * p) = U (51 + 6 * p) := hR.p (by omega)
    rw [if_pos (nI_le (by omega) (by omega)), ga_6, lb_ck (by omega) (by omega), lb_cl (by omega)]
    show f9_would_L267 rec192 fo_fu v1 (nI p) (nI N) v15 v16 v17 (B 1 (6 * p)) 0 (X, Z1, B) = f9_would_L267 rec192 fo_fu v1 (nI p) (nI N) v15 v16 v17 (U (51 + 6 * p)) 0 (X, Z1, B)
    rw [e]
  | r + 1, k, n + 1, t, B, U, hk, hn, hR, hJ, ht => by
    obtain ⟨B1, f1, r1⟩ := ga_turnJ hJ hR hP0 (by omega)
    obtain ⟨B', r2, f2⟩ := ga_tvL (rec192 := rec192) (v15 := v15) (v16 := v16) (v17 := v17) hP0 hp hN r (k + 1) n (t + 1) B1 (mb_turn U) (by omega) (by omega) r1 (hJ.turn hP0 (by omega)).2 (by omega)
    refine ⟨B', r2, ?_⟩
    show f9_would_L228 rec192 (n + 1) v1 (nI p) (nI N) v15 v16 v17 (nI k) (X, Z1, B) = f9_would_L267 rec192 fo_fu v1 (nI p) (nI N) v15 v16 v17 (mb_turns r (mb_turn U) (51 + 6 * p)) 0 (X, Z1, B')
    rw [← f2]
    show f9_would_b228 rec192 (f9_would_L228 rec192 n) v1 (nI p) (nI N) v15 v16 v17 (nI k) (X, Z1, B) = _
    unfold f9_would_b228
    rw [if_neg (nI_ge (by omega) (by omega)), f1, lb_bd, ga_p1]
/-- what a player is worth -/
def gw_f (U : Nat → Int32) (p : Nat) : Nat → Nat → Int32 → Int32
  | 0, _, a => a
  | r + 1, k, a => gw_f U p r (k + 1) (a + (U (75 + 4 * k + p) - U (75 + 4 * p + k)))
theorem ga_weL {rec192 : Int32 → Int32 → Int32 → Int32 → Int32 → Int32 → ys_T → Option (Int32 × ys_T)} {p : Nat} {v15 v16 v17 : Int32} (hp : p < 4) {B : ms_T} {U : Nat → Int32} (hR : RG B U) : ∀ (r k n : Nat) (a : Int32), k + r = 4 → r < n →
    f9_would_L267 rec192 n v1 (nI p) v13 v15 v16 v17 a (nI k) (X, Z1, B) = (if v16 ≤ gw_f U p r k a then f9_would_b323 rec192 v1 (nI p) v13 v17 (gw_f U p r k a) v17 (X, Z1, B) else f9_would_b323 rec192 v1 (nI p) v13 v15 v16 v17 (X, Z1, B))
  | r, k, 0, _, _, hn => by omega
  | 0, k, n + 1, a, hk, _ => by
    show f9_would_b267 rec192 (f9_would_L267 rec192 n) v1 (nI p) v13 v15 v16 v17 a (nI k) (X, Z1, B) = (if v16 ≤ a then f9_would_b323 rec192 v1 (nI p) v13 v17 a v17 (X, Z1, B) else f9_would_b323 rec192 v1 (nI p) v13 v15 v16 v17 (X, Z1, B))
    unfold f9_would_b267
    rw [show (4 : Int32) = nI 4 from rfl, if_pos (nI_le (by omega) (by omega))]
  | r + 1, k, n + 1, a, hk, hn => by
    have ih := ga_weL (rec192 := rec192) (v15 := v15) (v16 := v16) (v17 := v17) hp hR r (k + 1) n (a + (U (75 + 4 * k + p) - U (75 + 4 * p + k))) (by omega) (by omega)
    have e1 : B 3 (4 * k + p) = U (75 + 4 * k + p) := by rw [hR.d (by omega), Nat.add_assoc]
    have e2 : B 3 (4 * p + k) = U (75 + 4 * p + k) := by rw [hR.d (by omega), Nat.add_assoc]
    show f9_would_b267 rec192 (f9_would_L267 rec192 n) v1 (nI p) v13 v15 v16 v17 a (nI k) (X, Z1, B) = (if v16 ≤ gw_f U p r (k + 1) (a + (U (75 + 4 * k + p) - U (75 + 4 * p + k))) then f9_would_b323 rec192 v1 (nI p) v13 v17 (gw_f U p r (k + 1) (a + (U (75 + 4 * k + p) - U (75 + 4 * p + k)))) v17 (X, Z1, B) else f9_would_b323 rec192 v1 (nI p) v13 v15 v16 v17 (X, Z1, B))
    rw [← ih]
    unfold f9_would_b267
    rw [if_neg (show ¬ (4 : Int32) ≤ nI k from nI_ge (b := 4) (by omega) (by omega)), ga_4, ga_4, lb_add, lb_add, lb_ck (by omega) (by omega), lb_ck (by omega) (by omega), lb_cl (by omega), lb_cl (by omega), ga_p1]
    rw [show (X, Z1, B).2.2 3 (4 * k + p) = U (75 + 4 * k + p) from e1, show (X, Z1, B).2.2 3 (4 * p + k) = U (75 + 4 * p + k) from e2]
theorem ga_weE {U : Nat → Int32} {p : Nat} (a : Int32) : gw_f U p 4 0 a = (a + mb_to U p) - mb_by U p := by
  unfold mb_to mb_by
  rw [lb_fo4, lb_fo4]
  show ((((a + (U (75 + 4 * 0 + p) - U (75 + 4 * p + 0))) + (U (75 + 4 * 1 + p) - U (75 + 4 * p + 1))) + (U (75 + 4 * 2 + p) - U (75 + 4 * p + 2))) + (U (75 + 4 * 3 + p) - U (75 + 4 * p + 3))) = (a + (U (75 + 4 * 0 + p) + U (75 + 4 * 1 + p) + U (75 + 4 * 2 + p) + U (75 + 4 * 3 + p))) - (U (75 + 4 * p + 0) + U (75 + 4 * p + 1) + U (75 + 4 * p + 2) + U (75 + 4 * p + 3))
  generalize U (75 + 4 * 0 + p) = a0
  generalize U (75 + 4 * 1 + p) = a1
  generalize U (75 + 4 * 2 + p) = a2
  generalize U (75 + 4 * 3 + p) = a3
  generalize U (75 + 4 * p + 0) = b0
  generalize U (75 + 4 * p + 1) = b1
  generalize U (75 + 4 * p + 2) = b2
  generalize U (75 + 4 * p + 3) = b3
  simp only [Int32.sub_eq_add_neg, Int32.neg_add]
  ac_rfl
end WOULD2
