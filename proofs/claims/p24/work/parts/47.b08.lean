/-! ## Layer B: tolls -/
theorem lb_claimsC {P t : Nat} {B C A : Int} {S : ms_T} {T : Nat → Int32} (h : mb_I P t B C A T) (hR : RB S T) {p s : Nat} (hp : p < P) (hs : s < 20) (hT : T (51 + 6 * p + 1) = nI s) :
    ∃ S', f0_tryToClaim (nI p) S = some S' ∧ RB S' (if ¬ mb_owns T p s ∧ mb_free T s then mb_claims T p s else T) := by
  have hP := h.P4
  obtain ⟨x, hx, hx2⟩ := h.dr
  have a1 : S 7 p = nI s := by rw [hR.p (k := 1) (i := p) (by omega) (by omega), hT]
  unfold f0_tryToClaim f0_tryToClaim_b120
  rw [lb_at (by omega) (by omega), lb_bd, a1, lb_owns5 hR hs, lb_bd, lb_free5 hR hs, lb_bd]
  by_cases ho : mb_owns T p s
  · rw [if_pos ho, if_neg (show ¬ (1 : Int32) = 0 by decide), if_neg (by rintro ⟨h1, -⟩; exact h1 ho)]
    exact ⟨S, rfl, hR⟩
  · rw [if_neg ho, if_pos rfl]
    by_cases hf : mb_free T s
    · rw [if_pos hf, if_neg (show ¬ (1 : Int32) = 0 by decide), if_pos ⟨ho, hf⟩]
      have r1 := hR.draw (nI (mb_dx x))
      have a2 : f0_throwDie S = some (nI (mb_dv x), ms_set S 12 (upd (S 12) 2 (nI (mb_dx x)))) := lb_die0 (hR.z.2.2.1.trans hx) hx2
      have e5 : ms_set S 12 (upd (S 12) 2 (nI (mb_dx x))) 5 = S 5 := lb_mn (by omega)
      have e6 : ms_set S 12 (upd (S 12) 2 (nI (mb_dx x))) 6 = S 6 := lb_mn (by omega)
      rw [show f6_at 0 5 (1 : Int32) (S 5) = some (S 5 1) from lb_at (k := 1) (by omega) (by omega), lb_bd, a2, lb_bd]
      simp only [e5, e6]
      rw [show f6_at 0 5 (3 : Int32) (S 5) = some (S 5 3) from lb_at (k := 3) (by omega) (by omega), lb_bd, lb_at (k := p) (by omega) (by omega), lb_bd, hR.g (by omega), hR.g (by omega), hR.p (k := 0) (i := p) (by omega) (by omega)]
      unfold mb_claims
      rw [hx, lb_cl (by omega)]
      generalize hS1 : ms_set S 12 (upd (S 12) 2 (nI (mb_dx x))) = S1 at r1
      have e1 : upd T 8 (nI (mb_dx x)) 1 = T 1 := lb_un (by omega)
      have e11 : upd T 8 (nI (mb_dx x)) (11 + s) = T (11 + s) := lb_un (by omega)
      have e9 : upd T 8 (nI (mb_dx x)) 9 = T 9 := lb_un (by omega)
      have r6 := r1.p (k := 0) (i := p) (by omega) (by omega)
      generalize hT1 : upd T 8 (nI (mb_dx x)) = T1 at r1 e1 e11 e9 r6
      by_cases c1 : nI (mb_dv x) < T 3
      · rw [if_pos c1, if_pos c1]; exact ⟨_, rfl, r1⟩
      · rw [if_neg c1, if_neg c1, Nat.add_zero]
        by_cases c2 : T 1 ≤ T (51 + 6 * p)
        · rw [if_pos c2, if_pos c2]
          have ef : f5_firstOwner (nI s) S1 = some (T (11 + s)) := by
            unfold f5_firstOwner; rw [lb_at hs (by omega), lb_bd, r1.f hs, e11]
          have e66 : S 6 = S1 6 := by rw [← hS1, e6]
          rw [ef, lb_bd, e66, lb_radd (by omega) (by omega), lb_bd]
          unfold mb_took
          rw [e11, e1, e9]
          have r2 := r1.addP (k := 0) (i := p) (by omega) (by omega) (-(T 1))
          simp only [Nat.add_zero] at r2
          by_cases c3 : T (11 + s) = -6
          · rw [if_pos c3, if_pos c3]
            generalize hS2 : ms_set S1 6 (upd (S1 6) p (S1 6 p + -(T 1))) = S2 at r2
            have r3 := r2.setZ (i := 4) (by omega) (S2 12 4 + T 1)
            rw [show rb_ix 12 4 = 9 from rfl, r2.z.2.2.2.2.1, lb_an (by omega), e9] at r3
            rw [r2.z.2.2.2.2.1, lb_an (by omega), e9]
            unfold f5_giveFreePart
            have e0 : ms_set S2 12 (upd (S2 12) 4 (T 9 + T 1)) 0 s = -6 := by
              rw [r3.f hs, lb_un (by omega), lb_an (by omega), e11]; exact c3
            rw [lb_at hs (by omega), lb_bd, if_pos e0, lb_write hs (by omega), lb_bd, lb_bd]
            refine ⟨_, rfl, ?_⟩
            refine r3.roads ?_ ?_ ?_
            · intro i hi
              rw [lb_ms]
              by_cases hi2 : i = s
              · subst hi2; rw [lb_us, lb_un (by omega), lb_us]
              · rw [lb_un hi2, lb_un (by omega), lb_un (by omega), r3.f hi, lb_un (by omega)]
            · intro i hi
              rw [lb_mn (by omega), lb_un (by omega), lb_un (by omega), r3.s hi, lb_un (by omega)]
            · intro i hi
              by_cases hi2 : i = 9
              · subst hi2; rw [lb_us, lb_us]
              · rw [lb_un hi2, lb_un (by omega), lb_un hi2]
          · rw [if_neg c3, if_neg c3]
            rcases h.fo s hs with c4 | ⟨q, hq, c4⟩
            · exact absurd c4 c3
            · rw [c4, lb_cl (by omega)]
              generalize hS2 : ms_set S1 6 (upd (S1 6) p (S1 6 p + -(T 1))) = S2 at r2
              rw [lb_radd (by omega) (by omega), lb_bd]
              have r3 := r2.addP (k := 0) (i := q) (by omega) (by omega) (T 1)
              simp only [Nat.add_zero] at r3
              generalize hS3 : ms_set S2 6 (upd (S2 6) q (S2 6 q + T 1)) = S3 at r3
              unfold f5_giveFreePart
              have e0 : ¬ S3 0 s = -6 := by
                rw [r3.f hs, lb_an (by omega), lb_an (by omega), e11]; exact c3
              rw [lb_at hs (by omega), lb_bd, if_neg e0, lb_write hs (by omega), lb_bd, lb_bd]
              refine ⟨_, rfl, ?_⟩
              have hpq : (51 + 6 * q) ≠ 31 + s := by omega
              unfold mb_add at r3 ⊢
              refine r3.roads ?_ ?_ ?_
              · intro i hi
                rw [lb_mn (by omega), r3.f hi, lb_un (by omega), lb_un (by omega), lb_un (by omega), lb_un (by omega), lb_un (by omega)]
              · intro i hi
                rw [lb_ms]
                by_cases hi2 : i = s
                · subst hi2; rw [lb_us, lb_un (by omega), lb_us]
                · rw [lb_un hi2, r3.s hi, lb_un (by omega), lb_un (by omega), lb_un (by omega), lb_un (by omega), lb_un (by omega)]
              · intro i hi
                by_cases hi2 : i = 51 + 6 * q
                · subst hi2; rw [lb_us, lb_us, lb_un (by omega)]
                · rw [lb_un hi2, lb_un (by omega), lb_un hi2]
        · rw [if_neg c2, if_neg c2]; exact ⟨_, rfl, r1⟩
    · rw [if_neg hf, if_pos rfl, if_neg (by rintro ⟨-, h1⟩; exact hf h1)]
      exact ⟨S, rfl, hR⟩
def mb_tF (T : Nat → Int32) (o : Int32) : Nat → Nat → Nat → Nat
  | 0, _, a => a
  | r + 1, k, a => mb_tF T o r (k + 1) (a + if mb_sort k = 1 ∧ T (11 + k) = o then 1 else 0)
theorem lb_tFb {T : Nat → Int32} {o : Int32} : ∀ (r k a : Nat), a ≤ mb_tF T o r k a ∧ mb_tF T o r k a ≤ a + r
  | 0, k, a => ⟨Nat.le_refl _, Nat.le_refl _⟩
  | r + 1, k, a => by
    have h := lb_tFb (T := T) (o := o) r (k + 1) (a + if mb_sort k = 1 ∧ T (11 + k) = o then 1 else 0)
    show a ≤ mb_tF T o r (k + 1) _ ∧ mb_tF T o r (k + 1) _ ≤ _
    generalize mb_tF T o r (k + 1) (a + if mb_sort k = 1 ∧ T (11 + k) = o then 1 else 0) = z at h ⊢
    split at h <;> omega
theorem lb_tFs {T : Nat → Int32} {o : Int32} : ∀ (r k a : Nat), mb_tF T o r k (1 + a) = 1 + mb_tF T o r k a
  | 0, k, a => rfl
  | r + 1, k, a => by
    show mb_tF T o r (k + 1) (1 + a + _) = 1 + mb_tF T o r (k + 1) (a + _)
    rw [Nat.add_assoc]; exact lb_tFs r (k + 1) _
def mb_toll (T : Nat → Int32) (s : Nat) : Int32 := if T (11 + s) = -6 then 0 else T 2 * nI (mb_tF T (T (11 + s)) 5 (s / 5 * 5) 1)
theorem lb_toll8L {T : Nat → Int32} {o : Int32} {s : Nat} (hs : s < 20) : ∀ (r k n a : Nat), k + r = s / 5 * 5 + 5 → r < n → f8_tollOf_L27 n (nI s) o (nI a) (nI k) T = some (T 2 * nI (mb_tF T o r k a))
  | _, _, 0, _, _, h => by omega
  | 0, k, n + 1, a, hk, _ => by
    show f8_tollOf_b27 _ (nI s) o (nI a) (nI k) T = _
    unfold f8_tollOf_b27
    rw [show (5 : Int32) = nI 5 from rfl, lb_div (by omega) (by omega), lb_mul, lb_add, if_pos (nI_le (by omega) (by omega)), lb_k2, lb_c2]; rfl
  | r + 1, k, n + 1, a, hk, hn => by
    show f8_tollOf_b27 (f8_tollOf_L27 n) (nI s) o (nI a) (nI k) T = some (T 2 * nI (mb_tF T o r (k + 1) _))
    unfold f8_tollOf_b27 f8_tollOf_b67 f8_tollOf_b68
    rw [show (5 : Int32) = nI 5 from rfl, lb_div (by omega) (by omega), lb_mul, lb_add, if_neg (nI_ge (by omega) (by omega)), lb_sort8 k (by omega), lb_bd, lb_ix11, lb_ck (by omega) (by omega), lb_cl (by omega)]
    have hs1 : nI k + 1 = nI (k + 1) := (nI_succ k).symm
    have h3 : mb_sort k < 3 := by unfold mb_sort; split; omega; split <;> omega
    have e1 : nI (mb_sort k) = 1 ↔ mb_sort k = 1 := lb_inj (b := 1) (by omega) (by omega)
    have a1 : nI a + 1 = nI (a + 1) := lb_add a 1
    have a0 : nI a + 0 = nI a := Int32.add_zero _
    rw [hs1, a0, a1]
    by_cases c1 : mb_sort k = 1
    · rw [if_pos (e1.mpr c1)]
      by_cases c2 : T (11 + k) = o
      · rw [if_pos c2, if_pos ⟨c1, c2⟩]; exact lb_toll8L hs r (k + 1) n _ (by omega) (by omega)
      · rw [if_neg c2, if_neg (fun h => c2 h.2)]; exact lb_toll8L hs r (k + 1) n _ (by omega) (by omega)
    · rw [if_neg (fun h => c1 (e1.mp h)), if_neg (fun h => c1 h.1)]; exact lb_toll8L hs r (k + 1) n _ (by omega) (by omega)
theorem lb_toll8 {T : Nat → Int32} {s : Nat} (hs : s < 20) : f8_tollOf (nI s) T = some (mb_toll T s) := by
  unfold f8_tollOf mb_toll
  rw [lb_ix11, lb_ck (by omega) (by omega), lb_cl (by omega)]
  by_cases c : T (11 + s) = -6
  · rw [if_pos c, if_pos c]
  · rw [if_neg c, if_neg c, show (5 : Int32) = nI 5 from rfl, lb_div (by omega) (by omega), lb_mul]
    exact lb_toll8L hs 5 (s / 5 * 5) 1000 1 rfl (by omega)
theorem lb_toll5L {S : ms_T} {T : Nat → Int32} (hR : RB S T) {o w : Int32} {st : Nat} (hs : st ≤ 15) : ∀ (r k n a : Nat), k + r = st + 5 → r < n → f5_toll_L31 n w o (nI st) (nI a) (nI k) S = some (w * nI (1 + mb_tF T o r k a))
  | _, _, 0, _, _, h => by omega
  | 0, k, n + 1, a, hk, _ => by
    show f5_toll_b31 _ w o (nI st) (nI a) (nI k) S = _
    unfold f5_toll_b31
    rw [show (5 : Int32) = nI 5 from rfl, lb_add, if_pos (nI_le (by omega) (by omega)), show (1 : Int32) = nI 1 from rfl, lb_add]; rfl
  | r + 1, k, n + 1, a, hk, hn => by
    show f5_toll_b31 (f5_toll_L31 n) w o (nI st) (nI a) (nI k) S = some (w * nI (1 + mb_tF T o r (k + 1) _))
    unfold f5_toll_b31 f5_toll_b65
    rw [show (5 : Int32) = nI 5 from rfl, lb_add, if_neg (nI_ge (by omega) (by omega)), lb_sort5 k (by omega), lb_bd, lb_at (by omega) (by omega), lb_bd, hR.f (by omega)]
    have hs1 : nI k + 1 = nI (k + 1) := (nI_succ k).symm
    have h3 : mb_sort k < 3 := by unfold mb_sort; split; omega; split <;> omega
    have e1 : nI (mb_sort k) = 1 ↔ mb_sort k = 1 := lb_inj (b := 1) (by omega) (by omega)
    have a1 : nI a + 1 = nI (a + 1) := lb_add a 1
    rw [hs1, a1]
    by_cases c1 : mb_sort k = 1
    · rw [if_pos (e1.mpr c1)]
      by_cases c2 : T (11 + k) = o
      · rw [if_pos c2, if_pos ⟨c1, c2⟩]; exact lb_toll5L hR hs r (k + 1) n _ (by omega) (by omega)
      · rw [if_neg c2, if_neg (fun h => c2 h.2)]; exact lb_toll5L hR hs r (k + 1) n _ (by omega) (by omega)
    · rw [if_neg (fun h => c1 (e1.mp h)), if_neg (fun h => c1 h.1)]; exact lb_toll5L hR hs r (k + 1) n _ (by omega) (by omega)
theorem lb_toll5 {S : ms_T} {T : Nat → Int32} (hR : RB S T) {s : Nat} (hs : s < 20) : f5_toll (nI s) (T 2) S = some (mb_toll T s) := by
  unfold f5_toll mb_toll
  rw [lb_at hs (by omega), lb_bd, hR.f hs]
  by_cases c : T (11 + s) = -6
  · rw [if_pos c, if_pos c]
  · rw [if_neg c, if_neg c, show (5 : Int32) = nI 5 from rfl, lb_div (by omega) (by omega), lb_mul]
    have h := lb_toll5L hR (o := T (11 + s)) (w := T 2) (st := s / 5 * 5) (by omega) 5 (s / 5 * 5) 1000 0 rfl (by omega)
    rw [show 1 + mb_tF T (T (11 + s)) 5 (s / 5 * 5) 0 = mb_tF T (T (11 + s)) 5 (s / 5 * 5) 1 from (lb_tFs 5 (s / 5 * 5) 0).symm] at h
    exact h
