/-! ## Layer B: a turn -/
def mb_loseOne (T : Nat → Int32) (p q s : Nat) : Nat → Int32 := mb_add (mb_addD (mb_hand T p s q) p q (-(T (75 + 4 * p + q)))) (51 + 6 * p + 5) 1
def mb_lose : Nat → (Nat → Int32) → Nat → (Nat → Int32)
  | 0, T, _ => T
  | k + 1, T, p => if mb_old T p 0 = -6 then T else if T 4 < T (91 + 4 * p + (mb_old T p 0).toNatClampNeg) then (if mb_low T p = -6 then T else mb_lose k (mb_loseOne T p (mb_old T p 0).toNatClampNeg (mb_low T p).toNatClampNeg) p) else T
theorem mb_I.loseOne {P t : Nat} {B C A : Int} {T : Nat → Int32} (h : mb_I P t B C A T) (hA : 0 ≤ A) {p q s : Nat} (hp : p < 4) (hq : q < 4) (hc : 0 < T (75 + 4 * p + q)) (hs : s < 20) (ho : mb_owns T p s) : mb_I P t B C A (mb_loseOne T p q s) ∧ (∀ j, j < 4 → j ≠ q → mb_loseOne T p q s (75 + 4 * p + j) = T (75 + 4 * p + j)) ∧ mb_loseOne T p q s (75 + 4 * p + q) = 0 := by
  obtain ⟨h1, h2, h3⟩ := h.pos hp hq hc
  have hP := h.P4
  have g1 := h.hand h2 hs ho hp
  have cc := h.co (4 * p + q) (by omega)
  rw [show 75 + (4 * p + q) = 75 + 4 * p + q by omega] at cc
  have bc := h.bC
  have e1 : mb_hand T p s q (75 + 4 * p + q) = T (75 + 4 * p + q) := lb_handOld (by omega) hs
  have n1 : (-(T (75 + 4 * p + q))).toInt = -(T (75 + 4 * p + q)).toInt := lb_neg_toInt (by omega)
  have s1 : (T (75 + 4 * p + q) + -(T (75 + 4 * p + q))).toInt = 0 := by rw [lb_add_toInt (by omega) (by omega), n1]; omega
  unfold mb_loseOne
  refine ⟨?_, ?_, ?_⟩
  · refine mb_I.free ?_ h1 (by omega) (by omega) _
    refine g1.addD h1 h2 h3 ?_ (Int.le_refl _) hA bc
    rw [e1, s1]; omega
  · intro j hj hn
    rw [lb_an (by omega), lb_addDn (by omega) (by omega), lb_handOld (by omega) hs]
  · rw [lb_an (by omega), lb_addDs, e1, lb_eq0, s1]
/-- where nothing is lost any more -/
theorem lb_loseZ {P t : Nat} {B C A : Int} {T : Nat → Int32} (h : mb_I P t B C A T) {p : Nat} (hp : p < 4) : ∀ (n d : Nat), d < 16 → 16 - d < n → ((∀ j, j < 4 → mb_el T p d j → ¬ T 4 < T (91 + 4 * p + j)) ∨ mb_low T p = -6) → f8_growsOlder_L58 n (nI p) (nI d) (mb_old T p d) T = some T
  | 0, d, _, hn, _ => by omega
  | n + 1, d, hd, hn, hN => by
    show f8_growsOlder_b58 (f8_growsOlder_L58 n) (nI p) (nI d) (mb_old T p d) T = some T
    unfold f8_growsOlder_b58 f8_growsOlder_b127
    have hP := h.P4
    rcases lb_oldC T p d with ⟨h1, -⟩ | ⟨q, hq, h1, h2, -⟩
    · rw [if_pos h1]
    · have rest : fo_bd (f8_oldest (nI p) (nI (d ||| 1 <<< q)) T) (fun q130 => f8_growsOlder_L58 n (nI p) (nI (d ||| 1 <<< q)) q130 T) = some T := by
        rw [lb_old8 h.h6 hP hp (lb_bitL d hd q hq) (fun k h3 h4 => h.cz p k hp h4 (Or.inr (Or.inr h3))), lb_bd]
        have := lb_bitU d hd q hq h2.2
        refine lb_loseZ h hp n _ (lb_bitL d hd q hq) (by omega) ?_
        rcases hN with hN | hN
        · left
          intro j hj he
          refine hN j hj ⟨he.1, ?_⟩
          have hb := he.2
          rw [lb_bitT d hd q hq j hj] at hb
          cases hx : d.testBit j
          · rfl
          · rw [hx] at hb; simp at hb
        · exact Or.inr hN
      rw [h1, if_neg (lb_n6 (by omega)), lb_low8, lb_bd, lb_age hp hq, lb_bd, lb_k4, lb_c4, lb_bitS d hd q hq]
      by_cases h5 : T (91 + 4 * p + q) ≤ T 4
      · rw [if_pos h5]; exact rest
      · rw [if_neg h5]
        rcases hN with hN | hN
        · exact absurd (lb_nle.mp h5) (hN q hq h2)
        · rw [if_pos hN]; exact rest
theorem lb_lose8L {P t : Nat} {B C A : Int} (hA : 0 ≤ A) {p : Nat} (hp : p < 4) : ∀ (k n d : Nat) (T : Nat → Int32), mb_I P t B C A T → mb_cnt T p ≤ k → (∀ j, j < 4 → d.testBit j = true → T (75 + 4 * p + j) = 0) → d < 16 → k + 17 < n →
    f8_growsOlder_L58 n (nI p) (nI d) (mb_old T p d) T = some (mb_lose k T p) ∧ mb_I P t B C A (mb_lose k T p)
  | _, 0, _, _, _, _, _, _, h => by omega
  | k, n + 1, d, T, h, hk, hb, hd, hn => by
    have hP := h.P4
    have hel : ∀ j, j < 4 → (mb_el T p d j ↔ mb_el T p 0 j) := by
      intro j hj
      unfold mb_el
      by_cases hc : 0 < T (75 + 4 * p + j)
      · have : d.testBit j = false := by
          cases hx : d.testBit j
          · rfl
          · rw [hb j hj hx] at hc; exact absurd hc (by decide)
        rw [this]; simp
      · exact ⟨fun e => absurd e.1 hc, fun e => absurd e.1 hc⟩
    have hold : mb_old T p d = mb_old T p 0 := lb_oldE hel (fun j hj => rfl)
    rcases lb_oldC T p d with ⟨h1, h1'⟩ | ⟨q, hq, h1, h2, h3⟩
    · have e : mb_lose k T p = T := by
        cases k with
        | zero => rfl
        | succ k =>
          show (if mb_old T p 0 = -6 then T else _) = T
          rw [← hold, if_pos h1]
      rw [e]
      refine ⟨?_, h⟩
      show f8_growsOlder_b58 (f8_growsOlder_L58 n) (nI p) (nI d) (mb_old T p d) T = some T
      unfold f8_growsOlder_b58
      rw [if_pos h1]
    · have hc := h2.1
      obtain ⟨k, rfl⟩ : ∃ k', k = k' + 1 := ⟨k - 1, by have := lb_cntP hq hc; omega⟩
      have e : mb_lose (k + 1) T p = if T 4 < T (91 + 4 * p + q) then (if mb_low T p = -6 then T else mb_lose k (mb_loseOne T p q (mb_low T p).toNatClampNeg) p) else T := by
        show (if mb_old T p 0 = -6 then T else if T 4 < T (91 + 4 * p + (mb_old T p 0).toNatClampNeg) then (if mb_low T p = -6 then T else mb_lose k (mb_loseOne T p (mb_old T p 0).toNatClampNeg (mb_low T p).toNatClampNeg) p) else T) = _
        rw [← hold, h1, if_neg (lb_n6 (by omega)), lb_cl (by omega)]
      by_cases h5 : T 4 < T (91 + 4 * p + q)
      · rcases lb_lwC (T := T) (p := p) 20 0 rfl with h6 | ⟨s, hs, h6, h7⟩
        · have h6' : mb_low T p = -6 := h6
          rw [e, if_pos h5, if_pos h6']
          exact ⟨lb_loseZ h hp (n + 1) d hd (by omega) (Or.inr h6'), h⟩
        · have h6' : mb_low T p = nI s := h6
          obtain ⟨g1, g2, g3⟩ := h.loseOne hA hp hq hc hs h7
          rw [e, if_pos h5, h6', if_neg (lb_n6 (by omega)), lb_cl (by omega)]
          have step : f8_growsOlder_L58 (n + 1) (nI p) (nI d) (mb_old T p d) T = f8_growsOlder_L58 n (nI p) (nI (d ||| 1 <<< q)) (mb_old (mb_loseOne T p q s) p (d ||| 1 <<< q)) (mb_loseOne T p q s) := by
            show f8_growsOlder_b58 (f8_growsOlder_L58 n) (nI p) (nI d) (mb_old T p d) T = _
            unfold f8_growsOlder_b58 f8_growsOlder_b127
            rw [h1, if_neg (lb_n6 (by omega)), lb_low8, lb_bd, lb_age hp hq, lb_bd, lb_k4, lb_c4, lb_bitS d hd q hq, if_neg (lb_nle.mpr h5), h6', if_neg (lb_n6 (by omega)), lb_hand8 hs, lb_bd, lb_debt hp hq, lb_bd, lb_handOld (by omega) hs, lb_addD hp hq, lb_bd, lb_adds5 hp, lb_bd]
            show fo_bd (f8_oldest (nI p) (nI (d ||| 1 <<< q)) (mb_loseOne T p q s)) _ = _
            rw [lb_old8 g1.h6 hP hp (lb_bitL d hd q hq) (fun k h3 h4 => g1.cz p k hp h4 (Or.inr (Or.inr h3))), lb_bd]
            rfl
          rw [step]
          refine lb_lose8L hA hp k n _ _ g1 ?_ ?_ (lb_bitL d hd q hq) (by omega)
          · have := lb_cntL (T' := mb_loseOne T p q s) hq hc (by rw [g3]; decide) g2
            omega
          · intro j hj hb'
            rw [lb_bitT d hd q hq j hj] at hb'
            by_cases e : j = q
            · subst e; exact g3
            · rw [g2 j hj e]
              refine hb j hj ?_
              simpa [e] using hb'
      · rw [e, if_neg h5]
        refine ⟨lb_loseZ h hp (n + 1) d hd (by omega) (Or.inl ?_), h⟩
        intro j hj he
        have h8 := h3 j hj he
        rw [lb_nlt] at h5 ⊢
        rw [lb_le] at h5 h8 ⊢
        omega
theorem lb_grow8L {P t : Nat} {B C A : Int} (hA : 0 ≤ A) (hA1 : A + 1 ≤ 1000000000) {p : Nat} (hp : p < 4) : ∀ (r k n : Nat) (T : Nat → Int32), k + r = 4 → r < n → mb_I P t B C (A + 1) T → (∀ j, k ≤ j → j < 4 → (T (91 + 4 * p + j)).toInt ≤ A) →
    f8_growsOlder_L2 n (nI p) (nI k) T = some (mb_lose 4 (mb_ol p r k T) p) ∧ mb_I P t B C (A + 1) (mb_lose 4 (mb_ol p r k T) p)
  | _, _, 0, _, _, h, _, _ => by omega
  | r, k, n + 1, T, hk, hn, h, ha => by
    have hP := h.P4
    have cz := fun k h3 h4 => h.cz p k hp h4 (Or.inr (Or.inr h3))
    show f8_growsOlder_b2 (f8_growsOlder_L2 n) (nI p) (nI k) T = _ ∧ _
    unfold f8_growsOlder_b2 f8_growsOlder_b41
    rw [lb_k6, lb_c6, h.h6]
    by_cases hPk : P ≤ k
    · rw [if_pos (nI_le hPk (by omega)), lb_olZ r k T (fun j h1 h2 => cz j (by omega) (by omega))]
      have e := lb_old8 (d := 0) h.h6 hP hp (by omega) cz
      rw [show f8_oldest (nI p) (0 : Int32) T = some (mb_old T p 0) from e, lb_bd]
      exact lb_lose8L (by omega) hp 4 1000 0 T h (lb_cnt4 T p) (fun j hj hb => by simp at hb) (by omega) (by omega)
    · obtain ⟨r, rfl⟩ : ∃ r', r = r' + 1 := ⟨r - 1, by omega⟩
      have ix : ((91 : Int32) + 4 * nI p + nI k) = nI (91 + 4 * p + k) := by
        rw [show (91 : Int32) = nI 91 from rfl, show (4 : Int32) = nI 4 from rfl, lb_mul, lb_add, lb_add]
      have hs : nI k + 1 = nI (k + 1) := (nI_succ k).symm
      rw [if_neg (nI_ge (by omega) (by omega)), ix, lb_ck (by omega) (by omega), lb_debt hp (by omega), lb_bd, lb_cl (by omega), lb_ck (by omega) (by omega), lb_ck (by omega) (by omega), hs]
      have hol : mb_ol p (r + 1) k T = mb_ol p r (k + 1) (if 0 < T (75 + 4 * p + k) then upd T (91 + 4 * p + k) (T (91 + 4 * p + k) + 1) else T) := rfl
      rw [hol]
      by_cases hc : 0 < T (75 + 4 * p + k)
      · rw [if_neg (by rw [lb_npos]; exact hc), if_pos hc]
        obtain ⟨h1, h2, h3⟩ := h.pos hp (by omega) hc
        have a1 := h.ag (4 * p + k) (by omega)
        rw [show 91 + (4 * p + k) = 91 + 4 * p + k by omega] at a1
        have a2 := ha k (by omega) (by omega)
        have s1 : (T (91 + 4 * p + k) + 1).toInt = (T (91 + 4 * p + k)).toInt + 1 := lb_add_toInt (by rw [show (1 : Int32).toInt = 1 from rfl]; omega) (by rw [show (1 : Int32).toInt = 1 from rfl]; omega)
        have cc := h.co (4 * p + k) (by omega)
        rw [show 75 + (4 * p + k) = 75 + 4 * p + k by omega] at cc
        have g := h.setDebt (C' := C) (A' := A + 1) h1 h2 h3 (x := T (75 + 4 * p + k)) (y := T (91 + 4 * p + k) + 1) cc (by rw [s1]; omega) (fun e => by rw [e] at hc; exact absurd hc (by decide)) (Int.le_refl _) (Int.le_refl _) h.bC hA1
        rw [lb_ui] at g
        refine lb_grow8L hA hA1 hp r (k + 1) n _ (by omega) (by omega) g ?_
        intro j h4 h5
        rw [lb_un (by omega)]; exact ha j (by omega) h5
      · rw [if_pos (by rw [← lb_npos] at hc; exact Decidable.not_not.mp hc), if_neg hc, Int32.add_zero, lb_ui]
        exact lb_grow8L hA hA1 hp r (k + 1) n T (by omega) (by omega) h (fun j h4 h5 => ha j (by omega) h5)
theorem lb_grow8 {P t : Nat} {B C A : Int} (hA : 0 ≤ A) (hA1 : A + 1 ≤ 1000000000) {p : Nat} (hp : p < 4) {T : Nat → Int32} (h : mb_I P t B C A T) : f8_growsOlder (nI p) T = some (mb_lose 4 (mb_older T p) p) ∧ mb_I P t B C (A + 1) (mb_lose 4 (mb_older T p) p) := by
  refine lb_grow8L hA hA1 hp 4 0 1000 T rfl (by omega) (h.up (Int.le_refl _) (Int.le_refl _) (by omega) h.bB h.bC hA1) ?_
  intro j h1 h2
  have a1 := h.ag (4 * p + j) (by omega)
  rw [show 91 + (4 * p + j) = 91 + 4 * p + j by omega] at a1
  exact a1.2
theorem lb_loseC {P t : Nat} {B C A : Int} (hA : 0 ≤ A) {p : Nat} (hp : p < 4) : ∀ (k i n : Nat) (S : ms_T) (T : Nat → Int32), mb_I P t B C A T → RB S T → i + k = 4 → k < n →
    ∃ S', f0_loseSquares_L2 n (nI p) (nI i) S = some S' ∧ RB S' (mb_lose k T p)
  | _, _, 0, _, _, _, _, _, h => by omega
  | 0, i, n + 1, S, T, h, hR, hk, hn => by
    refine ⟨S, ?_, hR⟩
    show f0_loseSquares_b2 _ (nI p) (nI i) S = some S
    unfold f0_loseSquares_b2
    rw [show (4 : Int32) = nI 4 from rfl, if_pos (nI_le (by omega) (by omega))]
  | k + 1, i, n + 1, S, T, h, hR, hk, hn => by
    have ho : f1_oldestOf (nI p) (ms_from S 2) = some (mb_old T p 0) := lb_old1 hp (fun i hi => hR.c hi) (fun i hi => hR.a i hi) (fun i hi => ⟨(h.co i hi).1, (h.ag i hi).1⟩)
    have hi4 : ¬ (4 : Int32) ≤ nI i := nI_ge (b := 4) (by omega) (by omega)
    show ∃ S', f0_loseSquares_b2 (f0_loseSquares_L2 n) (nI p) (nI i) S = some S' ∧ RB S' (if mb_old T p 0 = -6 then T else if T 4 < T (91 + 4 * p + (mb_old T p 0).toNatClampNeg) then (if mb_low T p = -6 then T else mb_lose k (mb_loseOne T p (mb_old T p 0).toNatClampNeg (mb_low T p).toNatClampNeg) p) else T)
    unfold f0_loseSquares_b2
    rw [if_neg hi4, ho, lb_bd]
    rcases lb_oldC T p 0 with ⟨h1, -⟩ | ⟨q, hq, h1, h2, -⟩
    · rw [if_pos h1, if_pos h1]; exact ⟨S, rfl, hR⟩
    · have hc := h2.1
      have hne : T (75 + 4 * p + q) ≠ 0 := by intro e; rw [e] at hc; exact absurd hc (by decide)
      have ea : f1_ageOf (nI p) (nI q) (ms_from S 2) = some (T (91 + 4 * p + q)) := by
        unfold f1_ageOf
        have e0 : S 3 (p * 4 + q) = T (91 + 4 * p + q) := by
          rw [hR.a _ (by omega), show 75 + (p * 4 + q) = 75 + 4 * p + q by omega, show 91 + (p * 4 + q) = 91 + 4 * p + q by omega, if_neg hne]
        rw [show (4 : Int32) = nI 4 from rfl, lb_mul, lb_add, lb_at (by omega) (by omega), lb_bd]
        exact congrArg some e0
      rw [h1, if_neg (lb_n6 (by omega)), if_neg (lb_n6 (by omega)), lb_cl (by omega), ea, lb_bd, show f6_at 0 5 (4 : Int32) (S 5) = some (S 5 4) from lb_at (k := 4) (by omega) (by omega), lb_bd, hR.g (by omega), lb_low5 hR, lb_bd]
      by_cases h5 : T 4 < T (91 + 4 * p + q)
      · rw [if_pos h5, if_pos h5]
        rcases lb_lwC (T := T) (p := p) 20 0 rfl with h6 | ⟨s, hs, h6, h7⟩
        · have h6' : mb_low T p = -6 := h6
          rw [if_pos h6', if_pos h6']; exact ⟨S, rfl, hR⟩
        · have h6' : mb_low T p = nI s := h6
          rw [h6', if_neg (lb_n6 (by omega)), if_neg (lb_n6 (by omega)), lb_cl (by omega)]
          obtain ⟨D1, e1, r1⟩ := lb_handC hR (p := p) (s := s) (q := q) hs
          rw [e1, lb_bd]
          generalize hS1 : ms_sub S 0 2 D1 = S1 at r1
          have ec : f1_coinsOf (nI p) (nI q) (ms_from S1 2) = some (T (75 + 4 * p + q)) := by
            unfold f1_coinsOf
            have e0 : S1 2 (p * 4 + q) = T (75 + 4 * p + q) := by rw [r1.c (by omega), lb_handOld (by omega) hs]; congr 1; omega
            rw [show (4 : Int32) = nI 4 from rfl, lb_mul, lb_add, lb_at (by omega) (by omega), lb_bd]
            exact congrArg some e0
          rw [ec, lb_bd]
          obtain ⟨D2, e2, r2⟩ := lb_shrink r1 (p := p) (q := q) (x := T (75 + 4 * p + q)) hp hq (by rw [lb_handOld (by omega) hs]; exact hne)
          rw [e2, lb_bd]
          generalize hS2 : ms_sub S1 2 3 D2 = S2 at r2
          rw [lb_radd hp (by omega), lb_bd]
          have r3 := r2.addP (k := 5) (i := p) hp (by omega) 1
          have hs1 : nI i + 1 = nI (i + 1) := (nI_succ i).symm
          rw [hs1]
          exact lb_loseC hA hp k (i + 1) n _ _ (h.loseOne hA hp hq hc hs h7).1 r3 (by omega) (by omega)
      · rw [if_neg h5, if_neg h5]; exact ⟨S, rfl, hR⟩
theorem lb_pd7 {p : Nat} : ∀ (k : Nat) (T : Nat → Int32), mb_pd k T p 7 = T 7
  | 0, _ => rfl
  | k + 1, T => by
    show (if T (51 + 6 * p) ≤ 0 then T else if mb_old T p 0 = -6 then T else mb_pd k (mb_payOne T p (mb_old T p 0).toNatClampNeg) p) 7 = T 7
    split
    · rfl
    · split
      · rfl
      · rw [lb_pd7 k]
        unfold mb_payOne mb_pay
        rw [lb_addDn (by omega) (by omega), lb_an (by omega), lb_an (by omega), lb_an (by omega), lb_an (by omega)]
theorem lb_goes7 {T : Nat → Int32} {p : Nat} : mb_goes T p 7 = T 7 := by
  unfold mb_goes mb_goesX mb_add
  split
  · rw [lb_un (by omega), lb_un (by omega), lb_un (by omega)]
  · rw [lb_un (by omega), lb_un (by omega), lb_un (by omega), lb_un (by omega), lb_un (by omega)]
theorem lb_pt7 {T : Nat → Int32} {p q : Nat} {c : Int32} : mb_pt T p q c 7 = T 7 := by
  have e : ∀ x, mb_pay T p q x 7 = T 7 := fun x => by
    unfold mb_pay
    rw [lb_an (by omega), lb_an (by omega), lb_an (by omega), lb_an (by omega)]
  unfold mb_pt
  split
  · exact e _
  · rw [lb_addDn (by omega) (by omega)]; exact e _
theorem lb_claims7 {T : Nat → Int32} {p s : Nat} : mb_claims T p s 7 = T 7 := by
  have e : ∀ x, upd T 8 x 7 = T 7 := fun x => lb_un (by omega)
  unfold mb_claims
  split
  · exact e _
  · split
    · unfold mb_took
      split
      · rw [lb_un (by omega), lb_un (by omega), lb_an (by omega)]; exact e _
      · rw [lb_an (by omega), lb_un (by omega), lb_an (by omega)]; exact e _
    · exact e _
theorem lb_arr7 {T : Nat → Int32} {p s : Nat} : mb_arr T p s 7 = T 7 := by
  have e : (if ¬ mb_owns T p s ∧ mb_free T s then mb_claims T p s else T) 7 = T 7 := by
    split
    · exact lb_claims7
    · rfl
  unfold mb_arr
  generalize (if ¬ mb_owns T p s ∧ mb_free T s then mb_claims T p s else T) = U at e
  rw [← e]
  unfold mb_tolls
  split
  · split
    · exact lb_pt7
    · rw [lb_pt7, lb_pt7]
  · rfl
theorem lb_lose7 {p : Nat} : ∀ (k : Nat) (T : Nat → Int32), mb_lose k T p 7 = T 7
  | 0, _ => rfl
  | k + 1, T => by
    show (if mb_old T p 0 = -6 then T else if T 4 < T (91 + 4 * p + (mb_old T p 0).toNatClampNeg) then (if mb_low T p = -6 then T else mb_lose k (mb_loseOne T p (mb_old T p 0).toNatClampNeg (mb_low T p).toNatClampNeg) p) else T) 7 = T 7
    split
    · rfl
    · split
      · split
        · rfl
        · rw [lb_lose7 k]
          unfold mb_loseOne
          rw [lb_an (by omega), lb_addDn (by omega) (by omega)]
          unfold mb_hand
          split
          · rw [lb_un (by omega), lb_un (by omega)]
          · rw [lb_un (by omega)]
      · rfl
/-! the turn -/
def mb_place (T : Nat → Int32) (p : Nat) : Nat := (T (51 + 6 * p + 1)).toNatClampNeg
def mb_turnP (T : Nat → Int32) (p P t : Nat) : Nat → Int32 :=
  upd (upd (mb_add (mb_lose 4 (mb_older (mb_arr (mb_goes (mb_pd 4 T p) p) p (mb_place (mb_goes (mb_pd 4 T p) p) p)) p) p) (51 + 6 * p + 4) 1) 7 (nI ((p + 1) % P))) 5 (nI (t + 1))
def mb_turn (T : Nat → Int32) : Nat → Int32 := mb_turnP T (T 7).toNatClampNeg (T 6).toNatClampNeg (T 5).toNatClampNeg
theorem lb_turn8 {P t : Nat} {B C A : Int} {T : Nat → Int32} (h : mb_I P t B C A T) (hP0 : 0 < P) (ht : t < 20000) (hA : 0 ≤ A) (bB : B + 99 ≤ 1000000000) (bC : C + 1188 ≤ 1000000000) (bA : A + 1 ≤ 1000000000) : f8_turn T = some (mb_turn T) ∧ mb_I P (t + 1) (B + 99) (C + 1188) (A + 1) (mb_turn T) := by
  have hP := h.P4
  obtain ⟨p, h7, hp⟩ := h.h7
  have hp : p < P := by omega
  have e : mb_turn T = mb_turnP T p P t := by
    unfold mb_turn; rw [h7, h.h6, h.h5, lb_cl (by omega), lb_cl (by omega), lb_cl (by omega)]
  rw [e]
  obtain ⟨a1, i1⟩ := lb_pd8 hA (p := p) (by omega) h
  obtain ⟨a2, i2⟩ := lb_goes8 i1 hp bB
  obtain ⟨s, hs, hs2⟩ := i2.pl' (p := p) (by omega)
  obtain ⟨a3, i3⟩ := lb_arr8 i2 hp hs hA bC
  obtain ⟨a4, i4⟩ := lb_grow8 hA bA (p := p) (by omega) i3
  have i5 := i4.free hp (k := 4) (by omega) (by omega) (mb_lose 4 (mb_older (mb_arr (mb_goes (mb_pd 4 T p) p) p s) p) p (51 + 6 * p + 4) + 1)
  have hm : (p + 1) % P < P := Nat.mod_lt _ hP0
  have i6 := i5.setTurn hm ht
  unfold mb_turnP mb_place
  rw [hs2, lb_cl (by omega)]
  refine ⟨?_, i6⟩
  unfold f8_turn
  rw [lb_k7, lb_c7, h7, a1, lb_bd, a2, lb_bd, lb_part1 (by omega), lb_bd, hs2, a3, lb_bd, a4, lb_bd, lb_adds4 (by omega), lb_bd, lb_k6, lb_c6, lb_k7, lb_k5, lb_k5, lb_c5]
  rw [i5.h6]
  unfold fo_nz
  rw [if_neg (nI_ne0 hP0 (by omega)), show (1 : Int32) = nI 1 from rfl, lb_add, lb_mod (by omega) (by omega)]
  have e5 : upd (upd (mb_lose 4 (mb_older (mb_arr (mb_goes (mb_pd 4 T p) p) p s) p) p) (51 + 6 * p + 4) (mb_lose 4 (mb_older (mb_arr (mb_goes (mb_pd 4 T p) p) p s) p) p (51 + 6 * p + 4) + nI 1)) 7 (nI ((p + 1) % P)) 5 = nI t := by
    rw [lb_un (by omega)]; exact i5.h5
  rw [e5, lb_add]
  rfl
theorem lb_turnC {P t : Nat} {B C A : Int} {S : ms_T} {T : Nat → Int32} (h : mb_I P t B C A T) (hR : RB S T) (hP0 : 0 < P) (ht : t < 20000) (hA : 0 ≤ A) (bB : B + 99 ≤ 1000000000) (bC : C + 1188 ≤ 1000000000) (bA : A + 1 ≤ 1000000000) : ∃ S', f0_takeTurn S = some S' ∧ RB S' (mb_turn T) := by
  have hP := h.P4
  obtain ⟨p, h7, hp⟩ := h.h7
  have hp : p < P := by omega
  have e : mb_turn T = mb_turnP T p P t := by
    unfold mb_turn; rw [h7, h.h6, h.h5, lb_cl (by omega), lb_cl (by omega), lb_cl (by omega)]
  rw [e]
  obtain ⟨a1, i1⟩ := lb_pd8 hA (p := p) (by omega) h
  obtain ⟨a2, i2⟩ := lb_goes8 i1 hp bB
  obtain ⟨s, hs, hs2⟩ := i2.pl' (p := p) (by omega)
  obtain ⟨a3, i3⟩ := lb_arr8 i2 hp hs hA bC
  obtain ⟨a4, i4⟩ := lb_grow8 hA bA (p := p) (by omega) i3
  have i5 := i4.free hp (k := 4) (by omega) (by omega) (mb_lose 4 (mb_older (mb_arr (mb_goes (mb_pd 4 T p) p) p s) p) p (51 + 6 * p + 4) + 1)
  obtain ⟨S1, c1, r1⟩ := lb_pdC hA (p := p) (by omega) h hR
  obtain ⟨S2, c2, r2⟩ := lb_goes0 i1 r1 hp
  obtain ⟨S3, c3, r3⟩ := lb_claimsC i2 r2 hp hs hs2
  have z := hR.z
  unfold mb_turnP mb_place
  rw [hs2, lb_cl (by omega)]
  have i3' : mb_I P t (B + 99) C A (if ¬ mb_owns (mb_goes (mb_pd 4 T p) p) p s ∧ mb_free (mb_goes (mb_pd 4 T p) p) s then mb_claims (mb_goes (mb_pd 4 T p) p) p s else mb_goes (mb_pd 4 T p) p) := by
    split
    · next hh => exact i2.claims hp hs hh.2 hh.1
    · exact i2
  have hs3 : (if ¬ mb_owns (mb_goes (mb_pd 4 T p) p) p s ∧ mb_free (mb_goes (mb_pd 4 T p) p) s then mb_claims (mb_goes (mb_pd 4 T p) p) p s else mb_goes (mb_pd 4 T p) p) (51 + 6 * p + 1) = nI s := by
    split
    · have hf := i2.fo s hs
      rw [lb_claimsOld (Or.inl (by omega)) (by
        rcases hf with hf | ⟨q, hq, hf⟩
        · exact ⟨0, Or.inr hf⟩
        · exact ⟨q, Or.inl ⟨hf, by omega⟩⟩) hs]
      exact hs2
    · exact hs2
  obtain ⟨S4, c4, r4⟩ := lb_tollsC i3' r3 hp hs hs3 hA bC
  obtain ⟨D5, c5, r5⟩ := lb_olderC (by exact i3) r4 (p := p) (by omega)
  have io := i3.older (p := p) (by omega) hA bA
  obtain ⟨S6, c6, r6⟩ := lb_loseC (by omega) (p := p) (by omega) 4 0 1000 _ _ io r5 rfl (by omega)
  have r7 := r6.addP (k := 4) (i := p) (by omega) (by omega) 1
  unfold f0_takeTurn f0_takeTurn_b89
  rw [z.1, h.h6, if_neg (nI_ne0 hP0 (by omega)), z.2.1, h7, c1, lb_bd, c2, lb_bd, c3, lb_bd, c4, lb_bd, c5, lb_bd]
  rw [show f0_loseSquares (nI p) (ms_sub S4 2 3 D5) = some S6 from c6, lb_bd, lb_radd (by omega) (by omega), lb_bd]
  have r7' : RB (ms_set S6 10 (upd (S6 10) p (S6 10 p + 1))) (mb_add (mb_lose 4 (mb_older (mb_arr (mb_goes (mb_pd 4 T p) p) p s) p) p) (51 + 6 * p + 4) 1) := r7
  generalize hS7 : ms_set S6 10 (upd (S6 10) p (S6 10 p + 1)) = S7 at r7'
  have z7 := r7'.z
  have q5 : (mb_add (mb_lose 4 (mb_older (mb_arr (mb_goes (mb_pd 4 T p) p) p s) p) p) (51 + 6 * p + 4) 1) 5 = nI t := i5.h5
  have q6 : (mb_add (mb_lose 4 (mb_older (mb_arr (mb_goes (mb_pd 4 T p) p) p s) p) p) (51 + 6 * p + 4) 1) 6 = nI P := i5.h6
  have q7 : (mb_add (mb_lose 4 (mb_older (mb_arr (mb_goes (mb_pd 4 T p) p) p s) p) p) (51 + 6 * p + 4) 1) 7 = nI p := by
    rw [lb_an (by omega), lb_lose7]
    unfold mb_older
    rw [lb_olOld 4 0 _ 7 (by omega), lb_arr7, lb_goes7, lb_pd7]; exact h7
  generalize hT7 : (mb_add (mb_lose 4 (mb_older (mb_arr (mb_goes (mb_pd 4 T p) p) p s) p) p) (51 + 6 * p + 4) 1) = T7 at r7' z7 q5 q6 q7
  have r8 := r7'.setZ (i := 3) (by omega) (S7 12 3 + 1)
  have r8' : RB (ms_set S7 12 (upd (S7 12) 3 (S7 12 3 + 1))) (upd T7 5 (S7 12 3 + 1)) := r8
  have t1 : S7 12 3 + 1 = nI (t + 1) := by rw [z7.2.2.2.1, q5, nI_succ]
  rw [t1] at r8' ⊢
  generalize hS8 : ms_set S7 12 (upd (S7 12) 3 (nI (t + 1))) = S8 at r8'
  have z8 := r8'.z
  have w0 : S8 12 0 = nI P := by rw [z8.1, lb_un (by omega), q6]
  have w1 : S8 12 1 + 1 = nI (p + 1) := by rw [z8.2.1, lb_un (by omega), q7, nI_succ]
  rw [w0, w1]
  have fin : ∀ m, m = (p + 1) % P → RB (ms_set S8 12 (upd (S8 12) 1 (nI m))) (upd (upd T7 7 (nI ((p + 1) % P))) 5 (nI (t + 1))) := by
    intro m hm
    have r9 := r8'.setZ (i := 1) (by omega) (nI m)
    rw [hm] at r9 ⊢
    have e : upd (upd T7 7 (nI ((p + 1) % P))) 5 (nI (t + 1)) = upd (upd T7 5 (nI (t + 1))) 7 (nI ((p + 1) % P)) := lb_uc (by omega)
    rw [e]; exact r9
  by_cases hc : P ≤ p + 1
  · rw [if_pos (nI_le hc (by omega))]
    exact ⟨_, rfl, fin 0 (by rw [show p + 1 = P by omega, Nat.mod_self])⟩
  · rw [if_neg (nI_ge (by omega) (by omega))]
    exact ⟨_, rfl, fin (p + 1) (Nat.mod_eq_of_lt (by omega)).symm⟩
