/-! ## The law's board: clear -/
theorem ga_f8ring {P t : Nat} {b C A : Int} {S : ms_T} {p : Nat} (hp : p < 4) (h : mb_I P t b C A (S 0)) {d c : Nat} (hd : 2 ≤ d) (hd4 : d ≤ 4) (hc : c < 64) (his : mb_Is (S 0) p d c) (hlt : ∀ c2, c2 < c → ¬ mb_Is (S 0) p d c2) :
    ∃ S1, f8_findRing (nI p) (nI d) S = some (1, S1) ∧ f8_clearsRing S1 = some (mb_ls (S 0) (mb_v p d c) (d - 1) 1 (S 0 (75 + 4 * mb_v p d c 0 + mb_v p d c 1)), ms_set S1 0 (mb_cl (mb_v p d c) (mb_ls (S 0) (mb_v p d c) (d - 1) 1 (S 0 (75 + 4 * mb_v p d c 0 + mb_v p d c 1))) d 0 (S 0))) ∧
      (∀ g, g ≠ 6 → g ≠ 8 → S1 g = S g) ∧ (∀ i, i ≠ 5 → S1 8 i = S 8 i) := by
  have hv := fun j => lb_v4 (m := d) hp hc j
  rcases lb_find (S := S) hp hd hd4 with ⟨a, b⟩ | ⟨c', S', q1, q2, q3, q4, q5, q6, q7, q8⟩
  · exact absurd his (b c hc)
  · have ecc : c' = c := by
      by_cases y1 : c' < c
      · exact absurd q2 (hlt c' y1)
      · by_cases y2 : c < c'
        · exact absurd his (q3 c y2)
        · omega
    subst ecc
    have S0 : S' 0 = S 0 := q5 0 (by omega) (by omega)
    refine ⟨S', q4, ?_, q5, q6⟩
    unfold f8_clearsRing
    rw [show ∀ {β : Type} (k : Option β), fo_ck (0 : Int32) 4 k = k from fun k => lb_ck (i := 0) (n := 4) (by omega) (by omega), show ∀ {β : Type} (k : Option β), fo_ck (1 : Int32) 4 k = k from fun k => lb_ck (i := 1) (n := 4) (by omega) (by omega), lb_c0, lb_c1, q8 0 (by omega), q8 1 (by omega), S0, lb_debt (hv 0) (hv 1), lb_bd]
    rw [show f8_clearsRing_L19 fo_fu (S 0 (75 + 4 * mb_v p d c' 0 + mb_v p d c' 1)) 1 S' = _ from lb_lsL hd hd4 hv q7 q8 (d - 1) 1 1000 _ (by omega) (by omega) (by omega), S0]
    have := lb_clL (l := mb_ls (S 0) (mb_v p d c') (d - 1) 1 (S 0 (75 + 4 * mb_v p d c' 0 + mb_v p d c' 1))) hd hd4 hv d 0 1000 S' (by omega) (by omega) q7 q8
    rw [S0] at this
    exact this
theorem ga_clL {P t : Nat} {A b C : Int} (hA : 0 ≤ A) {p : Nat} (hp : p < 4) : ∀ (N n9 n8 : Nat) (s : Int32) (S B : ms_T), mb_cq (S 0) 16 ≤ N → N < n9 → N < n8 → mb_I P t b C A (S 0) → (∀ i, i < 16 → (S 0 (75 + i)).toInt ≤ 999999) → RG B (S 0) →
    ∃ r B' S', f9_clear_L8 n9 (nI p) s B = some (r, B') ∧ f8_clears_L2 n8 (nI p) s S = some (r, S') ∧ RG B' (S' 0) ∧ (∀ i, i < 16 → (S' 0 (75 + i)).toInt ≤ (S 0 (75 + i)).toInt) ∧ (∀ i, i < 75 → S' 0 i = S 0 i)
  | N, n9, n8, s, S, B, hq, h9, h8, h, hbd, hR => by
    obtain ⟨n9, rfl⟩ : ∃ n', n9 = n' + 1 := ⟨n9 - 1, by omega⟩
    obtain ⟨n8, rfl⟩ : ∃ n', n8 = n' + 1 := ⟨n8 - 1, by omega⟩
    have dz : ∀ k, k < 4 → ¬ mb_E (S 0) k k := fun k hk h0 => by
      have := h.cz k k hk hk (Or.inl rfl)
      have h0' : 0 < S 0 (75 + 4 * k + k) := h0
      rw [this] at h0'
      exact absurd h0' (by decide)
    have e8 : f8_clears_L2 (n8 + 1) (nI p) s S = f8_clears_b2 (f8_clears_L2 n8) (nI p) s S := rfl
    have e9 : f9_clear_L8 (n9 + 1) (nI p) s B = f9_clear_L14 (f9_clear_L8 n9) fo_fu (nI p) s 0 2 B := rfl
    have hfu : 3 < fo_fu := by show 3 < 1000; omega
    have nofind : ∀ m, 2 ≤ m → m ≤ 4 → (∀ c', c' < 64 → ¬ mb_Is (S 0) p m c') → f8_findRing (nI p) (nI m) S = some (0, S) := by
      intro m h1 h2 h3
      rcases lb_find (S := S) hp h1 h2 with ⟨a, -⟩ | ⟨c', S', a, b, -⟩
      · exact a
      · exact absurd b (h3 c' a)
    have h14 := ga_14 (rec8 := f9_clear_L8 n9) (v4 := s) hp dz 3 2 fo_fu B (by omega) (by omega) hfu hR (fun m' c' a1 a2 _ => by omega)
    rw [show nI 2 = (2 : Int32) from rfl] at h14
    rw [e9]
    rcases h14 with ⟨B', r1, no, f1⟩ | ⟨d, c, B', hd, hd4, hc, his, hlt, hno, r1, w1, f1⟩
    · refine ⟨s, B', S, f1, ?_, r1, fun i _ => Int.le_refl _, fun _ _ => rfl⟩
      rw [e8]
      unfold f8_clears_b2
      rw [show f8_findRing (nI p) (2 : Int32) S = some (0, S) from nofind 2 (by omega) (by omega) (fun c' h => no 2 c' (by omega) (by omega) h), lb_bd, if_pos rfl, show f8_findRing (nI p) (3 : Int32) S = some (0, S) from nofind 3 (by omega) (by omega) (fun c' h => no 3 c' (by omega) (by omega) h), lb_bd, if_pos rfl, show f8_findRing (nI p) (4 : Int32) S = some (0, S) from nofind 4 (by omega) (by omega) (fun c' h => no 4 c' (by omega) (by omega) h), lb_bd, if_pos rfl]
    · have hv := fun j => lb_v4 (m := d) hp hc j
      obtain ⟨di, he⟩ := lb_vd hp hd hd4 hc dz his
      have e0 := he 0 (by omega)
      obtain ⟨l1, l2, j3, l3, l4⟩ := lb_lsP he (d - 1) 1 (S 0 (75 + 4 * mb_v p d c 0 + mb_v p d c 1)) (by omega) (by omega) e0 (fun j hj => by
        have : j = 0 := by omega
        subst this; exact lb_le.mpr (Int.le_refl _)) ⟨0, by omega, rfl⟩
      obtain ⟨S1, k1, k2, k3, k4⟩ := ga_f8ring hp h hd hd4 hc his hlt
      have els : gm_ls (S 0) (mb_v p d c) d 0 999999 = mb_ls (S 0) (mb_v p d c) (d - 1) 1 (S 0 (75 + 4 * mb_v p d c 0 + mb_v p d c 1)) := by
        obtain ⟨d', rfl⟩ : ∃ d', d = d' + 1 := ⟨d - 1, by omega⟩
        show gm_ls (S 0) (mb_v p (d' + 1) c) d' 1 (if (999999 : Int32) ≤ S 0 (75 + 4 * mb_v p (d' + 1) c 0 + mb_v p (d' + 1) c 1) then 999999 else S 0 (75 + 4 * mb_v p (d' + 1) c 0 + mb_v p (d' + 1) c 1)) = _
        rw [gm_lsE _ _ _ (by omega), Nat.add_sub_cancel]
        congr 1
        have v0 := hv 0
        have v1 := hv 1
        have hb := hbd (4 * mb_v p (d' + 1) c 0 + mb_v p (d' + 1) c 1) (by omega)
        rw [← Nat.add_assoc] at hb
        by_cases g : (999999 : Int32) ≤ S 0 (75 + 4 * mb_v p (d' + 1) c 0 + mb_v p (d' + 1) c 1)
        · rw [if_pos g, lb_eq]
          rw [lb_le] at g
          have : (999999 : Int32).toInt = 999999 := rfl
          omega
        · rw [if_neg g]
      generalize hl : mb_ls (S 0) (mb_v p d c) (d - 1) 1 (S 0 (75 + 4 * mb_v p d c 0 + mb_v p d c 1)) = l at l1 l2 l4 els k2
      obtain ⟨i1, i2, i3, i4, -, -⟩ := lb_clI hA hv di l1 d 0 (S 0) (by omega) h (fun j a b => l2 j b)
      have hdf : d < fo_fu := by show d < 1000; omega
      have f2 := ga_lsE (rec8 := f9_clear_L8 n9) (v4 := s) hd4 hv r1 w1 (v0 := nI p) d 0 fo_fu 999999 (by omega) hdf
      rw [show nI 0 = (0 : Int32) from rfl, els] at f2
      obtain ⟨B2, r2, m2, f3⟩ := ga_clC hA hd4 hv di l1 (v0 := nI p) (v4 := s) (rec8 := f9_clear_L8 n9) d 0 fo_fu B' (S 0) (by omega) hdf r1 h w1 (fun j _ hj => l2 j hj)
      rw [show nI 0 = (0 : Int32) from rfl] at f3
      rw [f1, f2, f3]
      have hcq : mb_cq (mb_cl (mb_v p d c) l d 0 (S 0)) 16 < mb_cq (S 0) 16 := by
        have a3 := hv j3; have a4 := hv (j3 + 1)
        have cc := h.co (4 * mb_v p d c j3 + mb_v p d c (j3 + 1)) (by omega)
        have bc := h.bC
        rw [show 75 + (4 * mb_v p d c j3 + mb_v p d c (j3 + 1)) = 75 + 4 * mb_v p d c j3 + mb_v p d c (j3 + 1) by omega] at cc
        refine lb_cqS 16 i3 ⟨4 * mb_v p d c j3 + mb_v p d c (j3 + 1), by omega, ?_, ?_⟩
        · rw [show 75 + (4 * mb_v p d c j3 + mb_v p d c (j3 + 1)) = 75 + 4 * mb_v p d c j3 + mb_v p d c (j3 + 1) by omega]; exact he j3 l3
        · rw [show 75 + (4 * mb_v p d c j3 + mb_v p d c (j3 + 1)) = 75 + 4 * mb_v p d c j3 + mb_v p d c (j3 + 1) by omega, i4 j3 (by omega) l3, ← l4]
          rw [← l4] at cc
          have l1' := l1
          rw [lb_0lt] at l1' ⊢
          have n1 : (-l).toInt = -l.toInt := lb_neg_toInt (by omega)
          rw [lb_add_toInt (by omega) (by omega), n1]; omega
      obtain ⟨N, rfl⟩ : ∃ N', N = N' + 1 := ⟨N - 1, by omega⟩
      have S20 : ms_set S1 0 (mb_cl (mb_v p d c) l d 0 (S 0)) 0 = mb_cl (mb_v p d c) l d 0 (S 0) := lb_ms _ _ _
      obtain ⟨r, B', S', z1, z2, z3, z4, z5⟩ := ga_clL hA hp N n9 n8 (s + l) (ms_set S1 0 (mb_cl (mb_v p d c) l d 0 (S 0))) B2 (by rw [S20]; omega) (by omega) (by omega) (by rw [S20]; exact i1) (by
        rw [S20]
        intro i hi
        exact Int.le_trans (m2 i hi) (hbd i hi)) (by rw [S20]; exact r2)
      rw [S20] at z4 z5
      refine ⟨r, B', S', z1, ?_, z3, fun i hi => Int.le_trans (z4 i hi) (m2 i hi), fun i hi => by rw [z5 i hi, i2 i hi]⟩
      rw [e8]
      unfold f8_clears_b2 f8_clears_b29
      have z10 : ¬ (1 : Int32) = 0 := by decide
      have : d = 2 ∨ d = 3 ∨ d = 4 := by omega
      rcases this with rfl | rfl | rfl
      · rw [show f8_findRing (nI p) (2 : Int32) S = some (1, S1) from k1, lb_bd, if_neg z10, k2, lb_bd]; exact z2
      · rw [show f8_findRing (nI p) (2 : Int32) S = some (0, S) from nofind 2 (by omega) (by omega) (fun c' h => hno 2 c' (by omega) (by omega) h), lb_bd, if_pos rfl, show f8_findRing (nI p) (3 : Int32) S = some (1, S1) from k1, lb_bd, if_neg z10, k2, lb_bd]; exact z2
      · rw [show f8_findRing (nI p) (2 : Int32) S = some (0, S) from nofind 2 (by omega) (by omega) (fun c' h => hno 2 c' (by omega) (by omega) h), lb_bd, if_pos rfl, show f8_findRing (nI p) (3 : Int32) S = some (0, S) from nofind 3 (by omega) (by omega) (fun c' h => hno 3 c' (by omega) (by omega) h), lb_bd, if_pos rfl, show f8_findRing (nI p) (4 : Int32) S = some (1, S1) from k1, lb_bd, if_neg z10, k2, lb_bd]; exact z2
/-- the law's clear and the row's -/
theorem ga_clear {P t : Nat} {A b C : Int} (hA : 0 ≤ A) {p : Nat} (hp : p < 4) {S B : ms_T} (h : mb_I P t b C A (S 0)) (hbd : ∀ i, i < 16 → (S 0 (75 + i)).toInt ≤ 999999) (hR : RG B (S 0)) :
    ∃ r B' S', f9_clear (nI p) 0 (ms_set B 5 (fun _ => 0)) = some (r, B') ∧ f8_clears (nI p) S = some (r, S') ∧ RG B' (S' 0) ∧ (∀ i, i < 16 → (S' 0 (75 + i)).toInt ≤ (S 0 (75 + i)).toInt) ∧ (∀ i, i < 75 → S' 0 i = S 0 i) := by
  have hfu : 16 < fo_fu := by show 16 < 1000; omega
  exact ga_clL hA hp 16 fo_fu fo_fu 0 S (ms_set B 5 (fun _ => 0)) (lb_cqB 16) hfu hfu h hbd (hR.row5 _)
