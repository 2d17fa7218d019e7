/-! ## The law's board: debts around are cleared -/
theorem RG.row5 {B : ms_T} {T : Nat → Int32} (h : RG B T) (f : Nat → Int32) : RG (ms_set B 5 f) T :=
  ⟨fun i hi => by rw [lb_mn (by decide)]; exact h.q hi, fun i hi => by rw [lb_mn (by decide)]; exact h.p hi, fun i hi => by rw [lb_mn (by decide)]; exact h.o hi, fun i hi => by rw [lb_mn (by decide)]; exact h.d hi, fun i hi => by rw [lb_mn (by decide)]; exact h.g hi⟩
section CLEAR
variable {B : ms_T} {T : Nat → Int32} {v : Nat → Nat} {m : Nat} {rec8 : Int32 → Int32 → ms_T → Option (Int32 × ms_T)} {rec14 : Int32 → Int32 → Int32 → Int32 → ms_T → Option (Int32 × ms_T)} {rec28 : Int32 → Int32 → Int32 → Int32 → Int32 → ms_T → Option (Int32 × ms_T)} {rec83 : Int32 → Int32 → Int32 → Int32 → Int32 → Int32 → ms_T → Option (Int32 × ms_T)} {v0 v4 v7 v8 : Int32}
theorem ga_dI (hm4 : m ≤ 4) (hv : ∀ j, v j < 4) (hW : ∀ j, j ≤ m → B 5 j = nI (v j)) {k : Nat} (hk : k < m) : ∀ (r i n : Nat) (a : Int32), i + r = k → r < n → (a = 0 ∨ a = 1) →
    ∃ a' : Int32, ((a' = 1 ∧ a = 1 ∧ ∀ j, i ≤ j → j < k → v j ≠ v k) ∨ (a' = 0 ∧ (a = 0 ∨ ∃ j, i ≤ j ∧ j < k ∧ v j = v k))) ∧ f9_clear_L125 rec8 rec14 rec28 rec83 n v0 v4 v7 v8 a (nI k) (nI i) B = rec83 v0 v4 v7 v8 a' (nI (k + 1)) B
  | r, i, 0, a, _, hn, _ => by omega
  | 0, i, n + 1, a, hi, _, ha => by
    refine ⟨a, ?_, ?_⟩
    · rcases ha with rfl | rfl
      · exact Or.inr ⟨rfl, Or.inl rfl⟩
      · exact Or.inl ⟨rfl, rfl, fun j h1 h2 => by omega⟩
    · show f9_clear_b125 rec8 rec14 rec28 rec83 (f9_clear_L125 rec8 rec14 rec28 rec83 n) v0 v4 v7 v8 a (nI k) (nI i) B = _
      unfold f9_clear_b125
      rw [if_pos (nI_le (by omega) (by omega)), ga_p1]
  | r + 1, i, n + 1, a, hi, hn, ha => by
    show ∃ a' : Int32, _ ∧ f9_clear_b125 rec8 rec14 rec28 rec83 (f9_clear_L125 rec8 rec14 rec28 rec83 n) v0 v4 v7 v8 a (nI k) (nI i) B = _
    unfold f9_clear_b125 f9_clear_b154 f9_clear_b155
    rw [if_neg (nI_ge (by omega) (by omega)), ga_p1]
    have ih0 := ga_dI hm4 hv hW hk r (i + 1) n 0 (by omega) (by omega) (Or.inl rfl)
    have ih1 := ga_dI hm4 hv hW hk r (i + 1) n 1 (by omega) (by omega) (Or.inr rfl)
    rcases ha with rfl | rfl
    · obtain ⟨a', h1, h2⟩ := ih0
      rw [if_pos rfl]
      refine ⟨a', ?_, h2⟩
      rcases h1 with ⟨-, h1, -⟩ | ⟨h1, -⟩
      · exact absurd h1 (by decide)
      · exact Or.inr ⟨h1, Or.inl rfl⟩
    · rw [if_neg (show ¬ (1 : Int32) = 0 by decide), lb_ck (by omega) (by omega), lb_ck (by omega) (by omega), lb_cl (by omega), lb_cl (by omega), hW i (by omega), hW k (by omega)]
      have hvi := hv i
      have hvk := hv k
      by_cases e : v i = v k
      · obtain ⟨a', h1, h2⟩ := ih0
        rw [if_pos (by rw [e])]
        refine ⟨a', ?_, h2⟩
        rcases h1 with ⟨-, h1, -⟩ | ⟨h1, -⟩
        · exact absurd h1 (by decide)
        · exact Or.inr ⟨h1, Or.inr ⟨i, by omega, by omega, e⟩⟩
      · obtain ⟨a', h1, h2⟩ := ih1
        rw [if_neg (fun x => e ((lb_inj (by omega) (by omega)).mp x))]
        refine ⟨a', ?_, h2⟩
        rcases h1 with ⟨h1, -, h3⟩ | ⟨h1, h3⟩
        · refine Or.inl ⟨h1, rfl, fun j j1 j2 => ?_⟩
          by_cases ej : j = i
          · subst ej; exact e
          · exact h3 j (by omega) j2
        · rcases h3 with h3 | ⟨j, j1, j2, j3⟩
          · exact absurd h3 (by decide)
          · exact Or.inr ⟨h1, Or.inr ⟨j, by omega, j2, j3⟩⟩
abbrev gk_P (T : Nat → Int32) (v : Nat → Nat) (j : Nat) : Prop := mb_E T (v j) (v (j + 1)) ∧ ∀ i, i < j → v i ≠ v j
theorem ga_dO (hR : RG B T) (hm4 : m ≤ 4) (hv : ∀ j, v j < 4) (hW : ∀ j, j ≤ m → B 5 j = nI (v j)) : ∀ (r k n : Nat) (a : Int32), k + r = m → r < n → (a = 0 ∨ a = 1) →
    ∃ a' : Int32, ((a' = 1 ∧ a = 1 ∧ ∀ j, k ≤ j → j < m → gk_P T v j) ∨ (a' = 0 ∧ (a = 0 ∨ ∃ j, k ≤ j ∧ j < m ∧ ¬ gk_P T v j))) ∧ f9_clear_L83 rec8 rec14 rec28 n v0 v4 (nI m) v8 a (nI k) B = (if a' = 0 then f9_clear_b180 rec8 rec14 rec28 v0 v4 (nI m) v8 0 B else f9_clear_b180 rec8 rec14 rec28 v0 v4 (nI m) v8 (nI m) B)
  | r, k, 0, a, _, hn, _ => by omega
  | 0, k, n + 1, a, hk, _, ha => by
    refine ⟨a, ?_, ?_⟩
    · rcases ha with rfl | rfl
      · exact Or.inr ⟨rfl, Or.inl rfl⟩
      · exact Or.inl ⟨rfl, rfl, fun j h1 h2 => by omega⟩
    · show f9_clear_b83 rec8 rec14 rec28 (f9_clear_L83 rec8 rec14 rec28 n) v0 v4 (nI m) v8 a (nI k) B = _
      unfold f9_clear_b83
      rw [if_pos (nI_le (by omega) (by omega))]
  | r + 1, k, n + 1, a, hk, hn, ha => by
    have hkm : k < m := by omega
    have hfu : k < fo_fu := by show k < 1000; omega
    have inner : ∀ a1 : Int32, (a1 = 0 ∨ a1 = 1) → ((a1 = 1 ∧ a = 1 ∧ mb_E T (v k) (v (k + 1))) ∨ (a1 = 0 ∧ (a = 0 ∨ ¬ mb_E T (v k) (v (k + 1))))) → ∃ a' : Int32, ((a' = 1 ∧ a = 1 ∧ ∀ j, k ≤ j → j < m → gk_P T v j) ∨ (a' = 0 ∧ (a = 0 ∨ ∃ j, k ≤ j ∧ j < m ∧ ¬ gk_P T v j))) ∧ f9_clear_b120 rec8 rec14 rec28 (f9_clear_L83 rec8 rec14 rec28 n) v0 v4 (nI m) v8 (nI k) a1 B = (if a' = 0 then f9_clear_b180 rec8 rec14 rec28 v0 v4 (nI m) v8 0 B else f9_clear_b180 rec8 rec14 rec28 v0 v4 (nI m) v8 (nI m) B) := by
      intro a1 h1 h2
      unfold f9_clear_b120
      obtain ⟨a2, h3, h4⟩ := ga_dI (rec8 := rec8) (rec14 := rec14) (rec28 := rec28) (rec83 := f9_clear_L83 rec8 rec14 rec28 n) (v0 := v0) (v4 := v4) (v7 := nI m) (v8 := v8) hm4 hv hW hkm k 0 fo_fu a1 (by omega) hfu h1
      rw [show nI 0 = (0 : Int32) from rfl] at h4
      rw [h4]
      obtain ⟨a', h5, h6⟩ := ga_dO hR hm4 hv hW (k := k + 1) (r := r) (n := n) (a := a2) (by omega) (by omega) (by rcases h3 with ⟨h, -⟩ | ⟨h, -⟩; exact Or.inr h; exact Or.inl h)
      refine ⟨a', ?_, h6⟩
      rcases h5 with ⟨g1, g2, g3⟩ | ⟨g1, g2⟩
      · rcases h3 with ⟨-, k1, k2⟩ | ⟨k1, -⟩
        · rcases h2 with ⟨-, m1, m2⟩ | ⟨m1, -⟩
          · refine Or.inl ⟨g1, m1, fun j j1 j2 => ?_⟩
            by_cases ej : j = k
            · subst ej; exact ⟨m2, fun i hi => k2 i (by omega) hi⟩
            · exact g3 j (by omega) j2
          · rw [m1] at k1; exact absurd k1 (by decide)
        · rw [k1] at g2; exact absurd g2 (by decide)
      · refine Or.inr ⟨g1, ?_⟩
        rcases g2 with g2 | ⟨j, j1, j2, j3⟩
        · rcases h3 with ⟨k0, -, -⟩ | ⟨-, k2⟩
          · rw [k0] at g2; exact absurd g2 (by decide)
          · rcases k2 with k2 | ⟨j, j1, j2, j3⟩
            · rcases h2 with ⟨m0, -, -⟩ | ⟨-, m2⟩
              · rw [m0] at k2; exact absurd k2 (by decide)
              · rcases m2 with m2 | m2
                · exact Or.inl m2
                · exact Or.inr ⟨k, by omega, hkm, fun x => m2 x.1⟩
            · exact Or.inr ⟨k, by omega, hkm, fun x => x.2 j j2 j3⟩
        · exact Or.inr ⟨j, by omega, j2, j3⟩
    show ∃ a' : Int32, _ ∧ f9_clear_b83 rec8 rec14 rec28 (f9_clear_L83 rec8 rec14 rec28 n) v0 v4 (nI m) v8 a (nI k) B = _
    unfold f9_clear_b83 f9_clear_b119
    rw [if_neg (nI_ge (by omega) (by omega))]
    rcases ha with rfl | rfl
    · rw [if_pos rfl]
      exact inner 0 (Or.inl rfl) (Or.inr ⟨rfl, Or.inl rfl⟩)
    · have h1 := hv k
      have h2 := hv (k + 1)
      rw [if_neg (show ¬ (1 : Int32) = 0 by decide), ga_p1, lb_ck (by omega) (by omega), lb_ck (by omega) (by omega), lb_cl (by omega), lb_cl (by omega), hW k (by omega), hW (k + 1) (by omega), ga_4, lb_add, lb_ck (by omega) (by omega), lb_cl (by omega), hR.d (by omega), ← Nat.add_assoc]
      by_cases c : T (75 + 4 * v k + v (k + 1)) ≤ 0
      · rw [if_pos c]
        exact inner 0 (Or.inl rfl) (Or.inr ⟨rfl, Or.inr (fun x => lb_npos.mpr x c)⟩)
      · rw [if_neg c]
        exact inner 1 (Or.inr rfl) (Or.inl ⟨rfl, rfl, lb_npos.mp c⟩)
end CLEAR
theorem ga_isE {T : Nat → Int32} {p m c : Nat} (hp : p < 4) (hm : 2 ≤ m) (hm4 : m ≤ 4) (hc : c < 64) (dz : ∀ k, k < 4 → ¬ mb_E T k k) : mb_Is T p m c ↔ ∀ j, 0 ≤ j → j < m → gk_P T (mb_v p m c) j := by
  constructor
  · intro h j _ hj
    obtain ⟨h1, h2⟩ := lb_vd hp hm hm4 hc dz h
    exact ⟨h2 j hj, fun i hi => h1 i j hi hj⟩
  · intro h
    have h0 := h 0 (by omega) (by omega)
    have h1 := h 1 (by omega) (by omega)
    have n01 := h1.2 0 (by omega)
    have hm' : m = 2 ∨ m = 3 ∨ m = 4 := by omega
    rcases hm' with rfl | rfl | rfl
    · exact ⟨⟨fun e => n01 e.symm, h0.1, h1.1⟩, Or.inl (by omega), Or.inl (by omega)⟩
    · have h2 := h 2 (by omega) (by omega)
      have n02 := h2.2 0 (by omega)
      exact ⟨⟨fun e => n01 e.symm, h0.1, h1.1⟩, Or.inr ⟨fun e => n02 e.symm, h2.1⟩, Or.inl (by omega)⟩
    · have h2 := h 2 (by omega) (by omega)
      have h3 := h 3 (by omega) (by omega)
      have n02 := h2.2 0 (by omega)
      have n03 := h3.2 0 (by omega)
      have n13 := h3.2 1 (by omega)
      exact ⟨⟨fun e => n01 e.symm, h0.1, h1.1⟩, Or.inr ⟨fun e => n02 e.symm, h2.1⟩, Or.inr ⟨fun e => n03 e.symm, fun e => n13 e.symm, h3.1⟩⟩
