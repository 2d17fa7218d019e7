/-! ## Layer B: chains of debts -/
def mb_R (T : Nat → Int32) (x : Nat) : Nat → Nat → Prop
  | 0, y => y = x
  | n + 1, y => ∃ k, k < 4 ∧ mb_R T x n k ∧ 0 < T (75 + 4 * k + y)
theorem lb_R1 {T : Nat → Int32} {x y : Nat} (hx : x < 4) : mb_R T x 1 y ↔ 0 < T (75 + 4 * x + y) :=
  ⟨fun ⟨k, _, h2, h3⟩ => by rw [show k = x from h2] at h3; exact h3, fun h => ⟨x, hx, rfl, h⟩⟩
theorem lb_pig (a : Nat) (ha : a < 4) (b : Nat) (hb : b < 4) (c : Nat) (hc : c < 4) (d : Nat) (hd : d < 4) (e : Nat) (he : e < 4) : a = b ∨ a = c ∨ a = d ∨ a = e ∨ b = c ∨ b = d ∨ b = e ∨ c = d ∨ c = e ∨ d = e := by
  omega
theorem lb_R5 {T : Nat → Int32} {x y : Nat} (hy : y < 4) (h : mb_R T x 5 y) : ∃ d, 1 ≤ d ∧ d ≤ 4 ∧ mb_R T x d y := by
  obtain ⟨v4, l4, h4, e4⟩ := h
  obtain ⟨v3, l3, h3, e3⟩ := h4
  obtain ⟨v2, l2, h2, e2⟩ := h3
  obtain ⟨v1, l1, h1, e1⟩ := h2
  have r1 : mb_R T x 1 v1 := h1
  have r2 : mb_R T x 2 v2 := ⟨v1, l1, h1, e1⟩
  have r3 : mb_R T x 3 v3 := ⟨v2, l2, r2, e2⟩
  have r4 : mb_R T x 4 v4 := ⟨v3, l3, r3, e3⟩
  rcases lb_pig v1 l1 v2 l2 v3 l3 v4 l4 y hy with rfl | rfl | rfl | rfl | rfl | rfl | rfl | rfl | rfl | rfl
  · exact ⟨4, by omega, by omega, v4, l4, ⟨v3, l3, ⟨v1, l1, r1, e2⟩, e3⟩, e4⟩
  · exact ⟨3, by omega, by omega, v4, l4, ⟨v1, l1, r1, e3⟩, e4⟩
  · exact ⟨2, by omega, by omega, v1, l1, r1, e4⟩
  · exact ⟨1, by omega, by omega, r1⟩
  · exact ⟨4, by omega, by omega, v4, l4, ⟨v2, l2, r2, e3⟩, e4⟩
  · exact ⟨3, by omega, by omega, v2, l2, r2, e4⟩
  · exact ⟨2, by omega, by omega, r2⟩
  · exact ⟨4, by omega, by omega, v3, l3, r3, e4⟩
  · exact ⟨3, by omega, by omega, r3⟩
  · exact ⟨4, by omega, by omega, r4⟩
theorem lb_R4 {T : Nat → Int32} {x : Nat} : ∀ (n y : Nat), y < 4 → 1 ≤ n → mb_R T x n y → ∃ d, 1 ≤ d ∧ d ≤ 4 ∧ mb_R T x d y
  | 0, _, _, h, _ => by omega
  | 1, y, hy, _, h => ⟨1, by omega, by omega, h⟩
  | n + 2, y, hy, _, h => by
    obtain ⟨k, h1, h2, h3⟩ := h
    obtain ⟨d, a, b, c⟩ := lb_R4 (n + 1) k h1 (by omega) h2
    by_cases e : d = 4
    · subst e; exact lb_R5 hy ⟨k, h1, c, h3⟩
    · exact ⟨d + 1, by omega, by omega, k, h1, c, h3⟩
abbrev mb_Ds (T : Nat → Int32) (x y : Nat) (r : Int32) : Prop := (∃ d, 1 ≤ d ∧ d ≤ 4 ∧ r = nI d ∧ mb_R T x d y ∧ ∀ e, 1 ≤ e → e < d → ¬ mb_R T x e y) ∨ (r = -6 ∧ ∀ d, 1 ≤ d → d ≤ 4 → ¬ mb_R T x d y)
theorem mb_Ds.uniq {T : Nat → Int32} {x y : Nat} {r r' : Int32} (h : mb_Ds T x y r) (h' : mb_Ds T x y r') : r = r' := by
  rcases h with ⟨d, a1, a2, a3, a4, a5⟩ | ⟨a1, a2⟩
  · rcases h' with ⟨e, b1, b2, b3, b4, b5⟩ | ⟨b1, b2⟩
    · have : d = e := by
        by_cases c1 : d < e
        · exact absurd a4 (b5 d a1 c1)
        · by_cases c2 : e < d
          · exact absurd b4 (a5 e b1 c2)
          · omega
      rw [a3, b3, this]
    · exact absurd a4 (b2 d a1 a2)
  · rcases h' with ⟨e, b1, b2, b3, b4, b5⟩ | ⟨b1, b2⟩
    · exact absurd b4 (a2 e b1 b2)
    · rw [a1, b1]
/-! the class's -/
theorem lb_bit1 : ∀ d, d < 16 → ∀ k, k < 4 → ((((nI d >>> (nI k &&& 31)) &&& (1 : Int32)) = 1) ↔ d.testBit k = true) := by decide
theorem lb_dsI {D : ms_T} {T : Nat → Int32} (h0 : ∀ i, i < 16 → D 0 i = T (75 + i)) {rec7 : Int32 → Int32 → Int32 → ms_T → Option Int32} {c m s : Nat} (hc : c < 4) (hm : m < 16) : ∀ (r v n f : Nat), v + r = 16 → r < n → f < 16 →
    ∃ f', f' < 16 ∧ (∀ y, y < 4 → (f'.testBit y = true ↔ f.testBit y = true ∨ ∃ p, v ≤ p ∧ p < 16 ∧ p % 4 = y ∧ m.testBit (p / 4) = true ∧ 0 < T (75 + p))) ∧ f1_distance_L19 rec7 n (nI c) (nI m) (nI s) (nI f) (nI v) D = if f'.testBit c = true then some (nI s) else rec7 (nI c) (nI f') (nI (s + 1)) D
  | _, _, 0, _, _, h, _ => by omega
  | 0, v, n + 1, f, hv, hn, hf => by
    refine ⟨f, hf, ?_, ?_⟩
    · intro y hy
      constructor
      · exact Or.inl
      · rintro (h | ⟨p, h1, h2, -⟩)
        · exact h
        · omega
    · show f1_distance_b19 rec7 _ (nI c) (nI m) (nI s) (nI f) (nI v) D = _
      unfold f1_distance_b19
      rw [show (16 : Int32) = nI 16 from rfl, if_pos (nI_le (by omega) (by omega)), nI_succ]
      by_cases e : f.testBit c = true
      · rw [if_pos e, if_pos ((lb_bit1 f hf c hc).mpr e)]
      · rw [if_neg e, if_neg (fun e2 => e ((lb_bit1 f hf c hc).mp e2))]
  | r + 1, v, n + 1, f, hv, hn, hf => by
    have hs : nI v + 1 = nI (v + 1) := (nI_succ v).symm
    have e4 : nI v / (4 : Int32) = nI (v / 4) := lb_div (b := 4) (by omega) (by omega)
    have m4 : nI v - nI v / (4 : Int32) * (4 : Int32) = nI (v % 4) := lb_mod (b := 4) (by omega) (by omega)
    have hv4 : v / 4 < 4 := by omega
    have hvm : v % 4 < 4 := by omega
    show ∃ f', f' < 16 ∧ _ ∧ f1_distance_b19 rec7 (f1_distance_L19 rec7 n) (nI c) (nI m) (nI s) (nI f) (nI v) D = _
    unfold f1_distance_b19 f1_distance_b61
    rw [show (16 : Int32) = nI 16 from rfl, if_neg (nI_ge (by omega) (by omega)), m4, e4, lb_at (by omega) (by omega), lb_bd, h0 _ (by omega), hs, lb_bitS f hf _ hvm]
    by_cases c1 : m.testBit (v / 4) = true
    · rw [if_pos ((lb_bit1 m hm _ hv4).mpr c1)]
      by_cases c2 : T (75 + v) ≤ 0
      · rw [if_pos c2]
        obtain ⟨f', u1, u2, u3⟩ := lb_dsI h0 (rec7 := rec7) (s := s) hc hm r (v + 1) n f (by omega) (by omega) hf
        refine ⟨f', u1, ?_, u3⟩
        intro y hy
        rw [u2 y hy]
        constructor
        · rintro (h | ⟨p, h1, h2⟩)
          · exact Or.inl h
          · exact Or.inr ⟨p, by omega, h2⟩
        · rintro (h | ⟨p, h1, h2, h3, h4, h5⟩)
          · exact Or.inl h
          · by_cases e : p = v
            · subst e; exact absurd c2 (lb_npos.mpr h5)
            · exact Or.inr ⟨p, by omega, h2, h3, h4, h5⟩
      · rw [if_neg c2]
        obtain ⟨f', u1, u2, u3⟩ := lb_dsI h0 (rec7 := rec7) (s := s) hc hm r (v + 1) n (f ||| 1 <<< (v % 4)) (by omega) (by omega) (lb_bitL f hf _ hvm)
        refine ⟨f', u1, ?_, u3⟩
        intro y hy
        rw [u2 y hy, lb_bitT f hf _ hvm y hy]
        constructor
        · rintro (h | ⟨p, h1, h2⟩)
          · rcases (Bool.or_eq_true _ _).mp h with h | h
            · exact Or.inl h
            · exact Or.inr ⟨v, by omega, by omega, (by simpa using h : y = v % 4).symm, c1, lb_npos.mp c2⟩
          · exact Or.inr ⟨p, by omega, h2⟩
        · rintro (h | ⟨p, h1, h2, h3, h4, h5⟩)
          · left; rw [h]; rfl
          · by_cases e : p = v
            · subst e; left; rw [h3]; simp
            · exact Or.inr ⟨p, by omega, h2, h3, h4, h5⟩
    · rw [if_neg (fun e2 => c1 ((lb_bit1 m hm _ hv4).mp e2))]
      obtain ⟨f', u1, u2, u3⟩ := lb_dsI h0 (rec7 := rec7) (s := s) hc hm r (v + 1) n f (by omega) (by omega) hf
      refine ⟨f', u1, ?_, u3⟩
      intro y hy
      rw [u2 y hy]
      constructor
      · rintro (h | ⟨p, h1, h2⟩)
        · exact Or.inl h
        · exact Or.inr ⟨p, by omega, h2⟩
      · rintro (h | ⟨p, h1, h2, h3, h4, h5⟩)
        · exact Or.inl h
        · by_cases e : p = v
          · subst e; exact absurd h4 c1
          · exact Or.inr ⟨p, by omega, h2, h3, h4, h5⟩
theorem lb_dsL {D : ms_T} {T : Nat → Int32} (h0 : ∀ i, i < 16 → D 0 i = T (75 + i)) {x c : Nat} (hc : c < 4) : ∀ (r s n m : Nat), s + r = 5 → r < n → 1 ≤ s → m < 16 → (∀ y, y < 4 → (m.testBit y = true ↔ mb_R T x (s - 1) y)) → (∀ e, 1 ≤ e → e < s → ¬ mb_R T x e c) →
    ∃ v, f1_distance_L7 n (nI c) (nI m) (nI s) D = some v ∧ mb_Ds T x c v
  | _, _, 0, _, _, h, _, _, _, _ => by omega
  | 0, s, n + 1, m, hs, hn, h1, hm, hR, hN => by
    refine ⟨-6, ?_, Or.inr ⟨rfl, fun d a b => hN d a (by omega)⟩⟩
    show f1_distance_b7 _ (nI c) (nI m) (nI s) D = _
    unfold f1_distance_b7
    rw [show (4 : Int32) = nI 4 from rfl, if_pos (nI_lt (by omega) (by omega))]
  | r + 1, s, n + 1, m, hs, hn, h1, hm, hR, hN => by
    show ∃ v, f1_distance_b7 (f1_distance_L7 n) (nI c) (nI m) (nI s) D = some v ∧ mb_Ds T x c v
    unfold f1_distance_b7
    rw [show (4 : Int32) = nI 4 from rfl, if_neg (nI_nlt (by omega) (by omega))]
    obtain ⟨f', u1, u2, u3⟩ := lb_dsI h0 (rec7 := f1_distance_L7 n) (s := s) hc hm 16 0 1000 0 rfl (by omega) (by omega)
    rw [show f1_distance_L19 (f1_distance_L7 n) fo_fu (nI c) (nI m) (nI s) 0 0 D = _ from u3]
    have hR' : ∀ y, y < 4 → (f'.testBit y = true ↔ mb_R T x s y) := by
      intro y hy
      rw [u2 y hy]
      obtain ⟨s', rfl⟩ : ∃ s', s = s' + 1 := ⟨s - 1, by omega⟩
      constructor
      · rintro (h | ⟨p, a1, a2, a3, a4, a5⟩)
        · simp at h
        · refine ⟨p / 4, by omega, (hR (p / 4) (by omega)).mp a4, ?_⟩
          rw [show 75 + 4 * (p / 4) + y = 75 + p by omega]; exact a5
      · rintro ⟨k, a1, a2, a3⟩
        refine Or.inr ⟨4 * k + y, by omega, by omega, by omega, ?_, ?_⟩
        · rw [show (4 * k + y) / 4 = k by omega]; exact (hR k a1).mpr a2
        · rw [show 75 + (4 * k + y) = 75 + 4 * k + y by omega]; exact a3
    by_cases e : f'.testBit c = true
    · rw [if_pos e]
      exact ⟨nI s, rfl, Or.inl ⟨s, h1, by omega, rfl, (hR' c hc).mp e, hN⟩⟩
    · rw [if_neg e]
      refine lb_dsL h0 hc r (s + 1) n f' (by omega) (by omega) (by omega) u1 (by rw [Nat.add_sub_cancel]; exact hR') ?_
      intro d a b
      by_cases e2 : d = s
      · subst e2; exact fun hd => e ((hR' c hc).mpr hd)
      · exact hN d a (by omega)
theorem lb_bitO : ∀ x, x < 4 → (1 : Int32) <<< (nI x &&& 31) = nI (1 <<< x) ∧ 1 <<< x < 16 ∧ ∀ y, y < 4 → ((1 <<< x).testBit y = true ↔ y = x) := by decide
theorem lb_dist {D : ms_T} {T : Nat → Int32} (h0 : ∀ i, i < 16 → D 0 i = T (75 + i)) {x c : Nat} (hx : x < 4) (hc : c < 4) : ∃ v, f1_distance (nI x) (nI c) D = some v ∧ mb_Ds T x c v := by
  obtain ⟨b1, b2, b3⟩ := lb_bitO x hx
  unfold f1_distance
  rw [b1]
  exact lb_dsL h0 hc 4 1 1000 (1 <<< x) rfl (by omega) (by omega) b2 b3 (fun e a b => by omega)
/-! the reference's -/
abbrev mb_Le (b : Nat → Int32) (i d : Nat) : Prop := ∃ n, n ≤ d ∧ n < 2000 ∧ b i = nI n
abbrev mb_N (T : Nat → Int32) (x c : Nat) (b : Nat → Int32) : Prop := ∀ k, k < 4 → b k = -6 ∨ ∃ n, 1 ≤ n ∧ n ≤ 1 + c ∧ b k = nI n ∧ mb_R T x n k
theorem lb_chI {T : Nat → Int32} {x t k : Nat} (hk : k < 4) (hkk : T (75 + 4 * k + k) = 0) {rec65 : Int32 → Int32 → ms_T → Option (Int32 × ms_T)} {rec73 : Int32 → Int32 → Int32 → ms_T → Option (Int32 × ms_T)} {v2 : Int32} : ∀ (r i n c : Nat) (S : ms_T), i + r = 4 → r < n → c + r < 1000 → S 0 = T → mb_N T x c (S 7) →
    ∃ b', f8_chain_L82 rec65 rec73 n v2 (nI t) (nI k) (nI i) S = rec73 v2 (nI t) (nI (k + 1)) (ms_set S 7 b') ∧ mb_N T x (c + r) b' ∧ (∀ j, j < 4 → ∀ d, mb_Le (S 7) j d → mb_Le b' j d) ∧ (∀ j, i ≤ j → j < 4 → 0 < T (75 + 4 * k + j) → ∀ d, mb_Le (S 7) k d → mb_Le b' j (d + 1))
  | _, _, 0, _, _, _, h, _, _, _ => by omega
  | r, i, n + 1, c, S, hi, hn, hc, hT, hN => by
    have hs1 : nI k + 1 = nI (k + 1) := (nI_succ k).symm
    have self : ms_set S 7 (S 7) = S := by
      funext g; unfold ms_set; split
      · next h => rw [h]
      · rfl
    have up : mb_N T x (c + r) (S 7) := fun j hj => by
      rcases hN j hj with h | ⟨m, a1, a2, a3, a4⟩
      · exact Or.inl h
      · exact Or.inr ⟨m, a1, by omega, a3, a4⟩
    show ∃ b', f8_chain_b82 rec65 rec73 (f8_chain_L82 rec65 rec73 n) v2 (nI t) (nI k) (nI i) S = _ ∧ _
    unfold f8_chain_b82 f8_chain_b184
    rw [hs1]
    by_cases h4 : i = 4
    · subst h4
      refine ⟨S 7, ?_, up, fun j hj d h => h, fun j a b => by omega⟩
      rw [if_pos (show (4 : Int32) ≤ nI 4 by decide), self]
    · obtain ⟨r, rfl⟩ : ∃ r', r = r' + 1 := ⟨r - 1, by omega⟩
      have hi4 : i < 4 := by omega
      rw [if_neg (show ¬ (4 : Int32) ≤ nI i from nI_ge (b := 4) (by omega) (by omega)), lb_ck (by omega) (by omega), lb_cl (by omega)]
      rcases hN k hk with hb | ⟨m, m1, m2, m3, m4⟩
      · refine ⟨S 7, ?_, up, fun j hj d h => h, ?_⟩
        · rw [if_pos (by rw [hb]; decide), self]
        · rintro j a b e d ⟨z, z1, z2, z3⟩
          exact absurd (z3.symm.trans hb) (lb_n6 (by omega))
      · have hs2 : nI i + 1 = nI (i + 1) := (nI_succ i).symm
        have zk : ∀ d, mb_Le (S 7) k d → m ≤ d := by
          rintro d ⟨z, z1, z2, z3⟩
          have := (lb_inj (by omega) (by omega)).mp (m3.symm.trans z3)
          omega
        -- nothing changes at i
        have keep : (0 < T (75 + 4 * k + i) → mb_Le (S 7) i (m + 1)) → ∃ b', f8_chain_b145 rec65 rec73 (f8_chain_L82 rec65 rec73 n) v2 (nI t) (nI k) (nI i) 0 S = rec73 v2 (nI t) (nI (k + 1)) (ms_set S 7 b') ∧ mb_N T x (c + (r + 1)) b' ∧ (∀ j, j < 4 → ∀ d, mb_Le (S 7) j d → mb_Le b' j d) ∧ (∀ j, i ≤ j → j < 4 → 0 < T (75 + 4 * k + j) → ∀ d, mb_Le (S 7) k d → mb_Le b' j (d + 1)) := by
          intro hle
          unfold f8_chain_b145 f8_chain_b177
          rw [if_pos rfl, lb_ck hi4 (by omega), lb_ck hi4 (by omega), lb_cl (by omega), lb_ui, self, hs2]
          obtain ⟨b', u1, u2, u3, u4⟩ := lb_chI (x := x) (t := t) hk hkk (rec65 := rec65) (rec73 := rec73) (v2 := v2) r (i + 1) n (c + 1) S (by omega) (by omega) (by omega) hT (fun j hj => by
            rcases hN j hj with h | ⟨z, a1, a2, a3, a4⟩
            · exact Or.inl h
            · exact Or.inr ⟨z, a1, by omega, a3, a4⟩)
          refine ⟨b', u1, by rw [show c + (r + 1) = c + 1 + r by omega]; exact u2, u3, ?_⟩
          intro j a b e d hd
          by_cases ej : j = i
          · subst ej
            obtain ⟨z, z1, z2, z3⟩ := hle e
            have := zk d hd
            exact u3 j b (d + 1) ⟨z, by omega, z2, z3⟩
          · exact u4 j (by omega) b e d hd
        -- a shorter way to i
        have less : 0 < T (75 + 4 * k + i) → (∀ z, z < 2000 → S 7 i = nI z → m + 1 < z) → ∃ b', f8_chain_b145 rec65 rec73 (f8_chain_L82 rec65 rec73 n) v2 (nI t) (nI k) (nI i) 1 S = rec73 v2 (nI t) (nI (k + 1)) (ms_set S 7 b') ∧ mb_N T x (c + (r + 1)) b' ∧ (∀ j, j < 4 → ∀ d, mb_Le (S 7) j d → mb_Le b' j d) ∧ (∀ j, i ≤ j → j < 4 → 0 < T (75 + 4 * k + j) → ∀ d, mb_Le (S 7) k d → mb_Le b' j (d + 1)) := by
          intro he hlt
          have hik : k ≠ i := by
            intro e; subst e; rw [hkk] at he; exact absurd he (by decide)
          have hv : nI m + 1 = nI (m + 1) := (nI_succ m).symm
          unfold f8_chain_b145 f8_chain_b177
          rw [if_neg (show ¬ (1 : Int32) = 0 by decide), lb_ck hk (by omega), lb_ck hi4 (by omega), lb_cl (by omega), lb_cl (by omega), m3, hv, hs2]
          have mono : ∀ j, j < 4 → ∀ d, mb_Le (S 7) j d → mb_Le (upd (S 7) i (nI (m + 1))) j d := by
            rintro j hj d ⟨z, z1, z2, z3⟩
            by_cases ej : j = i
            · subst ej
              have := hlt z z2 z3
              exact ⟨m + 1, by omega, by omega, lb_us _ _ _⟩
            · exact ⟨z, z1, z2, by rw [lb_un ej]; exact z3⟩
          obtain ⟨b', u1, u2, u3, u4⟩ := lb_chI (x := x) (t := t) hk hkk (rec65 := rec65) (rec73 := rec73) (v2 := v2) r (i + 1) n (c + 1) (ms_set S 7 (upd (S 7) i (nI (m + 1)))) (by omega) (by omega) (by omega) (by rw [lb_mn (by omega)]; exact hT) (fun j hj => by
            rw [lb_ms]
            by_cases ej : j = i
            · subst ej
              exact Or.inr ⟨m + 1, by omega, by omega, lb_us _ _ _, k, hk, m4, he⟩
            · rw [lb_un ej]
              rcases hN j hj with h | ⟨z, a1, a2, a3, a4⟩
              · exact Or.inl h
              · exact Or.inr ⟨z, a1, by omega, a3, a4⟩)
          rw [lb_ms] at u3 u4
          have mm : ms_set (ms_set S 7 (upd (S 7) i (nI (m + 1)))) 7 b' = ms_set S 7 b' := by
            funext g; unfold ms_set; split <;> rfl
          rw [mm] at u1
          refine ⟨b', u1, by rw [show c + (r + 1) = c + 1 + r by omega]; exact u2, fun j hj d h => u3 j hj d (mono j hj d h), ?_⟩
          intro j a b e d hd
          have hm := zk d hd
          by_cases ej : j = i
          · subst ej
            exact u3 j b (d + 1) ⟨m + 1, by omega, by omega, lb_us _ _ _⟩
          · exact u4 j (by omega) b e d (mono k hk d hd)
        have hpos : ¬ nI m ≤ 0 := by
          rw [lb_le0, nI_toInt (by omega)]; omega
        have hv : nI m + 1 = nI (m + 1) := (nI_succ m).symm
        unfold f8_chain_b144 f8_chain_b140
        rw [m3, if_neg hpos, hT, lb_debt hk hi4, lb_bd, lb_ck hi4 (by omega), lb_ck hk (by omega), lb_ck hi4 (by omega), lb_cl (by omega), hv]
        by_cases c1 : T (75 + 4 * k + i) ≤ 0
        · rw [if_pos c1]
          exact keep (fun e => absurd c1 (lb_npos.mpr e))
        · rw [if_neg c1]
          have he := lb_npos.mp c1
          rcases hN i hi4 with hb | ⟨z, y1, y2, y3, y4⟩
          · rw [if_pos hb]
            exact less he (fun z hz e => absurd (e.symm.trans hb) (lb_n6 (by omega)))
          · rw [y3, if_neg (lb_n6 (by omega))]
            by_cases c2 : z ≤ m + 1
            · rw [if_pos (nI_le c2 (by omega))]
              exact keep (fun _ => ⟨z, c2, by omega, y3⟩)
            · rw [if_neg (nI_ge (by omega) (by omega))]
              refine less he (fun w hw e => ?_)
              have := (lb_inj (by omega) (by omega)).mp (y3.symm.trans e)
              omega
theorem lb_chK {T : Nat → Int32} {x t : Nat} (hkk : ∀ k, k < 4 → T (75 + 4 * k + k) = 0) {rec65 : Int32 → Int32 → ms_T → Option (Int32 × ms_T)} {v2 : Int32} : ∀ (r k n c : Nat) (S : ms_T), k + r = 4 → r < n → c + 4 * r < 1000 → S 0 = T → mb_N T x c (S 7) →
    ∃ b', f8_chain_L73 rec65 n v2 (nI t) (nI k) S = rec65 v2 (nI (t + 1)) (ms_set S 7 b') ∧ mb_N T x (c + 4 * r) b' ∧ (∀ j, j < 4 → ∀ d, mb_Le (S 7) j d → mb_Le b' j d) ∧ (∀ q, k ≤ q → q < 4 → ∀ j, j < 4 → 0 < T (75 + 4 * q + j) → ∀ d, mb_Le (S 7) q d → mb_Le b' j (d + 1))
  | _, _, 0, _, _, _, h, _, _, _ => by omega
  | 0, k, n + 1, c, S, hk, hn, hc, hT, hN => by
    have self : ms_set S 7 (S 7) = S := by
      funext g; unfold ms_set; split
      · next h => rw [h]
      · rfl
    refine ⟨S 7, ?_, hN, fun j hj d h => h, fun q a b => by omega⟩
    show f8_chain_b73 rec65 _ v2 (nI t) (nI k) S = _
    unfold f8_chain_b73
    rw [show (4 : Int32) = nI 4 from rfl, if_pos (nI_le (by omega) (by omega)), self, nI_succ]
  | r + 1, k, n + 1, c, S, hk, hn, hc, hT, hN => by
    show ∃ b', f8_chain_b73 rec65 (f8_chain_L73 rec65 n) v2 (nI t) (nI k) S = _ ∧ _
    unfold f8_chain_b73
    rw [show (4 : Int32) = nI 4 from rfl, if_neg (nI_ge (by omega) (by omega))]
    obtain ⟨b1, u1, u2, u3, u4⟩ := lb_chI (x := x) (t := t) (k := k) (by omega) (hkk k (by omega)) (rec65 := rec65) (rec73 := f8_chain_L73 rec65 n) (v2 := v2) 4 0 1000 c S rfl (by omega) (by omega) hT hN
    rw [show f8_chain_L82 rec65 (f8_chain_L73 rec65 n) fo_fu v2 (nI t) (nI k) 0 S = _ from u1]
    obtain ⟨b2, w1, w2, w3, w4⟩ := lb_chK (x := x) (t := t) hkk (rec65 := rec65) (v2 := v2) r (k + 1) n (c + 4) (ms_set S 7 b1) (by omega) (by omega) (by omega) (by rw [lb_mn (by omega)]; exact hT) (by rw [lb_ms]; exact u2)
    rw [lb_ms] at w3 w4
    have mm : ms_set (ms_set S 7 b1) 7 b2 = ms_set S 7 b2 := by
      funext g; unfold ms_set; split <;> rfl
    rw [mm] at w1
    refine ⟨b2, w1, by rw [show c + 4 * (r + 1) = c + 4 + 4 * r by omega]; exact w2, fun j hj d h => w3 j hj d (u3 j hj d h), ?_⟩
    intro q a b j hj e d hd
    by_cases eq : q = k
    · subst eq
      exact w3 j hj (d + 1) (u4 j (by omega) hj e d hd)
    · exact w4 q (by omega) b j hj e d (u3 q b d hd)
theorem lb_chT {T : Nat → Int32} {x y : Nat} (hx : x < 4) (hy : y < 4) (hkk : ∀ k, k < 4 → T (75 + 4 * k + k) = 0) : ∀ (r t n c : Nat) (S : ms_T), t + r = 4 → r < n → c + 16 * r < 1000 → S 0 = T → mb_N T x c (S 7) → (∀ k, k < 4 → ∀ d, 1 ≤ d → d ≤ t + 1 → mb_R T x d k → mb_Le (S 7) k d) →
    ∃ b', f8_chain_L65 n (nI y) (nI t) S = some (b' y, ms_set S 7 b') ∧ mb_Ds T x y (b' y)
  | _, _, 0, _, _, _, h, _, _, _, _ => by omega
  | 0, t, n + 1, c, S, ht, hn, hc, hT, hN, hM => by
    have self : ms_set S 7 (S 7) = S := by
      funext g; unfold ms_set; split
      · next h => rw [h]
      · rfl
    refine ⟨S 7, ?_, ?_⟩
    · show f8_chain_b65 _ (nI y) (nI t) S = _
      unfold f8_chain_b65
      rw [show (4 : Int32) = nI 4 from rfl, if_pos (nI_le (by omega) (by omega)), self, lb_ck hy (by omega), lb_cl (by omega)]
    · rcases hN y hy with h | ⟨m, m1, m2, m3, m4⟩
      · refine Or.inr ⟨h, fun d a b hd => ?_⟩
        obtain ⟨z, z1, z2, z3⟩ := hM y hy d a (by omega) hd
        exact absurd (z3.symm.trans h) (lb_n6 (by omega))
      · have low : ∀ d, 1 ≤ d → d ≤ 5 → mb_R T x d y → m ≤ d := by
          intro d a b hd
          obtain ⟨z, z1, z2, z3⟩ := hM y hy d a (by omega) hd
          have := (lb_inj (by omega) (by omega)).mp (m3.symm.trans z3)
          omega
        obtain ⟨d, a, b, e⟩ := lb_R4 m y hy m1 m4
        have h4 := low d a (by omega) e
        refine Or.inl ⟨m, m1, by omega, m3, m4, fun e' a' b' h' => ?_⟩
        have := low e' a' (by omega) h'
        omega
  | r + 1, t, n + 1, c, S, ht, hn, hc, hT, hN, hM => by
    show ∃ b', f8_chain_b65 (f8_chain_L65 n) (nI y) (nI t) S = _ ∧ _
    unfold f8_chain_b65
    rw [show (4 : Int32) = nI 4 from rfl, if_neg (nI_ge (by omega) (by omega))]
    obtain ⟨b1, u1, u2, u3, u4⟩ := lb_chK (x := x) (t := t) hkk (rec65 := f8_chain_L65 n) (v2 := nI y) 4 0 1000 c S rfl (by omega) (by omega) hT hN
    rw [show f8_chain_L73 (f8_chain_L65 n) fo_fu (nI y) (nI t) 0 S = _ from u1]
    obtain ⟨b2, w1, w2⟩ := lb_chT hx hy hkk r (t + 1) n (c + 16) (ms_set S 7 b1) (by omega) (by omega) (by omega) (by rw [lb_mn (by omega)]; exact hT) (by rw [lb_ms]; exact u2) (by
      intro k hk d a b hd
      rw [lb_ms]
      by_cases e : d ≤ t + 1
      · exact u3 k hk d (hM k hk d a e hd)
      · obtain ⟨d', rfl⟩ : ∃ d', d = d' + 1 := ⟨d - 1, by omega⟩
        by_cases e0 : d' = 0
        · subst e0; omega
        · obtain ⟨q, q1, q2, q3⟩ := hd
          exact u4 q (by omega) q1 k hk q3 d' (hM q q1 d' (by omega) (by omega) q2))
    have mm : ms_set (ms_set S 7 b1) 7 b2 = ms_set S 7 b2 := by
      funext g; unfold ms_set; split <;> rfl
    rw [mm] at w1
    exact ⟨b2, w1, w2⟩
theorem lb_ch0 {T : Nat → Int32} {P x y : Nat} (h6 : T 6 = nI P) (hP : P ≤ 4) (hx : x < 4) (hy : y < 4) (hkk : ∀ k, k < 4 → T (75 + 4 * k + k) = 0) (cz : ∀ k, P ≤ k → k < 4 → T (75 + 4 * x + k) = 0) : ∀ (r k n : Nat) (S : ms_T), k + r = 4 → r < n → S 0 = T → (∀ j, j < k → S 7 j = if 0 < T (75 + 4 * x + j) then 1 else -6) →
    ∃ b', f8_chain_L20 n (nI x) (nI y) (nI k) S = some (b' y, ms_set S 7 b') ∧ mb_Ds T x y (b' y)
  | _, _, 0, _, _, h, _, _ => by omega
  | 0, k, n + 1, S, hk, hn, hT, hB => by
    show ∃ b', f8_chain_b20 _ (nI x) (nI y) (nI k) S = _ ∧ _
    unfold f8_chain_b20
    have h4 : k = 4 := by omega
    subst h4
    rw [if_pos (show (4 : Int32) ≤ nI 4 by decide)]
    refine lb_chT hx hy hkk 4 0 1000 0 S rfl (by omega) (by omega) hT ?_ ?_
    · intro j hj
      rw [hB j hj]
      split
      · next h => exact Or.inr ⟨1, by omega, by omega, rfl, (lb_R1 hx).mpr h⟩
      · exact Or.inl rfl
    · intro j hj d a b hd
      have : d = 1 := by omega
      subst this
      refine ⟨1, by omega, by omega, ?_⟩
      rw [hB j hj, if_pos ((lb_R1 hx).mp hd)]; rfl
  | r + 1, k, n + 1, S, hk, hn, hT, hB => by
    show ∃ b', f8_chain_b20 (f8_chain_L20 n) (nI x) (nI y) (nI k) S = _ ∧ _
    unfold f8_chain_b20 f8_chain_b54 f8_chain_b56
    have hs : nI k + 1 = nI (k + 1) := (nI_succ k).symm
    have go : ∀ v, v = (if 0 < T (75 + 4 * x + k) then 1 else -6 : Int32) → ∃ b', f8_chain_L20 n (nI x) (nI y) (nI (k + 1)) (ms_set S 7 (upd (S 7) k v)) = some (b' y, ms_set S 7 b') ∧ mb_Ds T x y (b' y) := by
      intro v hv
      obtain ⟨b', u1, u2⟩ := lb_ch0 h6 hP hx hy hkk cz r (k + 1) n (ms_set S 7 (upd (S 7) k v)) (by omega) (by omega) (by rw [lb_mn (by omega)]; exact hT) (by
        intro j hj
        rw [lb_ms]
        by_cases e : j = k
        · subst e; rw [lb_us]; exact hv
        · rw [lb_un e]; exact hB j (by omega))
      have mm : ms_set (ms_set S 7 (upd (S 7) k v)) 7 b' = ms_set S 7 b' := by
        funext g; unfold ms_set; split <;> rfl
      rw [mm] at u1
      exact ⟨b', u1, u2⟩
    rw [if_neg (show ¬ (4 : Int32) ≤ nI k from nI_ge (b := 4) (by omega) (by omega)), lb_k6, lb_c6, hT, h6, lb_ck (show k < 4 by omega) (by omega), lb_ck (show k < 4 by omega) (by omega), lb_cl (by omega), hs, lb_debt hx (by omega), lb_bd]
    by_cases hPk : P ≤ k
    · rw [if_pos (nI_le hPk (by omega))]
      exact go (-6) (by rw [if_neg (by rw [cz k hPk (by omega)]; decide)])
    · rw [if_neg (nI_ge (by omega) (by omega))]
      by_cases c : T (75 + 4 * x + k) ≤ 0
      · rw [if_pos c]
        exact go (-6) (by rw [if_neg (fun h => lb_npos.mpr h c)])
      · rw [if_neg c]
        exact go 1 (by rw [if_pos (lb_npos.mp c)])
theorem RR.same {X : xs_T} {S S' : ms_T} (h : RR X S) (e1 : ∀ g, g ≠ 8 → g ≠ 6 → g ≠ 7 → S' g = S g) (e8 : S' 8 0 = S 8 0 ∧ S' 8 1 = S 8 1) : RR X S' := by
  have := h.text (q := X 5) (D := X 4) (fun _ _ => rfl) e1 e8
  have e : xs_set (xs_set X 5 (X 5)) 4 (X 4) = X := by
    funext g; unfold xs_set; split
    · next h => rw [h]
    · split
      · next h => rw [h]
      · rfl
  rw [e] at this
  exact this
theorem lb_chain {X : xs_T} {S : ms_T} (h : RR X S) (v w : Int32) : ∃ r S', f7_chain v w X = some r ∧ f8_chain v w S = some (r, S') ∧ RR X S' := by
  have h0 := h
  obtain ⟨⟨P, t, ht, hJ, hR⟩, -, -, -⟩ := h
  have hP := hJ.P4
  unfold f7_chain f8_chain
  rcases hJ.isPlayer v with ⟨a1, a2⟩ | ⟨p, hp, rfl, a1⟩
  · rcases lb_hasP hR hJ.h6 hP v with ⟨b1, -⟩ | ⟨p, hp, e, -⟩
    · rw [a1, b1]; exact ⟨_, S, rfl, rfl, h0⟩
    · exact absurd ⟨p, hp, e⟩ a2
  · rcases lb_hasP hR hJ.h6 hP (nI p) with ⟨-, b1⟩ | ⟨p', hp', e, b1⟩
    · exact absurd ⟨p, hp, rfl⟩ b1
    · rw [a1, b1, lb_bd, lb_bd, if_neg (show ¬ (1 : Int32) = 0 by decide), if_neg (show ¬ (1 : Int32) = 0 by decide)]
      rcases hJ.isPlayer w with ⟨a1, a2⟩ | ⟨q, hq, rfl, a1⟩
      · rcases lb_hasP hR hJ.h6 hP w with ⟨b1, -⟩ | ⟨p, hp, e, -⟩
        · rw [a1, b1]; exact ⟨_, S, rfl, rfl, h0⟩
        · exact absurd ⟨p, hp, e⟩ a2
      · rcases lb_hasP hR hJ.h6 hP (nI q) with ⟨-, b1⟩ | ⟨p', hp', e, b1⟩
        · exact absurd ⟨q, hq, rfl⟩ b1
        · rw [a1, b1, lb_bd, lb_bd, if_neg (show ¬ (1 : Int32) = 0 by decide), if_neg (show ¬ (1 : Int32) = 0 by decide)]
          obtain ⟨r1, u1, u2⟩ := lb_dist (D := ms_from (X 5) 2) (fun i hi => hR.c hi) (x := p) (c := q) (by omega) (by omega)
          obtain ⟨b', w1, w2⟩ := lb_ch0 (x := p) (y := q) hJ.h6 hP (by omega) (by omega) (fun k hk => hJ.cz k k hk hk (Or.inl rfl)) (fun k h1 h2 => hJ.cz p k (by omega) h2 (Or.inr (Or.inr h1))) 4 0 1000 S rfl (by omega) rfl (fun j hj => by omega)
          rw [u1, lb_bd, show f8_chain_L20 fo_fu (nI p) (nI q) 0 S = _ from w1]
          refine ⟨r1, ms_set S 7 b', rfl, ?_, h0.same (fun g a b c => lb_mn c) ⟨by rw [lb_mn (by omega)], by rw [lb_mn (by omega)]⟩⟩
          rw [u2.uniq w2]
