/-! ## Layer B: rings are cleared -/
abbrev mb_RD (D : ms_T) (T : Nat → Int32) : Prop := (∀ i, i < 16 → D 0 i = T (75 + i)) ∧ ∀ i, i < 16 → D 1 i = if T (75 + i) = 0 then -6 else T (91 + i)
theorem lb_shrinkD {D : ms_T} {T : Nat → Int32} (h : mb_RD D T) {p q : Nat} {x : Int32} (hp : p < 4) (hq : q < 4) (hw : T (75 + 4 * p + q) ≠ 0) : ∃ D', f1_shrink (nI p) (nI q) x D = some D' ∧ mb_RD D' (mb_addD T p q (-x)) ∧ D' 2 = D 2 := by
  obtain ⟨h0, h1⟩ := h
  unfold f1_shrink
  have e0 : D 0 (p * 4 + q) = T (75 + 4 * p + q) := by rw [h0 _ (by omega)]; congr 1; omega
  rw [show (4 : Int32) = nI 4 from rfl, lb_mul, lb_add, lb_radd (by omega) (by omega), lb_bd, lb_ms, lb_at (by omega) (by omega), lb_bd, lb_us, e0]
  by_cases hz : T (75 + 4 * p + q) + -x = 0
  · rw [if_pos hz, lb_mn (by decide), lb_write (by omega) (by omega), lb_bd]
    refine ⟨_, rfl, ⟨?_, ?_⟩, ?_⟩
    · intro i hi
      rw [lb_mn (by decide), lb_ms]
      by_cases hi2 : i = p * 4 + q
      · subst hi2; rw [lb_us, show 75 + (p * 4 + q) = 75 + 4 * p + q by omega, lb_addDs]
      · rw [lb_un hi2, lb_addDn (by omega) (by omega)]; exact h0 i hi
    · intro i hi
      rw [lb_ms]
      by_cases hi2 : i = p * 4 + q
      · subst hi2; rw [lb_us, show 75 + (p * 4 + q) = 75 + 4 * p + q by omega, lb_addDs, if_pos hz]
      · rw [lb_un hi2, lb_addDn (by omega) (by omega), lb_addDn (by omega) (by omega)]; exact h1 i hi
    · rw [lb_mn (by decide), lb_mn (by decide)]
  · rw [if_neg hz]
    refine ⟨_, rfl, ⟨?_, ?_⟩, ?_⟩
    · intro i hi
      rw [lb_ms]
      by_cases hi2 : i = p * 4 + q
      · subst hi2; rw [lb_us, show 75 + (p * 4 + q) = 75 + 4 * p + q by omega, lb_addDs]
      · rw [lb_un hi2, lb_addDn (by omega) (by omega)]; exact h0 i hi
    · intro i hi
      rw [lb_mn (by decide)]
      by_cases hi2 : i = p * 4 + q
      · subst hi2
        rw [show 75 + (p * 4 + q) = 75 + 4 * p + q by omega, show 91 + (p * 4 + q) = 91 + 4 * p + q by omega, lb_addDs, if_neg hz, lb_addDa, if_neg (by rintro (h1 | h1) <;> contradiction)]
        rw [h1 _ (by omega), show 75 + (p * 4 + q) = 75 + 4 * p + q by omega, show 91 + (p * 4 + q) = 91 + 4 * p + q by omega, if_neg hw]
      · rw [lb_addDn (by omega) (by omega), lb_addDn (by omega) (by omega)]; exact h1 i hi
    · rw [lb_mn (by decide)]
/-! the next one on a ring -/
theorem lb_nextL {D : ms_T} {T : Nat → Int32} (h0 : ∀ i, i < 16 → D 0 i = T (75 + i)) {x p s o : Nat} (hx : x < 4) (hp : p < 4) (hs : 2 ≤ s) (hs4 : s ≤ 4) (ho : o < 4) (h : mb_NX T x p s o) : ∀ (r k n : Nat), k + r = o → r < n → f1_nextOnRing_L10 n (nI x) (nI p) (nI s) (nI k) D = some (nI o)
  | _, _, 0, _, h => by omega
  | r, k, n + 1, hk, hn => by
    show f1_nextOnRing_b10 (f1_nextOnRing_L10 n) (nI x) (nI p) (nI s) (nI k) D = _
    unfold f1_nextOnRing_b10 f1_nextOnRing_b42 f1_coinsOf
    have hk4 : k < 4 := by omega
    have hs1 : nI k + 1 = nI (k + 1) := (nI_succ k).symm
    have e0 : D 0 (x * 4 + k) = T (75 + 4 * x + k) := by rw [h0 _ (by omega)]; congr 1; omega
    obtain ⟨v, u1, u2⟩ := lb_dist h0 (x := k) (c := p) hk4 hp
    have sm : nI s - (1 : Int32) = nI (s - 1) := by rw [show s = (s - 1) + 1 by omega]; exact lb_sub1
    rw [if_neg (show ¬ (4 : Int32) ≤ nI k from nI_ge (b := 4) hk4 (by omega)), show (4 : Int32) = nI 4 from rfl, lb_mul, lb_add, lb_at (by omega) (by omega), lb_bd, lb_bd, e0, u1, lb_bd, sm, hs1]
    by_cases e : k = o
    · subst e
      rw [if_neg (by rw [lb_npos]; exact h.1), if_pos (u2.uniq h.2.1)]
    · have hn' := h.2.2 k (by omega)
      obtain ⟨r, rfl⟩ : ∃ r', r = r' + 1 := ⟨r - 1, by omega⟩
      have rest := lb_nextL h0 hx hp hs hs4 ho h r (k + 1) n (by omega) (by omega)
      by_cases c1 : T (75 + 4 * x + k) ≤ 0
      · rw [if_pos c1]; exact rest
      · rw [if_neg c1, if_neg (fun e2 => hn' ⟨lb_npos.mp c1, by rw [← e2]; exact u2⟩)]
        exact rest
theorem lb_next {D : ms_T} {T : Nat → Int32} (h0 : ∀ i, i < 16 → D 0 i = T (75 + i)) {x p s o : Nat} (hx : x < 4) (hp : p < 4) (hs : 1 ≤ s) (hs4 : s ≤ 4) (ho : o < 4) (h : (s = 1 → o = p) ∧ (1 < s → mb_NX T x p s o)) : f1_nextOnRing (nI x) (nI p) (nI s) D = some (nI o) := by
  unfold f1_nextOnRing
  by_cases e : s = 1
  · subst e; rw [if_pos (show nI 1 = (1 : Int32) from rfl), h.1 rfl]
  · rw [if_neg (show ¬ nI s = (1 : Int32) from fun e2 => e ((lb_inj (b := 1) (by omega) (by omega)).mp e2))]
    exact lb_nextL h0 hx hp (by omega) hs4 ho (h.2 (by omega)) o 0 1000 (by omega) (by omega)
/-! the least one, and less of all -/
def mb_ls (T : Nat → Int32) (v : Nat → Nat) : Nat → Nat → Int32 → Int32
  | 0, _, l => l
  | r + 1, s, l => mb_ls T v r (s + 1) (if s = 0 then T (75 + 4 * v s + v (s + 1)) else if l ≤ T (75 + 4 * v s + v (s + 1)) then l else T (75 + 4 * v s + v (s + 1)))
def mb_cl (v : Nat → Nat) (l : Int32) : Nat → Nat → (Nat → Int32) → (Nat → Int32)
  | 0, _, T => T
  | r + 1, s, T => mb_cl v l r (s + 1) (mb_addD T (v s) (v (s + 1)) (-l))
theorem lb_crL {T : Nat → Int32} {p d : Nat} {v : Nat → Nat} (hp : p < 4) (hd : d ≤ 4) (hv : ∀ j, v j < 4) : ∀ (r s n : Nat) (l : Int32) (D : ms_T), s + r = d → r < n → mb_RD D T → (∀ j, j ≤ s → D 2 j = nI (v j)) → (∀ s', s ≤ s' → s' < d → (d - s' = 1 → v (s' + 1) = p) ∧ (1 < d - s' → mb_NX T (v s') p (d - s') (v (s' + 1)))) →
    ∃ D', f1_clearRing_L29 n (nI p) (nI d) l (nI s) D = f1_clearRing_L108 fo_fu (nI d) (mb_ls T v r s l) 0 D' ∧ mb_RD D' T ∧ ∀ j, j ≤ d → D' 2 j = nI (v j)
  | _, _, 0, _, _, _, h, _, _, _ => by omega
  | 0, s, n + 1, l, D, hs, hn, h, h2, hx => by
    refine ⟨D, ?_, h, fun j hj => h2 j (by omega)⟩
    show f1_clearRing_b29 _ (nI p) (nI d) l (nI s) D = _
    unfold f1_clearRing_b29
    rw [if_pos (nI_le (by omega) (by omega))]; rfl
  | r + 1, s, n + 1, l, D, hs, hn, h, h2, hx => by
    show ∃ D', f1_clearRing_b29 (f1_clearRing_L29 n) (nI p) (nI d) l (nI s) D = f1_clearRing_L108 fo_fu (nI d) (mb_ls T v r (s + 1) _) 0 D' ∧ _
    unfold f1_clearRing_b29 f1_clearRing_b98
    have hs1 : nI s + (1 : Int32) = nI (s + 1) := (nI_succ s).symm
    have ix : nI (v s) * (4 : Int32) + nI (v (s + 1)) = nI (v s * 4 + v (s + 1)) := by rw [show (4 : Int32) = nI 4 from rfl, lb_mul, lb_add]
    have a1 := hv s
    have a2 := hv (s + 1)
    rw [if_neg (nI_ge (by omega) (by omega)), lb_at (show s < 5 by omega) (by omega), lb_bd, h2 s (by omega), lb_sub (by omega), lb_next h.1 (s := d - s) (o := v (s + 1)) a1 hp (by omega) (by omega) a2 (hx s (by omega) (by omega)), lb_bd, hs1, lb_write (show s + 1 < 5 by omega) (by omega), lb_bd]
    unfold f1_coinsOf
    rw [ix, lb_mn (by decide), lb_at (show v s * 4 + v (s + 1) < 16 by omega) (by omega), lb_bd, lb_bd, h.1 _ (by omega), show 75 + (v s * 4 + v (s + 1)) = 75 + 4 * v s + v (s + 1) by omega]
    have go : ∀ l', ∃ D', f1_clearRing_L29 n (nI p) (nI d) l' (nI (s + 1)) (ms_set D 2 (upd (D 2) (s + 1) (nI (v (s + 1))))) = f1_clearRing_L108 fo_fu (nI d) (mb_ls T v r (s + 1) l') 0 D' ∧ mb_RD D' T ∧ ∀ j, j ≤ d → D' 2 j = nI (v j) := by
      intro l'
      refine lb_crL hp hd hv r (s + 1) n l' _ (by omega) (by omega) ⟨fun i hi => by rw [lb_mn (by decide)]; exact h.1 i hi, fun i hi => by rw [lb_mn (by decide)]; exact h.2 i hi⟩ ?_ (fun s' b1 b2 => hx s' (by omega) b2)
      intro j hj
      rw [lb_ms]
      by_cases e : j = s + 1
      · subst e; rw [lb_us]
      · rw [lb_un e]; exact h2 j (by omega)
    by_cases e : s = 0
    · subst e
      rw [if_pos (show nI 0 = 0 from rfl), if_pos rfl]
      exact go _
    · rw [if_neg (show ¬ nI s = 0 from nI_ne0 (by omega) (by omega)), if_neg e]
      have el : (if T (75 + 4 * v s + v (s + 1)) < l then T (75 + 4 * v s + v (s + 1)) else l) = (if l ≤ T (75 + 4 * v s + v (s + 1)) then l else T (75 + 4 * v s + v (s + 1))) := by
        by_cases c : T (75 + 4 * v s + v (s + 1)) < l
        · rw [if_pos c, if_neg (lb_nle.mpr c)]
        · rw [if_neg c, if_pos (lb_nlt.mp c)]
      rw [el]
      exact go _
/-- the edges of a ring: apart, and each of so many coins at least -/
abbrev mb_ed (T : Nat → Int32) (v : Nat → Nat) (d s : Nat) : Prop := ∀ j, s ≤ j → j < d → T (75 + 4 * v j + v (j + 1)) ≠ 0
theorem lb_edN {T : Nat → Int32} {v : Nat → Nat} {d s : Nat} {x : Int32} (hv : ∀ j, v j < 4) (di : ∀ i j, i < j → j < d → v i ≠ v j) (h : mb_ed T v d s) : mb_ed (mb_addD T (v s) (v (s + 1)) x) v d (s + 1) := by
  intro j h1 h2
  have a1 := hv s; have a2 := hv (s + 1); have a3 := hv j; have a4 := hv (j + 1)
  have := di s j (by omega) h2
  rw [lb_addDn (by omega) (by omega)]
  exact h j (by omega) h2
theorem lb_crS {d : Nat} {v : Nat → Nat} {l : Int32} (hd : d ≤ 4) (hv : ∀ j, v j < 4) (di : ∀ i j, i < j → j < d → v i ≠ v j) : ∀ (r s n : Nat) (T : Nat → Int32) (D : ms_T), s + r = d → r < n → mb_RD D T → (∀ j, j ≤ d → D 2 j = nI (v j)) → mb_ed T v d s →
    ∃ D', f1_clearRing_L108 n (nI d) l (nI s) D = some (l, D') ∧ mb_RD D' (mb_cl v l r s T)
  | _, _, 0, _, _, _, h, _, _, _ => by omega
  | 0, s, n + 1, T, D, hs, hn, h, h2, he => by
    refine ⟨D, ?_, h⟩
    show f1_clearRing_b108 _ (nI d) l (nI s) D = _
    unfold f1_clearRing_b108
    rw [if_pos (nI_le (by omega) (by omega))]
  | r + 1, s, n + 1, T, D, hs, hn, h, h2, he => by
    show ∃ D', f1_clearRing_b108 (f1_clearRing_L108 n) (nI d) l (nI s) D = some (l, D') ∧ mb_RD D' (mb_cl v l r (s + 1) (mb_addD T (v s) (v (s + 1)) (-l)))
    unfold f1_clearRing_b108
    have hs1 : nI s + (1 : Int32) = nI (s + 1) := (nI_succ s).symm
    obtain ⟨D1, e1, e2, e3⟩ := lb_shrinkD h (p := v s) (q := v (s + 1)) (x := l) (hv s) (hv (s + 1)) (he s (by omega) (by omega))
    rw [if_neg (nI_ge (by omega) (by omega)), lb_at (show s < 5 by omega) (by omega), lb_bd, hs1, lb_at (show s + 1 < 5 by omega) (by omega), lb_bd, h2 s (by omega), h2 (s + 1) (by omega), e1, lb_bd]
    exact lb_crS hd hv di r (s + 1) n _ D1 (by omega) (by omega) e2 (fun j hj => by rw [e3]; exact h2 j hj) (lb_edN hv di he)
/-! the reference's -/
theorem lb_findL {S : ms_T} {p m : Nat} (hp : p < 4) (hm : 2 ≤ m) (hm4 : m ≤ 4) : ∀ (r c n : Nat), c + r = 64 → r < n → (∀ c', c' < c → ¬ mb_Is (S 0) p m c') →
    (f8_findRing_L2 n (nI p) (nI m) (nI c) S = some (0, S) ∧ ∀ c', c' < 64 → ¬ mb_Is (S 0) p m c') ∨ ∃ c' S', c' < 64 ∧ mb_Is (S 0) p m c' ∧ (∀ c2, c2 < c' → ¬ mb_Is (S 0) p m c2) ∧ f8_findRing_L2 n (nI p) (nI m) (nI c) S = some (1, S') ∧ (∀ g, g ≠ 6 → g ≠ 8 → S' g = S g) ∧ (∀ i, i ≠ 5 → S' 8 i = S 8 i) ∧ S' 8 5 = nI m ∧ ∀ j, j < 4 → S' 6 j = nI (mb_v p m c' j)
  | _, _, 0, _, h, _ => by omega
  | 0, c, n + 1, hc, hn, hN => by
    left
    refine ⟨?_, fun c' h => hN c' (by omega)⟩
    show f8_findRing_b2 _ (nI p) (nI m) (nI c) S = _
    unfold f8_findRing_b2
    rw [show (64 : Int32) = nI 64 from rfl, if_pos (nI_le (by omega) (by omega))]
  | r + 1, c, n + 1, hc, hn, hN => by
    have hs1 : nI c + (1 : Int32) = nI (c + 1) := (nI_succ c).symm
    have d16 : nI c / (16 : Int32) = nI (c / 16) := lb_div (b := 16) (by omega) (by omega)
    have d4 : nI c / (4 : Int32) - nI c / (4 : Int32) / (4 : Int32) * (4 : Int32) = nI (c / 4 % 4) := by
      rw [show nI c / (4 : Int32) = nI (c / 4) from lb_div (b := 4) (by omega) (by omega)]
      exact lb_mod (b := 4) (by omega) (by omega)
    have d1 : nI c - nI c / (4 : Int32) * (4 : Int32) = nI (c % 4) := lb_mod (b := 4) (by omega) (by omega)
    have th : mb_th p m c < 4 := by show (if m > 2 then c / 4 % 4 else p) < 4; split <;> omega
    have fr : mb_fr p m c < 4 := by show (if m > 3 then c % 4 else p) < 4; split <;> omega
    have tw : c / 16 < 4 := by omega
    have pz : ∀ x, ¬ x ≤ (0 : Int32) ↔ 0 < x := fun x => lb_npos
    have eq : ∀ a b, a < 4 → b < 4 → (nI a = nI b ↔ a = b) := fun a b ha hb => lb_inj (by omega) (by omega)
    -- the test of one code
    have test : f8_findRing_b42 (f8_findRing_L2 n) (nI p) (nI m) (nI c) (nI (c / 16)) (nI (mb_th p m c)) (nI (mb_fr p m c)) S = f8_findRing_b150 (f8_findRing_L2 n) (nI p) (nI m) (nI c) (nI (c / 16)) (nI (mb_th p m c)) (nI (mb_fr p m c)) (if mb_Is (S 0) p m c then 1 else 0) S := by
      have b149 : ¬ mb_Is (S 0) p m c → f8_findRing_b149 (f8_findRing_L2 n) (nI p) (nI m) (nI c) (nI (c / 16)) (nI (mb_th p m c)) (nI (mb_fr p m c)) S = f8_findRing_b150 (f8_findRing_L2 n) (nI p) (nI m) (nI c) (nI (c / 16)) (nI (mb_th p m c)) (nI (mb_fr p m c)) (if mb_Is (S 0) p m c then 1 else 0) S := by
        intro h; rw [if_neg h]; rfl
      have b145 : mb_Is (S 0) p m c → f8_findRing_b145 (f8_findRing_L2 n) (nI p) (nI m) (nI c) (nI (c / 16)) (nI (mb_th p m c)) (nI (mb_fr p m c)) S = f8_findRing_b150 (f8_findRing_L2 n) (nI p) (nI m) (nI c) (nI (c / 16)) (nI (mb_th p m c)) (nI (mb_fr p m c)) (if mb_Is (S 0) p m c then 1 else 0) S := by
        intro h; rw [if_pos h]; rfl
      have no2 : ¬ (c / 16 ≠ p ∧ mb_E (S 0) p (c / 16) ∧ mb_E (S 0) (c / 16) (mb_th p m c)) → f8_findRing_b75 (f8_findRing_L2 n) (nI p) (nI m) (nI c) (nI (c / 16)) (nI (mb_th p m c)) (nI (mb_fr p m c)) S = f8_findRing_b150 (f8_findRing_L2 n) (nI p) (nI m) (nI c) (nI (c / 16)) (nI (mb_th p m c)) (nI (mb_fr p m c)) (if mb_Is (S 0) p m c then 1 else 0) S := by
        intro h
        unfold f8_findRing_b75 f8_findRing_b76 f8_findRing_b109 f8_findRing_b110
        rw [if_pos rfl, if_pos rfl]
        exact b149 (fun hI => h hI.1)
      unfold f8_findRing_b42
      rw [lb_debt hp tw, lb_bd, lb_debt tw th, lb_bd]
      by_cases c1 : c / 16 = p
      · rw [if_pos ((eq _ _ tw hp).mpr c1)]; exact no2 (fun h => h.1 c1)
      · rw [if_neg (fun e => c1 ((eq _ _ tw hp).mp e))]
        by_cases c2 : S 0 (75 + 4 * p + c / 16) ≤ 0
        · rw [if_pos c2]; exact no2 (fun h => (pz _).mpr h.2.1 c2)
        · rw [if_neg c2]
          by_cases c3 : S 0 (75 + 4 * (c / 16) + mb_th p m c) ≤ 0
          · rw [if_pos c3]; exact no2 (fun h => (pz _).mpr h.2.2 c3)
          · rw [if_neg c3]
            have y2 : c / 16 ≠ p ∧ mb_E (S 0) p (c / 16) ∧ mb_E (S 0) (c / 16) (mb_th p m c) := ⟨c1, (pz _).mp c2, (pz _).mp c3⟩
            have no3 : ¬ (m < 3 ∨ mb_th p m c ≠ p ∧ mb_E (S 0) (mb_th p m c) (mb_fr p m c)) → f8_findRing_b109 (f8_findRing_L2 n) (nI p) (nI m) (nI c) (nI (c / 16)) (nI (mb_th p m c)) (nI (mb_fr p m c)) S = f8_findRing_b150 (f8_findRing_L2 n) (nI p) (nI m) (nI c) (nI (c / 16)) (nI (mb_th p m c)) (nI (mb_fr p m c)) (if mb_Is (S 0) p m c then 1 else 0) S := by
              intro h
              unfold f8_findRing_b109 f8_findRing_b110
              rw [if_pos rfl]
              exact b149 (fun hI => h hI.2.1)
            have yes3 : (m < 3 ∨ mb_th p m c ≠ p ∧ mb_E (S 0) (mb_th p m c) (mb_fr p m c)) → f8_findRing_b105 (f8_findRing_L2 n) (nI p) (nI m) (nI c) (nI (c / 16)) (nI (mb_th p m c)) (nI (mb_fr p m c)) S = f8_findRing_b150 (f8_findRing_L2 n) (nI p) (nI m) (nI c) (nI (c / 16)) (nI (mb_th p m c)) (nI (mb_fr p m c)) (if mb_Is (S 0) p m c then 1 else 0) S := by
              intro y3
              unfold f8_findRing_b105 f8_findRing_b110
              rw [if_neg (show ¬ (1 : Int32) = 0 by decide), lb_debt fr hp, lb_bd]
              by_cases k1 : m < 4
              · rw [if_pos (show nI m < (4 : Int32) from nI_lt (b := 4) k1 (by omega))]; exact b145 ⟨y2, y3, Or.inl k1⟩
              · rw [if_neg (show ¬ nI m < (4 : Int32) from nI_nlt (b := 4) (by omega) (by omega))]
                by_cases k2 : mb_fr p m c = p
                · rw [if_pos ((eq _ _ fr hp).mpr k2)]; exact b149 (fun hI => hI.2.2.elim k1 (fun h => h.1 k2))
                · rw [if_neg (fun e => k2 ((eq _ _ fr hp).mp e))]
                  by_cases k3 : mb_fr p m c = c / 16
                  · rw [if_pos ((eq _ _ fr tw).mpr k3)]; exact b149 (fun hI => hI.2.2.elim k1 (fun h => h.2.1 k3))
                  · rw [if_neg (fun e => k3 ((eq _ _ fr tw).mp e))]
                    by_cases k4 : S 0 (75 + 4 * mb_fr p m c + p) ≤ 0
                    · rw [if_pos k4]; exact b149 (fun hI => hI.2.2.elim k1 (fun h => (pz _).mpr h.2.2 k4))
                    · rw [if_neg k4]; exact b145 ⟨y2, y3, Or.inr ⟨k2, k3, (pz _).mp k4⟩⟩
            unfold f8_findRing_b76
            rw [if_neg (show ¬ (1 : Int32) = 0 by decide), lb_debt th fr, lb_bd]
            by_cases k1 : m < 3
            · rw [if_pos (show nI m < (3 : Int32) from nI_lt (b := 3) k1 (by omega))]; exact yes3 (Or.inl k1)
            · rw [if_neg (show ¬ nI m < (3 : Int32) from nI_nlt (b := 3) (by omega) (by omega))]
              by_cases k2 : mb_th p m c = p
              · rw [if_pos ((eq _ _ th hp).mpr k2)]; exact no3 (fun h => h.elim k1 (fun h => h.1 k2))
              · rw [if_neg (fun e => k2 ((eq _ _ th hp).mp e))]
                by_cases k3 : S 0 (75 + 4 * mb_th p m c + mb_fr p m c) ≤ 0
                · rw [if_pos k3]; exact no3 (fun h => h.elim k1 (fun h => (pz _).mpr h.2 k3))
                · rw [if_neg k3]; exact yes3 (Or.inr ⟨k2, (pz _).mp k3⟩)
    have step : f8_findRing_L2 (n + 1) (nI p) (nI m) (nI c) S = f8_findRing_b42 (f8_findRing_L2 n) (nI p) (nI m) (nI c) (nI (c / 16)) (nI (mb_th p m c)) (nI (mb_fr p m c)) S := by
      show f8_findRing_b2 (f8_findRing_L2 n) (nI p) (nI m) (nI c) S = _
      unfold f8_findRing_b2 f8_findRing_b28
      rw [if_neg (show ¬ (64 : Int32) ≤ nI c from nI_ge (b := 64) (by omega) (by omega)), d16, d4, d1]
      have : m = 2 ∨ m = 3 ∨ m = 4 := by omega
      rcases this with rfl | rfl | rfl
      · rw [if_pos (show nI 2 ≤ (2 : Int32) by decide), if_pos (show nI 2 ≤ (3 : Int32) by decide)]; rfl
      · rw [if_neg (show ¬ nI 3 ≤ (2 : Int32) by decide), if_pos (show nI 3 ≤ (3 : Int32) by decide)]; rfl
      · rw [if_neg (show ¬ nI 4 ≤ (2 : Int32) by decide), if_neg (show ¬ nI 4 ≤ (3 : Int32) by decide)]; rfl
    rw [step, test]
    unfold f8_findRing_b150
    rw [hs1]
    by_cases hI : mb_Is (S 0) p m c
    · rw [if_pos hI, if_neg (show ¬ (1 : Int32) = 0 by decide)]
      right
      unfold f8_takesRing
      rw [show fo_ck (0 : Int32) 4 _ = _ from lb_ck (i := 0) (n := 4) (by omega) (by omega), show fo_ck (1 : Int32) 4 _ = _ from lb_ck (i := 1) (n := 4) (by omega) (by omega), show fo_ck (2 : Int32) 4 _ = _ from lb_ck (i := 2) (n := 4) (by omega) (by omega), show fo_ck (3 : Int32) 4 _ = _ from lb_ck (i := 3) (n := 4) (by omega) (by omega), lb_bd]
      refine ⟨c, _, by omega, hI, hN, rfl, ?_, ?_, ?_, ?_⟩
      · intro g h6 h8
        rw [lb_mn h8, lb_mn h6, lb_mn h6, lb_mn h6, lb_mn h6]
      · intro i hi
        rw [lb_ms, lb_un hi, lb_mn (show (8 : Nat) ≠ 6 by decide), lb_mn (show (8 : Nat) ≠ 6 by decide), lb_mn (show (8 : Nat) ≠ 6 by decide), lb_mn (show (8 : Nat) ≠ 6 by decide)]
      · rw [lb_ms, lb_us]
      · intro j hj
        have : j = 0 ∨ j = 1 ∨ j = 2 ∨ j = 3 := by omega
        rcases this with rfl | rfl | rfl | rfl <;> rfl
    · rw [if_neg hI, if_pos rfl]
      exact lb_findL hp hm hm4 r (c + 1) n (by omega) (by omega) (fun c' h => by
        by_cases e : c' = c
        · subst e; exact hI
        · exact hN c' (by omega))
theorem lb_find {S : ms_T} {p m : Nat} (hp : p < 4) (hm : 2 ≤ m) (hm4 : m ≤ 4) :
    (f8_findRing (nI p) (nI m) S = some (0, S) ∧ ∀ c', c' < 64 → ¬ mb_Is (S 0) p m c') ∨ ∃ c' S', c' < 64 ∧ mb_Is (S 0) p m c' ∧ (∀ c2, c2 < c' → ¬ mb_Is (S 0) p m c2) ∧ f8_findRing (nI p) (nI m) S = some (1, S') ∧ (∀ g, g ≠ 6 → g ≠ 8 → S' g = S g) ∧ (∀ i, i ≠ 5 → S' 8 i = S 8 i) ∧ S' 8 5 = nI m ∧ ∀ j, j < 4 → S' 6 j = nI (mb_v p m c' j) :=
  lb_findL hp hm hm4 64 0 1000 rfl (by omega) (fun c' h => by omega)
/-- a ring's edges as the reference takes them -/
theorem lb_vmod {p m c k : Nat} (hm : 2 ≤ m) (hm4 : m ≤ 4) (hk : k < m) : mb_v p m c ((k + 1) % m) = mb_v p m c (k + 1) := by
  by_cases e : k + 1 = m
  · rw [e, Nat.mod_self]
    have : m = 2 ∨ m = 3 ∨ m = 4 := by omega
    rcases this with rfl | rfl | rfl <;> rfl
  · rw [Nat.mod_eq_of_lt (by omega)]
theorem lb_lsL {S : ms_T} {p m c : Nat} (hm : 2 ≤ m) (hm4 : m ≤ 4) (hv : ∀ j, mb_v p m c j < 4) (h5 : S 8 5 = nI m) (h6 : ∀ j, j < 4 → S 6 j = nI (mb_v p m c j)) : ∀ (r k n : Nat) (l : Int32), k + r = m → r < n → 1 ≤ k → f8_clearsRing_L19 n l (nI k) S = f8_clearsRing_L70 fo_fu (mb_ls (S 0) (mb_v p m c) r k l) 0 S
  | _, _, 0, _, _, h, _ => by omega
  | 0, k, n + 1, l, hk, hn, h1 => by
    show f8_clearsRing_b19 _ l (nI k) S = _
    unfold f8_clearsRing_b19
    rw [h5, if_pos (nI_le (by omega) (by omega))]; rfl
  | r + 1, k, n + 1, l, hk, hn, h1 => by
    show f8_clearsRing_b19 (f8_clearsRing_L19 n) l (nI k) S = f8_clearsRing_L70 fo_fu (mb_ls (S 0) (mb_v p m c) r (k + 1) _) 0 S
    unfold f8_clearsRing_b19 f8_clearsRing_b61 fo_nz
    have hs1 : nI k + (1 : Int32) = nI (k + 1) := (nI_succ k).symm
    have hmd := Nat.mod_lt (k + 1) (show 0 < m by omega)
    rw [h5, if_neg (nI_ge (by omega) (by omega)), hs1, lb_mod (by omega) (by omega), if_neg (nI_ne0 (by omega) (by omega)), lb_ck (by omega) (by omega), lb_ck (by omega) (by omega), lb_cl (by omega), lb_cl (by omega), h6 k (by omega), h6 _ (by omega), lb_vmod hm hm4 (by omega), lb_debt (hv _) (hv _), lb_bd, if_neg (show ¬ k = 0 by omega)]
    by_cases e : l ≤ S 0 (75 + 4 * mb_v p m c k + mb_v p m c (k + 1))
    · rw [if_pos e, if_pos e]; exact lb_lsL hm hm4 hv h5 h6 r (k + 1) n _ (by omega) (by omega) (by omega)
    · rw [if_neg e, if_neg e]; exact lb_lsL hm hm4 hv h5 h6 r (k + 1) n _ (by omega) (by omega) (by omega)
theorem lb_clL {p m c : Nat} {l : Int32} (hm : 2 ≤ m) (hm4 : m ≤ 4) (hv : ∀ j, mb_v p m c j < 4) : ∀ (r k n : Nat) (S : ms_T), k + r = m → r < n → S 8 5 = nI m → (∀ j, j < 4 → S 6 j = nI (mb_v p m c j)) → f8_clearsRing_L70 n l (nI k) S = some (l, ms_set S 0 (mb_cl (mb_v p m c) l r k (S 0)))
  | _, _, 0, _, _, h, _, _ => by omega
  | 0, k, n + 1, S, hk, hn, h5, h6 => by
    have self : ms_set S 0 (S 0) = S := by
      funext g; unfold ms_set; split
      · next h => rw [h]
      · rfl
    show f8_clearsRing_b70 _ l (nI k) S = some (l, ms_set S 0 (S 0))
    unfold f8_clearsRing_b70
    rw [h5, if_pos (nI_le (by omega) (by omega)), self]
  | r + 1, k, n + 1, S, hk, hn, h5, h6 => by
    show f8_clearsRing_b70 (f8_clearsRing_L70 n) l (nI k) S = some (l, ms_set S 0 (mb_cl (mb_v p m c) l r (k + 1) (mb_addD (S 0) (mb_v p m c k) (mb_v p m c (k + 1)) (-l))))
    unfold f8_clearsRing_b70 fo_nz
    have hs1 : nI k + (1 : Int32) = nI (k + 1) := (nI_succ k).symm
    have hmd := Nat.mod_lt (k + 1) (show 0 < m by omega)
    rw [h5, if_neg (nI_ge (by omega) (by omega)), hs1, lb_mod (by omega) (by omega), if_neg (nI_ne0 (by omega) (by omega)), lb_ck (by omega) (by omega), lb_ck (by omega) (by omega), lb_cl (by omega), lb_cl (by omega), h6 k (by omega), h6 _ (by omega), lb_vmod hm hm4 (by omega), lb_addD (hv _) (hv _), lb_bd]
    rw [lb_clL hm hm4 hv r (k + 1) n _ (by omega) (by omega) (by rw [lb_mn (by omega)]; exact h5) (fun j hj => by rw [lb_mn (by omega)]; exact h6 j hj), lb_ms]
    congr 2
    funext g; unfold ms_set; split <;> rfl
