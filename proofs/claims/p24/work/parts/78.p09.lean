/-! ## The law's board: the first ring -/
theorem gk_16 : ∀ c, c < 64 → nI c >>> ((4 : Int32) &&& 31) = nI (c / 16) := by decide +kernel
theorem gk_4 : ∀ c, c < 64 → (nI c >>> ((2 : Int32) &&& 31)) &&& (3 : Int32) = nI (c / 4 % 4) := by decide +kernel
theorem gk_1 : ∀ c, c < 64 → nI c &&& (3 : Int32) = nI (c % 4) := by decide +kernel
theorem gk_k0 {β : Type} {k : Option β} : fo_ck (0 : Int32) 5 k = k := lb_ck (i := 0) (n := 5) (by omega) (by omega)
theorem gk_k1 {β : Type} {k : Option β} : fo_ck (1 : Int32) 5 k = k := lb_ck (i := 1) (n := 5) (by omega) (by omega)
theorem gk_k2 {β : Type} {k : Option β} : fo_ck (2 : Int32) 5 k = k := lb_ck (i := 2) (n := 5) (by omega) (by omega)
theorem gk_k3 {β : Type} {k : Option β} : fo_ck (3 : Int32) 5 k = k := lb_ck (i := 3) (n := 5) (by omega) (by omega)
theorem gk_way {g : Nat → Int32} {p m c : Nat} (hm : 2 ≤ m) (hm4 : m ≤ 4) : ∀ j, j ≤ m → upd (upd (upd (upd (upd g 0 (nI p)) 1 (nI (c / 16))) 2 (nI (c / 4 % 4))) 3 (nI (c % 4))) m (nI p) j = nI (mb_v p m c j) := by
  intro j hj
  have hm' : m = 2 ∨ m = 3 ∨ m = 4 := by omega
  have hj' : j = 0 ∨ j = 1 ∨ j = 2 ∨ j = 3 ∨ j = 4 := by omega
  rcases hm' with rfl | rfl | rfl
  · rcases hj' with rfl | rfl | rfl | rfl | rfl
    · rfl
    · rfl
    · rfl
    · omega
    · omega
  · rcases hj' with rfl | rfl | rfl | rfl | rfl
    · rfl
    · rfl
    · rfl
    · rfl
    · omega
  · rcases hj' with rfl | rfl | rfl | rfl | rfl <;> rfl
section CLEAR2
variable {T : Nat → Int32} {rec8 : Int32 → Int32 → ms_T → Option (Int32 × ms_T)} {v4 : Int32}
theorem ga_cdL {rec14 : Int32 → Int32 → Int32 → Int32 → ms_T → Option (Int32 × ms_T)} {p m : Nat} (hp : p < 4) (hm : 2 ≤ m) (hm4 : m ≤ 4) (dz : ∀ k, k < 4 → ¬ mb_E T k k) : ∀ (r c n : Nat) (B : ms_T), c + r = 64 → r < n → RG B T → (∀ c', c' < c → ¬ mb_Is T p m c') →
    (∃ B', RG B' T ∧ (∀ c', c' < 64 → ¬ mb_Is T p m c') ∧ f9_clear_L28 rec8 rec14 n (nI p) v4 0 (nI m) (nI c) B = rec14 (nI p) v4 0 (nI (m + 1)) B') ∨
    ∃ c' B', c' < 64 ∧ mb_Is T p m c' ∧ (∀ c2, c2 < c' → ¬ mb_Is T p m c2) ∧ RG B' T ∧ (∀ j, j ≤ m → B' 5 j = nI (mb_v p m c' j)) ∧ f9_clear_L28 rec8 rec14 n (nI p) v4 0 (nI m) (nI c) B = rec14 (nI p) v4 (nI m) (nI (m + 1)) B'
  | r, c, 0, _, _, hn, _, _ => by omega
  | 0, c, n + 1, B, hc, _, hR, hno => by
    left
    refine ⟨B, hR, fun c' h => hno c' (by omega), ?_⟩
    show f9_clear_b28 rec8 rec14 (f9_clear_L28 rec8 rec14 n) (nI p) v4 0 (nI m) (nI c) B = _
    unfold f9_clear_b28 f9_clear_b188
    rw [show (64 : Int32) = nI 64 from rfl, if_pos (nI_le (by omega) (by omega)), ga_p1]
  | r + 1, c, n + 1, B, hc, hn, hR, hno => by
    have hc64 : c < 64 := by omega
    have st : ∃ B5, RG B5 T ∧ (∀ j, j ≤ m → B5 5 j = nI (mb_v p m c j)) ∧ f9_clear_L28 rec8 rec14 (n + 1) (nI p) v4 0 (nI m) (nI c) B = f9_clear_L83 rec8 rec14 (f9_clear_L28 rec8 rec14 n) fo_fu (nI p) v4 (nI m) (nI c) 1 0 B5 := by
      show ∃ B5, _ ∧ _ ∧ f9_clear_b28 rec8 rec14 (f9_clear_L28 rec8 rec14 n) (nI p) v4 0 (nI m) (nI c) B = _
      unfold f9_clear_b28
      rw [show (64 : Int32) = nI 64 from rfl, if_neg (nI_ge (by omega) (by omega)), if_pos rfl, gk_k0, lb_bd, gk_k1, lb_bd, gk_k2, lb_bd, gk_k3, lb_bd, lb_ck (by omega) (by omega), lb_bd, lb_c0, lb_c1, lb_c2, lb_c3, lb_cl (by omega), gk_16 c hc64, gk_4 c hc64, gk_1 c hc64]
      refine ⟨_, ((((hR.row5 _).row5 _).row5 _).row5 _).row5 _, fun j hj => ?_, rfl⟩
      rw [lb_ms, lb_ms, lb_ms, lb_ms, lb_ms]
      exact gk_way hm hm4 j hj
    obtain ⟨B5, r5, w5, f5⟩ := st
    have hfu : m < fo_fu := by show m < 1000; omega
    obtain ⟨a', h1, h2⟩ := ga_dO (rec8 := rec8) (rec14 := rec14) (rec28 := f9_clear_L28 rec8 rec14 n) (v0 := nI p) (v4 := v4) (v8 := nI c) r5 hm4 (fun j => lb_v4 hp hc64 j) w5 m 0 fo_fu 1 (by omega) hfu (Or.inr rfl)
    rw [show nI 0 = (0 : Int32) from rfl] at h2
    rw [f5, h2]
    clear f5 h2
    unfold f9_clear_b180
    rw [ga_p1]
    rcases h1 with ⟨h1, -, h3⟩ | ⟨h1, h3⟩
    · right
      have his := (ga_isE hp hm hm4 hc64 dz).mpr h3
      refine ⟨c, B5, hc64, his, hno, r5, w5, ?_⟩
      rw [h1, if_neg (show ¬ (1 : Int32) = 0 by decide)]
      obtain ⟨n, rfl⟩ : ∃ n', n = n' + 1 := ⟨n - 1, by omega⟩
      show f9_clear_b28 rec8 rec14 (f9_clear_L28 rec8 rec14 n) (nI p) v4 (nI m) (nI m) (nI (c + 1)) B5 = _
      unfold f9_clear_b28 f9_clear_b188
      rw [if_neg (nI_ne0 (by omega) (by omega)), ite_self, ga_p1]
    · have hnis : ¬ mb_Is T p m c := by
        intro x
        have := (ga_isE hp hm hm4 hc64 dz).mp x
        rcases h3 with h3 | ⟨j, j1, j2, j3⟩
        · exact absurd h3 (by decide)
        · exact j3 (this j j1 j2)
      rw [h1, if_pos rfl]
      exact ga_cdL hp hm hm4 dz r (c + 1) n B5 (by omega) (by omega) r5 (fun c' hc' => by
        by_cases e : c' = c
        · subst e; exact hnis
        · exact hno c' (by omega))
theorem ga_14 {p : Nat} (hp : p < 4) (dz : ∀ k, k < 4 → ¬ mb_E T k k) : ∀ (r m n : Nat) (B : ms_T), m + r = 5 → 2 ≤ m → r < n → RG B T → (∀ m' c', 2 ≤ m' → m' < m → c' < 64 → ¬ mb_Is T p m' c') →
    (∃ B', RG B' T ∧ (∀ m' c', 2 ≤ m' → m' ≤ 4 → c' < 64 → ¬ mb_Is T p m' c') ∧ f9_clear_L14 rec8 n (nI p) v4 0 (nI m) B = some (v4, B')) ∨
    ∃ d c' B', 2 ≤ d ∧ d ≤ 4 ∧ c' < 64 ∧ mb_Is T p d c' ∧ (∀ c2, c2 < c' → ¬ mb_Is T p d c2) ∧ (∀ m' c', 2 ≤ m' → m' < d → c' < 64 → ¬ mb_Is T p m' c') ∧ RG B' T ∧ (∀ j, j ≤ d → B' 5 j = nI (mb_v p d c' j)) ∧ f9_clear_L14 rec8 n (nI p) v4 0 (nI m) B = f9_clear_L209 rec8 fo_fu (nI p) v4 (nI d) (999999 : Int32) (0 : Int32) B'
  | r, m, 0, _, _, _, hn, _, _ => by omega
  | 0, m, n + 1, B, hm, hm2, _, hR, hno => by
    left
    refine ⟨B, hR, fun m' c' h1 h2 h3 => hno m' c' h1 (by omega) h3, ?_⟩
    show f9_clear_b14 rec8 (f9_clear_L14 rec8 n) (nI p) v4 0 (nI m) B = _
    unfold f9_clear_b14 f9_clear_b194
    rw [show (5 : Int32) = nI 5 from rfl, if_pos (nI_le (by omega) (by omega)), if_pos rfl]
  | r + 1, m, n + 1, B, hm, hm2, hn, hR, hno => by
    have e : f9_clear_L14 rec8 (n + 1) (nI p) v4 0 (nI m) B = f9_clear_L28 rec8 (f9_clear_L14 rec8 n) fo_fu (nI p) v4 0 (nI m) 0 B := by
      show f9_clear_b14 rec8 (f9_clear_L14 rec8 n) (nI p) v4 0 (nI m) B = _
      unfold f9_clear_b14
      rw [show (5 : Int32) = nI 5 from rfl, if_neg (nI_ge (by omega) (by omega)), if_pos rfl]
    have hfu : 64 < fo_fu := by show 64 < 1000; omega
    rw [e]
    have h1 := ga_cdL (rec8 := rec8) (rec14 := f9_clear_L14 rec8 n) (v4 := v4) hp hm2 (show m ≤ 4 by omega) dz 64 0 fo_fu B (by omega) hfu hR (fun c' h => by omega)
    rw [show nI 0 = (0 : Int32) from rfl] at h1
    rcases h1 with ⟨B', r1, no, f1⟩ | ⟨c', B', hc', his, hlt, r1, w1, f1⟩
    · rw [f1]
      exact ga_14 hp dz r (m + 1) n B' (by omega) (by omega) (by omega) r1 (fun m' c' a1 a2 a3 => by
        by_cases em : m' = m
        · subst em; exact no c' a3
        · exact hno m' c' a1 (by omega) a3)
    · right
      refine ⟨m, c', B', hm2, by omega, hc', his, hlt, hno, r1, w1, ?_⟩
      rw [f1]
      obtain ⟨n, rfl⟩ : ∃ n', n = n' + 1 := ⟨n - 1, by omega⟩
      show f9_clear_b14 rec8 (f9_clear_L14 rec8 n) (nI p) v4 (nI m) (nI (m + 1)) B' = _
      unfold f9_clear_b14 f9_clear_b194
      have hm0 : ¬ nI m = 0 := nI_ne0 (by omega) (by omega)
      rw [if_neg hm0, if_neg hm0, ite_self]
/-- the least debt on the ring -/
def gm_ls (T : Nat → Int32) (v : Nat → Nat) : Nat → Nat → Int32 → Int32
  | 0, _, l => l
  | r + 1, s, l => gm_ls T v r (s + 1) (if l ≤ T (75 + 4 * v s + v (s + 1)) then l else T (75 + 4 * v s + v (s + 1)))
theorem gm_lsE {v : Nat → Nat} : ∀ (r s : Nat) (l : Int32), 1 ≤ s → gm_ls T v r s l = mb_ls T v r s l
  | 0, _, _, _ => rfl
  | r + 1, s, l, hs => by
    show gm_ls T v r (s + 1) (if l ≤ T (75 + 4 * v s + v (s + 1)) then l else T (75 + 4 * v s + v (s + 1))) = mb_ls T v r (s + 1) (if s = 0 then T (75 + 4 * v s + v (s + 1)) else if l ≤ T (75 + 4 * v s + v (s + 1)) then l else T (75 + 4 * v s + v (s + 1)))
    rw [if_neg (show ¬ s = 0 by omega)]
    exact gm_lsE r (s + 1) _ (by omega)
theorem ga_lsE {v : Nat → Nat} {m : Nat} (hm4 : m ≤ 4) (hv : ∀ j, v j < 4) {B : ms_T} (hR : RG B T) (hW : ∀ j, j ≤ m → B 5 j = nI (v j)) {v0 : Int32} : ∀ (r k n : Nat) (l : Int32), k + r = m → r < n → f9_clear_L209 rec8 n v0 v4 (nI m) l (nI k) B = f9_clear_L271 rec8 fo_fu v0 v4 (nI m) (gm_ls T v r k l) 0 B
  | r, k, 0, l, _, hn => by omega
  | 0, k, n + 1, l, hk, _ => by
    show f9_clear_b209 rec8 (f9_clear_L209 rec8 n) v0 v4 (nI m) l (nI k) B = _
    unfold f9_clear_b209
    rw [if_pos (nI_le (by omega) (by omega))]
    rfl
  | r + 1, k, n + 1, l, hk, hn => by
    have h1 := hv k
    have h2 := hv (k + 1)
    show f9_clear_b209 rec8 (f9_clear_L209 rec8 n) v0 v4 (nI m) l (nI k) B = f9_clear_L271 rec8 fo_fu v0 v4 (nI m) (gm_ls T v r (k + 1) (if l ≤ T (75 + 4 * v k + v (k + 1)) then l else T (75 + 4 * v k + v (k + 1)))) 0 B
    unfold f9_clear_b209 f9_clear_b260
    rw [if_neg (nI_ge (by omega) (by omega)), ga_p1, lb_cl (by omega), lb_cl (by omega), hW k (by omega), hW (k + 1) (by omega), ga_4, lb_add, lb_ck (by omega) (by omega), lb_ck (by omega) (by omega), lb_ck (by omega) (by omega), lb_cl (by omega), hR.d (by omega), ← Nat.add_assoc]
    by_cases c : l ≤ T (75 + 4 * v k + v (k + 1))
    · rw [if_pos c, if_pos c]
      exact ga_lsE hm4 hv hR hW r (k + 1) n l (by omega) (by omega)
    · rw [if_neg c, if_neg c, lb_ck (by omega) (by omega), lb_ck (by omega) (by omega), lb_ck (by omega) (by omega)]
      exact ga_lsE hm4 hv hR hW r (k + 1) n _ (by omega) (by omega)
end CLEAR2
/-- the ring's debts become less -/
theorem ga_clC {P t : Nat} {b C A : Int} (hA : 0 ≤ A) {v : Nat → Nat} {m : Nat} {l : Int32} (hm4 : m ≤ 4) (hv : ∀ j, v j < 4) (di : ∀ i j, i < j → j < m → v i ≠ v j) (hl : 0 < l) {v0 v4 : Int32} {rec8 : Int32 → Int32 → ms_T → Option (Int32 × ms_T)} :
    ∀ (r s n : Nat) (B : ms_T) (T : Nat → Int32), s + r = m → r < n → RG B T → mb_I P t b C A T → (∀ j, j ≤ m → B 5 j = nI (v j)) → (∀ j, s ≤ j → j < m → l ≤ T (75 + 4 * v j + v (j + 1))) →
      ∃ B', RG B' (mb_cl v l r s T) ∧ (∀ i, i < 16 → (mb_cl v l r s T (75 + i)).toInt ≤ (T (75 + i)).toInt) ∧ f9_clear_L271 rec8 n v0 v4 (nI m) l (nI s) B = rec8 v0 (v4 + l) B'
  | r, s, 0, _, _, _, hn, _, _, _, _ => by omega
  | 0, s, n + 1, B, T, hs, _, hR, _, _, _ => by
    refine ⟨B, hR, fun i _ => Int.le_refl _, ?_⟩
    show f9_clear_b271 rec8 (f9_clear_L271 rec8 n) v0 v4 (nI m) l (nI s) B = _
    unfold f9_clear_b271
    rw [if_pos (nI_le (by omega) (by omega))]
  | r + 1, s, n + 1, B, T, hs, hn, hR, h, hW, hle => by
    have h1 := hle s (by omega) (by omega)
    have a1 := hv s; have a2 := hv (s + 1)
    have hpos : 0 < T (75 + 4 * v s + v (s + 1)) := by
      rw [lb_0lt] at hl ⊢; rw [lb_le] at h1; omega
    obtain ⟨p1, p2, p3⟩ := h.pos a1 a2 hpos
    have cc := h.co (4 * v s + v (s + 1)) (by omega)
    rw [show 75 + (4 * v s + v (s + 1)) = 75 + 4 * v s + v (s + 1) by omega] at cc
    have bc := h.bC
    have hl0 := hl
    rw [lb_0lt] at hl hpos
    rw [lb_le] at h1
    have nx : (-l).toInt = -l.toInt := lb_neg_toInt (by omega)
    have s1 : (T (75 + 4 * v s + v (s + 1)) + -l).toInt = (T (75 + 4 * v s + v (s + 1))).toInt - l.toInt := by
      rw [lb_add_toInt (by omega) (by omega), nx]; omega
    have g : mb_I P t b C A (mb_addD T (v s) (v (s + 1)) (-l)) := h.addD p1 p2 p3 (by rw [s1]; omega) (Int.le_refl _) hA bc
    have hoth : ∀ j, j ≠ s → j < m → mb_addD T (v s) (v (s + 1)) (-l) (75 + 4 * v j + v (j + 1)) = T (75 + 4 * v j + v (j + 1)) := by
      intro j e hj
      have a3 := hv j; have a4 := hv (j + 1)
      have : v s ≠ v j := by
        by_cases c : s < j
        · exact di s j c hj
        · exact fun h => di j s (by omega) (by omega) h.symm
      exact lb_addDn (by omega) (by omega)
    have step : ∃ B1, RG B1 (mb_addD T (v s) (v (s + 1)) (-l)) ∧ (∀ j, j ≤ m → B1 5 j = nI (v j)) ∧ f9_clear_b271 rec8 (f9_clear_L271 rec8 n) v0 v4 (nI m) l (nI s) B = f9_clear_L271 rec8 n v0 v4 (nI m) l (nI (s + 1)) B1 := by
      unfold f9_clear_b271
      rw [if_neg (nI_ge (by omega) (by omega)), ga_p1, lb_cl (by omega), lb_cl (by omega), hW s (by omega), hW (s + 1) (by omega), ga_4, lb_add, lb_ck (by omega) (by omega), lb_ck (by omega) (by omega), lb_ck (by omega) (by omega), lb_ck (by omega) (by omega), lb_bd, lb_cl (by omega)]
      have r1 := hR.set3 (i := 4 * v s + v (s + 1)) (by omega) (T (75 + 4 * v s + v (s + 1)) + -l)
      rw [hR.d (by omega), ← Nat.add_assoc, Int32.sub_eq_add_neg]
      rw [← Nat.add_assoc] at r1
      have w1 : ∀ j, j ≤ m → ms_set B 3 (upd (B 3) (4 * v s + v (s + 1)) (T (75 + 4 * v s + v (s + 1)) + -l)) 5 j = nI (v j) := fun j hj => by rw [lb_mn (by decide)]; exact hW j hj
      generalize ms_set B 3 (upd (B 3) (4 * v s + v (s + 1)) (T (75 + 4 * v s + v (s + 1)) + -l)) = B1 at r1 w1 ⊢
      rw [lb_ck (by omega) (by omega), r1.d (by omega), ← Nat.add_assoc, lb_us, r1.g (by omega), ← Nat.add_assoc, lb_un (show 91 + 4 * v s + v (s + 1) ≠ 75 + 4 * v s + v (s + 1) by omega)]
      have fin : ∀ x : Int32, RG (ms_set B1 4 (upd (B1 4) (4 * v s + v (s + 1)) x)) (mb_addD T (v s) (v (s + 1)) (-l)) → ∃ B1', RG B1' (mb_addD T (v s) (v (s + 1)) (-l)) ∧ (∀ j, j ≤ m → B1' 5 j = nI (v j)) ∧ f9_clear_b322 rec8 (f9_clear_L271 rec8 n) v0 v4 (nI m) l (nI s) (nI (4 * v s + v (s + 1))) x B1 = f9_clear_L271 rec8 n v0 v4 (nI m) l (nI (s + 1)) B1' := by
        intro x hx
        refine ⟨_, hx, fun j hj => by rw [lb_mn (by decide)]; exact w1 j hj, ?_⟩
        unfold f9_clear_b322
        rw [lb_ck (by omega) (by omega), lb_bd, lb_cl (by omega), ga_p1]
      have hne0 : T (75 + 4 * v s + v (s + 1)) ≠ 0 := by intro e; rw [lb_eq0] at e; omega
      by_cases c : T (75 + 4 * v s + v (s + 1)) + -l ≤ 0
      · rw [if_pos c]
        refine fin 0 ?_
        have z : T (75 + 4 * v s + v (s + 1)) + -l = 0 := by rw [lb_eq0]; rw [lb_le0] at c; omega
        have r2 := r1.set4 (i := 4 * v s + v (s + 1)) (by omega) 0
        unfold mb_addD
        rw [if_pos (Or.inr z)]
        rw [← Nat.add_assoc] at r2
        exact r2
      · rw [if_neg c, lb_ck (by omega) (by omega)]
        refine fin _ ?_
        have z : ¬ T (75 + 4 * v s + v (s + 1)) + -l = 0 := by intro e; rw [e] at c; exact c (by decide)
        have r2 := r1.set4 (i := 4 * v s + v (s + 1)) (by omega) (T (91 + 4 * v s + v (s + 1)))
        have eu : upd (upd T (75 + 4 * v s + v (s + 1)) (T (75 + 4 * v s + v (s + 1)) + -l)) (91 + 4 * v s + v (s + 1)) (T (91 + 4 * v s + v (s + 1))) = upd T (75 + 4 * v s + v (s + 1)) (T (75 + 4 * v s + v (s + 1)) + -l) := lb_ui' (by rw [lb_un (by omega)])
        rw [← Nat.add_assoc, eu] at r2
        unfold mb_addD
        rw [if_neg (by rintro (y | y); exact hne0 y; exact z y)]
        exact r2
    obtain ⟨B1, r1, w1, f1⟩ := step
    obtain ⟨B', r2, k2, f2⟩ := ga_clC hA hm4 hv di hl0 r (s + 1) n B1 _ (by omega) (by omega) r1 g w1 (fun j j1 j2 => by rw [hoth j (by omega) j2]; exact hle j (by omega) j2)
    refine ⟨B', r2, fun i hi => ?_, ?_⟩
    · have k3 := k2 i hi
      show (mb_cl v l r (s + 1) (mb_addD T (v s) (v (s + 1)) (-l)) (75 + i)).toInt ≤ _
      by_cases e : i = 4 * v s + v (s + 1)
      · subst e
        rw [show 75 + (4 * v s + v (s + 1)) = 75 + 4 * v s + v (s + 1) by omega] at k3 ⊢
        rw [lb_addDs, s1] at k3
        omega
      · rw [lb_addDn (by omega) (by omega)] at k3
        exact k3
    · show f9_clear_b271 rec8 (f9_clear_L271 rec8 n) v0 v4 (nI m) l (nI s) B = _
      rw [f1, f2]
