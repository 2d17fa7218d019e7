/-! ## Layer B: what there is -/
theorem lb_ifs {α : Type} {c : Prop} [Decidable c] (a b : α) : (if c then some a else some b) = some (if c then a else b) := by
  by_cases h : c
  · rw [if_pos h, if_pos h]
  · rw [if_neg h, if_neg h]
def mb_by (T : Nat → Int32) (p : Nat) : Int32 := mb_fo (fun j => T (75 + 4 * p + j)) 4 0 0
def mb_to (T : Nat → Int32) (p : Nat) : Int32 := mb_fo (fun j => T (75 + 4 * j + p)) 4 0 0
theorem lb_by8L {T : Nat → Int32} {P p : Nat} (h6 : T 6 = nI P) (hP : P ≤ 4) (hp : p < 4) (z : ∀ j, P ≤ j → j < 4 → T (75 + 4 * p + j) = 0) : ∀ (r k n : Nat) (a : Int32), k + r = 4 → r < n → f8_owedBy_L4 n (nI p) a (nI k) T = some (mb_fo (fun j => T (75 + 4 * p + j)) r k a)
  | _, _, 0, _, _, h => by omega
  | r, k, n + 1, a, hk, hn => by
    show f8_owedBy_b4 (f8_owedBy_L4 n) (nI p) a (nI k) T = _
    unfold f8_owedBy_b4
    rw [lb_k6, lb_c6, h6]
    by_cases hPk : P ≤ k
    · rw [if_pos (nI_le hPk (by omega)), lb_foZ r k a (fun j h1 h2 => z j (by omega) (by omega))]
    · obtain ⟨r, rfl⟩ : ∃ r', r = r' + 1 := ⟨r - 1, by omega⟩
      have hs : nI k + 1 = nI (k + 1) := (nI_succ k).symm
      rw [if_neg (nI_ge (by omega) (by omega)), lb_debt hp (by omega), lb_bd, hs]
      exact lb_by8L h6 hP hp z r (k + 1) n _ (by omega) (by omega)
theorem lb_to8L {T : Nat → Int32} {P p : Nat} (h6 : T 6 = nI P) (hP : P ≤ 4) (hp : p < 4) (z : ∀ j, P ≤ j → j < 4 → T (75 + 4 * j + p) = 0) : ∀ (r k n : Nat) (a : Int32), k + r = 4 → r < n → f8_owedTo_L4 n (nI p) a (nI k) T = some (mb_fo (fun j => T (75 + 4 * j + p)) r k a)
  | _, _, 0, _, _, h => by omega
  | r, k, n + 1, a, hk, hn => by
    show f8_owedTo_b4 (f8_owedTo_L4 n) (nI p) a (nI k) T = _
    unfold f8_owedTo_b4
    rw [lb_k6, lb_c6, h6]
    by_cases hPk : P ≤ k
    · rw [if_pos (nI_le hPk (by omega)), lb_foZ r k a (fun j h1 h2 => z j (by omega) (by omega))]
    · obtain ⟨r, rfl⟩ : ∃ r', r = r' + 1 := ⟨r - 1, by omega⟩
      have hs : nI k + 1 = nI (k + 1) := (nI_succ k).symm
      rw [if_neg (nI_ge (by omega) (by omega)), lb_debt (by omega) hp, lb_bd, hs]
      exact lb_to8L h6 hP hp z r (k + 1) n _ (by omega) (by omega)
theorem mb_I.by8 {P t : Nat} {B C A : Int} {T : Nat → Int32} (h : mb_I P t B C A T) {p : Nat} (hp : p < 4) : f8_owedBy (nI p) T = some (mb_by T p) :=
  lb_by8L h.h6 h.P4 hp (fun j h1 h2 => h.cz p j hp h2 (Or.inr (Or.inr h1))) 4 0 1000 0 rfl (by omega)
theorem mb_I.to8 {P t : Nat} {B C A : Int} {T : Nat → Int32} (h : mb_I P t B C A T) {p : Nat} (hp : p < 4) : f8_owedTo (nI p) T = some (mb_to T p) :=
  lb_to8L h.h6 h.P4 hp (fun j h1 h2 => h.cz j p h2 hp (Or.inr (Or.inl h1))) 4 0 1000 0 rfl (by omega)
theorem lb_by1L {D : ms_T} {T : Nat → Int32} {p : Nat} (h0 : ∀ i, i < 16 → D 0 i = T (75 + i)) (hp : p < 4) : ∀ (r k n : Nat) (a : Int32), k + r = 4 → r < n → f1_owedBy_L4 n (nI p) a (nI k) D = some (mb_fo (fun j => T (75 + 4 * p + j)) r k a)
  | _, _, 0, _, _, h => by omega
  | 0, k, n + 1, a, hk, hn => by
    show f1_owedBy_b4 _ (nI p) a (nI k) D = _
    unfold f1_owedBy_b4
    rw [show (4 : Int32) = nI 4 from rfl, if_pos (nI_le (by omega) (by omega))]; rfl
  | r + 1, k, n + 1, a, hk, hn => by
    show f1_owedBy_b4 (f1_owedBy_L4 n) (nI p) a (nI k) D = some (mb_fo _ r (k + 1) _)
    unfold f1_owedBy_b4
    have hs : nI k + 1 = nI (k + 1) := (nI_succ k).symm
    rw [show (4 : Int32) = nI 4 from rfl, if_neg (nI_ge (by omega) (by omega)), lb_mul, lb_add, lb_at (by omega) (by omega), lb_bd, h0 _ (by omega), hs, show 75 + (p * 4 + k) = 75 + 4 * p + k by omega]
    exact lb_by1L h0 hp r (k + 1) n _ (by omega) (by omega)
theorem lb_to1L {D : ms_T} {T : Nat → Int32} {p : Nat} (h0 : ∀ i, i < 16 → D 0 i = T (75 + i)) (hp : p < 4) : ∀ (r k n : Nat) (a : Int32), k + r = 4 → r < n → f1_owedTo_L4 n (nI p) a (nI k) D = some (mb_fo (fun j => T (75 + 4 * j + p)) r k a)
  | _, _, 0, _, _, h => by omega
  | 0, k, n + 1, a, hk, hn => by
    show f1_owedTo_b4 _ (nI p) a (nI k) D = _
    unfold f1_owedTo_b4
    rw [show (4 : Int32) = nI 4 from rfl, if_pos (nI_le (by omega) (by omega))]; rfl
  | r + 1, k, n + 1, a, hk, hn => by
    show f1_owedTo_b4 (f1_owedTo_L4 n) (nI p) a (nI k) D = some (mb_fo _ r (k + 1) _)
    unfold f1_owedTo_b4
    have hs : nI k + 1 = nI (k + 1) := (nI_succ k).symm
    rw [show (4 : Int32) = nI 4 from rfl, if_neg (nI_ge (by omega) (by omega)), lb_mul, lb_add, lb_at (by omega) (by omega), lb_bd, h0 _ (by omega), hs, show 75 + (k * 4 + p) = 75 + 4 * k + p by omega]
    exact lb_to1L h0 hp r (k + 1) n _ (by omega) (by omega)
theorem RB.by1 {S : ms_T} {T : Nat → Int32} (hR : RB S T) {p : Nat} (hp : p < 4) : f1_owedBy (nI p) (ms_from S 2) = some (mb_by T p) :=
  lb_by1L (fun i hi => hR.c hi) hp 4 0 1000 0 rfl (by omega)
theorem RB.to1 {S : ms_T} {T : Nat → Int32} (hR : RB S T) {p : Nat} (hp : p < 4) : f1_owedTo (nI p) (ms_from S 2) = some (mb_to T p) :=
  lb_to1L (fun i hi => hR.c hi) hp 4 0 1000 0 rfl (by omega)
/-! all debts -/
theorem lb_foA {g : Nat → Int32} : ∀ (r k : Nat) (a b : Int32), mb_fo g r k (a + b) = a + mb_fo g r k b
  | 0, _, _, _ => rfl
  | r + 1, k, a, b => by
    show mb_fo g r (k + 1) (a + b + g k) = a + mb_fo g r (k + 1) (b + g k)
    rw [Int32.add_assoc]; exact lb_foA r (k + 1) a (b + g k)
theorem lb_foJ {g : Nat → Int32} : ∀ (r s k : Nat) (a : Int32), mb_fo g (r + s) k a = mb_fo g s (k + r) (mb_fo g r k a)
  | 0, s, k, a => by rw [Nat.zero_add]; rfl
  | r + 1, s, k, a => by
    rw [show r + 1 + s = (r + s) + 1 by omega]
    show mb_fo g (r + s) (k + 1) (a + g k) = mb_fo g s (k + (r + 1)) (mb_fo g r (k + 1) (a + g k))
    rw [lb_foJ r s (k + 1), show k + 1 + r = k + (r + 1) by omega]
theorem lb_foSh {g : Nat → Int32} (d : Nat) : ∀ (r k : Nat) (a : Int32), mb_fo (fun j => g (d + j)) r k a = mb_fo g r (d + k) a
  | 0, _, _ => rfl
  | r + 1, k, a => by
    show mb_fo (fun j => g (d + j)) r (k + 1) (a + g (d + k)) = mb_fo g r (d + k + 1) (a + g (d + k))
    exact lb_foSh d r (k + 1) _
/-- the 16 numbers of four rows, one row after the other -/
theorem lb_fo16 {g : Nat → Int32} (r k : Nat) (a : Int32) : mb_fo g (4 * (r + 1)) (4 * k) a = mb_fo g (4 * r) (4 * (k + 1)) (mb_fo (fun j => g (4 * k + j)) 4 0 a) := by
  rw [lb_foSh (4 * k) 4 0 a, show 4 * (r + 1) = 4 + 4 * r by omega, lb_foJ 4 (4 * r) (4 * k) a]
  rfl
theorem lb_sD8L {P t : Nat} {B C A : Int} {T : Nat → Int32} (h : mb_I P t B C A T) : ∀ (r k n : Nat) (a : Int32), k + r = 4 → r < n → f8_sumOfDebts_L4 n a (nI k) T = some (mb_fo (fun j => T (75 + j)) (4 * r) (4 * k) a)
  | _, _, 0, _, _, h => by omega
  | r, k, n + 1, a, hk, hn => by
    have hP := h.P4
    show f8_sumOfDebts_b4 (f8_sumOfDebts_L4 n) a (nI k) T = _
    unfold f8_sumOfDebts_b4
    rw [lb_k6, lb_c6, h.h6]
    by_cases hPk : P ≤ k
    · rw [if_pos (nI_le hPk (by omega)), lb_foZ (4 * r) (4 * k) a (fun j h1 h2 => by
        have z := h.cz (j / 4) (j % 4) (by omega) (by omega) (Or.inr (Or.inl (by omega)))
        rw [show 75 + 4 * (j / 4) + j % 4 = 75 + j by omega] at z
        exact z)]
    · obtain ⟨r, rfl⟩ : ∃ r', r = r' + 1 := ⟨r - 1, by omega⟩
      have hs : nI k + 1 = nI (k + 1) := (nI_succ k).symm
      rw [if_neg (nI_ge (by omega) (by omega)), h.by8 (p := k) (by omega), lb_bd, hs, lb_fo16]
      have e : a + mb_by T k = mb_fo (fun j => (fun j => T (75 + j)) (4 * k + j)) 4 0 a := by
        unfold mb_by
        rw [← lb_foA, Int32.add_zero]
        exact lb_foE 4 0 a (fun j h1 h2 => by show T (75 + 4 * k + j) = T (75 + (4 * k + j)); congr 1; omega)
      rw [e]
      exact lb_sD8L h r (k + 1) n _ (by omega) (by omega)
def mb_all (T : Nat → Int32) : Int32 := mb_fo (fun j => T (75 + j)) 16 0 0
theorem mb_I.sD8 {P t : Nat} {B C A : Int} {T : Nat → Int32} (h : mb_I P t B C A T) : f8_sumOfDebts T = some (mb_all T) := lb_sD8L h 4 0 1000 0 rfl (by omega)
theorem lb_sumF {v : Int32} {z : Nat} {S : Nat → Int32} (hz : z < 1000) : ∀ r k n (a : Int32), k + r = z → r < n → f6_sum_L4 v z n a (nI k) S = some (mb_fo S r k a)
  | _, _, 0, _, _, h => by omega
  | 0, k, n + 1, a, hk, _ => by
    show f6_sum_b4 v z _ a (nI k) S = _
    unfold f6_sum_b4
    rw [if_pos (nI_le (by omega) (by omega))]; rfl
  | r + 1, k, n + 1, a, hk, hn => by
    show f6_sum_b4 v z _ a (nI k) S = _
    unfold f6_sum_b4
    rw [if_neg (nI_ge (by omega) (by omega)), lb_ck (by omega) (by omega), lb_cl (by omega)]
    have h1 : nI k + 1 = nI (k + 1) := (nI_succ k).symm
    rw [h1, lb_sumF hz r (k + 1) n _ (by omega) (by omega)]; rfl
theorem RB.sD1 {S : ms_T} {T : Nat → Int32} (hR : RB S T) : f1_inAll (ms_from S 2) = some (mb_all T) := by
  have h : f6_sum 0 16 (ms_from S 2 0) = some (mb_fo (ms_from S 2 0) 16 0 0) := lb_sumF (v := 0) (z := 16) (S := (ms_from S 2) 0) (by omega) 16 0 1000 0 rfl (by omega)
  unfold f1_inAll
  rw [h, lb_bd]
  exact congrArg some (lb_foE 16 0 0 (fun j h1 h2 => hR.c (by omega)))
def mb_one (T : Nat → Int32) (i : Nat) : Int32 := if T (75 + i) ≤ 0 then 0 else 1
def mb_many (T : Nat → Int32) : Int32 := mb_fo (mb_one T) 16 0 0
theorem lb_dM8I {P t : Nat} {B C A : Int} {T : Nat → Int32} (h : mb_I P t B C A T) {p : Nat} (hp : p < 4) {rec4 : Int32 → Int32 → (Nat → Int32) → Option Int32} : ∀ (r k n : Nat) (a : Int32), k + r = 4 → r < n → f8_debtsMany_L17 rec4 n a (nI p) (nI k) T = rec4 (mb_fo (fun j => mb_one T (4 * p + j)) r k a) (nI (p + 1)) T
  | _, _, 0, _, _, h => by omega
  | r, k, n + 1, a, hk, hn => by
    have hP := h.P4
    show f8_debtsMany_b17 rec4 (f8_debtsMany_L17 rec4 n) a (nI p) (nI k) T = _
    unfold f8_debtsMany_b17 f8_debtsMany_b43
    have hs1 : nI p + 1 = nI (p + 1) := (nI_succ p).symm
    rw [lb_k6, lb_c6, h.h6, hs1]
    by_cases hPk : P ≤ k
    · rw [if_pos (nI_le hPk (by omega)), lb_foZ r k a (fun j h1 h2 => by
        have z := h.cz p j hp (by omega) (Or.inr (Or.inr (by omega)))
        unfold mb_one
        rw [show 75 + (4 * p + j) = 75 + 4 * p + j by omega, z, if_pos (by decide)])]
    · obtain ⟨r, rfl⟩ : ∃ r', r = r' + 1 := ⟨r - 1, by omega⟩
      have hs : nI k + 1 = nI (k + 1) := (nI_succ k).symm
      have IH := fun a => lb_dM8I h hp (rec4 := rec4) r (k + 1) n a (by omega) (by omega)
      have e : mb_fo (fun j => mb_one T (4 * p + j)) (r + 1) k a = mb_fo (fun j => mb_one T (4 * p + j)) r (k + 1) (a + mb_one T (4 * p + k)) := rfl
      rw [if_neg (nI_ge (by omega) (by omega)), lb_debt hp (by omega), lb_bd, hs, e]
      unfold mb_one
      rw [show 75 + (4 * p + k) = 75 + 4 * p + k by omega]
      by_cases hc : T (75 + 4 * p + k) ≤ 0
      · rw [if_pos hc, if_pos hc]; exact IH _
      · rw [if_neg hc, if_neg hc]; exact IH _
theorem lb_dM8L {P t : Nat} {B C A : Int} {T : Nat → Int32} (h : mb_I P t B C A T) : ∀ (r k n : Nat) (a : Int32), k + r = 4 → r < n → f8_debtsMany_L4 n a (nI k) T = some (mb_fo (mb_one T) (4 * r) (4 * k) a)
  | _, _, 0, _, _, h => by omega
  | r, k, n + 1, a, hk, hn => by
    have hP := h.P4
    show f8_debtsMany_b4 (f8_debtsMany_L4 n) a (nI k) T = _
    unfold f8_debtsMany_b4
    rw [lb_k6, lb_c6, h.h6]
    by_cases hPk : P ≤ k
    · rw [if_pos (nI_le hPk (by omega)), lb_foZ (4 * r) (4 * k) a (fun j h1 h2 => by
        have z := h.cz (j / 4) (j % 4) (by omega) (by omega) (Or.inr (Or.inl (by omega)))
        rw [show 75 + 4 * (j / 4) + j % 4 = 75 + j by omega] at z
        unfold mb_one; rw [z, if_pos (by decide)])]
    · obtain ⟨r, rfl⟩ : ∃ r', r = r' + 1 := ⟨r - 1, by omega⟩
      have hs : nI k + 1 = nI (k + 1) := (nI_succ k).symm
      rw [if_neg (nI_ge (by omega) (by omega)), show f8_debtsMany_L17 (f8_debtsMany_L4 n) fo_fu a (nI k) 0 T = _ from lb_dM8I h (p := k) (by omega) 4 0 1000 a rfl (by omega), lb_fo16]
      exact lb_dM8L h r (k + 1) n _ (by omega) (by omega)
theorem mb_I.dM8 {P t : Nat} {B C A : Int} {T : Nat → Int32} (h : mb_I P t B C A T) : f8_debtsMany T = some (mb_many T) := lb_dM8L h 4 0 1000 0 rfl (by omega)
theorem lb_hM1L {D : ms_T} {T : Nat → Int32} (h0 : ∀ i, i < 16 → D 0 i = T (75 + i)) : ∀ (r k n : Nat) (a : Int32), k + r = 16 → r < n → f1_howMany_L4 n a (nI k) D = some (mb_fo (mb_one T) r k a)
  | _, _, 0, _, _, h => by omega
  | 0, k, n + 1, a, hk, hn => by
    show f1_howMany_b4 _ a (nI k) D = _
    unfold f1_howMany_b4
    rw [show (16 : Int32) = nI 16 from rfl, if_pos (nI_le (by omega) (by omega))]; rfl
  | r + 1, k, n + 1, a, hk, hn => by
    show f1_howMany_b4 (f1_howMany_L4 n) a (nI k) D = some (mb_fo (mb_one T) r (k + 1) (a + mb_one T k))
    unfold f1_howMany_b4 f1_howMany_b27
    have hs : nI k + 1 = nI (k + 1) := (nI_succ k).symm
    have IH := fun a => lb_hM1L h0 r (k + 1) n a (by omega) (by omega)
    rw [show (16 : Int32) = nI 16 from rfl, if_neg (nI_ge (by omega) (by omega)), lb_at (by omega) (by omega), lb_bd, h0 _ (by omega), hs]
    unfold mb_one at IH ⊢
    by_cases hc : T (75 + k) ≤ 0
    · rw [if_pos hc, if_pos hc]; exact IH _
    · rw [if_neg hc, if_neg hc]; exact IH _
theorem RB.hM1 {S : ms_T} {T : Nat → Int32} (hR : RB S T) : f1_howMany (ms_from S 2) = some (mb_many T) := lb_hM1L (fun i hi => hR.c hi) 16 0 1000 0 rfl (by omega)
/-! squares of a player, players on a square -/
def mb_sq (T : Nat → Int32) (p : Nat) : Nat → Nat → Int32 → Int32
  | 0, _, a => a
  | r + 1, k, a => mb_sq T p r (k + 1) (a ||| if mb_owns T p k then (1 : Int32) <<< (nI k &&& 31) else 0)
theorem lb_sq8L {T : Nat → Int32} {p : Nat} : ∀ (r k n : Nat) (a : Int32), k + r = 20 → r < n → f8_ownedBy_L4 n (nI p) a (nI k) T = some (mb_sq T p r k a)
  | _, _, 0, _, _, h => by omega
  | 0, k, n + 1, a, hk, hn => by
    show f8_ownedBy_b4 _ (nI p) a (nI k) T = _
    unfold f8_ownedBy_b4
    rw [show (20 : Int32) = nI 20 from rfl, if_pos (nI_le (by omega) (by omega))]; rfl
  | r + 1, k, n + 1, a, hk, hn => by
    show f8_ownedBy_b4 (f8_ownedBy_L4 n) (nI p) a (nI k) T = some (mb_sq T p r (k + 1) _)
    unfold f8_ownedBy_b4 f8_ownedBy_b27
    have hs : nI k + 1 = nI (k + 1) := (nI_succ k).symm
    rw [show (20 : Int32) = nI 20 from rfl, if_neg (nI_ge (by omega) (by omega)), lb_owns8 (by omega), lb_bd, hs]
    by_cases hc : mb_owns T p k
    · rw [if_pos hc, if_pos hc, if_neg (by decide)]; exact lb_sq8L r (k + 1) n _ (by omega) (by omega)
    · rw [if_neg hc, if_neg hc, if_pos rfl]; exact lb_sq8L r (k + 1) n _ (by omega) (by omega)
theorem lb_sq8 {T : Nat → Int32} {p : Nat} : f8_ownedBy (nI p) T = some (mb_sq T p 20 0 0) := lb_sq8L 20 0 1000 0 rfl (by omega)
theorem lb_sq5L {S : ms_T} {T : Nat → Int32} (hR : RB S T) {p : Nat} : ∀ (r k n : Nat) (a : Int32), k + r = 20 → r < n → f5_squaresOf_L4 n (nI p) a (nI k) S = some (mb_sq T p r k a)
  | _, _, 0, _, _, h => by omega
  | 0, k, n + 1, a, hk, hn => by
    show f5_squaresOf_b4 _ (nI p) a (nI k) S = _
    unfold f5_squaresOf_b4
    rw [show (20 : Int32) = nI 20 from rfl, if_pos (nI_le (by omega) (by omega))]; rfl
  | r + 1, k, n + 1, a, hk, hn => by
    show f5_squaresOf_b4 (f5_squaresOf_L4 n) (nI p) a (nI k) S = some (mb_sq T p r (k + 1) _)
    unfold f5_squaresOf_b4 f5_squaresOf_b34 f5_squaresOf_b40
    have hs : nI k + 1 = nI (k + 1) := (nI_succ k).symm
    rw [show (20 : Int32) = nI 20 from rfl, if_neg (nI_ge (by omega) (by omega)), lb_at (by omega) (by omega), lb_bd, lb_at (by omega) (by omega), lb_bd, hR.f (by omega), hR.s (by omega), hs]
    by_cases h1 : T (11 + k) = nI p
    · rw [if_pos h1, if_pos (show mb_owns T p k from Or.inl h1)]; exact lb_sq5L hR r (k + 1) n _ (by omega) (by omega)
    · rw [if_neg h1]
      by_cases h2 : T (31 + k) = nI p
      · rw [if_pos h2, if_pos (show mb_owns T p k from Or.inr h2)]; exact lb_sq5L hR r (k + 1) n _ (by omega) (by omega)
      · rw [if_neg h2, if_neg (show ¬ mb_owns T p k by rintro (h | h) <;> contradiction), Int32.or_zero]
        exact lb_sq5L hR r (k + 1) n _ (by omega) (by omega)
theorem RB.sq5 {S : ms_T} {T : Nat → Int32} (hR : RB S T) {p : Nat} : f5_squaresOf (nI p) S = some (mb_sq T p 20 0 0) := lb_sq5L hR 20 0 1000 0 rfl (by omega)
def mb_on (T : Nat → Int32) (v : Int32) : Nat → Nat → Int32 → Int32
  | 0, _, a => a
  | r + 1, k, a => mb_on T v r (k + 1) (a ||| if T (51 + 6 * k + 1) = v then (1 : Int32) <<< (nI k &&& 31) else 0)
theorem lb_on8L {T : Nat → Int32} {P : Nat} {v : Int32} (h6 : T 6 = nI P) (hP : P ≤ 4) : ∀ (r k n : Nat) (a : Int32), k + r = P → r < n → f8_standingAt_L4 n v a (nI k) T = some (mb_on T v r k a)
  | _, _, 0, _, _, h => by omega
  | 0, k, n + 1, a, hk, hn => by
    show f8_standingAt_b4 _ v a (nI k) T = _
    unfold f8_standingAt_b4
    rw [lb_k6, lb_c6, h6, if_pos (nI_le (by omega) (by omega))]; rfl
  | r + 1, k, n + 1, a, hk, hn => by
    show f8_standingAt_b4 (f8_standingAt_L4 n) v a (nI k) T = some (mb_on T v r (k + 1) _)
    unfold f8_standingAt_b4 f8_standingAt_b33
    have hs : nI k + 1 = nI (k + 1) := (nI_succ k).symm
    rw [lb_k6, lb_c6, h6, if_neg (nI_ge (by omega) (by omega)), lb_part1 (by omega), lb_bd, hs]
    by_cases hc : T (51 + 6 * k + 1) = v
    · rw [if_pos hc, if_pos hc]; exact lb_on8L h6 hP r (k + 1) n _ (by omega) (by omega)
    · rw [if_neg hc, if_neg hc]; exact lb_on8L h6 hP r (k + 1) n _ (by omega) (by omega)
theorem lb_on0L {S : ms_T} {T : Nat → Int32} (hR : RB S T) {P : Nat} {v : Int32} (h6 : T 6 = nI P) (hP : P ≤ 4) : ∀ (r k n : Nat) (a : Int32), k + r = P → r < n → f0_playersOn_L4 n v a (nI k) S = some (mb_on T v r k a)
  | _, _, 0, _, _, h => by omega
  | 0, k, n + 1, a, hk, hn => by
    show f0_playersOn_b4 _ v a (nI k) S = _
    unfold f0_playersOn_b4
    rw [hR.z.1, h6, if_pos (nI_le (by omega) (by omega))]; rfl
  | r + 1, k, n + 1, a, hk, hn => by
    show f0_playersOn_b4 (f0_playersOn_L4 n) v a (nI k) S = some (mb_on T v r (k + 1) _)
    unfold f0_playersOn_b4 f0_playersOn_b30
    have hs : nI k + 1 = nI (k + 1) := (nI_succ k).symm
    rw [hR.z.1, h6, if_neg (nI_ge (by omega) (by omega)), lb_at (by omega) (by omega), lb_bd, hR.p (k := 1) (by omega) (by omega), hs]
    by_cases hc : T (51 + 6 * k + 1) = v
    · rw [if_pos hc, if_pos hc]; exact lb_on0L hR h6 hP r (k + 1) n _ (by omega) (by omega)
    · rw [if_neg hc, if_neg hc, Int32.or_zero]; exact lb_on0L hR h6 hP r (k + 1) n _ (by omega) (by omega)
theorem lb_on8 {T : Nat → Int32} {P : Nat} {v : Int32} (h6 : T 6 = nI P) (hP : P ≤ 4) : f8_standingAt v T = some (mb_on T v P 0 0) := lb_on8L h6 hP P 0 1000 0 (by omega) (by omega)
theorem lb_on0 {S : ms_T} {T : Nat → Int32} (hR : RB S T) {P : Nat} {v : Int32} (h6 : T 6 = nI P) (hP : P ≤ 4) : f0_playersOn v S = some (mb_on T v P 0 0) := lb_on0L hR h6 hP P 0 1000 0 (by omega) (by omega)
/-! the calls that only look -/
theorem lb_of {P t : Nat} {B C A : Int} {X : xs_T} {T : Nat → Int32} (h : mb_I P t B C A T) (hR : RB (X 5) T) (v w : Int32) : ∃ r, f7_of v w X = some r ∧ f8_of v w T = some r := by
  have hP := h.P4
  unfold f7_of f8_of
  rcases h.isPlayer v with ⟨a1, a2⟩ | ⟨p, hp, rfl, a1⟩
  · rcases lb_hasP hR h.h6 hP v with ⟨b1, -⟩ | ⟨p, hp, e, -⟩
    · rw [a1, b1]; exact ⟨_, rfl, rfl⟩
    · exact absurd ⟨p, hp, e⟩ a2
  · rcases lb_hasP hR h.h6 hP (nI p) with ⟨-, b1⟩ | ⟨p', hp', e, b1⟩
    · exact absurd ⟨p, hp, rfl⟩ b1
    · have hp4 : p < 4 := by omega
      rw [a1, b1, lb_bd, lb_bd, if_neg (show ¬ (1 : Int32) = 0 by decide), if_neg (show ¬ (1 : Int32) = 0 by decide)]
      unfold f0_factOfPlayer
      simp only [lb_part0 hp4, lb_part1 hp4, lb_part2 hp4, lb_part3 hp4, lb_part4 hp4, lb_part5 hp4, lb_sq8, h.by8 hp4, h.to8 hp4, lb_at hp4 (show 4 < 1000 by omega), hR.sq5, hR.by1 hp4, hR.to1 hp4, lb_bd, lb_ifs]
      refine ⟨_, rfl, ?_⟩
      rw [show X 5 6 p = T (51 + 6 * p) from hR.p (k := 0) hp4 (by omega), show X 5 7 p = T (51 + 6 * p + 1) from hR.p (k := 1) hp4 (by omega), show X 5 8 p = T (51 + 6 * p + 2) from hR.p (k := 2) hp4 (by omega), show X 5 9 p = T (51 + 6 * p + 3) from hR.p (k := 3) hp4 (by omega), show X 5 10 p = T (51 + 6 * p + 4) from hR.p (k := 4) hp4 (by omega), show X 5 11 p = T (51 + 6 * p + 5) from hR.p (k := 5) hp4 (by omega)]
theorem lb_ofSquare {P t : Nat} {B C A : Int} {X : xs_T} {T : Nat → Int32} (h : mb_I P t B C A T) (hR : RB (X 5) T) (v w : Int32) : ∃ r, f7_ofSquare v w X = some r ∧ f8_ofSquare v w T = some r := by
  have hP := h.P4
  unfold f7_ofSquare f8_ofSquare f8_isSquare
  have hw : f8_within v (0 : Int32) (19 : Int32) = f8_within v (nI 0) (nI 19) := rfl
  rw [hw]
  rcases lb_within (v := v) (a := 0) (b := 19) (by omega) (by omega) with ⟨a1, a2⟩ | ⟨a1, a2, a3, s, rfl, a5, a6⟩
  · rw [a1]
    refine ⟨-1, ?_, rfl⟩
    rcases a2 with a2 | a2
    · rw [if_pos (show v < 0 from a2)]
    · by_cases h0 : v < 0
      · rw [if_pos h0]
      · rw [if_neg h0, if_pos]
        rw [show (20 : Int32) = nI 20 from rfl, lb_le, nI_toInt (by omega)]
        rw [lb_le, nI_toInt (by omega)] at a2
        omega
  · have hs : s < 20 := by omega
    have e20 : ¬ (20 : Int32) ≤ nI s := nI_ge (b := 20) (by omega) (by omega)
    rw [a1, if_neg (show ¬ nI s < 0 from a2), if_neg e20]
    show ∃ r, _ = some r ∧ (if (1 : Int32) = 0 then some (-1) else _) = some r
    rw [if_neg (show ¬ (1 : Int32) = 0 by decide)]
    unfold f0_factOfSquare f5_firstOwner f5_secondOwner
    rw [lb_sort5 s hs, lb_sort8 s hs, lb_ix11, lb_ix31, show f6_at 0 5 (2 : Int32) (X 5 5) = some (X 5 5 2) from lb_at (k := 2) (by omega) (by omega)]
    simp only [lb_ck (show 11 + s < 107 by omega) (show 107 < 2 ^ 31 by omega), lb_ck (show 31 + s < 107 by omega) (show 107 < 2 ^ 31 by omega), lb_cl (show 11 + s < 2 ^ 31 by omega), lb_cl (show 31 + s < 2 ^ 31 by omega), lb_at hs (show 20 < 1000 by omega), lb_toll8 hs, lb_on8 h.h6 hP, lb_on0 hR h.h6 hP, hR.f hs, hR.s hs, hR.g (show 2 < 5 by omega), lb_toll5 hR hs, lb_bd, lb_ifs]
    exact ⟨_, rfl, rfl⟩
theorem lb_owes {P t : Nat} {B C A : Int} {X : xs_T} {T : Nat → Int32} (h : mb_I P t B C A T) (hR : RB (X 5) T) (v w u : Int32) : ∃ r, f7_owes v w u X = some r ∧ f8_owes v w u T = some r := by
  have hP := h.P4
  unfold f7_owes f8_owes
  have hw : f8_within u (0 : Int32) (1 : Int32) = f8_within u (nI 0) (nI 1) := rfl
  rw [hw]
  rcases h.isPlayer v with ⟨a1, a2⟩ | ⟨p, hp, rfl, a1⟩
  · rcases lb_hasP hR h.h6 hP v with ⟨b1, -⟩ | ⟨p, hp, e, -⟩
    · rw [a1, b1]; exact ⟨_, rfl, rfl⟩
    · exact absurd ⟨p, hp, e⟩ a2
  · rcases lb_hasP hR h.h6 hP (nI p) with ⟨-, b1⟩ | ⟨p', hp', e, b1⟩
    · exact absurd ⟨p, hp, rfl⟩ b1
    · rw [a1, b1, lb_bd, lb_bd, if_neg (show ¬ (1 : Int32) = 0 by decide), if_neg (show ¬ (1 : Int32) = 0 by decide)]
      rcases h.isPlayer w with ⟨a1, a2⟩ | ⟨q, hq, rfl, a1⟩
      · rcases lb_hasP hR h.h6 hP w with ⟨b1, -⟩ | ⟨p, hp, e, -⟩
        · rw [a1, b1]; exact ⟨_, rfl, rfl⟩
        · exact absurd ⟨p, hp, e⟩ a2
      · rcases lb_hasP hR h.h6 hP (nI q) with ⟨-, b1⟩ | ⟨p', hp', e, b1⟩
        · exact absurd ⟨q, hq, rfl⟩ b1
        · rw [a1, b1, lb_bd, lb_bd, if_neg (show ¬ (1 : Int32) = 0 by decide), if_neg (show ¬ (1 : Int32) = 0 by decide)]
          rcases lb_within (v := u) (a := 0) (b := 1) (by omega) (by omega) with ⟨a1, a2⟩ | ⟨a1, a2, a3, s, rfl, a5, a6⟩
          · rw [a1]
            refine ⟨-2, ?_, rfl⟩
            rcases a2 with a2 | a2
            · rw [if_pos (show u < 0 from a2)]
            · by_cases h0 : u < 0
              · rw [if_pos h0]
              · rw [if_neg h0, if_pos (show (1 : Int32) < u from lb_nle.mp a2)]
          · rw [a1, if_neg (show ¬ nI s < 0 from a2), if_neg (show ¬ (1 : Int32) < nI s from lb_nlt.mpr a3), lb_bd, if_neg (show ¬ (1 : Int32) = 0 by decide)]
            unfold f1_coinsOf f1_ageOf
            have ec : (ms_from (X 5) 2) 0 (p * 4 + q) = T (75 + 4 * p + q) := by
              show X 5 2 (p * 4 + q) = _
              rw [hR.c (by omega)]; congr 1; omega
            have ea : (ms_from (X 5) 2) 1 (p * 4 + q) = if T (75 + 4 * p + q) = 0 then -6 else T (91 + 4 * p + q) := by
              show X 5 3 (p * 4 + q) = _
              rw [hR.a _ (by omega), show 75 + (p * 4 + q) = 75 + 4 * p + q by omega, show 91 + (p * 4 + q) = 91 + 4 * p + q by omega]
            have ix : nI p * (4 : Int32) + nI q = nI (p * 4 + q) := by rw [show (4 : Int32) = nI 4 from rfl, lb_mul, lb_add]
            simp only [ix, lb_at (show p * 4 + q < 16 by omega) (show 16 < 1000 by omega), ec, ea, lb_debt (show p < 4 by omega) (show q < 4 by omega), lb_age (show p < 4 by omega) (show q < 4 by omega), lb_bd, lb_ifs]
            exact ⟨_, rfl, rfl⟩
