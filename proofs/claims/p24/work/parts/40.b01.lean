/-! ## Layer B: numbers -/
theorem lb_add (a b : Nat) : nI a + nI b = nI (a + b) := (Int32.ofNat_add a b).symm
theorem lb_mul (a b : Nat) : nI a * nI b = nI (a * b) := (Int32.ofNat_mul a b).symm
theorem lb_inj {a b : Nat} (ha : a < 2 ^ 31) (hb : b < 2 ^ 31) : nI a = nI b ↔ a = b := by
  constructor
  · intro h
    have h1 := congrArg Int32.toInt h
    rw [nI_toInt ha, nI_toInt hb] at h1
    omega
  · intro h; rw [h]
theorem lb_n6 {a : Nat} (ha : a < 2 ^ 31) : nI a ≠ (-6 : Int32) := by
  intro h
  have h1 := congrArg Int32.toInt h
  rw [nI_toInt ha] at h1
  have : ((-6 : Int32).toInt) = -6 := rfl
  omega
theorem lb_ck {β : Type} {i n : Nat} {k : Option β} (h : i < n) (hn : n < 2 ^ 31) : fo_ck (nI i) n k = k := by
  unfold fo_ck
  rw [if_neg]
  rw [nI_clamp (by omega)]
  rintro (h1 | h1)
  · exact nI_pos (by omega) h1
  · omega
theorem lb_cl {i : Nat} (h : i < 2 ^ 31) : (nI i).toNatClampNeg = i := nI_clamp h
theorem lb_bd {α β : Type} (v : α) (k : α → Option β) : fo_bd (some v) k = k v := rfl
theorem lb_sub1 {a : Nat} : nI (a + 1) - 1 = nI a := by
  rw [nI_succ]; exact Int32.add_sub_cancel _ _
theorem lb_add_toInt {a b : Int32} (h1 : -2147483648 ≤ a.toInt + b.toInt) (h2 : a.toInt + b.toInt < 2147483648) : (a + b).toInt = a.toInt + b.toInt := by
  rw [Int32.toInt_add]
  exact Int.bmod_eq_of_le (by simpa using h1) (by simpa using h2)
theorem lb_sub_toInt {a b : Int32} (h1 : -2147483648 ≤ a.toInt - b.toInt) (h2 : a.toInt - b.toInt < 2147483648) : (a - b).toInt = a.toInt - b.toInt := by
  rw [Int32.toInt_sub]
  exact Int.bmod_eq_of_le (by simpa using h1) (by simpa using h2)
theorem lb_neg_toInt {a : Int32} (h1 : -2147483648 < a.toInt) : (-a).toInt = - a.toInt := by
  have h3 := a.toInt_lt
  rw [Int32.toInt_neg]
  exact Int.bmod_eq_of_le (by simp; omega) (by simp; omega)
theorem lb_le {a b : Int32} : a ≤ b ↔ a.toInt ≤ b.toInt := Int32.le_iff_toInt_le
theorem lb_lt {a b : Int32} : a < b ↔ a.toInt < b.toInt := Int32.lt_iff_toInt_lt
theorem lb_eq {a b : Int32} : a = b ↔ a.toInt = b.toInt := Int32.toInt_inj.symm
theorem lb_le0 {a : Int32} : a ≤ 0 ↔ a.toInt ≤ 0 := by rw [lb_le, Int32.toInt_zero]
theorem lb_lt0 {a : Int32} : a < 0 ↔ a.toInt < 0 := by rw [lb_lt, Int32.toInt_zero]
theorem lb_0lt {a : Int32} : 0 < a ↔ 0 < a.toInt := by rw [lb_lt, Int32.toInt_zero]
theorem lb_eq0 {a : Int32} : a = 0 ↔ a.toInt = 0 := by rw [lb_eq, Int32.toInt_zero]
/-- a number that is not below 0 by its natural number -/
theorem lb_nat {a : Int32} (h : 0 ≤ a.toInt) : ∃ n : Nat, n < 2 ^ 31 ∧ a = nI n ∧ a.toInt = n := by
  refine ⟨a.toInt.toNat, ?_, ?_, ?_⟩
  · have := a.toInt_lt; omega
  · rw [lb_eq, nI_toInt (by have := a.toInt_lt; omega)]; omega
  · omega
/-! rows -/
theorem lb_us (f : Nat → Int32) (k : Nat) (x : Int32) : upd f k x k = x := by unfold upd; rw [if_pos rfl]
theorem lb_un {f : Nat → Int32} {k j : Nat} {x : Int32} (h : j ≠ k) : upd f k x j = f j := by unfold upd; rw [if_neg h]
theorem lb_ue {f : Nat → Int32} {k j : Nat} {x : Int32} (h : j = k) : upd f k x j = x := by unfold upd; rw [if_pos h]
theorem lb_ua (f : Nat → Int32) (k j : Nat) (x : Int32) : upd f k x j = if j = k then x else f j := rfl
theorem lb_ui (f : Nat → Int32) (k : Nat) : upd f k (f k) = f := by
  funext j; unfold upd; split
  · next h => rw [h]
  · rfl
theorem lb_ui' {f : Nat → Int32} {k : Nat} {x : Int32} (h : x = f k) : upd f k x = f := by rw [h]; exact lb_ui f k
theorem lb_uu (f : Nat → Int32) (k : Nat) (x y : Int32) : upd (upd f k x) k y = upd f k y := by
  funext j; unfold upd; split <;> rfl
theorem lb_uc {f : Nat → Int32} {k j : Nat} {x y : Int32} (h : k ≠ j) : upd (upd f k x) j y = upd (upd f j y) k x := by
  funext i; unfold upd; by_cases h1 : i = j <;> by_cases h2 : i = k <;> simp [h1, h2] <;> omega
theorem lb_ms (S : ms_T) (k : Nat) (f : Nat → Int32) : ms_set S k f k = f := by unfold ms_set; rw [if_pos rfl]
theorem lb_mn {S : ms_T} {k j : Nat} {f : Nat → Int32} (h : j ≠ k) : ms_set S k f j = S j := by unfold ms_set; rw [if_neg h]
/-! the class's rows -/
theorem lb_at {v : Int32} {z k : Nat} {S : Nat → Int32} (hk : k < z) (hz : z < 1000) : f6_at v z (nI k) S = some (S k) := by
  unfold f6_at
  rw [if_neg (nI_pos (by omega)), if_neg (nI_ge hk (by omega)), lb_ck hk (by omega), lb_cl (by omega)]
theorem lb_write {v x : Int32} {z k : Nat} {S : Nat → Int32} (hk : k < z) (hz : z < 1000) : f6_write v z (nI k) x S = some (upd S k x) := by
  unfold f6_write
  rw [if_neg (nI_pos (by omega)), if_neg (nI_ge hk (by omega)), lb_ck hk (by omega), lb_cl (by omega)]
theorem lb_radd {v x : Int32} {z k : Nat} {S : Nat → Int32} (hk : k < z) (hz : z < 1000) : f6_add v z (nI k) x S = some (upd S k (S k + x)) := by
  unfold f6_add
  rw [if_neg (nI_pos (by omega)), if_neg (nI_ge hk (by omega)), lb_ck hk (by omega), lb_ck hk (by omega), lb_cl (by omega)]
theorem lb_sum {v : Int32} {z : Nat} {S : Nat → Int32} (hz : z < 1000) : ∀ r k n (a : Int32), k + r = z → r < n → f6_sum_L4 v z n a (nI k) S = some ((List.range' k r).foldl (fun a i => a + S i) a)
  | 0, k, n + 1, a, hk, _ => by
    show f6_sum_b4 v z _ a (nI k) S = _
    unfold f6_sum_b4
    rw [if_pos (nI_le (by omega) (by omega))]; rfl
  | r + 1, k, n + 1, a, hk, hn => by
    show f6_sum_b4 v z _ a (nI k) S = _
    unfold f6_sum_b4
    rw [if_neg (nI_ge (by omega) (by omega)), lb_ck (by omega) (by omega), lb_cl (by omega)]
    have h1 : nI k + 1 = nI (k + 1) := (nI_succ k).symm
    rw [h1, lb_sum hz r (k + 1) n _ (by omega) (by omega)]; rfl
theorem lb_sum4 {v : Int32} {S : Nat → Int32} : f6_sum v 4 S = some (S 0 + S 1 + S 2 + S 3) := by
  have h := lb_sum (v := v) (z := 4) (S := S) (by omega) 4 0 1000 0 rfl (by omega)
  unfold f6_sum fo_fu
  rw [show (0 : Int32) = nI 0 from rfl] at h ⊢
  rw [h]
  simp [List.range', nI]
theorem lb_copy {z : Nat} {F : Nat → Int32} (hz : z < 1000) : ∀ r k n (S : Nat → Int32), k + r = z → r < n → f6_copyFrom_L2 z F n (nI k) S = some (fun j => if k ≤ j ∧ j < z then F j else S j)
  | 0, k, n + 1, S, hk, _ => by
    show f6_copyFrom_b2 z F _ (nI k) S = _
    unfold f6_copyFrom_b2
    rw [if_pos (nI_le (by omega) (by omega))]
    congr 1; funext j; rw [if_neg (by omega)]
  | r + 1, k, n + 1, S, hk, hn => by
    show f6_copyFrom_b2 z F _ (nI k) S = _
    unfold f6_copyFrom_b2
    rw [if_neg (nI_ge (by omega) (by omega)), if_neg (nI_ge (by omega) (by omega)), lb_ck (by omega) (by omega), lb_ck (by omega) (by omega), lb_cl (by omega)]
    have h1 : nI k + 1 = nI (k + 1) := (nI_succ k).symm
    rw [h1, lb_copy hz r (k + 1) n _ (by omega) (by omega)]
    congr 1; funext j; unfold upd
    by_cases hj : j = k
    · subst hj; rw [if_neg (by omega), if_pos rfl, if_pos (by omega)]
    · rw [if_neg hj]
      by_cases h2 : k + 1 ≤ j ∧ j < z
      · rw [if_pos h2, if_pos (by omega)]
      · rw [if_neg h2, if_neg (by omega)]
theorem lb_copyF {z : Nat} {F S : Nat → Int32} (hz : z < 1000) : f6_copyFrom z F S = some (fun j => if j < z then F j else S j) := by
  have h := lb_copy (F := F) hz z 0 1000 S (by omega) (by omega)
  unfold f6_copyFrom fo_fu
  rw [show (0 : Int32) = nI 0 from rfl, h]
  congr 1; funext j
  by_cases hj : j < z
  · rw [if_pos ⟨by omega, hj⟩, if_pos hj]
  · rw [if_neg (by omega), if_neg hj]
/-! the reference's row: 107 numbers -/
theorem lb_part {p k : Nat} {S : Nat → Int32} (hp : p < 4) (hk : k < 6) : f8_playerPart (nI p) (nI k) S = some (S (51 + 6 * p + k)) := by
  unfold f8_playerPart
  rw [show (51 : Int32) = nI 51 from rfl, show (6 : Int32) = nI 6 from rfl, lb_mul, lb_add, lb_add, lb_ck (by omega) (by omega), lb_cl (by omega)]
theorem lb_adds {p k : Nat} {v : Int32} {S : Nat → Int32} (hp : p < 4) (hk : k < 6) : f8_adds (nI p) (nI k) v S = some (upd S (51 + 6 * p + k) (S (51 + 6 * p + k) + v)) := by
  unfold f8_adds
  rw [show (51 : Int32) = nI 51 from rfl, show (6 : Int32) = nI 6 from rfl, lb_mul, lb_add, lb_add, lb_ck (by omega) (by omega), lb_ck (by omega) (by omega), lb_cl (by omega)]
theorem lb_debt {p q : Nat} {S : Nat → Int32} (hp : p < 4) (hq : q < 4) : f8_debtOf (nI p) (nI q) S = some (S (75 + 4 * p + q)) := by
  unfold f8_debtOf
  rw [show (75 : Int32) = nI 75 from rfl, show (4 : Int32) = nI 4 from rfl, lb_mul, lb_add, lb_add, lb_ck (by omega) (by omega), lb_cl (by omega)]
theorem lb_age {p q : Nat} {S : Nat → Int32} (hp : p < 4) (hq : q < 4) : f8_ageOf (nI p) (nI q) S = some (S (91 + 4 * p + q)) := by
  unfold f8_ageOf
  rw [show (91 : Int32) = nI 91 from rfl, show (4 : Int32) = nI 4 from rfl, lb_mul, lb_add, lb_add, lb_ck (by omega) (by omega), lb_cl (by omega)]
/-- a debt becomes greater or less -/
def mb_addD (S : Nat → Int32) (p q : Nat) (v : Int32) : Nat → Int32 :=
  if S (75 + 4 * p + q) = 0 ∨ S (75 + 4 * p + q) + v = 0 then upd (upd S (75 + 4 * p + q) (S (75 + 4 * p + q) + v)) (91 + 4 * p + q) 0 else upd S (75 + 4 * p + q) (S (75 + 4 * p + q) + v)
theorem lb_addD {p q : Nat} {v : Int32} {S : Nat → Int32} (hp : p < 4) (hq : q < 4) : f8_addsDebt (nI p) (nI q) v S = some (mb_addD S p q v) := by
  unfold f8_addsDebt f8_addsDebt_b37 mb_addD
  rw [lb_debt hp hq, lb_bd, show (75 : Int32) = nI 75 from rfl, show (91 : Int32) = nI 91 from rfl, show (4 : Int32) = nI 4 from rfl, lb_mul, lb_add, lb_add, lb_add, lb_add, lb_ck (by omega) (by omega), lb_ck (by omega) (by omega), lb_cl (by omega), lb_cl (by omega)]
  by_cases h1 : S (75 + 4 * p + q) = 0
  · rw [if_pos h1, if_pos (Or.inl h1)]
  · rw [if_neg h1]
    by_cases h2 : S (75 + 4 * p + q) + v = 0
    · rw [if_pos h2, if_pos (Or.inr h2)]
    · rw [if_neg h2, if_neg (by rintro (h | h) <;> contradiction)]
theorem lb_k0 {β : Type} {k : Option β} : fo_ck (0 : Int32) 107 k = k := lb_ck (i := 0) (n := 107) (by omega) (by omega)
theorem lb_c0 : (0 : Int32).toNatClampNeg = 0 := rfl
theorem lb_k1 {β : Type} {k : Option β} : fo_ck (1 : Int32) 107 k = k := lb_ck (i := 1) (n := 107) (by omega) (by omega)
theorem lb_c1 : (1 : Int32).toNatClampNeg = 1 := rfl
theorem lb_k2 {β : Type} {k : Option β} : fo_ck (2 : Int32) 107 k = k := lb_ck (i := 2) (n := 107) (by omega) (by omega)
theorem lb_c2 : (2 : Int32).toNatClampNeg = 2 := rfl
theorem lb_k3 {β : Type} {k : Option β} : fo_ck (3 : Int32) 107 k = k := lb_ck (i := 3) (n := 107) (by omega) (by omega)
theorem lb_c3 : (3 : Int32).toNatClampNeg = 3 := rfl
theorem lb_k4 {β : Type} {k : Option β} : fo_ck (4 : Int32) 107 k = k := lb_ck (i := 4) (n := 107) (by omega) (by omega)
theorem lb_c4 : (4 : Int32).toNatClampNeg = 4 := rfl
theorem lb_k5 {β : Type} {k : Option β} : fo_ck (5 : Int32) 107 k = k := lb_ck (i := 5) (n := 107) (by omega) (by omega)
theorem lb_c5 : (5 : Int32).toNatClampNeg = 5 := rfl
theorem lb_k6 {β : Type} {k : Option β} : fo_ck (6 : Int32) 107 k = k := lb_ck (i := 6) (n := 107) (by omega) (by omega)
theorem lb_c6 : (6 : Int32).toNatClampNeg = 6 := rfl
theorem lb_k7 {β : Type} {k : Option β} : fo_ck (7 : Int32) 107 k = k := lb_ck (i := 7) (n := 107) (by omega) (by omega)
theorem lb_c7 : (7 : Int32).toNatClampNeg = 7 := rfl
theorem lb_k8 {β : Type} {k : Option β} : fo_ck (8 : Int32) 107 k = k := lb_ck (i := 8) (n := 107) (by omega) (by omega)
theorem lb_c8 : (8 : Int32).toNatClampNeg = 8 := rfl
theorem lb_k9 {β : Type} {k : Option β} : fo_ck (9 : Int32) 107 k = k := lb_ck (i := 9) (n := 107) (by omega) (by omega)
theorem lb_c9 : (9 : Int32).toNatClampNeg = 9 := rfl
theorem lb_k10 {β : Type} {k : Option β} : fo_ck (10 : Int32) 107 k = k := lb_ck (i := 10) (n := 107) (by omega) (by omega)
theorem lb_c10 : (10 : Int32).toNatClampNeg = 10 := rfl
theorem lb_part0 {p : Nat} {S : Nat → Int32} (hp : p < 4) : f8_playerPart (nI p) (0 : Int32) S = some (S (51 + 6 * p)) := lb_part (k := 0) hp (by omega)
theorem lb_adds0 {p : Nat} {v : Int32} {S : Nat → Int32} (hp : p < 4) : f8_adds (nI p) (0 : Int32) v S = some (upd S (51 + 6 * p) (S (51 + 6 * p) + v)) := lb_adds (k := 0) hp (by omega)
theorem lb_part1 {p : Nat} {S : Nat → Int32} (hp : p < 4) : f8_playerPart (nI p) (1 : Int32) S = some (S (51 + 6 * p + 1)) := lb_part (k := 1) hp (by omega)
theorem lb_adds1 {p : Nat} {v : Int32} {S : Nat → Int32} (hp : p < 4) : f8_adds (nI p) (1 : Int32) v S = some (upd S (51 + 6 * p + 1) (S (51 + 6 * p + 1) + v)) := lb_adds (k := 1) hp (by omega)
theorem lb_part2 {p : Nat} {S : Nat → Int32} (hp : p < 4) : f8_playerPart (nI p) (2 : Int32) S = some (S (51 + 6 * p + 2)) := lb_part (k := 2) hp (by omega)
theorem lb_adds2 {p : Nat} {v : Int32} {S : Nat → Int32} (hp : p < 4) : f8_adds (nI p) (2 : Int32) v S = some (upd S (51 + 6 * p + 2) (S (51 + 6 * p + 2) + v)) := lb_adds (k := 2) hp (by omega)
theorem lb_part3 {p : Nat} {S : Nat → Int32} (hp : p < 4) : f8_playerPart (nI p) (3 : Int32) S = some (S (51 + 6 * p + 3)) := lb_part (k := 3) hp (by omega)
theorem lb_adds3 {p : Nat} {v : Int32} {S : Nat → Int32} (hp : p < 4) : f8_adds (nI p) (3 : Int32) v S = some (upd S (51 + 6 * p + 3) (S (51 + 6 * p + 3) + v)) := lb_adds (k := 3) hp (by omega)
theorem lb_part4 {p : Nat} {S : Nat → Int32} (hp : p < 4) : f8_playerPart (nI p) (4 : Int32) S = some (S (51 + 6 * p + 4)) := lb_part (k := 4) hp (by omega)
theorem lb_adds4 {p : Nat} {v : Int32} {S : Nat → Int32} (hp : p < 4) : f8_adds (nI p) (4 : Int32) v S = some (upd S (51 + 6 * p + 4) (S (51 + 6 * p + 4) + v)) := lb_adds (k := 4) hp (by omega)
theorem lb_part5 {p : Nat} {S : Nat → Int32} (hp : p < 4) : f8_playerPart (nI p) (5 : Int32) S = some (S (51 + 6 * p + 5)) := lb_part (k := 5) hp (by omega)
theorem lb_adds5 {p : Nat} {v : Int32} {S : Nat → Int32} (hp : p < 4) : f8_adds (nI p) (5 : Int32) v S = some (upd S (51 + 6 * p + 5) (S (51 + 6 * p + 5) + v)) := lb_adds (k := 5) hp (by omega)
