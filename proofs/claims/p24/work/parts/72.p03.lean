/-! ## The law's board: creditors, the oldest debt first -/
def gc_f (f : Int32) : Int32 := if f = -6 then -1 else f
theorem gc_fN : gc_f (-6) = -1 := rfl
theorem gc_fq {q : Nat} (hq : q < 4) : gc_f (nI q) = nI q := if_neg (lb_n6 (by omega))
def gc_l (T : Nat → Int32) (p : Nat) : Nat → Nat → List Nat
  | 0, _ => []
  | m + 1, d => if mb_old T p d = -6 then [] else (mb_old T p d).toNatClampNeg :: gc_l T p m (d ||| 1 <<< (mb_old T p d).toNatClampNeg)
def gc_r : List Nat → Nat
  | [] => 0
  | c :: l => c + 4 * gc_r l
theorem ga_crI {B : ms_T} {T : Nat → Int32} (h : RG B T) {p d : Nat} (hp : p < 4) (hd : d < 16) {v3 v4 : Int32} {rec8 : Int32 → Int32 → Int32 → Int32 → ms_T → Option Int32} : ∀ (r k n : Nat) (f : Int32), k + r = 4 → r < n → (f = -6 ∨ ∃ q, q < 4 ∧ f = nI q) →
    f9_creditors_L14 rec8 n (nI p) v3 v4 (nI d) (gc_f f) (nI k) B = (if mb_oF T p d r k f = -6 then some (v3 ||| (v4 <<< ((8 : Int32) &&& 31))) else rec8 (nI p) (v3 ||| (mb_oF T p d r k f <<< (((2 : Int32) * v4) &&& 31))) (v4 + (1 : Int32)) (nI d ||| ((1 : Int32) <<< (mb_oF T p d r k f &&& 31))) B)
  | r, k, 0, f, _, hn, _ => by omega
  | 0, k, n + 1, f, hk, _, hf => by
    show f9_creditors_b14 rec8 (f9_creditors_L14 rec8 n) (nI p) v3 v4 (nI d) (gc_f f) (nI k) B = (if f = -6 then _ else rec8 (nI p) (v3 ||| (f <<< (((2 : Int32) * v4) &&& 31))) (v4 + (1 : Int32)) (nI d ||| ((1 : Int32) <<< (f &&& 31))) B)
    unfold f9_creditors_b14
    rw [show (4 : Int32) = nI 4 from rfl, if_pos (nI_le (by omega) (by omega))]
    rcases hf with rfl | ⟨q, hq, rfl⟩
    · rw [if_pos rfl, gc_fN, if_neg (by decide)]
    · rw [if_neg (lb_n6 (by omega)), gc_fq hq, if_pos (nI_pos' (by omega))]
  | r + 1, k, n + 1, f, hk, hn, hf => by
    have IH := ga_crI h hp hd (v3 := v3) (v4 := v4) (rec8 := rec8) r (k + 1) n (mb_o1 T p d f k) (by omega) (by omega) (lb_o1n (by omega) hf)
    show f9_creditors_b14 rec8 (f9_creditors_L14 rec8 n) (nI p) v3 v4 (nI d) (gc_f f) (nI k) B = (if mb_oF T p d r (k + 1) (mb_o1 T p d f k) = -6 then some (v3 ||| (v4 <<< ((8 : Int32) &&& 31))) else rec8 (nI p) (v3 ||| (mb_oF T p d r (k + 1) (mb_o1 T p d f k) <<< (((2 : Int32) * v4) &&& 31))) (v4 + (1 : Int32)) (nI d ||| ((1 : Int32) <<< (mb_oF T p d r (k + 1) (mb_o1 T p d f k) &&& 31))) B)
    rw [← IH]
    clear IH
    unfold f9_creditors_b14
    rw [show (4 : Int32) = nI 4 from rfl, if_neg (nI_ge (by omega) (by omega)), show nI 4 * nI p = nI (4 * p) from lb_mul 4 p, lb_add, lb_ck (by omega) (by omega), lb_cl (by omega), h.d (by omega), ← Nat.add_assoc]
    have stay : ∀ t : Int32, mb_o1 T p d f k = f → t = 0 → f9_creditors_b46 rec8 (f9_creditors_L14 rec8 n) (nI p) v3 v4 (nI d) (gc_f f) (nI k) t B = f9_creditors_L14 rec8 n (nI p) v3 v4 (nI d) (gc_f (mb_o1 T p d f k)) (nI (k + 1)) B := by
      intro t e ht
      subst ht
      rw [e]
      unfold f9_creditors_b46
      rw [if_pos rfl]
      unfold f9_creditors_b81
      rw [ga_p1]
    unfold f9_creditors_b45
    by_cases c1 : T (75 + 4 * p + k) ≤ 0
    · rw [if_pos c1]
      refine stay 0 ?_ rfl
      unfold mb_o1
      rw [if_neg]
      rintro ⟨h1, -⟩
      exact lb_npos.mpr h1 c1
    · rw [if_neg c1]
      by_cases c2 : d.testBit k = false
      · rw [if_pos ((lb_bit0 d hd k (by omega)).mpr c2)]
        unfold f9_creditors_b46
        rw [if_neg (by decide)]
        unfold f9_creditors_b77 f9_creditors_b81
        rw [ga_p1]
        rcases hf with rfl | ⟨q, hq, rfl⟩
        · have e : mb_o1 T p d (-6) k = nI k := by unfold mb_o1; rw [if_pos ⟨lb_npos.mp c1, c2, Or.inl rfl⟩]
          rw [e, gc_fN, if_pos (by decide), gc_fq (by omega)]
        · rw [gc_fq hq, if_neg (nI_pos (by omega)), ga_4, lb_add, lb_add, lb_ck (by omega) (by omega), lb_ck (by omega) (by omega), lb_cl (by omega), lb_cl (by omega), h.g (by omega), h.g (by omega), ← Nat.add_assoc, ← Nat.add_assoc]
          by_cases c3 : T (91 + 4 * p + k) ≤ T (91 + 4 * p + q)
          · rw [if_pos c3]
            have e : mb_o1 T p d (nI q) k = nI q := by
              unfold mb_o1
              rw [if_neg]
              rintro ⟨-, -, h1 | h1⟩
              · exact lb_n6 (by omega) h1
              · rw [lb_cl (by omega)] at h1; exact lb_nle.mpr h1 c3
            rw [e, gc_fq hq]
          · rw [if_neg c3]
            have e : mb_o1 T p d (nI q) k = nI k := by
              unfold mb_o1
              rw [if_pos ⟨lb_npos.mp c1, c2, Or.inr (by rw [lb_cl (by omega)]; exact lb_nle.mp c3)⟩]
            rw [e, gc_fq (by omega)]
      · rw [if_neg (fun q => c2 ((lb_bit0 d hd k (by omega)).mp q))]
        refine stay 0 ?_ rfl
        unfold mb_o1
        rw [if_neg]
        rintro ⟨-, h1, -⟩
        exact c2 h1
def gc_b (d : Nat) : Nat := (d.testBit 0).toNat + (d.testBit 1).toNat + (d.testBit 2).toNat + (d.testBit 3).toNat
theorem gc_bS : ∀ d, d < 16 → ∀ q, q < 4 → d.testBit q = false → gc_b (d ||| 1 <<< q) = gc_b d + 1 := by decide
theorem gc_b4 : ∀ d, d < 16 → gc_b d = 4 → ∀ q, q < 4 → d.testBit q = true := by decide
theorem gc_enc : ∀ n, n < 4 → ∀ row, row < 64 → row < 4 ^ n → ∀ c, c < 4 → nI row ||| (nI c <<< (((2 : Int32) * nI n) &&& 31)) = nI (row + 4 ^ n * c) := by decide +kernel
theorem gc_end : ∀ n, n < 5 → ∀ row, row < 256 → nI row ||| (nI n <<< ((8 : Int32) &&& 31)) = nI (row + 256 * n) := by decide +kernel
theorem ga_crL {B : ms_T} {T : Nat → Int32} (h : RG B T) {p : Nat} (hp : p < 4) : ∀ (m cnt d row n : Nat), cnt + m = 4 → d < 16 → gc_b d = cnt → row < 4 ^ cnt → m < n →
    f9_creditors_L8 n (nI p) (nI row) (nI cnt) (nI d) B = some (nI (row + 4 ^ cnt * gc_r (gc_l T p (m + 1) d) + 256 * (cnt + (gc_l T p (m + 1) d).length)))
  | m, cnt, d, row, 0, _, _, _, _, hn => by omega
  | m, cnt, d, row, n + 1, hm, hd, hb, hr, hn => by
    show f9_creditors_b8 (f9_creditors_L8 n) (nI p) (nI row) (nI cnt) (nI d) B = _
    unfold f9_creditors_b8
    have e1 := ga_crI h hp hd (v3 := nI row) (v4 := nI cnt) (rec8 := f9_creditors_L8 n) 4 0 fo_fu (-6) (by omega) (by show 4 < 1000; omega) (Or.inl rfl)
    rw [gc_fN] at e1
    rw [show (0 : Int32) = nI 0 from rfl, e1]
    clear e1
    have hr4 : (4 : Nat) ^ cnt ≤ 4 ^ 4 := Nat.pow_le_pow_right (by omega) (by omega)
    have h44 : (4 : Nat) ^ 4 = 256 := rfl
    have hold := lb_oldC T p d
    show (if mb_old T p d = -6 then _ else f9_creditors_L8 n (nI p) (nI row ||| mb_old T p d <<< ((2 : Int32) * nI cnt &&& 31)) (nI cnt + (1 : Int32)) (nI d ||| (1 : Int32) <<< (mb_old T p d &&& 31)) B) = _
    rcases hold with ⟨e, -⟩ | ⟨q, hq, e, he, -⟩
    · rw [if_pos e]
      have el : gc_l T p (m + 1) d = [] := by show (if mb_old T p d = -6 then [] else _) = _; rw [if_pos e]
      rw [el, gc_end cnt (by omega) row (by omega)]
      show some (nI (row + 256 * cnt)) = some (nI (row + 4 ^ cnt * 0 + 256 * (cnt + 0)))
      rw [Nat.mul_zero, Nat.add_zero, Nat.add_zero]
    · rw [e, if_neg (lb_n6 (by omega))]
      have el : gc_l T p (m + 1) d = q :: gc_l T p m (d ||| 1 <<< q) := by
        show (if mb_old T p d = -6 then [] else (mb_old T p d).toNatClampNeg :: gc_l T p m (d ||| 1 <<< (mb_old T p d).toNatClampNeg)) = _
        rw [e, if_neg (lb_n6 (by omega)), lb_cl (by omega)]
      have hcnt : cnt < 4 := by
        rcases Nat.lt_or_ge cnt 4 with h1 | h1
        · exact h1
        · have := gc_b4 d hd (by omega) q hq
          rw [he.2] at this; exact absurd this (by decide)
      obtain ⟨m', rfl⟩ : ∃ m', m = m' + 1 := ⟨m - 1, by omega⟩
      have hr64 : row < 64 := by
        have : (4 : Nat) ^ cnt ≤ 4 ^ 3 := Nat.pow_le_pow_right (by omega) (by omega)
        have h43 : (4 : Nat) ^ 3 = 64 := rfl
        omega
      have hrow : row + 4 ^ cnt * q < 4 ^ (cnt + 1) := by
        rw [Nat.pow_succ]
        have : 4 ^ cnt * q ≤ 4 ^ cnt * 3 := Nat.mul_le_mul_left _ (by omega)
        omega
      rw [gc_enc cnt hcnt row hr64 hr q hq, ga_p1, lb_bitS d hd q hq, el]
      rw [ga_crL h hp m' (cnt + 1) (d ||| 1 <<< q) (row + 4 ^ cnt * q) n (by omega) (lb_bitL d hd q hq) (by rw [gc_bS d hd q hq he.2, hb]) hrow (by omega)]
      congr 2
      show _ = row + 4 ^ cnt * (q + 4 * gc_r (gc_l T p (m' + 1) (d ||| 1 <<< q))) + 256 * (cnt + ((gc_l T p (m' + 1) (d ||| 1 <<< q)).length + 1))
      generalize gc_r (gc_l T p (m' + 1) (d ||| 1 <<< q)) = R
      have e2 : 4 ^ cnt * (q + 4 * R) = 4 ^ cnt * q + 4 ^ cnt * 4 * R := by rw [Nat.mul_add, ← Nat.mul_assoc]
      rw [Nat.pow_succ, e2]
      generalize 4 ^ cnt * q = a1
      generalize 4 ^ cnt * 4 * R = a2
      omega
/-- the creditors' number -/
theorem ga_cr {B : ms_T} {T : Nat → Int32} (h : RG B T) {p : Nat} (hp : p < 4) : f9_creditors (nI p) B = some (nI (gc_r (gc_l T p 5 0) + 256 * (gc_l T p 5 0).length)) := by
  have e := ga_crL h hp 4 0 0 0 fo_fu (by omega) (by omega) (by decide) (by decide) (by show 4 < 1000; omega)
  rw [Nat.pow_zero, Nat.one_mul, Nat.zero_add, Nat.zero_add] at e
  exact e
theorem gc_lB {T : Nat → Int32} {p : Nat} : ∀ (m d : Nat), d < 16 → (∀ c ∈ gc_l T p m d, c < 4 ∧ mb_el T p d c) ∧ (gc_l T p m d).length + gc_b d ≤ 4 ∧ gc_r (gc_l T p m d) < 4 ^ (gc_l T p m d).length
  | 0, d, hd => ⟨fun c h => absurd h List.not_mem_nil, by
      show 0 + gc_b d ≤ 4
      unfold gc_b
      have hh : ∀ b : Bool, b.toNat ≤ 1 := fun b => by cases b <;> decide
      have h0 := hh (d.testBit 0)
      have h1 := hh (d.testBit 1)
      have h2 := hh (d.testBit 2)
      have h3 := hh (d.testBit 3)
      omega, by show 0 < 4 ^ 0; decide⟩
  | m + 1, d, hd => by
    rcases lb_oldC T p d with ⟨e, -⟩ | ⟨q, hq, e, he, -⟩
    · have el : gc_l T p (m + 1) d = [] := by show (if mb_old T p d = -6 then [] else _) = _; rw [if_pos e]
      rw [el]
      exact gc_lB 0 d hd
    · have el : gc_l T p (m + 1) d = q :: gc_l T p m (d ||| 1 <<< q) := by
        show (if mb_old T p d = -6 then [] else (mb_old T p d).toNatClampNeg :: gc_l T p m (d ||| 1 <<< (mb_old T p d).toNatClampNeg)) = _
        rw [e, if_neg (lb_n6 (by omega)), lb_cl (by omega)]
      obtain ⟨h1, h2, h3⟩ := gc_lB (T := T) (p := p) m (d ||| 1 <<< q) (lb_bitL d hd q hq)
      rw [gc_bS d hd q hq he.2] at h2
      rw [el]
      refine ⟨fun c hc => ?_, ?_, ?_⟩
      · rcases List.mem_cons.mp hc with rfl | hc
        · exact ⟨hq, he⟩
        · obtain ⟨g1, g2, g3⟩ := h1 c hc
          refine ⟨g1, g2, ?_⟩
          rw [lb_bitT d hd q hq c g1, Bool.or_eq_false_iff] at g3
          exact g3.1
      · show (gc_l T p m (d ||| 1 <<< q)).length + 1 + gc_b d ≤ 4
        omega
      · show q + 4 * gc_r (gc_l T p m (d ||| 1 <<< q)) < 4 ^ ((gc_l T p m (d ||| 1 <<< q)).length + 1)
        rw [Nat.pow_succ]
        omega
theorem gc_dec8 : ∀ a, a < 1280 → nI a >>> ((8 : Int32) &&& 31) = nI (a / 256) := by decide +kernel
theorem gc_dec : ∀ i, i < 4 → ∀ a, a < 1280 → (nI a >>> (((2 : Int32) * nI i) &&& 31)) &&& (3 : Int32) = nI (a / 4 ^ i % 4) := by decide +kernel
/-- the creditor at a place of the number -/
theorem gc_at : ∀ (l : List Nat) (i : Nat) (c : Nat), (∀ x ∈ l, x < 4) → l[i]? = some c → gc_r l / 4 ^ i % 4 = c
  | [], i, c, _, h => by simp at h
  | x :: l, 0, c, hx, h => by
    have e : x = c := Option.some.inj h
    subst e
    have := hx x List.mem_cons_self
    show (x + 4 * gc_r l) / 4 ^ 0 % 4 = x
    rw [Nat.pow_zero, Nat.div_one]
    omega
  | x :: l, i + 1, c, hx, h => by
    have h2 : l[i]? = some c := h
    have hx4 := hx x List.mem_cons_self
    show (x + 4 * gc_r l) / 4 ^ (i + 1) % 4 = c
    rw [Nat.pow_succ, Nat.mul_comm (4 ^ i) 4, ← Nat.div_div_eq_div_mul, show (x + 4 * gc_r l) / 4 = gc_r l by omega]
    exact gc_at l i c (fun y hy => hx y (List.mem_cons_of_mem _ hy)) h2
/-- what the loops read of the number -/
theorem ga_code {T : Nat → Int32} {p : Nat} : (gc_l T p 5 0).length ≤ 4 ∧ nI (gc_r (gc_l T p 5 0) + 256 * (gc_l T p 5 0).length) >>> ((8 : Int32) &&& 31) = nI (gc_l T p 5 0).length ∧
    ∀ i c, (gc_l T p 5 0)[i]? = some c → c < 4 ∧ (nI (gc_r (gc_l T p 5 0) + 256 * (gc_l T p 5 0).length) >>> (((2 : Int32) * nI i) &&& 31)) &&& (3 : Int32) = nI c := by
  obtain ⟨h1, h2, h3⟩ := gc_lB (T := T) (p := p) 5 0 (by omega)
  generalize gc_l T p 5 0 = l at h1 h2 h3
  have hl : l.length ≤ 4 := by have : gc_b 0 = 0 := by decide
                               omega
  have h4 : (4 : Nat) ^ l.length ≤ 4 ^ 4 := Nat.pow_le_pow_right (by omega) hl
  have h44 : (4 : Nat) ^ 4 = 256 := rfl
  refine ⟨hl, ?_, fun i c hc => ?_⟩
  · rw [gc_dec8 _ (by omega)]
    congr 1
    omega
  · have hi : i < l.length := (List.getElem?_eq_some_iff.mp hc).1
    have hc4 := (h1 c (List.mem_of_getElem? hc)).1
    refine ⟨hc4, ?_⟩
    rw [gc_dec i (by omega) _ (by omega)]
    congr 1
    rw [← gc_at l i c (fun x hx => (h1 x hx).1) hc]
    have hi4 : i = 0 ∨ i = 1 ∨ i = 2 ∨ i = 3 := by omega
    rcases hi4 with rfl | rfl | rfl | rfl
    · rw [Nat.pow_zero]; omega
    · rw [Nat.pow_one]; omega
    · rw [show (4 : Nat) ^ 2 = 16 from rfl]; omega
    · rw [show (4 : Nat) ^ 3 = 64 from rfl]; omega
