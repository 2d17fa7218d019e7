/-! ## Layer B: debts are paid -/
theorem lb_npos {a : Int32} : ¬ a ≤ 0 ↔ 0 < a := by rw [lb_le0, lb_0lt]; omega
theorem lb_nle {a b : Int32} : ¬ a ≤ b ↔ b < a := by rw [lb_le, lb_lt]; omega
theorem lb_nlt {a b : Int32} : ¬ a < b ↔ b ≤ a := by rw [lb_le, lb_lt]; omega
theorem lb_bit0 : ∀ d, d < 16 → ∀ k, k < 4 → ((((nI d >>> (nI k &&& 31)) &&& (1 : Int32)) = 0) ↔ d.testBit k = false) := by decide
theorem lb_bitS : ∀ d, d < 16 → ∀ k, k < 4 → nI d ||| ((1 : Int32) <<< (nI k &&& 31)) = nI (d ||| 1 <<< k) := by decide
theorem lb_bitL : ∀ d, d < 16 → ∀ k, k < 4 → d ||| 1 <<< k < 16 := by decide
theorem lb_bitT : ∀ d, d < 16 → ∀ k, k < 4 → ∀ j, j < 4 → (d ||| 1 <<< k).testBit j = (d.testBit j || j == k) := by decide
theorem lb_bitU : ∀ d, d < 16 → ∀ k, k < 4 → d.testBit k = false → d < d ||| 1 <<< k := by decide
def mb_o1 (T : Nat → Int32) (p d : Nat) (f : Int32) (k : Nat) : Int32 :=
  if 0 < T (75 + 4 * p + k) ∧ d.testBit k = false ∧ (f = -6 ∨ T (91 + 4 * p + f.toNatClampNeg) < T (91 + 4 * p + k)) then nI k else f
def mb_oF (T : Nat → Int32) (p d : Nat) : Nat → Nat → Int32 → Int32
  | 0, _, f => f
  | r + 1, k, f => mb_oF T p d r (k + 1) (mb_o1 T p d f k)
def mb_old (T : Nat → Int32) (p d : Nat) : Int32 := mb_oF T p d 4 0 (-6)
def mb_el (T : Nat → Int32) (p d k : Nat) : Prop := 0 < T (75 + 4 * p + k) ∧ d.testBit k = false
theorem lb_oFz {T : Nat → Int32} {p d : Nat} : ∀ (r k : Nat) (f : Int32), (∀ j, k ≤ j → j < k + r → T (75 + 4 * p + j) = 0) → mb_oF T p d r k f = f
  | 0, k, f, _ => rfl
  | r + 1, k, f, h => by
    show mb_oF T p d r (k + 1) (mb_o1 T p d f k) = f
    have h1 : mb_o1 T p d f k = f := by
      unfold mb_o1
      rw [if_neg]
      rintro ⟨h2, -⟩
      rw [h k (by omega) (by omega), lb_0lt, Int32.toInt_zero] at h2
      omega
    rw [h1]
    exact lb_oFz r (k + 1) f (fun j h2 h3 => h j (by omega) (by omega))
theorem lb_o1n {T : Nat → Int32} {p d : Nat} {f : Int32} {k : Nat} (hk : k < 4) (hf : f = -6 ∨ ∃ q, q < 4 ∧ f = nI q) : mb_o1 T p d f k = -6 ∨ ∃ q, q < 4 ∧ mb_o1 T p d f k = nI q := by
  unfold mb_o1
  split
  · exact Or.inr ⟨k, hk, rfl⟩
  · exact hf
/-- what the oldest debt is -/
theorem lb_oFc {T : Nat → Int32} {p d : Nat} : ∀ (r k : Nat) (f : Int32), k + r = 4 → ((f = -6 ∧ ∀ j, j < k → ¬ mb_el T p d j) ∨ ∃ q, q < 4 ∧ f = nI q ∧ mb_el T p d q ∧ ∀ j, j < k → mb_el T p d j → T (91 + 4 * p + j) ≤ T (91 + 4 * p + q)) →
    ((mb_oF T p d r k f = -6 ∧ ∀ j, j < 4 → ¬ mb_el T p d j) ∨ ∃ q, q < 4 ∧ mb_oF T p d r k f = nI q ∧ mb_el T p d q ∧ ∀ j, j < 4 → mb_el T p d j → T (91 + 4 * p + j) ≤ T (91 + 4 * p + q))
  | 0, k, f, hk, h => by
    have : k = 4 := by omega
    subst this
    exact h
  | r + 1, k, f, hk, h => by
    refine lb_oFc r (k + 1) _ (by omega) ?_
    unfold mb_o1
    by_cases hc : 0 < T (75 + 4 * p + k) ∧ d.testBit k = false ∧ (f = -6 ∨ T (91 + 4 * p + f.toNatClampNeg) < T (91 + 4 * p + k))
    · rw [if_pos hc]
      refine Or.inr ⟨k, by omega, rfl, ⟨hc.1, hc.2.1⟩, ?_⟩
      intro j hj he
      by_cases e : j = k
      · subst e; exact lb_le.mpr (Int.le_refl _)
      · rcases h with ⟨h1, h2⟩ | ⟨q, hq, h1, h2, h3⟩
        · exact absurd he (h2 j (by omega))
        · have h4 := h3 j (by omega) he
          rcases hc.2.2 with h5 | h5
          · exact absurd (h1.symm.trans h5) (lb_n6 (by omega))
          · rw [h1, lb_cl (by omega), lb_lt] at h5
            rw [lb_le] at h4 ⊢
            omega
    · rw [if_neg hc]
      rcases h with ⟨h1, h2⟩ | ⟨q, hq, h1, h2, h3⟩
      · refine Or.inl ⟨h1, ?_⟩
        intro j hj he
        by_cases e : j = k
        · subst e; exact hc ⟨he.1, he.2, Or.inl h1⟩
        · exact h2 j (by omega) he
      · refine Or.inr ⟨q, hq, h1, h2, ?_⟩
        intro j hj he
        by_cases e : j = k
        · subst e
          rw [← lb_nlt]
          intro h5
          refine hc ⟨he.1, he.2, Or.inr ?_⟩
          rw [h1, lb_cl (by omega)]; exact h5
        · exact h3 j (by omega) he
theorem lb_oldC (T : Nat → Int32) (p d : Nat) : (mb_old T p d = -6 ∧ ∀ j, j < 4 → ¬ mb_el T p d j) ∨ ∃ q, q < 4 ∧ mb_old T p d = nI q ∧ mb_el T p d q ∧ ∀ j, j < 4 → mb_el T p d j → T (91 + 4 * p + j) ≤ T (91 + 4 * p + q) :=
  lb_oFc 4 0 (-6) rfl (Or.inl ⟨rfl, fun j hj => by omega⟩)
theorem lb_oFe {T T' : Nat → Int32} {p d d' : Nat} : ∀ (r k : Nat) (f : Int32), k + r ≤ 4 → (f = -6 ∨ ∃ q, q < 4 ∧ f = nI q) → (∀ j, j < 4 → (mb_el T p d j ↔ mb_el T' p d' j)) → (∀ j, j < 4 → T (91 + 4 * p + j) = T' (91 + 4 * p + j)) → mb_oF T p d r k f = mb_oF T' p d' r k f
  | 0, _, _, _, _, _, _ => rfl
  | r + 1, k, f, hk, hf, h, ha => by
    show mb_oF T p d r (k + 1) (mb_o1 T p d f k) = mb_oF T' p d' r (k + 1) (mb_o1 T' p d' f k)
    have e : mb_o1 T p d f k = mb_o1 T' p d' f k := by
      unfold mb_o1
      have h1 := h k (by omega)
      unfold mb_el at h1
      have h2 : (f = -6 ∨ T (91 + 4 * p + f.toNatClampNeg) < T (91 + 4 * p + k)) ↔ (f = -6 ∨ T' (91 + 4 * p + f.toNatClampNeg) < T' (91 + 4 * p + k)) := by
        rcases hf with h3 | ⟨q, hq, h3⟩
        · exact ⟨fun _ => Or.inl h3, fun _ => Or.inl h3⟩
        · rw [h3, lb_cl (by omega), ha q hq, ha k (by omega)]
      have h4 : (0 < T (75 + 4 * p + k) ∧ d.testBit k = false ∧ (f = -6 ∨ T (91 + 4 * p + f.toNatClampNeg) < T (91 + 4 * p + k))) ↔ (0 < T' (75 + 4 * p + k) ∧ d'.testBit k = false ∧ (f = -6 ∨ T' (91 + 4 * p + f.toNatClampNeg) < T' (91 + 4 * p + k))) := by
        constructor
        · rintro ⟨a, b, c⟩
          exact ⟨(h1.mp ⟨a, b⟩).1, (h1.mp ⟨a, b⟩).2, h2.mp c⟩
        · rintro ⟨a, b, c⟩
          exact ⟨(h1.mpr ⟨a, b⟩).1, (h1.mpr ⟨a, b⟩).2, h2.mpr c⟩
      by_cases h5 : (0 < T (75 + 4 * p + k) ∧ d.testBit k = false ∧ (f = -6 ∨ T (91 + 4 * p + f.toNatClampNeg) < T (91 + 4 * p + k)))
      · rw [if_pos h5, if_pos (h4.mp h5)]
      · rw [if_neg h5, if_neg (fun h6 => h5 (h4.mpr h6))]
    rw [e]
    exact lb_oFe r (k + 1) _ (by omega) (lb_o1n (by omega) hf) h ha
theorem lb_oldE {T T' : Nat → Int32} {p d d' : Nat} (h : ∀ j, j < 4 → (mb_el T p d j ↔ mb_el T' p d' j)) (ha : ∀ j, j < 4 → T (91 + 4 * p + j) = T' (91 + 4 * p + j)) : mb_old T p d = mb_old T' p d' :=
  lb_oFe 4 0 (-6) (by omega) (Or.inl rfl) h ha
/-- the reference's oldest -/
theorem lb_oldL {T : Nat → Int32} {P p d : Nat} (h6 : T 6 = nI P) (hP : P ≤ 4) (hp : p < 4) (hd : d < 16) (cz : ∀ k, P ≤ k → k < 4 → T (75 + 4 * p + k) = 0) : ∀ (r k n : Nat) (f : Int32), k + r = 4 → r < n → (f = -6 ∨ ∃ q, q < 4 ∧ f = nI q) → f8_oldest_L6 n (nI p) (nI d) f (nI k) T = some (mb_oF T p d r k f)
  | r, k, 0, f, _, h, _ => by omega
  | r, k, n + 1, f, hk, hn, hf => by
    show f8_oldest_b6 (f8_oldest_L6 n) (nI p) (nI d) f (nI k) T = _
    unfold f8_oldest_b6
    rw [lb_k6, lb_c6, h6]
    by_cases hPk : P ≤ k
    · rw [if_pos (nI_le hPk (by omega)), lb_oFz r k f (fun j h1 h2 => cz j (by omega) (by omega))]
    · rw [if_neg (nI_ge (by omega) (by omega)), lb_debt hp (by omega), lb_bd]
      obtain ⟨r, rfl⟩ : ∃ r', r = r' + 1 := ⟨r - 1, by omega⟩
      have IH := fun (f : Int32) (hf : f = -6 ∨ ∃ q, q < 4 ∧ f = nI q) => lb_oldL h6 hP hp hd cz r (k + 1) n f (by omega) (by omega) hf
      have hs : nI k + 1 = nI (k + 1) := (nI_succ k).symm
      have go : ∀ g : Int32, (g = 0 ∧ mb_o1 T p d f k = f) ∨ (g = 1 ∧ mb_o1 T p d f k = nI k) → f8_oldest_b64 (f8_oldest_L6 n) (nI p) (nI d) f (nI k) g T = some (mb_oF T p d (r + 1) k f) := by
        intro g hg
        unfold f8_oldest_b64 f8_oldest_b77
        show _ = some (mb_oF T p d r (k + 1) (mb_o1 T p d f k))
        rw [hs]
        rcases hg with ⟨rfl, h1⟩ | ⟨rfl, h1⟩
        · rw [if_pos rfl, h1]; exact IH f hf
        · rw [if_neg (by decide), h1]; exact IH (nI k) (Or.inr ⟨k, by omega, rfl⟩)
      unfold f8_oldest_b63 f8_oldest_b59
      by_cases h1 : T (75 + 4 * p + k) ≤ 0
      · rw [if_pos h1]
        refine go 0 (Or.inl ⟨rfl, ?_⟩)
        unfold mb_o1; rw [if_neg]; rintro ⟨h2, -⟩; exact lb_npos.mpr h2 h1
      · rw [if_neg h1]
        by_cases h2 : ((nI d >>> (nI k &&& 31)) &&& (1 : Int32)) = 0
        · rw [if_pos h2]
          have h2' := (lb_bit0 d hd k (by omega)).mp h2
          by_cases h3 : f = -6
          · rw [if_pos h3]
            refine go 1 (Or.inr ⟨rfl, ?_⟩)
            unfold mb_o1; rw [if_pos ⟨lb_npos.mp h1, h2', Or.inl h3⟩]
          · rw [if_neg h3]
            rcases hf with hf' | ⟨q, hq, hf'⟩
            · exact absurd hf' h3
            · have e1 : f.toNatClampNeg = q := by rw [hf', lb_cl (by omega)]
              have e2 : f8_ageOf (nI p) f T = some (T (91 + 4 * p + q)) := by rw [hf']; exact lb_age hp hq
              rw [lb_age hp (by omega), lb_bd, e2, lb_bd]
              by_cases h4 : T (91 + 4 * p + k) ≤ T (91 + 4 * p + q)
              · rw [if_pos h4]
                refine go 0 (Or.inl ⟨rfl, ?_⟩)
                unfold mb_o1; rw [if_neg]; rintro ⟨-, -, h5 | h5⟩
                · exact h3 h5
                · rw [e1] at h5; exact lb_nle.mpr h5 h4
              · rw [if_neg h4]
                refine go 1 (Or.inr ⟨rfl, ?_⟩)
                unfold mb_o1; rw [if_pos ⟨lb_npos.mp h1, h2', Or.inr (by rw [e1]; exact lb_nle.mp h4)⟩]
        · rw [if_neg h2]
          refine go 0 (Or.inl ⟨rfl, ?_⟩)
          unfold mb_o1; rw [if_neg]; rintro ⟨-, h3, -⟩
          exact h2 ((lb_bit0 d hd k (by omega)).mpr h3)
theorem lb_old8 {T : Nat → Int32} {P p d : Nat} (h6 : T 6 = nI P) (hP : P ≤ 4) (hp : p < 4) (hd : d < 16) (cz : ∀ k, P ≤ k → k < 4 → T (75 + 4 * p + k) = 0) : f8_oldest (nI p) (nI d) T = some (mb_old T p d) :=
  lb_oldL h6 hP hp hd cz 4 0 1000 (-6) rfl (by omega) (Or.inl rfl)
/-- the class's oldest -/
theorem lb_oldK {T : Nat → Int32} {D : ms_T} {p : Nat} (hp : p < 4) (h0 : ∀ i, i < 16 → D 0 i = T (75 + i)) (h1 : ∀ i, i < 16 → D 1 i = if T (75 + i) = 0 then -6 else T (91 + i)) (hn : ∀ i, i < 16 → 0 ≤ (T (75 + i)).toInt ∧ 0 ≤ (T (91 + i)).toInt) :
    ∀ (r k n : Nat) (f g : Int32), k + r = 4 → r < n → ((f = -6 ∧ g = -6) ∨ ∃ q, q < 4 ∧ f = nI q ∧ g = T (91 + 4 * p + q)) → f1_oldestOf_L9 n (nI p) f g (nI k) D = some (mb_oF T p 0 r k f)
  | r, k, 0, f, g, _, h, _ => by omega
  | 0, k, n + 1, f, g, hk, hn', hf => by
    show f1_oldestOf_b9 _ (nI p) f g (nI k) D = _
    unfold f1_oldestOf_b9
    have : k = 4 := by omega
    subst this
    rw [if_pos (by decide)]; rfl
  | r + 1, k, n + 1, f, g, hk, hn', hf => by
    show f1_oldestOf_b9 (f1_oldestOf_L9 n) (nI p) f g (nI k) D = some (mb_oF T p 0 r (k + 1) (mb_o1 T p 0 f k))
    unfold f1_oldestOf_b9 f1_oldestOf_b61
    have hs : nI k + 1 = nI (k + 1) := (nI_succ k).symm
    have hc : D 0 (p * 4 + k) = T (75 + 4 * p + k) := by rw [h0 _ (by omega)]; congr 1; omega
    have ha : D 1 (p * 4 + k) = if T (75 + 4 * p + k) = 0 then -6 else T (91 + 4 * p + k) := by
      rw [h1 _ (by omega), show 75 + (p * 4 + k) = 75 + 4 * p + k by omega, show 91 + (p * 4 + k) = 91 + 4 * p + k by omega]
    have IH := fun (f g : Int32) hf => lb_oldK hp h0 h1 hn r (k + 1) n f g (by omega) (by omega) hf
    rw [show (4 : Int32) = nI 4 from rfl, if_neg (nI_ge (by omega) (by omega)), lb_mul, lb_add, lb_at (by omega) (by omega), lb_bd, lb_at (by omega) (by omega), lb_bd, lb_bd, hc, ha, hs]
    by_cases h2 : T (75 + 4 * p + k) ≤ 0
    · rw [if_pos h2, IH f g hf]
      have : mb_o1 T p 0 f k = f := by
        unfold mb_o1; rw [if_neg]; rintro ⟨h3, -⟩; exact lb_npos.mpr h3 h2
      rw [this]
    · have h3 : ¬ T (75 + 4 * p + k) = 0 := by intro h; rw [h] at h2; exact h2 (by decide)
      rw [if_neg h2, if_neg h3]
      have hag := (hn (4 * p + k) (by omega)).2
      rw [show 91 + (4 * p + k) = 91 + 4 * p + k by omega] at hag
      by_cases h4 : T (91 + 4 * p + k) ≤ g
      · rw [if_pos h4, IH f g hf]
        have : mb_o1 T p 0 f k = f := by
          unfold mb_o1; rw [if_neg]; rintro ⟨-, -, h5 | h5⟩
          · rcases hf with ⟨-, h6⟩ | ⟨q, hq, h6, -⟩
            · rw [h6, lb_le, show ((-6 : Int32).toInt) = -6 from rfl] at h4; omega
            · exact lb_n6 (by omega) (h6.symm.trans h5)
          · rcases hf with ⟨h7, h6⟩ | ⟨q, hq, h7, h6⟩
            · rw [h6, lb_le, show ((-6 : Int32).toInt) = -6 from rfl] at h4; omega
            · rw [h7, lb_cl (by omega), ← h6] at h5; exact lb_nle.mpr h5 h4
        rw [this]
      · rw [if_neg h4, IH (nI k) _ (Or.inr ⟨k, by omega, rfl, rfl⟩)]
        have : mb_o1 T p 0 f k = nI k := by
          unfold mb_o1; rw [if_pos]
          refine ⟨lb_npos.mp h2, by simp, ?_⟩
          rcases hf with ⟨h7, h6⟩ | ⟨q, hq, h7, h6⟩
          · exact Or.inl h7
          · refine Or.inr ?_; rw [h7, lb_cl (by omega), ← h6]; exact lb_nle.mp h4
        rw [this]
theorem lb_old1 {T : Nat → Int32} {D : ms_T} {p : Nat} (hp : p < 4) (h0 : ∀ i, i < 16 → D 0 i = T (75 + i)) (h1 : ∀ i, i < 16 → D 1 i = if T (75 + i) = 0 then -6 else T (91 + i)) (hn : ∀ i, i < 16 → 0 ≤ (T (75 + i)).toInt ∧ 0 ≤ (T (91 + i)).toInt) : f1_oldestOf (nI p) D = some (mb_old T p 0) :=
  lb_oldK hp h0 h1 hn 4 0 1000 (-6) (-6) rfl (by omega) (Or.inl ⟨rfl, rfl⟩)
