/-! ## Layer B: what holds of the reference's row, and the class's board beside it -/
def mb_add (T : Nat → Int32) (i : Nat) (x : Int32) : Nat → Int32 := upd T i (T i + x)
theorem lb_as (T : Nat → Int32) (i : Nat) (x : Int32) : mb_add T i x i = T i + x := lb_us _ _ _
theorem lb_an {T : Nat → Int32} {i j : Nat} {x : Int32} (h : j ≠ i) : mb_add T i x j = T j := lb_un h
def mb_sum (T : Nat → Int32) : Int := (T 51).toInt + (T 57).toInt + (T 63).toInt + (T 69).toInt
abbrev mb_I (P t : Nat) (B C A : Int) (T : Nat → Int32) : Prop :=
  (P ≤ 4) ∧ (t ≤ 20000) ∧ (T 6 = nI P) ∧ (∃ n, T 7 = nI n ∧ (n < P ∨ (n = 0 ∧ P = 0))) ∧ (T 5 = nI t) ∧ (∃ x, T 8 = nI x ∧ x < 65537) ∧ (0 ≤ (T 0).toInt ∧ (T 0).toInt ≤ 99) ∧ (1 ≤ (T 1).toInt ∧ (T 1).toInt ≤ 99) ∧ (1 ≤ (T 2).toInt ∧ (T 2).toInt ≤ 99) ∧ (0 ≤ (T 3).toInt) ∧ (0 ≤ (T 4).toInt) ∧ (∀ s, s < 20 → T (11 + s) = -6 ∨ ∃ q, q < P ∧ T (11 + s) = nI q) ∧ (∀ s, s < 20 → s % 10 = 0 → T (11 + s) = -6) ∧ (∀ s, s < 20 → T (31 + s) = -6 ∨ (s % 10 = 5 ∧ (∃ q, q < P ∧ T (31 + s) = nI q) ∧ T (11 + s) ≠ -6 ∧ T (11 + s) ≠ T (31 + s))) ∧ (∀ p, p < 4 → ∃ x, x < 20 ∧ T (52 + 6 * p) = nI x) ∧ (∀ i, i < 16 → 0 ≤ (T (75 + i)).toInt ∧ (T (75 + i)).toInt ≤ C) ∧ (∀ p q, p < 4 → q < 4 → (p = q ∨ P ≤ p ∨ P ≤ q) → T (75 + 4 * p + q) = 0) ∧ (∀ i, i < 16 → T (75 + i) = 0 → T (91 + i) = 0) ∧ (∀ i, i < 16 → 0 ≤ (T (91 + i)).toInt ∧ (T (91 + i)).toInt ≤ A) ∧ (∀ p, p < 4 → 0 ≤ (T (51 + 6 * p)).toInt) ∧ (mb_sum T ≤ B) ∧ (∀ i, 51 + 6 * P ≤ i → i < 75 → T i = 0) ∧ (B ≤ 1000000000) ∧ (C ≤ 1000000000) ∧ (A ≤ 1000000000)
theorem mb_I.P4 {P t : Nat} {B C A : Int} {T : Nat → Int32} (h : mb_I P t B C A T) : P ≤ 4 := h.1
theorem mb_I.t9 {P t : Nat} {B C A : Int} {T : Nat → Int32} (h : mb_I P t B C A T) : t ≤ 20000 := h.2.1
theorem mb_I.h6 {P t : Nat} {B C A : Int} {T : Nat → Int32} (h : mb_I P t B C A T) : T 6 = nI P := h.2.2.1
theorem mb_I.h7 {P t : Nat} {B C A : Int} {T : Nat → Int32} (h : mb_I P t B C A T) : ∃ n, T 7 = nI n ∧ (n < P ∨ (n = 0 ∧ P = 0)) := h.2.2.2.1
theorem mb_I.h5 {P t : Nat} {B C A : Int} {T : Nat → Int32} (h : mb_I P t B C A T) : T 5 = nI t := h.2.2.2.2.1
theorem mb_I.dr {P t : Nat} {B C A : Int} {T : Nat → Int32} (h : mb_I P t B C A T) : ∃ x, T 8 = nI x ∧ x < 65537 := h.2.2.2.2.2.1
theorem mb_I.wg {P t : Nat} {B C A : Int} {T : Nat → Int32} (h : mb_I P t B C A T) : 0 ≤ (T 0).toInt ∧ (T 0).toInt ≤ 99 := h.2.2.2.2.2.2.1
theorem mb_I.pr {P t : Nat} {B C A : Int} {T : Nat → Int32} (h : mb_I P t B C A T) : 1 ≤ (T 1).toInt ∧ (T 1).toInt ≤ 99 := h.2.2.2.2.2.2.2.1
theorem mb_I.tl {P t : Nat} {B C A : Int} {T : Nat → Int32} (h : mb_I P t B C A T) : 1 ≤ (T 2).toInt ∧ (T 2).toInt ≤ 99 := h.2.2.2.2.2.2.2.2.1
theorem mb_I.cl {P t : Nat} {B C A : Int} {T : Nat → Int32} (h : mb_I P t B C A T) : 0 ≤ (T 3).toInt := h.2.2.2.2.2.2.2.2.2.1
theorem mb_I.du {P t : Nat} {B C A : Int} {T : Nat → Int32} (h : mb_I P t B C A T) : 0 ≤ (T 4).toInt := h.2.2.2.2.2.2.2.2.2.2.1
theorem mb_I.fo {P t : Nat} {B C A : Int} {T : Nat → Int32} (h : mb_I P t B C A T) : ∀ s, s < 20 → T (11 + s) = -6 ∨ ∃ q, q < P ∧ T (11 + s) = nI q := h.2.2.2.2.2.2.2.2.2.2.2.1
theorem mb_I.fi {P t : Nat} {B C A : Int} {T : Nat → Int32} (h : mb_I P t B C A T) : ∀ s, s < 20 → s % 10 = 0 → T (11 + s) = -6 := h.2.2.2.2.2.2.2.2.2.2.2.2.1
theorem mb_I.se {P t : Nat} {B C A : Int} {T : Nat → Int32} (h : mb_I P t B C A T) : ∀ s, s < 20 → T (31 + s) = -6 ∨ (s % 10 = 5 ∧ (∃ q, q < P ∧ T (31 + s) = nI q) ∧ T (11 + s) ≠ -6 ∧ T (11 + s) ≠ T (31 + s)) := h.2.2.2.2.2.2.2.2.2.2.2.2.2.1
theorem mb_I.pl {P t : Nat} {B C A : Int} {T : Nat → Int32} (h : mb_I P t B C A T) : ∀ p, p < 4 → ∃ x, x < 20 ∧ T (52 + 6 * p) = nI x := h.2.2.2.2.2.2.2.2.2.2.2.2.2.2.1
theorem mb_I.co {P t : Nat} {B C A : Int} {T : Nat → Int32} (h : mb_I P t B C A T) : ∀ i, i < 16 → 0 ≤ (T (75 + i)).toInt ∧ (T (75 + i)).toInt ≤ C := h.2.2.2.2.2.2.2.2.2.2.2.2.2.2.2.1
theorem mb_I.cz {P t : Nat} {B C A : Int} {T : Nat → Int32} (h : mb_I P t B C A T) : ∀ p q, p < 4 → q < 4 → (p = q ∨ P ≤ p ∨ P ≤ q) → T (75 + 4 * p + q) = 0 := h.2.2.2.2.2.2.2.2.2.2.2.2.2.2.2.2.1
theorem mb_I.az {P t : Nat} {B C A : Int} {T : Nat → Int32} (h : mb_I P t B C A T) : ∀ i, i < 16 → T (75 + i) = 0 → T (91 + i) = 0 := h.2.2.2.2.2.2.2.2.2.2.2.2.2.2.2.2.2.1
theorem mb_I.ag {P t : Nat} {B C A : Int} {T : Nat → Int32} (h : mb_I P t B C A T) : ∀ i, i < 16 → 0 ≤ (T (91 + i)).toInt ∧ (T (91 + i)).toInt ≤ A := h.2.2.2.2.2.2.2.2.2.2.2.2.2.2.2.2.2.2.1
theorem mb_I.pu {P t : Nat} {B C A : Int} {T : Nat → Int32} (h : mb_I P t B C A T) : ∀ p, p < 4 → 0 ≤ (T (51 + 6 * p)).toInt := h.2.2.2.2.2.2.2.2.2.2.2.2.2.2.2.2.2.2.2.1
theorem mb_I.ps {P t : Nat} {B C A : Int} {T : Nat → Int32} (h : mb_I P t B C A T) : mb_sum T ≤ B := h.2.2.2.2.2.2.2.2.2.2.2.2.2.2.2.2.2.2.2.2.1
theorem mb_I.pz {P t : Nat} {B C A : Int} {T : Nat → Int32} (h : mb_I P t B C A T) : ∀ i, 51 + 6 * P ≤ i → i < 75 → T i = 0 := h.2.2.2.2.2.2.2.2.2.2.2.2.2.2.2.2.2.2.2.2.2.1
theorem mb_I.bB {P t : Nat} {B C A : Int} {T : Nat → Int32} (h : mb_I P t B C A T) : B ≤ 1000000000 := h.2.2.2.2.2.2.2.2.2.2.2.2.2.2.2.2.2.2.2.2.2.2.1
theorem mb_I.bC {P t : Nat} {B C A : Int} {T : Nat → Int32} (h : mb_I P t B C A T) : C ≤ 1000000000 := h.2.2.2.2.2.2.2.2.2.2.2.2.2.2.2.2.2.2.2.2.2.2.2.1
theorem mb_I.bA {P t : Nat} {B C A : Int} {T : Nat → Int32} (h : mb_I P t B C A T) : A ≤ 1000000000 := h.2.2.2.2.2.2.2.2.2.2.2.2.2.2.2.2.2.2.2.2.2.2.2.2
theorem lb_case4 {p : Nat} (h : p < 4) : p = 0 ∨ p = 1 ∨ p = 2 ∨ p = 3 := by omega
theorem lb_sumU {T : Nat → Int32} {p : Nat} (hp : p < 4) (x : Int32) : mb_sum (upd T (51 + 6 * p) x) = mb_sum T - (T (51 + 6 * p)).toInt + x.toInt := by
  rcases lb_case4 hp with rfl | rfl | rfl | rfl <;> unfold mb_sum upd <;> simp <;> omega
theorem lb_sumN {T : Nat → Int32} {i : Nat} (h : i ≠ 51 ∧ i ≠ 57 ∧ i ≠ 63 ∧ i ≠ 69) (x : Int32) : mb_sum (upd T i x) = mb_sum T := by
  unfold mb_sum
  rw [lb_un (by omega), lb_un (by omega), lb_un (by omega), lb_un (by omega)]
theorem lb_sumP {T : Nat → Int32} {p : Nat} (hp : p < 4) (h : ∀ p, p < 4 → 0 ≤ (T (51 + 6 * p)).toInt) : (T (51 + 6 * p)).toInt ≤ mb_sum T := by
  have h0 := h 0 (by omega); have h1 := h 1 (by omega); have h2 := h 2 (by omega); have h3 := h 3 (by omega)
  unfold mb_sum
  simp at h0 h1 h2 h3
  rcases lb_case4 hp with rfl | rfl | rfl | rfl <;> simp <;> omega
theorem mb_I.purse {P t : Nat} {B C A : Int} {T : Nat → Int32} (h : mb_I P t B C A T) {p : Nat} (hp : p < 4) : 0 ≤ (T (51 + 6 * p)).toInt ∧ (T (51 + 6 * p)).toInt ≤ B := by
  have h1 := h.pu p hp
  have h2 := lb_sumP hp h.pu
  have h3 := h.ps
  omega
theorem mb_I.congr {P t : Nat} {B C A : Int} {T T' : Nat → Int32} (h : mb_I P t B C A T) (e : ∀ i, i < 107 → T' i = T i) : mb_I P t B C A T' :=
  ⟨(h.P4),
  (h.t9),
  (by rw [e _ (by omega)]; exact h.h6),
  (by rw [e _ (by omega)]; exact h.h7),
  (by rw [e _ (by omega)]; exact h.h5),
  (by rw [e _ (by omega)]; exact h.dr),
  (by rw [e _ (by omega)]; exact h.wg),
  (by rw [e _ (by omega)]; exact h.pr),
  (by rw [e _ (by omega)]; exact h.tl),
  (by rw [e _ (by omega)]; exact h.cl),
  (by rw [e _ (by omega)]; exact h.du),
  (fun s hs => by rw [e _ (by omega)]; exact h.fo s hs),
  (fun s hs => by rw [e _ (by omega)]; exact h.fi s hs),
  (fun s hs => by rw [e _ (by omega), e _ (by omega)]; exact h.se s hs),
  (fun s hs => by rw [e _ (by omega)]; exact h.pl s hs),
  (fun s hs => by rw [e _ (by omega)]; exact h.co s hs),
  (fun p q hp hq => by rw [e _ (by omega)]; exact h.cz p q hp hq),
  (fun s hs => by rw [e _ (by omega), e _ (by omega)]; exact h.az s hs),
  (fun s hs => by rw [e _ (by omega)]; exact h.ag s hs),
  (fun s hs => by rw [e _ (by omega)]; exact h.pu s hs),
  (by unfold mb_sum; rw [e _ (by omega), e _ (by omega), e _ (by omega), e _ (by omega)]; exact h.ps),
  (fun i h1 h2 => by rw [e _ (by omega)]; exact h.pz i h1 h2),
  (h.bB),
  (h.bC),
  (h.bA)⟩
theorem mb_I.up {P t : Nat} {B C A B' C' A' : Int} {T : Nat → Int32} (h : mb_I P t B C A T) (hB : B ≤ B') (hC : C ≤ C') (hA : A ≤ A') (bB : B' ≤ 1000000000) (bC : C' ≤ 1000000000) (bA : A' ≤ 1000000000) : mb_I P t B' C' A' T :=
  ⟨h.P4, h.t9, h.h6, h.h7, h.h5, h.dr, h.wg, h.pr, h.tl, h.cl, h.du, h.fo, h.fi, h.se, h.pl, fun i hi => ⟨(h.co i hi).1, Int.le_trans (h.co i hi).2 hC⟩, h.cz, h.az, fun i hi => ⟨(h.ag i hi).1, Int.le_trans (h.ag i hi).2 hA⟩, h.pu, Int.le_trans h.ps hB, h.pz, bB, bC, bA⟩
/-- a change at a place of a player that no rule speaks of -/
theorem mb_I.free {P t : Nat} {B C A : Int} {T : Nat → Int32} (h : mb_I P t B C A T) {p k : Nat} (hp : p < P) (hk : 2 ≤ k) (hk6 : k < 6) (x : Int32) : mb_I P t B C A (upd T (51 + 6 * p + k) x) :=
  ⟨(h.P4),
  (h.t9),
  (by rw [lb_un (by omega)]; exact h.h6),
  (by rw [lb_un (by omega)]; exact h.h7),
  (by rw [lb_un (by omega)]; exact h.h5),
  (by rw [lb_un (by omega)]; exact h.dr),
  (by rw [lb_un (by omega)]; exact h.wg),
  (by rw [lb_un (by omega)]; exact h.pr),
  (by rw [lb_un (by omega)]; exact h.tl),
  (by rw [lb_un (by omega)]; exact h.cl),
  (by rw [lb_un (by omega)]; exact h.du),
  (fun s hs => by rw [lb_un (by omega)]; exact h.fo s hs),
  (fun s hs => by rw [lb_un (by omega)]; exact h.fi s hs),
  (fun s hs => by rw [lb_un (by omega), lb_un (by omega)]; exact h.se s hs),
  (fun s hs => by rw [lb_un (by omega)]; exact h.pl s hs),
  (fun s hs => by have := h.P4; rw [lb_un (by omega)]; exact h.co s hs),
  (fun p q hp hq => by have := h.P4; rw [lb_un (by omega)]; exact h.cz p q hp hq),
  (fun s hs => by have := h.P4; rw [lb_un (by omega), lb_un (by omega)]; exact h.az s hs),
  (fun s hs => by have := h.P4; rw [lb_un (by omega)]; exact h.ag s hs),
  (fun s hs => by rw [lb_un (by omega)]; exact h.pu s hs),
  (by rw [lb_sumN (by omega)]; exact h.ps),
  (fun i h1 h2 => by rw [lb_un (by omega)]; exact h.pz i h1 h2),
  (h.bB),
  (h.bC),
  (h.bA)⟩
/-- a purse -/
theorem mb_I.setPurse {P t : Nat} {B C A : Int} {T : Nat → Int32} (h : mb_I P t B C A T) {B' : Int} {p : Nat} (hp : p < P) {x : Int32} (h0 : 0 ≤ x.toInt) (hs : mb_sum T - (T (51 + 6 * p)).toInt + x.toInt ≤ B') (hB : B' ≤ 1000000000) : mb_I P t B' C A (upd T (51 + 6 * p) x) :=
  ⟨(h.P4),
  (h.t9),
  (by rw [lb_un (by omega)]; exact h.h6),
  (by rw [lb_un (by omega)]; exact h.h7),
  (by rw [lb_un (by omega)]; exact h.h5),
  (by rw [lb_un (by omega)]; exact h.dr),
  (by rw [lb_un (by omega)]; exact h.wg),
  (by rw [lb_un (by omega)]; exact h.pr),
  (by rw [lb_un (by omega)]; exact h.tl),
  (by rw [lb_un (by omega)]; exact h.cl),
  (by rw [lb_un (by omega)]; exact h.du),
  (fun s hs => by rw [lb_un (by omega)]; exact h.fo s hs),
  (fun s hs => by rw [lb_un (by omega)]; exact h.fi s hs),
  (fun s hs => by rw [lb_un (by omega), lb_un (by omega)]; exact h.se s hs),
  (fun s hs => by rw [lb_un (by omega)]; exact h.pl s hs),
  (fun s hs => by have := h.P4; rw [lb_un (by omega)]; exact h.co s hs),
  (fun p q hp hq => by have := h.P4; rw [lb_un (by omega)]; exact h.cz p q hp hq),
  (fun s hs => by have := h.P4; rw [lb_un (by omega), lb_un (by omega)]; exact h.az s hs),
  (fun s hs => by have := h.P4; rw [lb_un (by omega)]; exact h.ag s hs),
  (fun s hs => by
    by_cases hsp : s = p
    · rw [lb_ue (by omega)]; exact h0
    · rw [lb_un (by omega)]; exact h.pu s hs),
  (by rw [lb_sumU (by have := h.P4; omega)]; exact hs),
  (fun i h1 h2 => by rw [lb_un (by omega)]; exact h.pz i h1 h2),
  (hB),
  (h.bC),
  (h.bA)⟩
/-- a debt and its age -/
theorem mb_I.setDebt {P t : Nat} {B C A : Int} {T : Nat → Int32} (h : mb_I P t B C A T) {C' A' : Int} {p q : Nat} (hp : p < P) (hq : q < P) (hpq : p ≠ q) {x y : Int32} (hx : 0 ≤ x.toInt ∧ x.toInt ≤ C') (hy : 0 ≤ y.toInt ∧ y.toInt ≤ A') (hxy : x = 0 → y = 0) (hC : C ≤ C') (hA : A ≤ A') (bC : C' ≤ 1000000000) (bA : A' ≤ 1000000000) : mb_I P t B C' A' (upd (upd T (75 + 4 * p + q) x) (91 + 4 * p + q) y) := by
  have hP := h.P4
  exact ⟨(h.P4),
  (h.t9),
  (by rw [lb_un (by omega), lb_un (by omega)]; exact h.h6),
  (by rw [lb_un (by omega), lb_un (by omega)]; exact h.h7),
  (by rw [lb_un (by omega), lb_un (by omega)]; exact h.h5),
  (by rw [lb_un (by omega), lb_un (by omega)]; exact h.dr),
  (by rw [lb_un (by omega), lb_un (by omega)]; exact h.wg),
  (by rw [lb_un (by omega), lb_un (by omega)]; exact h.pr),
  (by rw [lb_un (by omega), lb_un (by omega)]; exact h.tl),
  (by rw [lb_un (by omega), lb_un (by omega)]; exact h.cl),
  (by rw [lb_un (by omega), lb_un (by omega)]; exact h.du),
  (fun s hs => by rw [lb_un (by omega), lb_un (by omega)]; exact h.fo s hs),
  (fun s hs => by rw [lb_un (by omega), lb_un (by omega)]; exact h.fi s hs),
  (fun s hs => by rw [lb_un (by omega), lb_un (by omega), lb_un (by omega), lb_un (by omega)]; exact h.se s hs),
  (fun s hs => by rw [lb_un (by omega), lb_un (by omega)]; exact h.pl s hs),
  (fun s hs => by
    rw [lb_un (by omega)]
    by_cases hsp : s = 4 * p + q
    · rw [lb_ue (by omega)]; exact hx
    · rw [lb_un (by omega)]; exact ⟨(h.co s hs).1, Int.le_trans (h.co s hs).2 hC⟩),
  (fun a b ha hb hab => by
    rw [lb_un (by omega)]
    by_cases hsp : 4 * a + b = 4 * p + q
    · omega
    · rw [lb_un (by omega)]; exact h.cz a b ha hb hab),
  (fun s hs => by
    rw [lb_un (by omega)]
    by_cases hsp : s = 4 * p + q
    · rw [lb_ue (show 75 + s = 75 + 4 * p + q by omega), lb_ue (show 91 + s = 91 + 4 * p + q by omega)]; exact hxy
    · rw [lb_un (by omega), lb_un (by omega), lb_un (by omega)]; exact h.az s hs),
  (fun s hs => by
    by_cases hsp : s = 4 * p + q
    · rw [lb_ue (by omega)]; exact hy
    · rw [lb_un (by omega), lb_un (by omega)]; exact ⟨(h.ag s hs).1, Int.le_trans (h.ag s hs).2 hA⟩),
  (fun s hs => by rw [lb_un (by omega), lb_un (by omega)]; exact h.pu s hs),
  (by rw [lb_sumN (by omega), lb_sumN (by omega)]; exact h.ps),
  (fun i h1 h2 => by rw [lb_un (by omega), lb_un (by omega)]; exact h.pz i h1 h2),
  (h.bB),
  (bC),
  (bA)⟩
/-- a draw -/
theorem mb_I.setDraw {P t : Nat} {B C A : Int} {T : Nat → Int32} (h : mb_I P t B C A T) {x : Nat} (hx : x < 65537) : mb_I P t B C A (upd T 8 (nI x)) :=
  ⟨(h.P4),
  (h.t9),
  (by rw [lb_un (by omega)]; exact h.h6),
  (by rw [lb_un (by omega)]; exact h.h7),
  (by rw [lb_un (by omega)]; exact h.h5),
  (⟨x, lb_us _ _ _, hx⟩),
  (by rw [lb_un (by omega)]; exact h.wg),
  (by rw [lb_un (by omega)]; exact h.pr),
  (by rw [lb_un (by omega)]; exact h.tl),
  (by rw [lb_un (by omega)]; exact h.cl),
  (by rw [lb_un (by omega)]; exact h.du),
  (fun s hs => by rw [lb_un (by omega)]; exact h.fo s hs),
  (fun s hs => by rw [lb_un (by omega)]; exact h.fi s hs),
  (fun s hs => by rw [lb_un (by omega), lb_un (by omega)]; exact h.se s hs),
  (fun s hs => by rw [lb_un (by omega)]; exact h.pl s hs),
  (fun s hs => by rw [lb_un (by omega)]; exact h.co s hs),
  (fun p q hp hq => by rw [lb_un (by omega)]; exact h.cz p q hp hq),
  (fun s hs => by rw [lb_un (by omega), lb_un (by omega)]; exact h.az s hs),
  (fun s hs => by rw [lb_un (by omega)]; exact h.ag s hs),
  (fun s hs => by rw [lb_un (by omega)]; exact h.pu s hs),
  (by rw [lb_sumN (by omega)]; exact h.ps),
  (fun i h1 h2 => by rw [lb_un (by omega)]; exact h.pz i h1 h2),
  (h.bB),
  (h.bC),
  (h.bA)⟩
/-- what was paid to nobody, the wages -/
theorem mb_I.setNo {P t : Nat} {B C A : Int} {T : Nat → Int32} (h : mb_I P t B C A T) {i : Nat} (hi : i = 9 ∨ i = 10) (x : Int32) : mb_I P t B C A (upd T i x) :=
  ⟨(h.P4),
  (h.t9),
  (by rw [lb_un (by omega)]; exact h.h6),
  (by rw [lb_un (by omega)]; exact h.h7),
  (by rw [lb_un (by omega)]; exact h.h5),
  (by rw [lb_un (by omega)]; exact h.dr),
  (by rw [lb_un (by omega)]; exact h.wg),
  (by rw [lb_un (by omega)]; exact h.pr),
  (by rw [lb_un (by omega)]; exact h.tl),
  (by rw [lb_un (by omega)]; exact h.cl),
  (by rw [lb_un (by omega)]; exact h.du),
  (fun s hs => by rw [lb_un (by omega)]; exact h.fo s hs),
  (fun s hs => by rw [lb_un (by omega)]; exact h.fi s hs),
  (fun s hs => by rw [lb_un (by omega), lb_un (by omega)]; exact h.se s hs),
  (fun s hs => by rw [lb_un (by omega)]; exact h.pl s hs),
  (fun s hs => by rw [lb_un (by omega)]; exact h.co s hs),
  (fun p q hp hq => by rw [lb_un (by omega)]; exact h.cz p q hp hq),
  (fun s hs => by rw [lb_un (by omega), lb_un (by omega)]; exact h.az s hs),
  (fun s hs => by rw [lb_un (by omega)]; exact h.ag s hs),
  (fun s hs => by rw [lb_un (by omega)]; exact h.pu s hs),
  (by rw [lb_sumN (by omega)]; exact h.ps),
  (fun j h1 h2 => by rw [lb_un (by omega)]; exact h.pz j h1 h2),
  (h.bB),
  (h.bC),
  (h.bA)⟩
/-- a place on the ring -/
theorem mb_I.setPlace {P t : Nat} {B C A : Int} {T : Nat → Int32} (h : mb_I P t B C A T) {p x : Nat} (hp : p < P) (hx : x < 20) : mb_I P t B C A (upd T (52 + 6 * p) (nI x)) :=
  ⟨(h.P4),
  (h.t9),
  (by rw [lb_un (by omega)]; exact h.h6),
  (by rw [lb_un (by omega)]; exact h.h7),
  (by rw [lb_un (by omega)]; exact h.h5),
  (by rw [lb_un (by omega)]; exact h.dr),
  (by rw [lb_un (by omega)]; exact h.wg),
  (by rw [lb_un (by omega)]; exact h.pr),
  (by rw [lb_un (by omega)]; exact h.tl),
  (by rw [lb_un (by omega)]; exact h.cl),
  (by rw [lb_un (by omega)]; exact h.du),
  (fun s hs => by rw [lb_un (by omega)]; exact h.fo s hs),
  (fun s hs => by rw [lb_un (by omega)]; exact h.fi s hs),
  (fun s hs => by rw [lb_un (by omega), lb_un (by omega)]; exact h.se s hs),
  (fun s hs => by
    by_cases hsp : s = p
    · exact ⟨x, hx, lb_ue (by omega)⟩
    · rw [lb_un (by omega)]; exact h.pl s hs),
  (fun s hs => by have := h.P4; rw [lb_un (by omega)]; exact h.co s hs),
  (fun p q hp hq => by have := h.P4; rw [lb_un (by omega)]; exact h.cz p q hp hq),
  (fun s hs => by have := h.P4; rw [lb_un (by omega), lb_un (by omega)]; exact h.az s hs),
  (fun s hs => by have := h.P4; rw [lb_un (by omega)]; exact h.ag s hs),
  (fun s hs => by rw [lb_un (by omega)]; exact h.pu s hs),
  (by rw [lb_sumN (by omega)]; exact h.ps),
  (fun i h1 h2 => by rw [lb_un (by omega)]; exact h.pz i h1 h2),
  (h.bB),
  (h.bC),
  (h.bA)⟩
/-- owners of a square -/
theorem mb_I.setOwn {P t : Nat} {B C A : Int} {T : Nat → Int32} (h : mb_I P t B C A T) {s : Nat} {x y : Int32} (hs : s < 20) (h1 : x = -6 ∨ ∃ q, q < P ∧ x = nI q) (h2 : s % 10 = 0 → x = -6) (h3 : y = -6 ∨ (s % 10 = 5 ∧ (∃ q, q < P ∧ y = nI q) ∧ x ≠ -6 ∧ x ≠ y)) : mb_I P t B C A (upd (upd T (11 + s) x) (31 + s) y) :=
  ⟨(h.P4),
  (h.t9),
  (by rw [lb_un (by omega), lb_un (by omega)]; exact h.h6),
  (by rw [lb_un (by omega), lb_un (by omega)]; exact h.h7),
  (by rw [lb_un (by omega), lb_un (by omega)]; exact h.h5),
  (by rw [lb_un (by omega), lb_un (by omega)]; exact h.dr),
  (by rw [lb_un (by omega), lb_un (by omega)]; exact h.wg),
  (by rw [lb_un (by omega), lb_un (by omega)]; exact h.pr),
  (by rw [lb_un (by omega), lb_un (by omega)]; exact h.tl),
  (by rw [lb_un (by omega), lb_un (by omega)]; exact h.cl),
  (by rw [lb_un (by omega), lb_un (by omega)]; exact h.du),
  (fun r hr => by
    rw [lb_un (by omega)]
    by_cases e : r = s
    · rw [lb_ue (by omega)]; exact h1
    · rw [lb_un (by omega)]; exact h.fo r hr),
  (fun r hr h4 => by
    rw [lb_un (by omega)]
    by_cases e : r = s
    · rw [lb_ue (by omega)]; subst e; exact h2 h4
    · rw [lb_un (by omega)]; exact h.fi r hr h4),
  (fun r hr => by
    by_cases e : r = s
    · subst e
      rw [lb_us, lb_un (show 11 + r ≠ 31 + r by omega), lb_us]; exact h3
    · rw [lb_un (by omega), lb_un (by omega), lb_un (by omega), lb_un (by omega)]; exact h.se r hr),
  (fun s hs => by rw [lb_un (by omega), lb_un (by omega)]; exact h.pl s hs),
  (fun s hs => by rw [lb_un (by omega), lb_un (by omega)]; exact h.co s hs),
  (fun p q hp hq => by rw [lb_un (by omega), lb_un (by omega)]; exact h.cz p q hp hq),
  (fun s hs => by rw [lb_un (by omega), lb_un (by omega), lb_un (by omega), lb_un (by omega)]; exact h.az s hs),
  (fun s hs => by rw [lb_un (by omega), lb_un (by omega)]; exact h.ag s hs),
  (fun s hs => by rw [lb_un (by omega), lb_un (by omega)]; exact h.pu s hs),
  (by rw [lb_sumN (by omega), lb_sumN (by omega)]; exact h.ps),
  (fun i h1 h2 => by rw [lb_un (by omega), lb_un (by omega)]; exact h.pz i h1 h2),
  (h.bB),
  (h.bC),
  (h.bA)⟩
/-- a turn is over -/
theorem mb_I.setTurn {P t : Nat} {B C A : Int} {T : Nat → Int32} (h : mb_I P t B C A T) {n : Nat} (hn : n < P) (ht : t < 20000) : mb_I P (t + 1) B C A (upd (upd T 7 (nI n)) 5 (nI (t + 1))) :=
  ⟨(h.P4),
  (ht),
  (by rw [lb_un (by omega), lb_un (by omega)]; exact h.h6),
  (⟨n, by rw [lb_un (by omega), lb_us], Or.inl hn⟩),
  (lb_us _ _ _),
  (by rw [lb_un (by omega), lb_un (by omega)]; exact h.dr),
  (by rw [lb_un (by omega), lb_un (by omega)]; exact h.wg),
  (by rw [lb_un (by omega), lb_un (by omega)]; exact h.pr),
  (by rw [lb_un (by omega), lb_un (by omega)]; exact h.tl),
  (by rw [lb_un (by omega), lb_un (by omega)]; exact h.cl),
  (by rw [lb_un (by omega), lb_un (by omega)]; exact h.du),
  (fun s hs => by rw [lb_un (by omega), lb_un (by omega)]; exact h.fo s hs),
  (fun s hs => by rw [lb_un (by omega), lb_un (by omega)]; exact h.fi s hs),
  (fun s hs => by rw [lb_un (by omega), lb_un (by omega), lb_un (by omega), lb_un (by omega)]; exact h.se s hs),
  (fun s hs => by rw [lb_un (by omega), lb_un (by omega)]; exact h.pl s hs),
  (fun s hs => by rw [lb_un (by omega), lb_un (by omega)]; exact h.co s hs),
  (fun p q hp hq => by rw [lb_un (by omega), lb_un (by omega)]; exact h.cz p q hp hq),
  (fun s hs => by rw [lb_un (by omega), lb_un (by omega), lb_un (by omega), lb_un (by omega)]; exact h.az s hs),
  (fun s hs => by rw [lb_un (by omega), lb_un (by omega)]; exact h.ag s hs),
  (fun s hs => by rw [lb_un (by omega), lb_un (by omega)]; exact h.pu s hs),
  (by rw [lb_sumN (by omega), lb_sumN (by omega)]; exact h.ps),
  (fun i h1 h2 => by rw [lb_un (by omega), lb_un (by omega)]; exact h.pz i h1 h2),
  (h.bB),
  (h.bC),
  (h.bA)⟩
/-! the class's board beside the reference's row -/
def rb_ok (g i : Nat) : Prop := (g = 0 ∧ i < 20) ∨ (g = 1 ∧ i < 20) ∨ (g = 2 ∧ i < 16) ∨ (g = 5 ∧ i < 5) ∨ (6 ≤ g ∧ g ≤ 11 ∧ i < 4) ∨ (g = 12 ∧ i < 6)
def rb_ix (g i : Nat) : Nat := if g = 0 then 11 + i else if g = 1 then 31 + i else if g = 2 then 75 + i else if g = 5 then i else if g = 12 then (if i = 0 then 6 else if i = 1 then 7 else if i = 2 then 8 else if i = 3 then 5 else if i = 4 then 9 else 10) else 51 + 6 * i + (g - 6)
theorem rb_cl {g i : Nat} (a : rb_ok g i) : (g = 0 ∧ i < 20 ∧ rb_ix g i = 11 + i) ∨ (g = 1 ∧ i < 20 ∧ rb_ix g i = 31 + i) ∨ (g = 2 ∧ i < 16 ∧ rb_ix g i = 75 + i) ∨ (g = 5 ∧ i < 5 ∧ rb_ix g i = i) ∨ (6 ≤ g ∧ g ≤ 11 ∧ i < 4 ∧ rb_ix g i = 51 + 6 * i + (g - 6)) ∨ (g = 12 ∧ ((i = 0 ∧ rb_ix g i = 6) ∨ (i = 1 ∧ rb_ix g i = 7) ∨ (i = 2 ∧ rb_ix g i = 8) ∨ (i = 3 ∧ rb_ix g i = 5) ∨ (i = 4 ∧ rb_ix g i = 9) ∨ (i = 5 ∧ rb_ix g i = 10))) := by
  rcases a with ⟨rfl, a⟩ | ⟨rfl, a⟩ | ⟨rfl, a⟩ | ⟨rfl, a⟩ | ⟨a1, a2, a⟩ | ⟨rfl, a⟩
  · exact Or.inl ⟨rfl, a, rfl⟩
  · exact Or.inr (Or.inl ⟨rfl, a, rfl⟩)
  · exact Or.inr (Or.inr (Or.inl ⟨rfl, a, rfl⟩))
  · exact Or.inr (Or.inr (Or.inr (Or.inl ⟨rfl, a, rfl⟩)))
  · refine Or.inr (Or.inr (Or.inr (Or.inr (Or.inl ⟨a1, a2, a, ?_⟩))))
    unfold rb_ix
    rw [if_neg (by omega), if_neg (by omega), if_neg (by omega), if_neg (by omega), if_neg (by omega)]
  · refine Or.inr (Or.inr (Or.inr (Or.inr (Or.inr ⟨rfl, ?_⟩))))
    have h6 : i = 0 ∨ i = 1 ∨ i = 2 ∨ i = 3 ∨ i = 4 ∨ i = 5 := by omega
    rcases h6 with rfl | rfl | rfl | rfl | rfl | rfl <;> simp [rb_ix]
theorem rb_inj {g i h j : Nat} (a : rb_ok g i) (b : rb_ok h j) (e : rb_ix g i = rb_ix h j) : g = h ∧ i = j := by
  have c := rb_cl a
  have d := rb_cl b
  rw [← e] at d
  generalize rb_ix g i = n at c d
  clear a b e
  rcases c with c | c | c | c | c | ⟨c1, c | c | c | c | c | c⟩ <;> rcases d with d | d | d | d | d | ⟨d1, d | d | d | d | d | d⟩ <;> omega
theorem rb_107 {g i : Nat} (a : rb_ok g i) : rb_ix g i < 107 := by
  have c := rb_cl a
  omega
abbrev RB (S : ms_T) (T : Nat → Int32) : Prop := (∀ g i, rb_ok g i → S g i = T (rb_ix g i)) ∧ (∀ i, i < 16 → S 3 i = if T (75 + i) = 0 then -6 else T (91 + i))
theorem RB.r {S : ms_T} {T : Nat → Int32} (h : RB S T) : ∀ g i, rb_ok g i → S g i = T (rb_ix g i) := h.1
theorem RB.a {S : ms_T} {T : Nat → Int32} (h : RB S T) : ∀ i, i < 16 → S 3 i = if T (75 + i) = 0 then -6 else T (91 + i) := h.2
theorem RB.congr {S : ms_T} {T T' : Nat → Int32} (h : RB S T) (e : ∀ i, i < 107 → T' i = T i) : RB S T' :=
  ⟨fun g i ok => by rw [e _ (rb_107 ok)]; exact h.r g i ok, fun i hi => by rw [e _ (by omega), e _ (by omega)]; exact h.a i hi⟩
theorem rb_75 {g i : Nat} (a : rb_ok g i) (h : g ≠ 2) : rb_ix g i < 75 := by
  have c := rb_cl a
  omega
theorem RB.set {S : ms_T} {T : Nat → Int32} (h : RB S T) {g i : Nat} (ok : rb_ok g i) (hg : g ≠ 2) (x : Int32) : RB (ms_set S g (upd (S g) i x)) (upd T (rb_ix g i) x) := by
  have h75 := rb_75 ok hg
  constructor
  · intro g' i' ok'
    by_cases e : g' = g
    · subst e
      rw [lb_ms]
      by_cases e2 : i' = i
      · subst e2; rw [lb_us, lb_us]
      · rw [lb_un e2, lb_un (fun e3 => e2 (rb_inj ok' ok e3).2)]; exact h.r _ _ ok'
    · rw [lb_mn e, lb_un (fun e3 => e (rb_inj ok' ok e3).1)]; exact h.r _ _ ok'
  · intro i' hi'
    have h3 : (3 : Nat) ≠ g := by
      intro e; subst e; unfold rb_ok at ok; omega
    rw [lb_mn h3, lb_un (by omega), lb_un (by omega)]
    exact h.a i' hi'
theorem RB.debts {S : ms_T} {T T' : Nat → Int32} (h : RB S T) {D : ms_T} (h0 : ∀ i, i < 16 → D 0 i = T' (75 + i)) (h1 : ∀ i, i < 16 → D 1 i = if T' (75 + i) = 0 then -6 else T' (91 + i)) (e : ∀ i, i < 75 → T' i = T i) : RB (ms_sub S 2 3 D) T' := by
  constructor
  · intro g i ok
    unfold ms_sub
    by_cases e2 : g = 2
    · subst e2
      have hi : i < 16 := by unfold rb_ok at ok; omega
      rw [if_pos (by omega)]
      exact h0 i hi
    · have h5 : g ≠ 3 ∧ g ≠ 4 := by unfold rb_ok at ok; omega
      rw [if_neg (by omega), e _ (rb_75 ok e2)]
      exact h.r g i ok
  · intro i hi
    unfold ms_sub
    rw [if_pos (by omega)]
    exact h1 i hi
theorem RB.roads {S : ms_T} {T T' : Nat → Int32} (h : RB S T) {D : ms_T} (h0 : ∀ i, i < 20 → D 0 i = T' (11 + i)) (h1 : ∀ i, i < 20 → D 1 i = T' (31 + i)) (e : ∀ i, ¬ (11 ≤ i ∧ i < 51) → T' i = T i) : RB (ms_sub S 0 2 D) T' := by
  constructor
  · intro g i ok
    unfold ms_sub
    by_cases e2 : g < 2
    · rw [if_pos (by omega)]
      have hi : i < 20 := by unfold rb_ok at ok; omega
      have e3 : g = 0 ∨ g = 1 := by omega
      rcases e3 with rfl | rfl
      · exact h0 i hi
      · exact h1 i hi
    · rw [if_neg (by omega), e _ (by have c := rb_cl ok; omega)]
      exact h.r g i ok
  · intro i hi
    unfold ms_sub
    rw [if_neg (by omega), e _ (by omega), e _ (by omega)]
    exact h.a i hi
theorem RB.f {S : ms_T} {T : Nat → Int32} (h : RB S T) {i : Nat} (hi : i < 20) : S 0 i = T (11 + i) := h.r 0 i (Or.inl ⟨rfl, hi⟩)
theorem RB.s {S : ms_T} {T : Nat → Int32} (h : RB S T) {i : Nat} (hi : i < 20) : S 1 i = T (31 + i) := h.r 1 i (Or.inr (Or.inl ⟨rfl, hi⟩))
theorem RB.c {S : ms_T} {T : Nat → Int32} (h : RB S T) {i : Nat} (hi : i < 16) : S 2 i = T (75 + i) := h.r 2 i (Or.inr (Or.inr (Or.inl ⟨rfl, hi⟩)))
theorem RB.g {S : ms_T} {T : Nat → Int32} (h : RB S T) {i : Nat} (hi : i < 5) : S 5 i = T i := h.r 5 i (Or.inr (Or.inr (Or.inr (Or.inl ⟨rfl, hi⟩))))
theorem RB.p {S : ms_T} {T : Nat → Int32} (h : RB S T) {i k : Nat} (hi : i < 4) (hk : k < 6) : S (6 + k) i = T (51 + 6 * i + k) := by
  have ok : rb_ok (6 + k) i := Or.inr (Or.inr (Or.inr (Or.inr (Or.inl ⟨by omega, by omega, hi⟩))))
  rw [h.r _ i ok]
  have c := rb_cl ok
  congr 1; omega
theorem RB.z {S : ms_T} {T : Nat → Int32} (h : RB S T) : S 12 0 = T 6 ∧ S 12 1 = T 7 ∧ S 12 2 = T 8 ∧ S 12 3 = T 5 ∧ S 12 4 = T 9 ∧ S 12 5 = T 10 := by
  have ok : ∀ i, i < 6 → rb_ok 12 i := fun i hi => Or.inr (Or.inr (Or.inr (Or.inr (Or.inr ⟨rfl, hi⟩))))
  exact ⟨h.r 12 0 (ok 0 (by omega)), h.r 12 1 (ok 1 (by omega)), h.r 12 2 (ok 2 (by omega)), h.r 12 3 (ok 3 (by omega)), h.r 12 4 (ok 4 (by omega)), h.r 12 5 (ok 5 (by omega))⟩
theorem RB.setP {S : ms_T} {T : Nat → Int32} (h : RB S T) {i k : Nat} (hi : i < 4) (hk : k < 6) (x : Int32) : RB (ms_set S (6 + k) (upd (S (6 + k)) i x)) (upd T (51 + 6 * i + k) x) := by
  have ok : rb_ok (6 + k) i := Or.inr (Or.inr (Or.inr (Or.inr (Or.inl ⟨by omega, by omega, hi⟩))))
  have h1 := h.set ok (by omega) x
  have c := rb_cl ok
  rw [show rb_ix (6 + k) i = 51 + 6 * i + k by omega] at h1
  exact h1
theorem RB.setZ {S : ms_T} {T : Nat → Int32} (h : RB S T) {i : Nat} (hi : i < 6) (x : Int32) : RB (ms_set S 12 (upd (S 12) i x)) (upd T (rb_ix 12 i) x) :=
  h.set (Or.inr (Or.inr (Or.inr (Or.inr (Or.inr ⟨rfl, hi⟩))))) (by omega) x
