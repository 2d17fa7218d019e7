/-! ## The law's board beside the row of numbers -/
abbrev RG (B : ms_T) (T : Nat → Int32) : Prop :=
  (∀ i, i < 11 → B 0 i = T i) ∧ (∀ i, i < 24 → B 1 i = T (51 + i)) ∧ (∀ i, i < 40 → B 2 i = T (11 + i)) ∧ (∀ i, i < 16 → B 3 i = T (75 + i)) ∧ (∀ i, i < 16 → B 4 i = T (91 + i))
theorem RG.q {B : ms_T} {T : Nat → Int32} (h : RG B T) {i : Nat} (hi : i < 11) : B 0 i = T i := h.1 i hi
theorem RG.p {B : ms_T} {T : Nat → Int32} (h : RG B T) {i : Nat} (hi : i < 24) : B 1 i = T (51 + i) := h.2.1 i hi
theorem RG.o {B : ms_T} {T : Nat → Int32} (h : RG B T) {i : Nat} (hi : i < 40) : B 2 i = T (11 + i) := h.2.2.1 i hi
theorem RG.o2 {B : ms_T} {T : Nat → Int32} (h : RG B T) {s : Nat} (hs : s < 20) : B 2 (20 + s) = T (31 + s) := by
  rw [h.o (by omega)]; congr 1; omega
theorem RG.d {B : ms_T} {T : Nat → Int32} (h : RG B T) {i : Nat} (hi : i < 16) : B 3 i = T (75 + i) := h.2.2.2.1 i hi
theorem RG.g {B : ms_T} {T : Nat → Int32} (h : RG B T) {i : Nat} (hi : i < 16) : B 4 i = T (91 + i) := h.2.2.2.2 i hi
theorem RG.congr {B : ms_T} {T T' : Nat → Int32} (h : RG B T) (e : ∀ i, i < 107 → T' i = T i) : RG B T' :=
  ⟨fun i hi => by rw [h.q hi, e i (by omega)], fun i hi => by rw [h.p hi, e _ (by omega)], fun i hi => by rw [h.o hi, e _ (by omega)], fun i hi => by rw [h.d hi, e _ (by omega)], fun i hi => by rw [h.g hi, e _ (by omega)]⟩
theorem ga_up {f g : Nat → Int32} {n d k : Nat} {x : Int32} (h : ∀ i, i < n → f i = g (d + i)) : ∀ i, i < n → upd f k x i = upd g (d + k) x (d + i) := by
  intro i hi
  by_cases e : i = k
  · subst e; rw [lb_us, lb_us]
  · rw [lb_un e, lb_un (by omega)]; exact h i hi
theorem ga_un {f g : Nat → Int32} {n d j : Nat} {x : Int32} (h : ∀ i, i < n → f i = g (d + i)) (hj : j < d ∨ d + n ≤ j) : ∀ i, i < n → f i = upd g j x (d + i) := by
  intro i hi
  rw [lb_un (by omega)]; exact h i hi
theorem RG.set0 {B : ms_T} {T : Nat → Int32} (h : RG B T) {i : Nat} (hi : i < 11) (x : Int32) : RG (ms_set B 0 (upd (B 0) i x)) (upd T i x) := by
  refine ⟨?_, ?_, ?_, ?_, ?_⟩
  · rw [lb_ms]
    intro j hj
    by_cases e : j = i
    · subst e; rw [lb_us, lb_us]
    · rw [lb_un e, lb_un e]; exact h.q hj
  · rw [lb_mn (by omega)]; exact ga_un h.2.1 (by omega)
  · rw [lb_mn (by omega)]; exact ga_un h.2.2.1 (by omega)
  · rw [lb_mn (by omega)]; exact ga_un h.2.2.2.1 (by omega)
  · rw [lb_mn (by omega)]; exact ga_un h.2.2.2.2 (by omega)
theorem ga_un0 {f g : Nat → Int32} {n j : Nat} {x : Int32} (h : ∀ i, i < n → f i = g i) (hj : n ≤ j) : ∀ i, i < n → f i = upd g j x i := by
  intro i hi
  rw [lb_un (by omega)]; exact h i hi
theorem RG.set1 {B : ms_T} {T : Nat → Int32} (h : RG B T) {i : Nat} (hi : i < 24) (x : Int32) : RG (ms_set B 1 (upd (B 1) i x)) (upd T (51 + i) x) := by
  refine ⟨?_, ?_, ?_, ?_, ?_⟩
  · rw [lb_mn (by omega)]; exact ga_un0 h.1 (by omega)
  · rw [lb_ms]; exact ga_up h.2.1
  · rw [lb_mn (by omega)]; exact ga_un h.2.2.1 (by omega)
  · rw [lb_mn (by omega)]; exact ga_un h.2.2.2.1 (by omega)
  · rw [lb_mn (by omega)]; exact ga_un h.2.2.2.2 (by omega)
theorem RG.set2 {B : ms_T} {T : Nat → Int32} (h : RG B T) {i : Nat} (hi : i < 40) (x : Int32) : RG (ms_set B 2 (upd (B 2) i x)) (upd T (11 + i) x) := by
  refine ⟨?_, ?_, ?_, ?_, ?_⟩
  · rw [lb_mn (by omega)]; exact ga_un0 h.1 (by omega)
  · rw [lb_mn (by omega)]; exact ga_un h.2.1 (by omega)
  · rw [lb_ms]; exact ga_up h.2.2.1
  · rw [lb_mn (by omega)]; exact ga_un h.2.2.2.1 (by omega)
  · rw [lb_mn (by omega)]; exact ga_un h.2.2.2.2 (by omega)
theorem RG.set2' {B : ms_T} {T : Nat → Int32} (h : RG B T) {s : Nat} (hs : s < 20) (x : Int32) : RG (ms_set B 2 (upd (B 2) (20 + s) x)) (upd T (31 + s) x) := by
  have e := h.set2 (i := 20 + s) (by omega) x
  rw [show 11 + (20 + s) = 31 + s by omega] at e
  exact e
theorem RG.set3 {B : ms_T} {T : Nat → Int32} (h : RG B T) {i : Nat} (hi : i < 16) (x : Int32) : RG (ms_set B 3 (upd (B 3) i x)) (upd T (75 + i) x) := by
  refine ⟨?_, ?_, ?_, ?_, ?_⟩
  · rw [lb_mn (by omega)]; exact ga_un0 h.1 (by omega)
  · rw [lb_mn (by omega)]; exact ga_un h.2.1 (by omega)
  · rw [lb_mn (by omega)]; exact ga_un h.2.2.1 (by omega)
  · rw [lb_ms]; exact ga_up h.2.2.2.1
  · rw [lb_mn (by omega)]; exact ga_un h.2.2.2.2 (by omega)
theorem RG.set4 {B : ms_T} {T : Nat → Int32} (h : RG B T) {i : Nat} (hi : i < 16) (x : Int32) : RG (ms_set B 4 (upd (B 4) i x)) (upd T (91 + i) x) := by
  refine ⟨?_, ?_, ?_, ?_, ?_⟩
  · rw [lb_mn (by omega)]; exact ga_un0 h.1 (by omega)
  · rw [lb_mn (by omega)]; exact ga_un h.2.1 (by omega)
  · rw [lb_mn (by omega)]; exact ga_un h.2.2.1 (by omega)
  · rw [lb_mn (by omega)]; exact ga_un h.2.2.2.1 (by omega)
  · rw [lb_ms]; exact ga_up h.2.2.2.2
/-! places -/
theorem ga_6 (p : Nat) : (6 : Int32) * nI p = nI (6 * p) := lb_mul 6 p
theorem ga_4 (p : Nat) : (4 : Int32) * nI p = nI (4 * p) := lb_mul 4 p
theorem ga_2 (p : Nat) : (2 : Int32) * nI p = nI (2 * p) := lb_mul 2 p
theorem ga_p1 (p : Nat) : nI p + (1 : Int32) = nI (p + 1) := lb_add p 1
theorem ga_p2 (p : Nat) : nI p + (2 : Int32) = nI (p + 2) := lb_add p 2
theorem ga_p3 (p : Nat) : nI p + (3 : Int32) = nI (p + 3) := lb_add p 3
theorem ga_p4 (p : Nat) : nI p + (4 : Int32) = nI (p + 4) := lb_add p 4
theorem ga_p5 (p : Nat) : nI p + (5 : Int32) = nI (p + 5) := lb_add p 5
theorem ga_20 (p : Nat) : (20 : Int32) + nI p = nI (20 + p) := lb_add 20 p
theorem ga_1p (p : Nat) : (1 : Int32) + nI p = nI (1 + p) := lb_add 1 p
theorem ga_k0 {β : Type} {k : Option β} : fo_ck (0 : Int32) 11 k = k := lb_ck (i := 0) (n := 11) (by omega) (by omega)
theorem ga_k1 {β : Type} {k : Option β} : fo_ck (1 : Int32) 11 k = k := lb_ck (i := 1) (n := 11) (by omega) (by omega)
theorem ga_k2 {β : Type} {k : Option β} : fo_ck (2 : Int32) 11 k = k := lb_ck (i := 2) (n := 11) (by omega) (by omega)
theorem ga_k3 {β : Type} {k : Option β} : fo_ck (3 : Int32) 11 k = k := lb_ck (i := 3) (n := 11) (by omega) (by omega)
theorem ga_k4 {β : Type} {k : Option β} : fo_ck (4 : Int32) 11 k = k := lb_ck (i := 4) (n := 11) (by omega) (by omega)
theorem ga_k5 {β : Type} {k : Option β} : fo_ck (5 : Int32) 11 k = k := lb_ck (i := 5) (n := 11) (by omega) (by omega)
theorem ga_k6 {β : Type} {k : Option β} : fo_ck (6 : Int32) 11 k = k := lb_ck (i := 6) (n := 11) (by omega) (by omega)
theorem ga_k7 {β : Type} {k : Option β} : fo_ck (7 : Int32) 11 k = k := lb_ck (i := 7) (n := 11) (by omega) (by omega)
theorem ga_k8 {β : Type} {k : Option β} : fo_ck (8 : Int32) 11 k = k := lb_ck (i := 8) (n := 11) (by omega) (by omega)
theorem ga_k9 {β : Type} {k : Option β} : fo_ck (9 : Int32) 11 k = k := lb_ck (i := 9) (n := 11) (by omega) (by omega)
theorem ga_k10 {β : Type} {k : Option β} : fo_ck (10 : Int32) 11 k = k := lb_ck (i := 10) (n := 11) (by omega) (by omega)
theorem ga_j2 {β : Type} {k : Option β} : fo_ck (2 : Int32) 24 k = k := lb_ck (i := 2) (n := 24) (by omega) (by omega)
theorem ga_j8 {β : Type} {k : Option β} : fo_ck (8 : Int32) 24 k = k := lb_ck (i := 8) (n := 24) (by omega) (by omega)
theorem ga_j14 {β : Type} {k : Option β} : fo_ck (14 : Int32) 24 k = k := lb_ck (i := 14) (n := 24) (by omega) (by omega)
theorem ga_j20 {β : Type} {k : Option β} : fo_ck (20 : Int32) 24 k = k := lb_ck (i := 20) (n := 24) (by omega) (by omega)
theorem ga_c14 : (14 : Int32).toNatClampNeg = 14 := rfl
theorem ga_c20 : (20 : Int32).toNatClampNeg = 20 := rfl
/-! the die, coins paid -/
theorem ga_die {B : ms_T} {T : Nat → Int32} (h : RG B T) {x : Nat} (h8 : T 8 = nI x) (hx : x < 65537) : f9_die B = some (nI (mb_dv x), ms_set B 0 (upd (B 0) 8 (nI (mb_dx x)))) := by
  have e8 : B 0 8 = nI x := by rw [h.q (by omega), h8]
  unfold f9_die
  rw [ga_k8, ga_k8, lb_c8, e8, lb_dieN hx, lb_bd, ga_k8, lb_ms, lb_us, ← lb_dieV, Int32.add_comm]
theorem ga_paid {B : ms_T} {T : Nat → Int32} (h : RG B T) : f9_paid B = some (mb_s4 T 2) := by
  unfold f9_paid mb_s4
  rw [ga_j2, ga_j8, ga_j14, ga_j20, lb_fo4, lb_c2, lb_c8, ga_c14, ga_c20, h.p (by omega), h.p (by omega), h.p (by omega), h.p (by omega)]
