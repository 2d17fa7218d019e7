/-! ## The law's board: debts grow older, squares are lost, the turn ends -/
def gs_1 (T : Nat → Int32) (p c : Nat) : Nat → Int32 := if T 4 < T (91 + 4 * p + c) then (if mb_low T p = -6 then T else mb_loseOne T p c (mb_low T p).toNatClampNeg) else T
def gs_f (p : Nat) : List Nat → (Nat → Int32) → (Nat → Int32)
  | [], U => U
  | c :: l, U => gs_f p l (gs_1 U p c)
theorem ga_lz {T : Nat → Int32} {p : Nat} : ∀ (l : List Nat), ((∀ c ∈ l, ¬ T 4 < T (91 + 4 * p + c)) ∨ mb_low T p = -6) → gs_f p l T = T
  | [], _ => rfl
  | c :: l, h => by
    have e : gs_1 T p c = T := by
      unfold gs_1
      rcases h with h | h
      · rw [if_neg (h c List.mem_cons_self)]
      · rw [if_pos h, ite_self]
    show gs_f p l (gs_1 T p c) = T
    rw [e]
    exact ga_lz l (h.imp (fun h x hx => h x (List.mem_cons_of_mem _ hx)) id)
theorem ga_lowC (T : Nat → Int32) (p : Nat) : mb_low T p = -6 ∨ ∃ s, s < 20 ∧ mb_low T p = nI s ∧ mb_owns T p s := lb_lwC 20 0 rfl
theorem ga_loseAge {T : Nat → Int32} {p q s j : Nat} (hp : p < 4) (hq : q < 4) (hs : s < 20) (hj : j < 4) (hn : j ≠ q) : mb_loseOne T p q s (91 + 4 * p + j) = T (91 + 4 * p + j) := by
  unfold mb_loseOne
  rw [lb_an (by omega), lb_addDn (by omega) (by omega), lb_handOld (by omega) hs]
theorem ga_loseF {P t : Nat} {B C A : Int} (hA : 0 ≤ A) {p : Nat} (hp : p < 4) : ∀ (k : Nat) (T : Nat → Int32), mb_I P t B C A T → mb_cnt T p ≤ k → gs_f p (gc_l T p (k + 1) 0) T = mb_lose k T p
  | k, T, h, hk => by
    rcases lb_oldC T p 0 with ⟨e, -⟩ | ⟨q, hq, e, he, hmax⟩
    · have el : gc_l T p (k + 1) 0 = [] := by show (if mb_old T p 0 = -6 then [] else _) = _; rw [if_pos e]
      rw [el]
      cases k with
      | zero => rfl
      | succ k =>
        show T = (if mb_old T p 0 = -6 then T else _)
        rw [if_pos e]
    · have hc := lb_cntP hq he.1
      obtain ⟨k, rfl⟩ : ∃ k', k = k' + 1 := ⟨k - 1, by omega⟩
      have el : gc_l T p (k + 1 + 1) 0 = q :: gc_l T p (k + 1) (0 ||| 1 <<< q) := by
        show (if mb_old T p 0 = -6 then [] else (mb_old T p 0).toNatClampNeg :: gc_l T p (k + 1) (0 ||| 1 <<< (mb_old T p 0).toNatClampNeg)) = _
        rw [e, if_neg (lb_n6 (by omega)), lb_cl (by omega)]
      have hall := (gc_lB (T := T) (p := p) (k + 1 + 1) 0 (by omega)).1
      have hq16 := lb_bitL 0 (by omega) q hq
      have htl := (gc_lB (T := T) (p := p) (k + 1) (0 ||| 1 <<< q) hq16).1
      have eR : mb_lose (k + 1) T p = (if T 4 < T (91 + 4 * p + q) then (if mb_low T p = -6 then T else mb_lose k (mb_loseOne T p q (mb_low T p).toNatClampNeg) p) else T) := by
        show (if mb_old T p 0 = -6 then T else if T 4 < T (91 + 4 * p + (mb_old T p 0).toNatClampNeg) then (if mb_low T p = -6 then T else mb_lose k (mb_loseOne T p (mb_old T p 0).toNatClampNeg (mb_low T p).toNatClampNeg) p) else T) = _
        rw [e, if_neg (lb_n6 (by omega)), lb_cl (by omega)]
      rw [eR]
      by_cases h4 : T 4 < T (91 + 4 * p + q)
      · rw [if_pos h4]
        rcases ga_lowC T p with hl | ⟨s, hs, hl, ho⟩
        · rw [if_pos hl]
          exact ga_lz _ (Or.inr hl)
        · rw [hl, if_neg (lb_n6 (by omega)), lb_cl (by omega), el]
          have e1 : gs_1 T p q = mb_loseOne T p q s := by
            unfold gs_1
            rw [if_pos h4, hl, if_neg (lb_n6 (by omega)), lb_cl (by omega)]
          show gs_f p (gc_l T p (k + 1) (0 ||| 1 <<< q)) (gs_1 T p q) = _
          rw [e1]
          obtain ⟨g1, g2, g4⟩ := h.loseOne hA hp hq he.1 hs ho
          have hneq : ∀ c, c < 4 → mb_el T p (0 ||| 1 <<< q) c → c ≠ q := by
            intro c hc4 hce hcq
            subst hcq
            have := hce.2
            rw [lb_bitT 0 (by omega) c hc4 c hc4] at this
            simp at this
          have hn0 : ¬ 0 < mb_loseOne T p q s (75 + 4 * p + q) := by rw [g4]; decide
          have hcnt := lb_cntL hq he.1 hn0 g2
          have heq : ∀ j, j < 4 → (mb_el T p (0 ||| 1 <<< q) j ↔ mb_el (mb_loseOne T p q s) p 0 j) := by
            intro j hj
            by_cases ej : j = q
            · subst ej
              exact ⟨fun x => absurd rfl (hneq j hj x), fun x => absurd x.1 hn0⟩
            · unfold mb_el
              rw [g2 j hj ej, lb_bitT 0 (by omega) q hq j hj]
              have : (j == q) = false := beq_eq_false_iff_ne.mpr ej
              rw [this, Bool.or_false]
          rw [ga_glC (k + 1) (0 ||| 1 <<< q) 0 hq16 (by omega) heq (fun j hj hje => (ga_loseAge hp hq hs hj (hneq j hj hje)).symm)]
          exact ga_loseF hA hp k _ g1 (by omega)
      · rw [if_neg h4]
        refine ga_lz _ (Or.inl fun c hc => ?_)
        have h5 := hmax c (hall c hc).1 (hall c hc).2
        rw [lb_lt] at h4 ⊢
        rw [lb_le] at h5
        omega
/-- one square is lost -/
theorem ga_lose1 {B : ms_T} {T : Nat → Int32} (h : RG B T) {p c s : Nat} (hp : p < 4) (hc : c < 4) (hs : s < 20) {v6 : Int32} {i : Nat} {rec498 : Int32 → Int32 → Int32 → ms_T → Option ms_T} (ho : mb_owns T p s) (hd : T (75 + 4 * p + c) + -(T (75 + 4 * p + c)) = 0) :
    ∃ B', RG B' (mb_loseOne T p c s) ∧ f9_turn_b584 rec498 (nI p) v6 (nI i) (nI c) (nI s) (if T (11 + s) = nI p then 1 else 0) B = rec498 (nI p) v6 (nI (i + 1)) B' := by
  have tail : ∀ (B1 : ms_T) (V : Nat → Int32), RG B1 V → V (75 + 4 * p + c) = T (75 + 4 * p + c) → ∀ x : Int32, ∃ B', RG B' (mb_add (mb_addD (upd V (31 + s) x) p c (-(T (75 + 4 * p + c)))) (51 + 6 * p + 5) 1) ∧ f9_turn_b651 rec498 (nI p) v6 (nI i) (nI c) ((20 : Int32) + nI s) x B1 = rec498 (nI p) v6 (nI (i + 1)) B' := by
    intro B1 V h1 hV x
    unfold f9_turn_b651
    rw [ga_20, ga_4, lb_add, ga_6, ga_p5, lb_ck (by omega) (by omega), lb_bd, lb_cl (by omega), lb_ck (by omega) (by omega), lb_bd, lb_cl (by omega), lb_ck (by omega) (by omega), lb_bd, lb_ck (by omega) (by omega), lb_ck (by omega) (by omega), lb_bd, lb_cl (by omega)]
    have h2 := h1.set2' hs x
    have h3 := h2.set3 (i := 4 * p + c) (by omega) 0
    have h4 := h3.set4 (i := 4 * p + c) (by omega) 0
    generalize e4 : ms_set (ms_set (ms_set B1 2 (upd (B1 2) (20 + s) x)) 3 (upd (ms_set B1 2 (upd (B1 2) (20 + s) x) 3) (4 * p + c) 0)) 4 (upd (ms_set (ms_set B1 2 (upd (B1 2) (20 + s) x)) 3 (upd (ms_set B1 2 (upd (B1 2) (20 + s) x) 3) (4 * p + c) 0) 4) (4 * p + c) 0) = B4 at h4 ⊢
    have h5 := h4.set1 (i := 6 * p + 5) (by omega) (B4 1 (6 * p + 5) + 1)
    rw [h4.p (by omega), show 51 + (6 * p + 5) = 51 + 6 * p + 5 by omega] at h5
    rw [h4.p (by omega), show 51 + (6 * p + 5) = 51 + 6 * p + 5 by omega]
    have eD : mb_addD (upd V (31 + s) x) p c (-(T (75 + 4 * p + c))) = upd (upd (upd V (31 + s) x) (75 + (4 * p + c)) 0) (91 + (4 * p + c)) 0 := by
      unfold mb_addD
      rw [lb_un (by omega), hV, if_pos (Or.inr hd), hd, ← Nat.add_assoc, ← Nat.add_assoc]
    rw [eD]
    refine ⟨_, h5, ?_⟩
    unfold f9_turn_b695
    rw [ga_p1]
  unfold mb_loseOne mb_hand f9_turn_b584
  by_cases e : T (11 + s) = nI p
  · rw [if_pos e, if_pos e, if_neg (show ¬ (1 : Int32) = 0 by decide), ga_20, lb_ck (by omega) (by omega), lb_cl (by omega), h.o2 hs]
    unfold f9_turn_b603
    rw [if_neg (show ¬ (1 : Int32) = 0 by decide)]
    unfold f9_turn_b620
    rw [lb_ck (by omega) (by omega), lb_bd, lb_cl (by omega)]
    have h1 := h.set2 (i := s) (by omega) (nI c)
    have tl := tail _ _ h1 (lb_un (by omega))
    by_cases g : T (31 + s) = nI c
    · rw [if_pos g, if_pos g]; exact tl (-6)
    · rw [if_neg g, if_neg g, if_neg (show ¬ (1 : Int32) = 0 by decide)]; exact tl _
  · rw [if_neg e, if_neg e, if_pos (show (0 : Int32) = 0 from rfl), lb_ck (by omega) (by omega), lb_cl (by omega), h.o (by omega)]
    unfold f9_turn_b603
    rw [if_pos (show (0 : Int32) = 0 from rfl)]
    unfold f9_turn_b620
    rw [lb_ck (by omega) (by omega), lb_bd, lb_cl (by omega)]
    have h1 := h.set2 (i := s) (by omega) (T (11 + s))
    rw [lb_ui] at h1
    have tl := tail _ _ h1 rfl
    by_cases g : T (11 + s) = nI c
    · rw [if_pos g, if_pos g]; exact tl (-6)
    · rw [if_neg g, if_neg g, if_pos (show (0 : Int32) = 0 from rfl)]; exact tl _
/-- the lowest square is looked for -/
theorem ga_loseL {B : ms_T} {T : Nat → Int32} (h : RG B T) {p c : Nat} (hp : p < 4) (hc : c < 4) {v6 : Int32} {i : Nat} {rec498 : Int32 → Int32 → Int32 → ms_T → Option ms_T} (hd : T (75 + 4 * p + c) + -(T (75 + 4 * p + c)) = 0) : ∀ (r k n : Nat), k + r = 20 → r < n →
    ∃ B', RG B' (if mb_lw T p r k = -6 then T else mb_loseOne T p c (mb_lw T p r k).toNatClampNeg) ∧ f9_turn_L541 rec498 n (nI p) v6 (nI i) (nI c) (nI k) B = rec498 (nI p) v6 (nI (i + 1)) B'
  | r, k, 0, _, hn => by omega
  | 0, k, n + 1, hk, _ => by
    refine ⟨B, by show RG B (if (-6 : Int32) = -6 then T else _); rw [if_pos rfl]; exact h, ?_⟩
    show f9_turn_b541 rec498 (f9_turn_L541 rec498 n) (nI p) v6 (nI i) (nI c) (nI k) B = _
    unfold f9_turn_b541
    rw [show (20 : Int32) = nI 20 from rfl, if_pos (nI_le (by omega) (by omega))]
    unfold f9_turn_b695
    rw [ga_p1]
  | r + 1, k, n + 1, hk, hn => by
    show ∃ B', RG B' (if (if mb_owns T p k then nI k else mb_lw T p r (k + 1)) = -6 then T else mb_loseOne T p c (if mb_owns T p k then nI k else mb_lw T p r (k + 1)).toNatClampNeg) ∧ f9_turn_b541 rec498 (f9_turn_L541 rec498 n) (nI p) v6 (nI i) (nI c) (nI k) B = _
    unfold f9_turn_b541
    rw [show (20 : Int32) = nI 20 from rfl, if_neg (nI_ge (by omega) (by omega)), lb_ck (by omega) (by omega), lb_cl (by omega), h.o (by omega)]
    by_cases e1 : T (11 + k) = nI p
    · have ho : mb_owns T p k := Or.inl e1
      rw [if_pos ho, if_neg (lb_n6 (by omega)), lb_cl (by omega), if_pos e1]
      unfold f9_turn_b562
      rw [if_neg (show ¬ (1 : Int32) = 0 by decide)]
      have := ga_lose1 h hp hc (s := k) (by omega) (v6 := v6) (i := i) (rec498 := rec498) ho hd
      rw [if_pos e1] at this
      exact this
    · rw [if_neg e1]
      unfold f9_turn_b562
      rw [if_pos (show (0 : Int32) = 0 from rfl), ga_20, lb_ck (by omega) (by omega), lb_cl (by omega), h.o2 (by omega)]
      by_cases e2 : T (31 + k) = nI p
      · have ho : mb_owns T p k := Or.inr e2
        rw [if_pos ho, if_neg (lb_n6 (by omega)), lb_cl (by omega), if_pos e2]
        have := ga_lose1 h hp hc (s := k) (by omega) (v6 := v6) (i := i) (rec498 := rec498) ho hd
        rw [if_neg e1] at this
        exact this
      · have ho : ¬ mb_owns T p k := by rintro (x | x); exact e1 x; exact e2 x
        rw [if_neg ho, if_neg e2, ga_p1]
        exact ga_loseL h hp hc hd r (k + 1) n (by omega) (by omega)
theorem ga_loseL0 {B : ms_T} {T : Nat → Int32} (h : RG B T) {p c : Nat} (hp : p < 4) (hc : c < 4) {v6 : Int32} {i : Nat} {rec498 : Int32 → Int32 → Int32 → ms_T → Option ms_T} (hd : T (75 + 4 * p + c) + -(T (75 + 4 * p + c)) = 0) {n : Nat} (hn : 20 < n) {L : Int32} (hL : mb_low T p = L) :
    ∃ B', RG B' (if L = -6 then T else mb_loseOne T p c L.toNatClampNeg) ∧ f9_turn_L541 rec498 n (nI p) v6 (nI i) (nI c) 0 B = rec498 (nI p) v6 (nI (i + 1)) B' := by
  have h1 := ga_loseL h hp hc hd (v6 := v6) (i := i) (rec498 := rec498) 20 0 n (by omega) hn
  unfold mb_low at hL
  rw [hL] at h1
  exact h1
theorem ga_fu20 : 20 < fo_fu := by unfold fo_fu; omega
/-- the loop over the creditors whose debts are due -/
theorem ga_lsL {P t : Nat} {b C A : Int} (hA : 0 ≤ A) {p : Nat} (hp : p < 4) {T : Nat → Int32} {cd : Int32} (hcd : cd = nI (gc_r (gc_l T p 5 0) + 256 * (gc_l T p 5 0).length)) :
    ∀ (l : List Nat) (i n : Nat) (B : ms_T) (U : Nat → Int32), (gc_l T p 5 0).drop i = l → i ≤ 4 → l.length < n → RG B U → mb_I P t b C A U → (∀ c ∈ l, 0 < U (75 + 4 * p + c)) →
      ∃ B', RG B' (gs_f p l U) ∧ f9_turn_L498 n (nI p) cd (nI i) B = f9_turn_b498 (fun _ _ _ _ => none) (nI p) 0 0 B'
  | l, i, 0, _, _, _, _, hn, _, _, _ => by omega
  | [], i, n + 1, B, U, hl, hi4, _, hR, _, _ => by
    refine ⟨B, hR, ?_⟩
    obtain ⟨c1, c2, c3⟩ := ga_code (T := T) (p := p)
    have hi : (gc_l T p 5 0).length ≤ i := List.drop_eq_nil_iff.mp hl
    show f9_turn_b498 (f9_turn_L498 n) (nI p) cd (nI i) B = _
    unfold f9_turn_b498
    rw [hcd, c2, if_pos (nI_le hi (by omega)), if_pos (show (0 : Int32) >>> ((8 : Int32) &&& 31) ≤ 0 by decide)]
  | c :: l, i, n + 1, B, U, hl, hi4, hn, hR, hI, hpos => by
    obtain ⟨c1, c2, c3⟩ := ga_code (T := T) (p := p)
    have hget : (gc_l T p 5 0)[i]? = some c := by
      have := congrArg (fun z => z[0]?) hl
      simpa using this
    have hi : i < (gc_l T p 5 0).length := (List.getElem?_eq_some_iff.mp hget).1
    have hl' : (gc_l T p 5 0).drop (i + 1) = l := by
      rw [← List.drop_drop, hl]; rfl
    obtain ⟨hq, ec⟩ := c3 i c hget
    have hc := hpos c List.mem_cons_self
    have hnd : c ∉ l := by
      have h1 := gc_nd (T := T) (p := p) 5 0 (by omega)
      have h2 : (c :: l).Nodup := by rw [← hl]; exact h1.sublist (List.drop_sublist _ _)
      exact (List.nodup_cons.mp h2).1
    have hlt : ∀ x ∈ l, x < 4 := fun x hx => ((gc_lB (T := T) (p := p) 5 0 (by omega)).1 x (List.mem_of_mem_drop (by rw [hl]; exact List.mem_cons_of_mem _ hx))).1
    have hlen : l.length < n := by
      have h9 : (c :: l).length = l.length + 1 := rfl
      omega
    have cc := hI.co (4 * p + c) (by omega)
    rw [show 75 + (4 * p + c) = 75 + 4 * p + c by omega] at cc
    have bc := hI.bC
    have hz : U (75 + 4 * p + c) + -(U (75 + 4 * p + c)) = 0 := Int32.add_right_neg _
    rw [← hcd] at c2 ec
    have e0 : gs_1 U p c = if U 4 < U (91 + 4 * p + c) then (if mb_low U p = -6 then U else mb_loseOne U p c (mb_low U p).toNatClampNeg) else U := rfl
    have step : ∃ B1, RG B1 (gs_1 U p c) ∧ mb_I P t b C A (gs_1 U p c) ∧ (∀ x, x < 4 → x ≠ c → gs_1 U p c (75 + 4 * p + x) = U (75 + 4 * p + x)) ∧ f9_turn_b498 (f9_turn_L498 n) (nI p) cd (nI i) B = f9_turn_L498 n (nI p) cd (nI (i + 1)) B1 := by
      unfold f9_turn_b498
      rw [c2, if_neg (nI_ge hi (by omega)), ec, ga_4, lb_add, lb_ck (by omega) (by omega), ga_k4, lb_c4, hR.q (by omega), lb_cl (by omega), hR.g (by omega), ← Nat.add_assoc]
      by_cases g : U 4 < U (91 + 4 * p + c)
      · rw [if_pos g]
        rw [if_pos g] at e0
        rcases ga_lowC U p with hlw | ⟨s, hs, hlw, ho⟩
        · obtain ⟨B1, r1, f1⟩ := ga_loseL0 hR hp hq (v6 := cd) (i := i) (rec498 := f9_turn_L498 n) hz ga_fu20 hlw
          rw [if_pos hlw] at e0
          rw [if_pos rfl] at r1
          rw [e0]
          exact ⟨B1, r1, hI, fun x _ _ => rfl, f1⟩
        · obtain ⟨B1, r1, f1⟩ := ga_loseL0 hR hp hq (v6 := cd) (i := i) (rec498 := f9_turn_L498 n) hz ga_fu20 hlw
          rw [hlw, if_neg (lb_n6 (by omega)), lb_cl (by omega)] at e0
          rw [if_neg (lb_n6 (by omega)), lb_cl (by omega)] at r1
          obtain ⟨g1, g2, -⟩ := hI.loseOne hA hp hq hc hs ho
          rw [e0]
          exact ⟨B1, r1, g1, g2, f1⟩
      · rw [if_neg g]
        rw [if_neg g] at e0
        rw [e0]
        unfold f9_turn_b695
        rw [ga_p1]
        exact ⟨B, hR, hI, fun x _ _ => rfl, rfl⟩
    obtain ⟨B1, r1, i1, k1, f1⟩ := step
    show ∃ B', RG B' (gs_f p l (gs_1 U p c)) ∧ f9_turn_b498 (f9_turn_L498 n) (nI p) cd (nI i) B = _
    rw [f1]
    refine ga_lsL hA hp hcd l (i + 1) n B1 _ hl' (by omega) hlen r1 i1 (fun x hx => ?_)
    rw [k1 x (hlt x hx) (fun e => hnd (e ▸ hx))]
    exact hpos x (List.mem_cons_of_mem _ hx)
/-- the end of a turn -/
def ge_f (V : Nat → Int32) (p P t : Nat) : Nat → Int32 := upd (upd (mb_add V (51 + 6 * p + 4) 1) 7 (nI ((p + 1) % P))) 5 (nI (t + 1))
theorem ga_fin {B : ms_T} {V : Nat → Int32} (h : RG B V) {p P t : Nat} (hp : p < P) (hP : P ≤ 4) (h6 : V 6 = nI P) (h5 : V 5 = nI t) : ∃ B', f9_turn_b498 (fun _ _ _ _ => none) (nI p) 0 0 B = some B' ∧ RG B' (ge_f V p P t) := by
  unfold f9_turn_b498
  rw [if_pos (show (0 : Int32) >>> ((8 : Int32) &&& 31) ≤ 0 by decide), ga_6, ga_p4, lb_ck (by omega) (by omega), lb_ck (by omega) (by omega), lb_bd, lb_cl (by omega)]
  have h1 := h.set1 (i := 6 * p + 4) (by omega) (B 1 (6 * p + 4) + 1)
  rw [h.p (by omega), show 51 + (6 * p + 4) = 51 + 6 * p + 4 by omega] at h1
  rw [h.p (by omega), show 51 + (6 * p + 4) = 51 + 6 * p + 4 by omega]
  generalize ms_set B 1 (upd (B 1) (6 * p + 4) (V (51 + 6 * p + 4) + 1)) = B1 at h1 ⊢
  rw [ga_k6, ga_k7, lb_c6, lb_c7, h1.q (by omega), lb_un (by omega), h6]
  unfold fo_nz
  rw [if_neg (nI_ne0 (by omega) (by omega)), lb_bd, ga_p1, lb_mod (by omega) (by omega)]
  have h2 := h1.set0 (i := 7) (by omega) (nI ((p + 1) % P))
  generalize ms_set B1 0 (upd (B1 0) 7 (nI ((p + 1) % P))) = B2 at h2 ⊢
  rw [ga_k5, ga_k5, lb_bd, lb_c5, h2.q (by omega), lb_un (by omega), lb_un (by omega), h5, ga_p1]
  exact ⟨_, rfl, h2.set0 (i := 5) (by omega) (nI (t + 1))⟩
/-- debts grow older -/
theorem ga_olL {p : Nat} (hp : p < 4) : ∀ (r k n : Nat) (B : ms_T) (T : Nat → Int32), k + r = 4 → r < n → RG B T → ∃ B', RG B' (mb_ol p r k T) ∧ f9_turn_L443 n (nI p) (nI k) B = fo_bd (f9_creditors (nI p) B') (fun q490 => f9_turn_L498 fo_fu (nI p) q490 (0 : Int32) B')
  | r, k, 0, _, _, _, hn, _ => by omega
  | 0, k, n + 1, B, T, hk, _, hR => by
    refine ⟨B, hR, ?_⟩
    show f9_turn_b443 (f9_turn_L443 n) (nI p) (nI k) B = _
    unfold f9_turn_b443
    rw [show (4 : Int32) = nI 4 from rfl, if_pos (nI_le (by omega) (by omega))]
  | r + 1, k, n + 1, B, T, hk, hn, hR => by
    have go : ∀ t3 : Int32, RG (ms_set B 4 (upd (B 4) (4 * p + k) (T (91 + 4 * p + k) + t3))) (if 0 < T (75 + 4 * p + k) then upd T (91 + 4 * p + k) (T (91 + 4 * p + k) + 1) else T) → ∃ B', RG B' (mb_ol p r (k + 1) (if 0 < T (75 + 4 * p + k) then upd T (91 + 4 * p + k) (T (91 + 4 * p + k) + 1) else T)) ∧ f9_turn_b477 (f9_turn_L443 n) (nI p) (nI k) (nI (4 * p + k)) (T (91 + 4 * p + k)) t3 B = fo_bd (f9_creditors (nI p) B') (fun q490 => f9_turn_L498 fo_fu (nI p) q490 (0 : Int32) B') := by
      intro t3 h3
      unfold f9_turn_b477
      rw [lb_ck (by omega) (by omega), lb_bd, lb_cl (by omega), ga_p1]
      exact ga_olL hp r (k + 1) n _ _ (by omega) (by omega) h3
    show ∃ B', RG B' (mb_ol p r (k + 1) (if 0 < T (75 + 4 * p + k) then upd T (91 + 4 * p + k) (T (91 + 4 * p + k) + 1) else T)) ∧ f9_turn_b443 (f9_turn_L443 n) (nI p) (nI k) B = _
    unfold f9_turn_b443
    rw [show (4 : Int32) = nI 4 from rfl, if_neg (nI_ge (by omega) (by omega)), show nI 4 * nI p = nI (4 * p) from lb_mul 4 p, lb_add, lb_ck (by omega) (by omega), lb_ck (by omega) (by omega), lb_cl (by omega), hR.d (by omega), hR.g (by omega), ← Nat.add_assoc, ← Nat.add_assoc]
    by_cases c : T (75 + 4 * p + k) ≤ 0
    · rw [if_pos c]
      refine go 0 ?_
      rw [if_neg (fun x => lb_npos.mpr x c), Int32.add_zero]
      have h4 := hR.set4 (i := 4 * p + k) (by omega) (T (91 + 4 * p + k))
      rw [← Nat.add_assoc, lb_ui] at h4
      exact h4
    · rw [if_neg c]
      refine go 1 ?_
      rw [if_pos (lb_npos.mp c)]
      have h4 := hR.set4 (i := 4 * p + k) (by omega) (T (91 + 4 * p + k) + 1)
      rw [← Nat.add_assoc] at h4
      exact h4
theorem ga_440 {P t : Nat} {b C A : Int} {B : ms_T} {T : Nat → Int32} (h : mb_I P t b C A T) (hR : RG B T) (hA : 0 ≤ A) (bA : A + 1 ≤ 1000000000) {p : Nat} (hp : p < P) : ∃ B', f9_turn_b440 (nI p) B = some B' ∧ RG B' (ge_f (mb_lose 4 (mb_older T p) p) p P t) := by
  have hP := h.P4
  have hp4 : p < 4 := by omega
  have i1 := h.older hp4 hA bA
  have i2 := (lb_grow8 hA bA hp4 h).2
  unfold f9_turn_b440
  obtain ⟨B1, r1, f1⟩ := ga_olL hp4 4 0 fo_fu B T (by omega) (by show 4 < 1000; omega) hR
  rw [show nI 0 = (0 : Int32) from rfl] at f1
  have r1 : RG B1 (mb_older T p) := r1
  rw [f1, ga_cr r1 hp4, lb_bd]
  have hall := gc_lB (T := mb_older T p) (p := p) 5 0 (by omega)
  have hF : gs_f p (gc_l (mb_older T p) p 5 0) (mb_older T p) = mb_lose 4 (mb_older T p) p := ga_loseF (P := P) (t := t) (B := b) (C := C) (A := A + 1) (by omega) hp4 4 _ i1 (lb_cnt4 _ _)
  have hL := fun hn hc => ga_lsL (P := P) (t := t) (b := b) (C := C) (A := A + 1) (by omega) hp4 (T := mb_older T p) rfl (gc_l (mb_older T p) p 5 0) 0 fo_fu B1 (mb_older T p) (List.drop_zero) (by omega) hn r1 i1 hc
  generalize gc_l (mb_older T p) p 5 0 = l at hL hF hall ⊢
  have hlen : l.length < fo_fu := by
    have := hall.2.1
    show _ < 1000
    omega
  obtain ⟨B2, r2, f2⟩ := hL hlen (fun c hc => (hall.1 c hc).2.1)
  rw [show nI 0 = (0 : Int32) from rfl] at f2
  rw [f2]
  rw [hF] at r2
  exact ga_fin r2 hp hP i2.h6 i2.h5
