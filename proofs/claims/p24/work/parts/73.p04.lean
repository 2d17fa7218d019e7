/-! ## The law's board: debts are paid -/
theorem ga_oFe {T T' : Nat → Int32} {p d d' : Nat} (he : ∀ j, j < 4 → (mb_el T p d j ↔ mb_el T' p d' j)) (ha : ∀ j, j < 4 → mb_el T p d j → T (91 + 4 * p + j) = T' (91 + 4 * p + j)) : ∀ (r k : Nat) (f : Int32), k + r = 4 → (f = -6 ∨ ∃ q, q < 4 ∧ f = nI q ∧ mb_el T p d q) → mb_oF T p d r k f = mb_oF T' p d' r k f
  | 0, k, f, _, _ => rfl
  | r + 1, k, f, hk, hf => by
    show mb_oF T p d r (k + 1) (mb_o1 T p d f k) = mb_oF T' p d' r (k + 1) (mb_o1 T' p d' f k)
    by_cases c : mb_el T p d k
    · have c' := (he k (by omega)).mp c
      have ek := ha k (by omega) c
      have e : (f = -6 ∨ T (91 + 4 * p + f.toNatClampNeg) < T (91 + 4 * p + k)) ↔ (f = -6 ∨ T' (91 + 4 * p + f.toNatClampNeg) < T' (91 + 4 * p + k)) := by
        rcases hf with rfl | ⟨q, hq, rfl, hqe⟩
        · exact ⟨fun _ => Or.inl rfl, fun _ => Or.inl rfl⟩
        · rw [lb_cl (by omega), ← ha q hq hqe, ← ek]
      have e1 : mb_o1 T p d f k = mb_o1 T' p d' f k := by
        unfold mb_o1
        by_cases g : f = -6 ∨ T (91 + 4 * p + f.toNatClampNeg) < T (91 + 4 * p + k)
        · rw [if_pos ⟨c.1, c.2, g⟩, if_pos ⟨c'.1, c'.2, e.mp g⟩]
        · rw [if_neg (fun x => g x.2.2), if_neg (fun x => g (e.mpr x.2.2))]
      rw [← e1]
      refine ga_oFe he ha r (k + 1) _ (by omega) ?_
      unfold mb_o1
      split
      · exact Or.inr ⟨k, by omega, rfl, c⟩
      · exact hf
    · have c' := fun x => c ((he k (by omega)).mpr x)
      have e1 : mb_o1 T p d f k = f := by unfold mb_o1; rw [if_neg (fun x => c ⟨x.1, x.2.1⟩)]
      have e2 : mb_o1 T' p d' f k = f := by unfold mb_o1; rw [if_neg (fun x => c' ⟨x.1, x.2.1⟩)]
      rw [e1, e2]
      exact ga_oFe he ha r (k + 1) f (by omega) hf
theorem ga_glC {T T' : Nat → Int32} {p : Nat} : ∀ (m d d' : Nat), d < 16 → d' < 16 → (∀ j, j < 4 → (mb_el T p d j ↔ mb_el T' p d' j)) → (∀ j, j < 4 → mb_el T p d j → T (91 + 4 * p + j) = T' (91 + 4 * p + j)) → gc_l T p m d = gc_l T' p m d'
  | 0, d, d', _, _, _, _ => rfl
  | m + 1, d, d', hd, hd', he, ha => by
    have eo : mb_old T p d = mb_old T' p d' := ga_oFe he ha 4 0 (-6) rfl (Or.inl rfl)
    show (if mb_old T p d = -6 then [] else (mb_old T p d).toNatClampNeg :: gc_l T p m (d ||| 1 <<< (mb_old T p d).toNatClampNeg)) = (if mb_old T' p d' = -6 then [] else (mb_old T' p d').toNatClampNeg :: gc_l T' p m (d' ||| 1 <<< (mb_old T' p d').toNatClampNeg))
    rw [← eo]
    rcases lb_oldC T p d with ⟨e, -⟩ | ⟨q, hq, e, hqe, -⟩
    · rw [if_pos e, if_pos e]
    · rw [e, if_neg (lb_n6 (by omega)), if_neg (lb_n6 (by omega)), lb_cl (by omega)]
      have hel : ∀ (U : Nat → Int32) (x : Nat), x < 16 → ∀ j, j < 4 → (mb_el U p (x ||| 1 <<< q) j ↔ mb_el U p x j ∧ j ≠ q) := by
        intro U x hx j hj
        unfold mb_el
        rw [lb_bitT x hx q hq j hj, Bool.or_eq_false_iff, beq_eq_false_iff_ne, and_assoc]
      rw [ga_glC m (d ||| 1 <<< q) (d' ||| 1 <<< q) (lb_bitL d hd q hq) (lb_bitL d' hd' q hq) (fun j hj => by rw [hel T d hd j hj, hel T' d' hd' j hj, he j hj]) (fun j hj hj2 => ha j hj ((hel T d hd j hj).mp hj2).1)]
theorem gc_nd {T : Nat → Int32} {p : Nat} : ∀ (m d : Nat), d < 16 → (gc_l T p m d).Nodup
  | 0, d, _ => List.nodup_nil
  | m + 1, d, hd => by
    rcases lb_oldC T p d with ⟨e, -⟩ | ⟨q, hq, e, he, -⟩
    · have el : gc_l T p (m + 1) d = [] := by show (if mb_old T p d = -6 then [] else _) = _; rw [if_pos e]
      rw [el]; exact List.nodup_nil
    · have el : gc_l T p (m + 1) d = q :: gc_l T p m (d ||| 1 <<< q) := by
        show (if mb_old T p d = -6 then [] else (mb_old T p d).toNatClampNeg :: gc_l T p m (d ||| 1 <<< (mb_old T p d).toNatClampNeg)) = _
        rw [e, if_neg (lb_n6 (by omega)), lb_cl (by omega)]
      rw [el, List.nodup_cons]
      refine ⟨fun hm => ?_, gc_nd m _ (lb_bitL d hd q hq)⟩
      have h1 := ((gc_lB (T := T) (p := p) m (d ||| 1 <<< q) (lb_bitL d hd q hq)).1 q hm).2.2
      rw [lb_bitT d hd q hq q hq] at h1
      simp at h1
def gp_f (p : Nat) : List Nat → (Nat → Int32) → (Nat → Int32)
  | [], U => U
  | c :: l, U => gp_f p l (mb_payOne U p c)
theorem ga_payZ {T : Nat → Int32} {p q : Nat} (h0 : T (51 + 6 * p) = 0) (hc : 0 < T (75 + 4 * p + q)) : mb_payOne T p q = T := by
  have hx : mb_paid T p (T (75 + 4 * p + q)) = 0 := by
    unfold mb_paid
    rw [if_pos (by rw [h0, lb_le, Int32.toInt_zero]; rw [lb_0lt] at hc; omega), h0]
  have n0 : (-0 : Int32) = 0 := rfl
  have hpay : mb_pay T p q 0 = T := by
    have z : ∀ (U : Nat → Int32) (i : Nat), mb_add U i 0 = U := fun U i => lb_ui' (Int32.add_zero _)
    unfold mb_pay
    rw [n0, z, z, z, z]
  have hne : T (75 + 4 * p + q) ≠ 0 := by intro e; rw [e] at hc; exact absurd hc (by decide)
  unfold mb_payOne
  rw [hx, hpay]
  unfold mb_addD
  rw [n0, Int32.add_zero, if_neg (by rintro (e | e) <;> contradiction), lb_ui]
theorem ga_pz {T : Nat → Int32} {p : Nat} (h0 : T (51 + 6 * p) = 0) : ∀ (l : List Nat), (∀ c ∈ l, 0 < T (75 + 4 * p + c)) → gp_f p l T = T
  | [], _ => rfl
  | c :: l, h => by
    show gp_f p l (mb_payOne T p c) = T
    rw [ga_payZ h0 (h c List.mem_cons_self)]
    exact ga_pz h0 l (fun x hx => h x (List.mem_cons_of_mem _ hx))
theorem ga_oneAge {T : Nat → Int32} {p q j : Nat} (hp : p < 4) (hq : q < 4) (hj : j < 4) (hn : j ≠ q) : mb_payOne T p q (91 + 4 * p + j) = T (91 + 4 * p + j) := by
  unfold mb_payOne
  rw [lb_addDn (by omega) (by omega), lb_pay75 hp hq (by omega)]
theorem ga_pdF {P t : Nat} {B C A : Int} (hA : 0 ≤ A) {p : Nat} (hp : p < 4) : ∀ (k : Nat) (T : Nat → Int32), mb_I P t B C A T → mb_cnt T p ≤ k → gp_f p (gc_l T p (k + 1) 0) T = mb_pd k T p
  | k, T, h, hk => by
    have lnil : ∀ (m : Nat), mb_old T p 0 = -6 → gc_l T p (m + 1) 0 = [] := fun m e => by show (if mb_old T p 0 = -6 then [] else _) = _; rw [if_pos e]
    rcases lb_oldC T p 0 with ⟨e, -⟩ | ⟨q, hq, e, he, -⟩
    · rw [lnil k e]
      cases k with
      | zero => rfl
      | succ k =>
        show T = (if T (51 + 6 * p) ≤ 0 then T else if mb_old T p 0 = -6 then T else _)
        rw [if_pos e, ite_self]
    · have hc := lb_cntP hq he.1
      obtain ⟨k, rfl⟩ : ∃ k', k = k' + 1 := ⟨k - 1, by omega⟩
      have el : gc_l T p (k + 1 + 1) 0 = q :: gc_l T p (k + 1) (0 ||| 1 <<< q) := by
        show (if mb_old T p 0 = -6 then [] else (mb_old T p 0).toNatClampNeg :: gc_l T p (k + 1) (0 ||| 1 <<< (mb_old T p 0).toNatClampNeg)) = _
        rw [e, if_neg (lb_n6 (by omega)), lb_cl (by omega)]
      have hall := (gc_lB (T := T) (p := p) (k + 1 + 1) 0 (by omega)).1
      have hq16 := lb_bitL 0 (by omega) q hq
      have htl := (gc_lB (T := T) (p := p) (k + 1) (0 ||| 1 <<< q) hq16).1
      have hpos := (h.purse hp).1
      by_cases hz : T (51 + 6 * p) = 0
      · rw [lb_pd0 _ hz]
        exact ga_pz hz _ (fun c hc => (hall c hc).2.1)
      · have hle : ¬ T (51 + 6 * p) ≤ 0 := by rw [lb_le0]; rw [lb_eq0] at hz; omega
        rw [el]
        show gp_f p (gc_l T p (k + 1) (0 ||| 1 <<< q)) (mb_payOne T p q) = (if T (51 + 6 * p) ≤ 0 then T else if mb_old T p 0 = -6 then T else mb_pd k (mb_payOne T p (mb_old T p 0).toNatClampNeg) p)
        rw [if_neg hle, e, if_neg (lb_n6 (by omega)), lb_cl (by omega)]
        obtain ⟨g1, g2, g3⟩ := h.one hA hp hq he.1
        have hneq : ∀ c, c < 4 → mb_el T p (0 ||| 1 <<< q) c → c ≠ q := by
          intro c hc4 hce hcq
          subst hcq
          have := hce.2
          rw [lb_bitT 0 (by omega) c hc4 c hc4] at this
          simp at this
        by_cases hz1 : mb_payOne T p q (51 + 6 * p) = 0
        · rw [lb_pd0 _ hz1]
          exact ga_pz hz1 _ (fun c hc => by rw [g2 c (htl c hc).1 (hneq c (htl c hc).1 (htl c hc).2)]; exact (htl c hc).2.1)
        · have g4 : mb_payOne T p q (75 + 4 * p + q) = 0 := by rcases g3 with g | g; exact g; exact absurd g hz1
          have hn0 : ¬ 0 < mb_payOne T p q (75 + 4 * p + q) := by rw [g4]; decide
          have hcnt := lb_cntL hq he.1 hn0 g2
          have heq : ∀ j, j < 4 → (mb_el T p (0 ||| 1 <<< q) j ↔ mb_el (mb_payOne T p q) p 0 j) := by
            intro j hj
            by_cases ej : j = q
            · subst ej
              exact ⟨fun x => absurd rfl (hneq j hj x), fun x => absurd x.1 hn0⟩
            · unfold mb_el
              rw [g2 j hj ej, lb_bitT 0 (by omega) q hq j hj]
              have : (j == q) = false := beq_eq_false_iff_ne.mpr ej
              rw [this, Bool.or_false]
          rw [ga_glC (k + 1) (0 ||| 1 <<< q) 0 hq16 (by omega) heq (fun j hj hje => (ga_oneAge hp hq hj (hneq j hj hje)).symm)]
          exact ga_pdF hA hp k _ g1 (by omega)
theorem ga_addU {U : Nat → Int32} {i k : Nat} {v y : Int32} (h : k ≠ i) : mb_add (upd U i v) k y = upd (mb_add U k y) i v := by
  unfold mb_add
  rw [lb_un h, lb_uc (Ne.symm h)]
theorem ga_payU {U : Nat → Int32} {i p q : Nat} {v x : Int32} (hp : p < 4) (hq : q < 4) (hi : 75 ≤ i) : mb_pay (upd U i v) p q x = upd (mb_pay U p q x) i v := by
  unfold mb_pay
  rw [ga_addU (by omega), ga_addU (by omega), ga_addU (by omega), ga_addU (by omega)]
/-- one debt, as the law pays it -/
theorem ga_one {P t : Nat} {b C A : Int} {U : Nat → Int32} (h : mb_I P t b C A U) {p q : Nat} (hp : p < 4) (hq : q < 4) (hc : 0 < U (75 + 4 * p + q)) {V : Nat → Int32} (hV : V = mb_pt (upd U (75 + 4 * p + q) 0) p q (U (75 + 4 * p + q))) :
    upd V (91 + 4 * p + q) (if V (75 + 4 * p + q) ≤ 0 then 0 else U (91 + 4 * p + q)) = mb_payOne U p q := by
  have b1 := h.purse (p := p) hp
  have bb := h.bB
  have bc := h.bC
  have cc := h.co (4 * p + q) (by omega)
  rw [show 75 + (4 * p + q) = 75 + 4 * p + q by omega] at cc
  obtain ⟨x1, x2, x3, x4⟩ := lb_paidB (c := U (75 + 4 * p + q)) b1.1 cc.1
  have e0 : mb_paid (upd U (75 + 4 * p + q) 0) p (U (75 + 4 * p + q)) = mb_paid U p (U (75 + 4 * p + q)) := by
    unfold mb_paid; rw [lb_un (by omega)]
  unfold mb_pt at hV
  rw [e0, ga_payU hp hq (by omega)] at hV
  have e00 : (if U (75 + 4 * p + q) ≤ mb_paid U p (U (75 + 4 * p + q)) then True else False) = (if mb_paid U p (U (75 + 4 * p + q)) = U (75 + 4 * p + q) then True else False) := by
    by_cases g : mb_paid U p (U (75 + 4 * p + q)) = U (75 + 4 * p + q)
    · rw [if_pos g, if_pos (ga_paidC.mpr g)]
    · rw [if_neg g, if_neg (fun x => g (ga_paidC.mp x))]
  have hcP := @ga_paidC U p (U (75 + 4 * p + q))
  unfold mb_payOne
  generalize mb_paid U p (U (75 + 4 * p + q)) = x at *
  have e1 : mb_pay U p q x (75 + 4 * p + q) = U (75 + 4 * p + q) := lb_pay75 hp hq (by omega)
  have e2 : mb_pay U p q x (91 + 4 * p + q) = U (91 + 4 * p + q) := lb_pay75 hp hq (by omega)
  have hne : U (75 + 4 * p + q) ≠ 0 := by intro e; rw [e] at hc; exact absurd hc (by decide)
  generalize mb_pay U p q x = Y at *
  have nx : (-x).toInt = -x.toInt := lb_neg_toInt (by omega)
  unfold mb_addD
  rw [e1]
  by_cases g : x = U (75 + 4 * p + q)
  · rw [if_pos (hcP.mpr g)] at hV
    subst hV
    rw [lb_us, if_pos (by decide)]
    have z : U (75 + 4 * p + q) + -x = 0 := by rw [g]; exact Int32.add_right_neg _
    rw [if_pos (Or.inr z), z]
  · rw [if_neg (fun y => g (hcP.mp y))] at hV
    unfold mb_addD at hV
    rw [lb_us, if_pos (Or.inl rfl), Int32.zero_add, lb_uu] at hV
    have gl : x.toInt < (U (75 + 4 * p + q)).toInt := by
      rw [lb_eq] at g; omega
    have s1 : (U (75 + 4 * p + q) - x).toInt = (U (75 + 4 * p + q)).toInt - x.toInt := lb_sub_toInt (by omega) (by omega)
    have v1 : V (75 + 4 * p + q) = U (75 + 4 * p + q) - x := by rw [hV, lb_un (by omega), lb_us]
    rw [v1, if_neg (by rw [lb_le0]; omega), hV, lb_uu]
    rw [if_neg]
    · rw [Int32.sub_eq_add_neg]
      refine lb_ui' ?_
      rw [lb_un (by omega), e2]
    · rintro (y | y)
      · exact hne y
      · rw [← Int32.sub_eq_add_neg, lb_eq0] at y; omega
/-- the debts' loop -/
theorem ga_pdL {P t : Nat} {b C A : Int} (hA : 0 ≤ A) {p : Nat} (hp : p < 4) {T : Nat → Int32} {cd : Int32} (hcd : cd = nI (gc_r (gc_l T p 5 0) + 256 * (gc_l T p 5 0).length)) :
    ∀ (l : List Nat) (i n : Nat) (B : ms_T) (U : Nat → Int32), (gc_l T p 5 0).drop i = l → i ≤ 4 → l.length < n → RG B U → mb_I P t b C A U → (∀ c ∈ l, 0 < U (75 + 4 * p + c)) →
      ∃ B', RG B' (gp_f p l U) ∧ f9_turn_L19 n (nI p) cd (nI i) B = f9_turn_b19 (fun _ _ _ _ => none) (nI p) 0 0 B'
  | l, i, 0, _, _, _, _, hn, _, _, _ => by omega
  | [], i, n + 1, B, U, hl, hi4, _, hR, _, _ => by
    refine ⟨B, hR, ?_⟩
    obtain ⟨c1, c2, c3⟩ := ga_code (T := T) (p := p)
    have hi : (gc_l T p 5 0).length ≤ i := List.drop_eq_nil_iff.mp hl
    show f9_turn_b19 (f9_turn_L19 n) (nI p) cd (nI i) B = _
    unfold f9_turn_b19
    rw [hcd, c2, if_pos (nI_le hi (by omega)), if_pos (show (0 : Int32) >>> ((8 : Int32) &&& 31) ≤ 0 by decide)]
  | c :: l, i, n + 1, B, U, hl, hi4, hn, hR, hI, hpos => by
    obtain ⟨c1, c2, c3⟩ := ga_code (T := T) (p := p)
    have hget : (gc_l T p 5 0)[i]? = some c := by
      have := congrArg (fun z => z[0]?) hl
      simpa using this
    have hi : i < (gc_l T p 5 0).length := (List.getElem?_eq_some_iff.mp hget).1
    have hl' : (gc_l T p 5 0).drop (i + 1) = l := by
      rw [← List.drop_drop, hl]; rfl
    obtain ⟨hq, ec⟩ := c3 i c hget
    have hc := hpos c List.mem_cons_self
    show ∃ B', RG B' (gp_f p l (mb_payOne U p c)) ∧ f9_turn_b19 (f9_turn_L19 n) (nI p) cd (nI i) B = _
    have hg := hI.one hA hp hq hc
    have hnd : c ∉ l := by
      have h1 := gc_nd (T := T) (p := p) 5 0 (by omega)
      have h2 : (c :: l).Nodup := by rw [← hl]; exact h1.sublist (List.drop_sublist _ _)
      exact (List.nodup_cons.mp h2).1
    have hlt : ∀ x ∈ l, x < 4 := fun x hx => ((gc_lB (T := T) (p := p) 5 0 (by omega)).1 x (List.mem_of_mem_drop (by rw [hl]; exact List.mem_cons_of_mem _ hx))).1
    have step : ∃ B1, RG B1 (mb_payOne U p c) ∧ f9_turn_b19 (f9_turn_L19 n) (nI p) cd (nI i) B = f9_turn_L19 n (nI p) cd (nI (i + 1)) B1 := by
      unfold f9_turn_b19
      rw [← hcd] at c2 ec
      rw [c2, if_neg (nI_ge hi (by omega)), ec, ga_4, lb_add, lb_ck (by omega) (by omega), lb_ck (by omega) (by omega), lb_bd, lb_cl (by omega), lb_ck (by omega) (by omega)]
      have h1 := hR.set3 (i := 4 * p + c) (by omega) 0
      rw [hR.d (by omega), ← Nat.add_assoc]
      have e4 : ms_set B 3 (upd (B 3) (4 * p + c) 0) 4 (4 * p + c) = U (91 + 4 * p + c) := by rw [lb_mn (by omega), hR.g (by omega), ← Nat.add_assoc]
      rw [← Nat.add_assoc] at h1
      obtain ⟨B1, f1, r1⟩ := ga_pay h1 (p := p) (q := c) (c := U (75 + 4 * p + c)) hp hq (fun hh => absurd (lb_us _ _ _) hh)
      rw [f1, lb_bd, lb_ck (by omega) (by omega), e4, r1.d (by omega), ← Nat.add_assoc]
      have key : ∀ v : Int32, v = (if mb_pt (upd U (75 + 4 * p + c) 0) p c (U (75 + 4 * p + c)) (75 + 4 * p + c) ≤ 0 then 0 else U (91 + 4 * p + c)) → ∃ B2, RG B2 (mb_payOne U p c) ∧ f9_turn_b113 (f9_turn_L19 n) (nI p) cd (nI i) (nI (4 * p + c)) v B1 = f9_turn_L19 n (nI p) cd (nI (i + 1)) B2 := by
        intro v hv
        refine ⟨ms_set B1 4 (upd (B1 4) (4 * p + c) v), ?_, ?_⟩
        · have h2 := r1.set4 (i := 4 * p + c) (by omega) v
          rw [← Nat.add_assoc, hv, ga_one hI hp hq hc rfl] at h2
          rw [hv]
          exact h2
        · unfold f9_turn_b113
          rw [lb_ck (by omega) (by omega), lb_bd, lb_cl (by omega), ga_p1]
      by_cases g : mb_pt (upd U (75 + 4 * p + c) 0) p c (U (75 + 4 * p + c)) (75 + 4 * p + c) ≤ 0
      · rw [if_pos g]; exact key 0 (by rw [if_pos g])
      · rw [if_neg g]; exact key _ (by rw [if_neg g])
    obtain ⟨B1, r1, e1⟩ := step
    rw [e1]
    have hlen : l.length < n := by
      have h9 : (c :: l).length = l.length + 1 := rfl
      omega
    refine ga_pdL hA hp hcd l (i + 1) n B1 _ hl' (by omega) hlen r1 hg.1 (fun x hx => ?_)
    rw [hg.2.1 x (hlt x hx) (fun e => hnd (e ▸ hx))]
    exact hpos x (List.mem_cons_of_mem _ hx)
