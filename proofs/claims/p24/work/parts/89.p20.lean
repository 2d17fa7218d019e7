/-! ## The calls that change, as the row takes them -/
section CHG
variable {P t : Nat} {X : xs_T} {S : ms_T}
theorem ac_J (h : RR X S) (h6 : S 0 6 = nI P) (h5 : S 0 5 = nI t) (hP : P ≤ 4) (ht : t < 2 ^ 31) : mb_J P t (S 0) := by
  obtain ⟨⟨P', t', ht', hJ, hR⟩, -, -, -⟩ := h
  have hP' := hJ.P4
  have e : P' = P := (lb_inj (by omega) (by omega)).mp (hJ.h6.symm.trans h6)
  have e2 : t' = t := (lb_inj (by omega) (by omega)).mp (hJ.h5.symm.trans h5)
  subst e; subst e2
  exact hJ
theorem ac_rec (h : RR X S) : ∃ S1, f8_record S = some S1 ∧ S1 0 = S 0 := by
  obtain ⟨-, ⟨f, k, -, hk6, -, -, hk, -⟩, -, -⟩ := h
  obtain ⟨S1, e1, -, -, e2, -⟩ := lb_record hk hk6
  exact ⟨S1, e1, e2 0 (by omega) (by omega)⟩
theorem ac_win {n lo hi : Nat} (h1 : lo ≤ n) (h2 : n ≤ hi) (h3 : hi < 2 ^ 31) : f8_within (nI n) (nI lo) (nI hi) = some 1 := by
  unfold f8_within
  rw [if_neg (nI_nlt h1 (by omega)), if_neg (nI_nlt h2 (by omega))]
theorem ac_player (h : RR X S) (hJ : mb_J P t (S 0)) (hP : P < 4) {r : Nat} (hr : r ≤ 9999) : ∃ q S', f7_player (nI r) X = some q ∧ q.1 = nI P ∧ RR q.2 S' ∧ S' 0 = upd (upd (S 0) (51 + 6 * P) (nI r)) 6 (nI (P + 1)) := by
  obtain ⟨S1, e1, e2⟩ := ac_rec h
  obtain ⟨r', X', S', e7, e8, hR'⟩ := lb_player h (nI r)
  have hw : f8_whyNoPlayer (nI r) (S 0) = some 0 := by
    unfold f8_whyNoPlayer
    rw [show f8_within (nI r) (0 : Int32) (9999 : Int32) = some 1 from ac_win (lo := 0) (hi := 9999) (by omega) hr (by omega), lb_bd, if_neg (show ¬ (1 : Int32) = 0 by decide), lb_k6, lb_c6, hJ.h6, if_neg (fun e => by have := (lb_inj (b := 4) (by omega) (by omega)).mp e; omega)]
  have hc := lb_comes (T := S 0) hJ.h6 hP hJ.pz (nI r)
  unfold f8_player at e8
  rw [hw, lb_bd, if_pos (show (0 : Int32) ≤ 0 by decide), e1, lb_bd, e2, hc, lb_bd] at e8
  have e9 := Option.some.inj e8
  have a1 : nI P = r' := congrArg Prod.fst e9
  have a2 : ms_set S1 0 (upd (upd (S 0) (51 + 6 * P) (nI r)) 6 (nI (P + 1))) = S' := congrArg Prod.snd e9
  exact ⟨(r', X'), S', e7, a1.symm, hR', by rw [← a2, lb_ms]⟩
theorem ac_go (h : RR X S) (hJ : mb_J P t (S 0)) (hP0 : 0 < P) {n : Nat} (h1 : 1 ≤ n) (hn : n ≤ 99) (ht : t + n ≤ 9999) : ∃ q S', f7_go (nI n) X = some q ∧ q.1 = mb_s4 (mb_turns n (S 0)) 2 - mb_s4 (S 0) 2 ∧ RR q.2 S' ∧ S' 0 = mb_turns n (S 0) := by
  have hP := hJ.P4
  obtain ⟨S1, e1, e2⟩ := ac_rec h
  obtain ⟨r', X', S', e7, e8, hR'⟩ := lb_go h (nI n)
  have hw : f8_whyNoTurns (nI n) (S 0) = some 0 := by
    unfold f8_whyNoTurns
    rw [show f8_within (nI n) (1 : Int32) (99 : Int32) = some 1 from ac_win (lo := 1) (hi := 99) (by omega) hn (by omega), lb_bd, if_neg (show ¬ (1 : Int32) = 0 by decide), lb_k6, lb_c6, hJ.h6, if_neg (nI_ne0 hP0 (by omega)), lb_k5, lb_c5, hJ.h5, lb_add, if_pos (show nI (t + n) ≤ (9999 : Int32) from nI_le (b := 9999) ht (by omega))]
  have hc := hJ.doTurns (N := n) hP0 (by omega) (by omega)
  unfold f8_go at e8
  rw [hw, lb_bd, if_pos (show (0 : Int32) ≤ 0 by decide), e1, lb_bd, e2, hc, lb_bd] at e8
  have e9 := Option.some.inj e8
  have a1 : mb_s4 (mb_turns n (S 0)) 2 - mb_s4 (S 0) 2 = r' := congrArg Prod.fst e9
  have a2 : ms_set S1 0 (mb_turns n (S 0)) = S' := congrArg Prod.snd e9
  exact ⟨(r', X'), S', e7, a1.symm, hR', by rw [← a2, lb_ms]⟩
theorem ac_seed (h : RR X S) {r : Nat} (hr : r ≤ 9999) : ∃ q S', f7_seed (nI r) X = some q ∧ q.1 = S 0 8 ∧ RR q.2 S' ∧ S' 0 = upd (S 0) 8 (nI r) := by
  obtain ⟨S1, e1, e2⟩ := ac_rec h
  obtain ⟨r', X', S', e7, e8, hR'⟩ := lb_seed h (nI r)
  unfold f8_seed at e8
  rw [show f8_within (nI r) (0 : Int32) (9999 : Int32) = some 1 from ac_win (lo := 0) (hi := 9999) (by omega) hr (by omega), lb_bd, if_neg (show ¬ (1 : Int32) = 0 by decide), e1, lb_bd, lb_k8, lb_k8, lb_c8, e2] at e8
  have e9 := Option.some.inj e8
  have a1 : S 0 8 = r' := congrArg Prod.fst e9
  have a2 : ms_set S1 0 (upd (S 0) 8 (nI r)) = S' := congrArg Prod.snd e9
  exact ⟨(r', X'), S', e7, a1.symm, hR', by rw [← a2, lb_ms]⟩
theorem ac_isv {c n : Nat} (h : (c = 0 ∧ n ≤ 99) ∨ ((c = 1 ∨ c = 2) ∧ 1 ≤ n ∧ n ≤ 99) ∨ (c = 3 ∧ 1 ≤ n ∧ n ≤ 7) ∨ (c = 4 ∧ 1 ≤ n ∧ n ≤ 20)) : f8_isValue (nI c) (nI n) = some 1 := by
  rcases h with ⟨rfl, h⟩ | ⟨rfl | rfl, h1, h2⟩ | ⟨rfl, h1, h2⟩ | ⟨rfl, h1, h2⟩
  · have e : f8_isValue (nI 0) (nI n) = fo_bd (f8_within (nI n) (nI 0) (nI 99)) (fun q => fo_zz q (some q)) := rfl
    rw [e, ac_win (by omega) h (by omega)]; rfl
  · have e : f8_isValue (nI 1) (nI n) = fo_bd (f8_within (nI n) (nI 1) (nI 99)) (fun q => fo_zz q (some q)) := rfl
    rw [e, ac_win h1 h2 (by omega)]; rfl
  · have e : f8_isValue (nI 2) (nI n) = fo_bd (f8_within (nI n) (nI 1) (nI 99)) (fun q => fo_zz q (some q)) := rfl
    rw [e, ac_win h1 h2 (by omega)]; rfl
  · have e : f8_isValue (nI 3) (nI n) = fo_bd (f8_within (nI n) (nI 1) (nI 7)) (fun q => fo_zz q (some q)) := rfl
    rw [e, ac_win h1 h2 (by omega)]; rfl
  · have e : f8_isValue (nI 4) (nI n) = fo_bd (f8_within (nI n) (nI 1) (nI 20)) (fun q => fo_zz q (some q)) := rfl
    rw [e, ac_win h1 h2 (by omega)]; rfl
theorem ac_set (h : RR X S) {c n : Nat} (hc : (c = 0 ∧ n ≤ 99) ∨ ((c = 1 ∨ c = 2) ∧ 1 ≤ n ∧ n ≤ 99) ∨ (c = 3 ∧ 1 ≤ n ∧ n ≤ 7) ∨ (c = 4 ∧ 1 ≤ n ∧ n ≤ 20)) : ∃ q S', f7_set (nI c) (nI n) X = some q ∧ q.1 = S 0 c ∧ RR q.2 S' ∧ S' 0 = upd (S 0) c (nI n) := by
  have hc5 : c < 5 := by omega
  obtain ⟨S1, e1, e2⟩ := ac_rec h
  obtain ⟨r', X', S', e7, e8, hR'⟩ := lb_set h (nI c) (nI n)
  unfold f8_set at e8
  rw [ac_isv hc, lb_bd, if_neg (show ¬ (1 : Int32) = 0 by decide), e1, lb_bd, lb_ck (by omega) (by omega), lb_ck (by omega) (by omega), lb_cl (by omega), e2] at e8
  have e9 := Option.some.inj e8
  have a1 : S 0 c = r' := congrArg Prod.fst e9
  have a2 : ms_set S1 0 (upd (S 0) c (nI n)) = S' := congrArg Prod.snd e9
  exact ⟨(r', X'), S', e7, a1.symm, hR', by rw [← a2, lb_ms]⟩
/-- clear: the class's answer is the law's, and the boards agree -/
theorem ac_clear (h : RR X S) (hJ : mb_J P t (S 0)) {p : Nat} (hp : p < P) {B : ms_T} (hR : RG B (S 0)) (hbd : ∀ i, i < 16 → (S 0 (75 + i)).toInt ≤ 999999) :
    ∃ q S' B', f7_clear (nI p) X = some q ∧ f9_clear (nI p) 0 (ms_set B 5 (fun _ => 0)) = some (q.1, B') ∧ RR q.2 S' ∧ RG B' (S' 0) ∧ (∀ i, i < 16 → (S' 0 (75 + i)).toInt ≤ (S 0 (75 + i)).toInt) ∧ (∀ i, i < 75 → S' 0 i = S 0 i) := by
  have hP := hJ.P4
  obtain ⟨S1, e1, e2⟩ := ac_rec h
  obtain ⟨r', X', S', e7, e8, hR'⟩ := lb_clear h (nI p)
  have hJ1 : mb_J P t (S1 0) := by rw [e2]; exact hJ
  obtain ⟨r, B', S2, g1, g2, g3, g4, g5⟩ := ga_clear (show (0 : Int) ≤ t by omega) (p := p) (by omega) hJ1 (by rw [e2]; exact hbd) (by rw [e2]; exact hR)
  unfold f8_clear at e8
  rw [ak_pl hJ hp, lb_bd, if_neg (show ¬ (1 : Int32) = 0 by decide), e1, lb_bd, g2, lb_bd] at e8
  have e9 := Option.some.inj e8
  have a1 : r = r' := congrArg Prod.fst e9
  have a2 : S2 = S' := congrArg Prod.snd e9
  subst a1
  subst a2
  rw [e2] at g4 g5
  exact ⟨(r, X'), S2, B', e7, g1, hR', g3, g4, g5⟩
end CHG
