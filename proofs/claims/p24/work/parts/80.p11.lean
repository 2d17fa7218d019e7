/-! ## The class's answers as the row gives them -/
section ANS
variable {P t : Nat} {b C A : Int} {X : xs_T} {S : ms_T}
theorem ak_sign (h : RR X S) (hI : mb_I P t b C A (S 0)) (v : Int32) : ∃ q S', f7_sign v X = some q ∧ q.1 = mb_fd v (mb_tx (S 0) P 20 0) ∧ RR q.2 S' ∧ S' 0 = S 0 := by
  obtain ⟨r, X', S', e7, e8, hR'⟩ := lb_sign h v
  obtain ⟨S2, w1, w2, -, -, -, w6⟩ := lb_writes hI v
  unfold f8_sign at e8
  rw [w1, lb_bd, w6] at e8
  have e9 := Option.some.inj e8
  have e1 : mb_fd v (mb_tx (S 0) P 20 0) = r := congrArg Prod.fst e9
  have e2 : S2 = S' := congrArg Prod.snd e9
  subst e2
  exact ⟨(r, X'), S2, e7, e1.symm, hR', w2 0 (by omega)⟩
theorem ak_c (h : RR X S) {v r : Int32} {S' : ms_T} (e : f8_count v S = some (r, S')) : ∃ q, f7_count v X = some q ∧ q.1 = r ∧ RR q.2 S' := by
  obtain ⟨r', X', S'', e7, e8, hR⟩ := lb_count h v
  rw [e] at e8
  have e9 := Option.some.inj e8
  have e1 : r = r' := congrArg Prod.fst e9
  have e2 : S' = S'' := congrArg Prod.snd e9
  subst e2
  exact ⟨(r', X'), e7, e1.symm, hR⟩
theorem ac_0 : f8_count 0 S = some (S 0 5, S) := by
  have e : f8_count 0 S = fo_ck (5 : Int32) 107 (some ((S 0) (5 : Int32).toNatClampNeg, S)) := rfl
  rw [e, lb_k5, lb_c5]
theorem ac_1 : f8_count 1 S = some (S 0 6, S) := by
  have e : f8_count 1 S = fo_ck (6 : Int32) 107 (some ((S 0) (6 : Int32).toNatClampNeg, S)) := rfl
  rw [e, lb_k6, lb_c6]
theorem ac_2 : f8_count 2 S = some (if S 0 6 = 0 then -6 else S 0 7, S) := by
  have e : f8_count 2 S = (fo_ck (6 : Int32) 107 (if ((S 0) (6 : Int32).toNatClampNeg) = 0 then (some ((-6 : Int32), S)) else (fo_ck (7 : Int32) 107 (some (((S 0) (7 : Int32).toNatClampNeg), S))))) := rfl
  rw [e, lb_k6, lb_c6, lb_k7, lb_c7]
  split <;> rfl
theorem ac_3 (hI : mb_I P t b C A (S 0)) : f8_count 3 S = some (mb_many (S 0), S) := by
  have e : f8_count 3 S = fo_bd (f8_debtsMany (S 0)) (fun q => some (q, S)) := rfl
  rw [e, hI.dM8, lb_bd]
theorem ac_4 (hI : mb_I P t b C A (S 0)) : f8_count 4 S = some (mb_s4 (S 0) 0, S) := by
  have e : f8_count 4 S = fo_bd (f8_sumOf (0 : Int32) (S 0)) (fun q => some (q, S)) := rfl
  rw [e, show (0 : Int32) = nI 0 from rfl, hI.sumOf (by omega), lb_bd]
theorem ac_5 (hI : mb_I P t b C A (S 0)) : f8_count 5 S = some (mb_all (S 0), S) := by
  have e : f8_count 5 S = fo_bd (f8_sumOfDebts (S 0)) (fun q => some (q, S)) := rfl
  rw [e, hI.sD8, lb_bd]
theorem ac_6 : f8_count 6 S = some (S 0 9, S) := by
  have e : f8_count 6 S = fo_ck (9 : Int32) 107 (some ((S 0) (9 : Int32).toNatClampNeg, S)) := rfl
  rw [e, lb_k9, lb_c9]
theorem ac_7 : f8_count 7 S = some (S 0 10, S) := by
  have e : f8_count 7 S = fo_ck (10 : Int32) 107 (some ((S 0) (10 : Int32).toNatClampNeg, S)) := rfl
  rw [e, lb_k10, lb_c10]
theorem ac_8 : f8_count 8 S = some (S 0 8, S) := by
  have e : f8_count 8 S = fo_ck (8 : Int32) 107 (some ((S 0) (8 : Int32).toNatClampNeg, S)) := rfl
  rw [e, lb_k8, lb_c8]
theorem ac_9 {k : Nat} (hk : k < 5) : f8_count (9 + nI k) S = some (S 0 k, S) := by
  have hk' : k = 0 ∨ k = 1 ∨ k = 2 ∨ k = 3 ∨ k = 4 := by omega
  rcases hk' with rfl | rfl | rfl | rfl | rfl <;> rfl
theorem ac_14 (hI : mb_I P t b C A (S 0)) : ∃ S', f8_count 14 S = some (nI (mb_tx (S 0) P 20 0).length, S') ∧ S' 0 = S 0 := by
  have e : f8_count 14 S = fo_bd (f8_writes (-6 : Int32) S) (fun q => some (q 8 2, q)) := rfl
  obtain ⟨S2, w1, w2, -, w4, -, -⟩ := lb_writes hI (-6)
  rw [e, w1, lb_bd, w4]
  exact ⟨S2, rfl, w2 0 (by omega)⟩
theorem ak_RB (h : RR X S) : RB (X 5) (S 0) := by
  obtain ⟨⟨P, t, ht, hJ, hR⟩, -⟩ := h
  exact hR
theorem ak_of (h : RR X S) (hI : mb_I P t b C A (S 0)) {v w r : Int32} (e : f8_of v w (S 0) = some r) : f7_of v w X = some r := by
  obtain ⟨r', e7, e8⟩ := lb_of hI (ak_RB h) v w
  rw [e] at e8
  rw [e7, ← Option.some.inj e8]
theorem ak_sq (h : RR X S) (hI : mb_I P t b C A (S 0)) {v w r : Int32} (e : f8_ofSquare v w (S 0) = some r) : f7_ofSquare v w X = some r := by
  obtain ⟨r', e7, e8⟩ := lb_ofSquare hI (ak_RB h) v w
  rw [e] at e8
  rw [e7, ← Option.some.inj e8]
theorem ak_ow (h : RR X S) (hI : mb_I P t b C A (S 0)) {v w u r : Int32} (e : f8_owes v w u (S 0) = some r) : f7_owes v w u X = some r := by
  obtain ⟨r', e7, e8⟩ := lb_owes hI (ak_RB h) v w u
  rw [e] at e8
  rw [e7, ← Option.some.inj e8]
theorem ak_pl {T : Nat → Int32} (hI : mb_I P t b C A T) {p : Nat} (hp : p < P) : f8_isPlayer (nI p) T = some 1 := by
  rcases hI.isPlayer (nI p) with ⟨-, a2⟩ | ⟨p', hp', e, a1⟩
  · exact absurd ⟨p, hp, rfl⟩ a2
  · exact a1
theorem ao_k {T : Nat → Int32} (hI : mb_I P t b C A T) {p : Nat} (hp : p < P) {w r : Int32}
    (e : (if w = (0 : Int32) then (fo_bd (f8_playerPart (nI p) (0 : Int32) T) (fun q63 => (some q63))) else if w = (1 : Int32) then (fo_bd (f8_playerPart (nI p) (1 : Int32) T) (fun q70 => (some q70))) else if w = (2 : Int32) then (fo_bd (f8_ownedBy (nI p) T) (fun q76 => (some q76))) else if w = (3 : Int32) then (fo_bd (f8_owedBy (nI p) T) (fun q82 => (some q82))) else if w = (4 : Int32) then (fo_bd (f8_owedTo (nI p) T) (fun q88 => (some q88))) else if w = (5 : Int32) then (fo_bd (f8_playerPart (nI p) (2 : Int32) T) (fun q95 => (some q95))) else if w = (6 : Int32) then (fo_bd (f8_playerPart (nI p) (3 : Int32) T) (fun q102 => (some q102))) else if w = (7 : Int32) then (fo_bd (f8_playerPart (nI p) (4 : Int32) T) (fun q109 => (some q109))) else if w = (8 : Int32) then (fo_bd (f8_playerPart (nI p) (5 : Int32) T) (fun q116 => (some q116))) else (some (-2 : Int32))) = some r) : f8_of (nI p) w T = some r := by
  unfold f8_of
  rw [ak_pl hI hp, lb_bd, if_neg (show ¬ (1 : Int32) = 0 by decide)]
  exact e
theorem ao_0 {T : Nat → Int32} (hI : mb_I P t b C A T) {p : Nat} (hp : p < P) : f8_of (nI p) 0 T = some (T (51 + 6 * p)) := by
  have hP := hI.P4
  refine ao_k hI hp ?_
  rw [if_pos rfl, lb_part0 (by omega), lb_bd]
theorem ao_1 {T : Nat → Int32} (hI : mb_I P t b C A T) {p : Nat} (hp : p < P) : f8_of (nI p) 1 T = some (T (51 + 6 * p + 1)) := by
  have hP := hI.P4
  refine ao_k hI hp ?_
  rw [lb_part1 (by omega)]; rfl
theorem ao_2 {T : Nat → Int32} (hI : mb_I P t b C A T) {p : Nat} (hp : p < P) : f8_of (nI p) 2 T = some (mb_sq T p 20 0 0) := by
  have hP := hI.P4
  refine ao_k hI hp ?_
  rw [lb_sq8]; rfl
theorem ao_3 {T : Nat → Int32} (hI : mb_I P t b C A T) {p : Nat} (hp : p < P) : f8_of (nI p) 3 T = some (mb_by T p) := by
  have hP := hI.P4
  refine ao_k hI hp ?_
  rw [hI.by8 (by omega)]; rfl
theorem ao_4 {T : Nat → Int32} (hI : mb_I P t b C A T) {p : Nat} (hp : p < P) : f8_of (nI p) 4 T = some (mb_to T p) := by
  have hP := hI.P4
  refine ao_k hI hp ?_
  rw [hI.to8 (by omega)]; rfl
theorem ao_5 {T : Nat → Int32} (hI : mb_I P t b C A T) {p : Nat} (hp : p < P) {k : Nat} (hk : 2 ≤ k) (hk6 : k < 6) : f8_of (nI p) (3 + nI k) T = some (T (51 + 6 * p + k)) := by
  have hP := hI.P4
  refine ao_k hI hp ?_
  have hk' : k = 2 ∨ k = 3 ∨ k = 4 ∨ k = 5 := by omega
  rcases hk' with rfl | rfl | rfl | rfl
  · rw [lb_part2 (by omega)]; rfl
  · rw [lb_part3 (by omega)]; rfl
  · rw [lb_part4 (by omega)]; rfl
  · rw [lb_part5 (by omega)]; rfl
theorem as_isq {s : Nat} (hs : s < 20) : f8_isSquare (nI s) = some 1 := by
  have : ∀ s, s < 20 → f8_isSquare (nI s) = some 1 := by decide
  exact this s hs
theorem as_1 {T : Nat → Int32} {s : Nat} (hs : s < 20) : f8_ofSquare (nI s) 1 T = some (T (11 + s)) := by
  unfold f8_ofSquare
  rw [as_isq hs, lb_bd, if_neg (show ¬ (1 : Int32) = 0 by decide), if_neg (show ¬ (1 : Int32) = 0 by decide), if_pos rfl, lb_ix11, lb_ck (by omega) (by omega), lb_cl (by omega)]
theorem as_2 {T : Nat → Int32} {s : Nat} (hs : s < 20) : f8_ofSquare (nI s) 2 T = some (T (31 + s)) := by
  unfold f8_ofSquare
  rw [as_isq hs, lb_bd, if_neg (show ¬ (1 : Int32) = 0 by decide), if_neg (show ¬ (2 : Int32) = 0 by decide), if_neg (show ¬ (2 : Int32) = 1 by decide), if_pos rfl, lb_ix31, lb_ck (by omega) (by omega), lb_cl (by omega)]
theorem as_3 {T : Nat → Int32} {s : Nat} (hs : s < 20) : f8_ofSquare (nI s) 3 T = some (mb_toll T s) := by
  unfold f8_ofSquare
  rw [as_isq hs, lb_bd, lb_toll8 hs]; rfl
theorem as_4 {T : Nat → Int32} (hI : mb_I P t b C A T) {s : Nat} (hs : s < 20) : f8_ofSquare (nI s) 4 T = some (mb_on T (nI s) P 0 0) := by
  unfold f8_ofSquare
  rw [as_isq hs, lb_bd, lb_on8 hI.h6 hI.P4]; rfl
theorem aw_0 {T : Nat → Int32} (hI : mb_I P t b C A T) {p q : Nat} (hp : p < P) (hq : q < P) : f8_owes (nI p) (nI q) 0 T = some (if q = p then -2 else T (75 + 4 * p + q)) := by
  have hP := hI.P4
  unfold f8_owes
  rw [ak_pl hI hp, lb_bd, if_neg (show ¬ (1 : Int32) = 0 by decide), ak_pl hI hq, lb_bd, if_neg (show ¬ (1 : Int32) = 0 by decide), show f8_within (0 : Int32) 0 1 = some 1 from rfl, lb_bd, if_neg (show ¬ (1 : Int32) = 0 by decide)]
  by_cases e : q = p
  · subst e
    rw [if_pos rfl, if_pos rfl]
  · rw [if_neg e, if_neg (fun x => e ((lb_inj (by omega) (by omega)).mp x).symm), lb_debt (by omega) (by omega), lb_bd, if_pos rfl]
theorem aw_1 {T : Nat → Int32} (hI : mb_I P t b C A T) {p q : Nat} (hp : p < P) (hq : q < P) (hpq : q ≠ p) : f8_owes (nI p) (nI q) 1 T = some (if T (75 + 4 * p + q) = 0 then -6 else T (91 + 4 * p + q)) := by
  have hP := hI.P4
  unfold f8_owes
  rw [ak_pl hI hp, lb_bd, if_neg (show ¬ (1 : Int32) = 0 by decide), ak_pl hI hq, lb_bd, if_neg (show ¬ (1 : Int32) = 0 by decide), show f8_within (1 : Int32) 0 1 = some 1 from rfl, lb_bd, if_neg (show ¬ (1 : Int32) = 0 by decide), if_neg (fun x => hpq ((lb_inj (by omega) (by omega)).mp x).symm), lb_debt (by omega) (by omega), lb_bd, if_neg (show ¬ (1 : Int32) = 0 by decide), lb_age (by omega) (by omega), lb_bd]
  split <;> rfl
end ANS
