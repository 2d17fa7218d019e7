theorem pm_0 : (([2] : List Nat) ++ [0, 1, 3, 4, 5, 6, 7, 8, 9, 10, 11, 12, 13, 14, 15]).Perm (List.range 16) := by decide
theorem pm_1 : (([2, 7, 8, 9, 10, 11, 12, 13, 5] : List Nat) ++ [0, 1, 3, 4, 6, 14, 15]).Perm (List.range 16) := by decide
theorem pm_2 : (([5] : List Nat) ++ [0, 1, 2, 3, 4, 6, 7, 8, 9, 10, 11, 12, 13, 14, 15]).Perm (List.range 16) := by decide
theorem pm_3 : (([5, 4] : List Nat) ++ [0, 1, 2, 3, 6, 7, 8, 9, 10, 11, 12, 13, 14, 15]).Perm (List.range 16) := by decide
theorem pm_4 : (([4] : List Nat) ++ [0, 1, 2, 3, 5, 6, 7, 8, 9, 10, 11, 12, 13, 14, 15]).Perm (List.range 16) := by decide
theorem pm_5 : (([3] : List Nat) ++ [0, 1, 2, 4, 5, 6, 7, 8, 9, 10, 11, 12, 13, 14, 15]).Perm (List.range 16) := by decide
theorem pm_6 : (([6] : List Nat) ++ [0, 1, 2, 3, 4, 5, 7, 8, 9, 10, 11, 12, 13, 14, 15]).Perm (List.range 16) := by decide
theorem pm_7 : (([6, 5] : List Nat) ++ [0, 1, 2, 3, 4, 7, 8, 9, 10, 11, 12, 13, 14, 15]).Perm (List.range 16) := by decide
theorem pm_8 : (([1, 8] : List Nat) ++ [0, 2, 3, 4, 5, 6, 7]).Perm (List.range 9) := by decide
theorem pm_9 : (([2, 8] : List Nat) ++ [0, 1, 3, 4, 5, 6, 7]).Perm (List.range 9) := by decide
theorem pm_10 : (([3, 8] : List Nat) ++ [0, 1, 2, 4, 5, 6, 7]).Perm (List.range 9) := by decide
theorem pm_11 : (([4, 8] : List Nat) ++ [0, 1, 2, 3, 5, 6, 7]).Perm (List.range 9) := by decide
theorem pm_12 : (([5, 8] : List Nat) ++ [0, 1, 2, 3, 4, 6, 7]).Perm (List.range 9) := by decide
theorem pm_13 : (([6, 8] : List Nat) ++ [0, 1, 2, 3, 4, 5, 7]).Perm (List.range 9) := by decide
theorem pm_14 : (([7, 8] : List Nat) ++ [0, 1, 2, 3, 4, 5, 6]).Perm (List.range 9) := by decide
abbrev wd_H (cB : ClassId) (a : Nat → Nat) (yb : Nat → Nat) (S : ms_T) : va_W := [(a 0, .inr (2, [.ref (a 1), .int (S 0 0), .int (S 0 1)])), (a 1, .inl (cB, (7, .inr (.inr (.inr (.inr (fun k => some (yb k))))))))]
abbrev xs_T : Type := Nat → ms_T
def xs_set (X : xs_T) (k : Nat) (B : ms_T) : xs_T := fun j => if j = k then B else X j
def xs_h (X Y : xs_T) : xs_T := fun g => if g = 2 ∨ g = 5 ∨ (7 ≤ g ∧ g < 14) then Y g else X g
def sl_r (f : Int32) (a : Nat) : Option Nat := if f = 0 then none else some a
def sl_w (cI : ClassId) (f : Int32) (a : Nat → Nat) (B : ms_T) : va_W := if f = 0 then [] else wd_B cI a B
abbrev gX (cI cB : ClassId) (b : Nat → Nat → Nat) (S : xs_T) : List va_W := [[(b 0 0, .inr (6, [.ref (b 5 0), .ref (b 6 0), .ref (b 2 0), .ref (b 1 0), .ref (b 3 0), .ref (b 4 0)]))], [(b 1 0, .inl (cB, (2, .inr (.inr (.inr (.inr (fun k => match k with | 0 => sl_r (S 1 0 0) (b 14 0) | _ => sl_r (S 1 0 1) (b 15 0))))))))], wd_H cB (b 2) (fun k => b (7 + k) 0) (S 2), wd_L cI (b 3) 80 (S 3), wd_L cI (b 4) 44 (S 4), wd_B cI (b 5) (S 5), wd_B cI (b 6) (S 6), wd_B cI (b 7) (S 7), wd_B cI (b 8) (S 8), wd_B cI (b 9) (S 9), wd_B cI (b 10) (S 10), wd_B cI (b 11) (S 11), wd_B cI (b 12) (S 12), wd_B cI (b 13) (S 13), sl_w cI (S 1 0 0) (b 14) (S 14), sl_w cI (S 1 0 1) (b 15) (S 15)]
abbrev gH (cI cB : ClassId) (b : Nat → Nat → Nat) (S : xs_T) : List va_W := [wd_H cB (b 2) (fun k => b (7 + k) 0) (S 2), wd_B cI (b 7) (S 7), wd_B cI (b 8) (S 8), wd_B cI (b 9) (S 9), wd_B cI (b 10) (S 10), wd_B cI (b 11) (S 11), wd_B cI (b 12) (S 12), wd_B cI (b 13) (S 13), wd_B cI (b 5) (S 5)]
/-- the history's place is copied to: only where it is one of its seven -/
def f2_stage (S : xs_T) : Option xs_T := fo_ck (S 2 0 0) 7 (fo_bd (f0_copyFrom (S 5) (S (7 + (S 2 0 0).toNatClampNeg))) (fun q => some (xs_set S (7 + (S 2 0 0).toNatClampNeg) q)))
def hs_at (f : Int32) : Nat := if f.toNatClampNeg = 0 then 6 else f.toNatClampNeg - 1
def f2_stepBack (S : xs_T) : Option (Int32 × xs_T) := fo_ck (S 2 0 0) 7 (fo_bd (f0_copyFrom (S (7 + hs_at (S 2 0 0))) (S 5)) (fun q => some (if S 2 0 1 = 0 then ((-5 : Int32), S) else ((S 2 0 1) - 1, xs_set (xs_set S 5 q) 2 (ms_set (ms_set (S 2) 0 (upd (S 2 0) 0 (nI (hs_at (S 2 0 0))))) 0 (upd (ms_set (S 2) 0 (upd (S 2 0) 0 (nI (hs_at (S 2 0 0)))) 0) 1 ((S 2 0 1) - 1)))))))
def f0_changeSetting (v1 : Int32) (v2 : Int32) (S : ms_T) : Option (Int32 × ms_T) := ((if v1 < 0 then (some ((-2 : Int32), S)) else ((if (5 : Int32) ≤ v1 then (some ((-2 : Int32), S)) else ((if v1 < (5 : Int32) then ((fo_ck v1 5 (if v2 < (fv_2 v1.toNatClampNeg) then (some ((-2 : Int32), S)) else ((fo_ck v1 5 (if v2 ≤ (fv_3 v1.toNatClampNeg) then (fo_bd (f6_at 0 5 v1 (S 5)) (fun q49 => (fo_bd (f6_write 0 5 v1 v2 (S 5)) (fun q59 => (some (q49, (ms_set S 5 q59))))))) else (some ((-2 : Int32), S)))))))) else (some ((-2 : Int32), S))))))))
def f2_kept (S : ms_T) : Option Int32 := (some (S 0 1))
def f2_keepStaged_b20 (t1 : Int32) (S : ms_T) : Option ms_T := (some (ms_set (ms_set S 0 (upd (S 0) 0 t1)) 0 (upd ((ms_set S 0 (upd (S 0) 0 t1)) 0) 1 (if (6 : Int32) < (((ms_set S 0 (upd (S 0) 0 t1)) 0 1) + (1 : Int32)) then (6 : Int32) else (((ms_set S 0 (upd (S 0) 0 t1)) 0 1) + (1 : Int32))))))
def f2_keepStaged (S : ms_T) : Option ms_T := ((if (6 : Int32) ≤ (S 0 0) then (f2_keepStaged_b20 (0 : Int32) S) else (f2_keepStaged_b20 ((S 0 0) + (1 : Int32)) S)))
def f7_changed (v1 : Int32) (S : xs_T) : Option (Int32 × xs_T) := ((if v1 < 0 then (some (v1, S)) else (fo_bd (f2_keepStaged (S 2)) (fun q8 => (some (v1, (xs_set S 2 q8)))))))
def f7_set (v1 : Int32) (v2 : Int32) (S : xs_T) : Option (Int32 × xs_T) := (fo_bd (f2_stage S) (fun q8 => (fo_bd (f0_changeSetting v1 v2 ((xs_h S q8) 5)) (fun q18 => (fo_bd (f7_changed q18.1 (xs_set (xs_h S q8) 5 q18.2)) (fun q21 => (some (q21.1, q21.2))))))))
def f7_player (v1 : Int32) (S : xs_T) : Option (Int32 × xs_T) := (fo_bd (f2_stage S) (fun q8 => (fo_bd (f0_addPlayer v1 ((xs_h S q8) 5)) (fun q17 => (fo_bd (f7_changed q17.1 (xs_set (xs_h S q8) 5 q17.2)) (fun q20 => (some (q20.1, q20.2))))))))
def f7_seed (v1 : Int32) (S : xs_T) : Option (Int32 × xs_T) := (fo_bd (f2_stage S) (fun q8 => (fo_bd (f0_changeDraws v1 ((xs_h S q8) 5)) (fun q17 => (fo_bd (f7_changed q17.1 (xs_set (xs_h S q8) 5 q17.2)) (fun q20 => (some (q20.1, q20.2))))))))
def f7_go (v1 : Int32) (S : xs_T) : Option (Int32 × xs_T) := (fo_bd (f2_stage S) (fun q8 => (fo_bd (f0_doTurns v1 ((xs_h S q8) 5)) (fun q17 => (fo_bd (f7_changed q17.1 (xs_set (xs_h S q8) 5 q17.2)) (fun q20 => (some (q20.1, q20.2))))))))
def f7_clear (v1 : Int32) (S : xs_T) : Option (Int32 × xs_T) := (fo_bd (f2_stage S) (fun q8 => (fo_bd (f0_clearAround v1 ((xs_h S q8) 5)) (fun q17 => (fo_bd (f7_changed q17.1 (xs_set (xs_h S q8) 5 q17.2)) (fun q20 => (some (q20.1, q20.2))))))))
def f7_of (v1 : Int32) (v2 : Int32) (S : xs_T) : Option Int32 := ((fo_bd (f0_hasPlayer v1 (S 5)) (fun q5 => (if q5 = 0 then (some (-1 : Int32)) else (fo_bd (f0_factOfPlayer v1 v2 (S 5)) (fun q17 => (some q17)))))))
def f7_ofSquare (v1 : Int32) (v2 : Int32) (S : xs_T) : Option Int32 := ((if v1 < 0 then (some (-1 : Int32)) else ((if (20 : Int32) ≤ v1 then (some (-1 : Int32)) else (fo_bd (f0_factOfSquare v1 v2 (S 5)) (fun q16 => (some q16)))))))
def f7_owes (v1 : Int32) (v2 : Int32) (v3 : Int32) (S : xs_T) : Option Int32 := ((fo_bd (f0_hasPlayer v1 (S 5)) (fun q5 => (if q5 = 0 then (some (-1 : Int32)) else ((fo_bd (f0_hasPlayer v2 (S 5)) (fun q16 => (if q16 = 0 then (some (-1 : Int32)) else ((if v3 < 0 then (some (-2 : Int32)) else ((if (1 : Int32) < v3 then (some (-2 : Int32)) else ((if v1 = v2 then (some (-2 : Int32)) else ((if v3 = 0 then (fo_bd (f1_coinsOf v1 v2 (ms_from (S 5) 2)) (fun q54 => (some q54))) else (fo_bd (f1_ageOf v1 v2 (ms_from (S 5) 2)) (fun q69 => (some q69)))))))))))))))))))
def f7_count (v1 : Int32) (S : xs_T) : Option (Int32 × xs_T) := ((if v1 = (14 : Int32) then (fo_bd (f0_describe 44 (ms_sub (S 5) 13 2 (S 4))) (fun q36 => (fo_bd (f3_length 44 ((xs_set (xs_set S 5 q36) 4 (ms_from q36 13)) 4)) (fun q43 => (some (q43, (xs_set (xs_set S 5 q36) 4 (ms_from q36 13)))))))) else if v1 = (15 : Int32) then (fo_bd (f3_length 80 (S 3)) (fun q51 => (some (q51, S)))) else if v1 = (16 : Int32) then (fo_bd (f2_kept (S 2)) (fun q59 => (some (q59, S)))) else (fo_bd (f0_fact v1 (S 5)) (fun q68 => (some (q68, S))))))
def f7_sign (v1 : Int32) (S : xs_T) : Option (Int32 × xs_T) := (fo_bd (f0_describe 44 (ms_sub (S 5) 13 2 (S 4))) (fun q8 => (fo_bd (f3_at 44 v1 ((xs_set (xs_set S 5 q8) 4 (ms_from q8 13)) 4)) (fun q16 => (some (q16, (xs_set (xs_set S 5 q8) 4 (ms_from q8 13))))))))
def f7_chain (v1 : Int32) (v2 : Int32) (S : xs_T) : Option Int32 := ((fo_bd (f0_hasPlayer v1 (S 5)) (fun q5 => (if q5 = 0 then (some (-1 : Int32)) else ((fo_bd (f0_hasPlayer v2 (S 5)) (fun q16 => (if q16 = 0 then (some (-1 : Int32)) else (fo_bd (f1_distance v1 v2 (ms_from (S 5) 2)) (fun q33 => (some q33)))))))))))
def f7_emptyIn_b26 (rec26 : Int32 → Int32 → xs_T → Option (Int32 × xs_T)) (v1 : Int32) (v2 : Int32) (S : xs_T) : Option (Int32 × xs_T) := ((if (400 : Int32) < v2 then (some ((-6 : Int32), S)) else ((fo_bd (f0_purseOf v1 (S 6)) (fun q38 => (if q38 = 0 then (some (v2, S)) else (fo_bd (f0_takeTurn (S 6)) (fun q50 => (rec26 v1 (v2 + (1 : Int32)) (xs_set S 6 q50))))))))))
def f7_emptyIn_L26 : Nat → Int32 → Int32 → xs_T → Option (Int32 × xs_T)
  | 0, _, _, _ => none
  | n + 1, v1, v2, S => f7_emptyIn_b26 (f7_emptyIn_L26 n) v1 v2 S
def f7_emptyIn (v1 : Int32) (S : xs_T) : Option (Int32 × xs_T) := ((fo_bd (f0_hasPlayer v1 (S 5)) (fun q5 => (if q5 = 0 then (some ((-1 : Int32), S)) else (fo_bd (f0_copyFrom (S 5) (S 6)) (fun q21 => (f7_emptyIn_L26 fo_fu v1 (0 : Int32) (xs_set S 6 q21))))))))
def f7_purseIn (v1 : Int32) (v2 : Int32) (S : xs_T) : Option (Int32 × xs_T) := ((fo_bd (f0_hasPlayer v1 (S 5)) (fun q5 => (if q5 = 0 then (some ((-1 : Int32), S)) else ((if v2 < (1 : Int32) then (some ((-2 : Int32), S)) else ((if v2 ≤ (99 : Int32) then (fo_bd (f0_copyFrom (S 5) (S 6)) (fun q35 => (fo_bd (f0_takeTurns v2 ((xs_set S 6 q35) 6)) (fun q43 => (fo_bd (f0_purseOf v1 ((xs_set (xs_set S 6 q35) 6 q43) 6)) (fun q51 => (some (q51, (xs_set (xs_set S 6 q35) 6 q43))))))))) else (some ((-2 : Int32), S))))))))))
def f7_bestSeed_b100 (rec35 : Int32 → Int32 → Int32 → Int32 → Int32 → xs_T → Option (Int32 × xs_T)) (v1 : Int32) (v2 : Int32) (v3 : Int32) (v4 : Int32) (v5 : Int32) (S : xs_T) : Option (Int32 × xs_T) := (rec35 v1 v2 v3 v4 (v5 + (1 : Int32)) S)
def f7_bestSeed_b93 (rec35 : Int32 → Int32 → Int32 → Int32 → Int32 → xs_T → Option (Int32 × xs_T)) (v1 : Int32) (v2 : Int32) (v5 : Int32) (v6 : Int32) (S : xs_T) : Option (Int32 × xs_T) := (f7_bestSeed_b100 rec35 v1 v2 v5 v6 v5 S)
def f7_bestSeed_b35 (rec35 : Int32 → Int32 → Int32 → Int32 → Int32 → xs_T → Option (Int32 × xs_T)) (v1 : Int32) (v2 : Int32) (v3 : Int32) (v4 : Int32) (v5 : Int32) (S : xs_T) : Option (Int32 × xs_T) := ((if (50 : Int32) ≤ v5 then (some (v3, S)) else ((fo_bd (f0_copyFrom (S 5) (S 6)) (fun q50 => (fo_bd (f0_changeDraws v5 ((xs_set S 6 q50) 6)) (fun q59 => (fo_bd (f0_takeTurns v2 ((xs_set (xs_set S 6 q50) 6 q59.2) 6)) (fun q68 => (fo_bd (f0_wealthOf v1 ((xs_set (xs_set (xs_set S 6 q50) 6 q59.2) 6 q68) 6)) (fun q76 => (if v5 = 0 then (f7_bestSeed_b93 rec35 v1 v2 v5 q76 (xs_set (xs_set (xs_set S 6 q50) 6 q59.2) 6 q68)) else ((if q76 ≤ v4 then (f7_bestSeed_b100 rec35 v1 v2 v3 v4 v5 (xs_set (xs_set (xs_set S 6 q50) 6 q59.2) 6 q68)) else (f7_bestSeed_b93 rec35 v1 v2 v5 q76 (xs_set (xs_set (xs_set S 6 q50) 6 q59.2) 6 q68))))))))))))))))
def f7_bestSeed_L35 : Nat → Int32 → Int32 → Int32 → Int32 → Int32 → xs_T → Option (Int32 × xs_T)
  | 0, _, _, _, _, _, _ => none
  | n + 1, v1, v2, v3, v4, v5, S => f7_bestSeed_b35 (f7_bestSeed_L35 n) v1 v2 v3 v4 v5 S
def f7_bestSeed (v1 : Int32) (v2 : Int32) (S : xs_T) : Option (Int32 × xs_T) := ((fo_bd (f0_hasPlayer v1 (S 5)) (fun q5 => (if q5 = 0 then (some ((-1 : Int32), S)) else ((if v2 < (1 : Int32) then (some ((-2 : Int32), S)) else ((if v2 ≤ (60 : Int32) then (f7_bestSeed_L35 fo_fu v1 v2 (0 : Int32) (0 : Int32) (0 : Int32) S) else (some ((-2 : Int32), S))))))))))
def wm0_changeSetting : List Cond := .code yX0_changeSetting cX0_changeSetting 4 (some .int) :: bg_L
theorem hd0_changeSetting : yX0_changeSetting.cls = RX0 ∧ yX0_changeSetting.cls ≠ "java/lang/invoke/MethodHandle" ∧ yX0_changeSetting.cls ≠ "java/lang/invoke/VarHandle" ∧ (parseMethodDescriptor yX0_changeSetting.desc).map (fun d => d.parameters.length) = some 2 := by decide +kernel
abbrev RM0_changeSetting : Room := { frames := 1, cells := 0, slots := 0, locals := 22 }
def wm2_kept : List Cond := .code yX2_kept cX2_kept 1 (some .int) :: bg_L
theorem hd2_kept : yX2_kept.cls = RX2 ∧ yX2_kept.cls ≠ "java/lang/invoke/MethodHandle" ∧ yX2_kept.cls ≠ "java/lang/invoke/VarHandle" ∧ (parseMethodDescriptor yX2_kept.desc).map (fun d => d.parameters.length) = some 0 := by decide +kernel
abbrev RM2_kept : Room := { frames := 0, cells := 0, slots := 0, locals := 0 }
def wm2_keepStaged : List Cond := .code yX2_keepStaged cX2_keepStaged 1 none :: bg_L
theorem hd2_keepStaged : yX2_keepStaged.cls = RX2 ∧ yX2_keepStaged.cls ≠ "java/lang/invoke/MethodHandle" ∧ yX2_keepStaged.cls ≠ "java/lang/invoke/VarHandle" ∧ (parseMethodDescriptor yX2_keepStaged.desc).map (fun d => d.parameters.length) = some 0 := by decide +kernel
abbrev RM2_keepStaged : Room := { frames := 1, cells := 0, slots := 0, locals := 21 }
def wm7_changed : List Cond := .code yX7_changed cX7_changed 2 (some .int) :: bg_L
theorem hd7_changed : yX7_changed.cls = RX7 ∧ yX7_changed.cls ≠ "java/lang/invoke/MethodHandle" ∧ yX7_changed.cls ≠ "java/lang/invoke/VarHandle" ∧ (parseMethodDescriptor yX7_changed.desc).map (fun d => d.parameters.length) = some 1 := by decide +kernel
abbrev RM7_changed : Room := { frames := 2, cells := 0, slots := 0, locals := 41 }
def wm7_set : List Cond := .code yX7_set cX7_set 3 (some .int) :: bg_L
theorem hd7_set : yX7_set.cls = RX7 ∧ yX7_set.cls ≠ "java/lang/invoke/MethodHandle" ∧ yX7_set.cls ≠ "java/lang/invoke/VarHandle" ∧ (parseMethodDescriptor yX7_set.desc).map (fun d => d.parameters.length) = some 2 := by decide +kernel
abbrev RM7_set : Room := { frames := 4, cells := 0, slots := 0, locals := 86 }
def wm7_player : List Cond := .code yX7_player cX7_player 2 (some .int) :: bg_L
theorem hd7_player : yX7_player.cls = RX7 ∧ yX7_player.cls ≠ "java/lang/invoke/MethodHandle" ∧ yX7_player.cls ≠ "java/lang/invoke/VarHandle" ∧ (parseMethodDescriptor yX7_player.desc).map (fun d => d.parameters.length) = some 1 := by decide +kernel
abbrev RM7_player : Room := { frames := 4, cells := 0, slots := 0, locals := 86 }
def wm7_seed : List Cond := .code yX7_seed cX7_seed 2 (some .int) :: bg_L
theorem hd7_seed : yX7_seed.cls = RX7 ∧ yX7_seed.cls ≠ "java/lang/invoke/MethodHandle" ∧ yX7_seed.cls ≠ "java/lang/invoke/VarHandle" ∧ (parseMethodDescriptor yX7_seed.desc).map (fun d => d.parameters.length) = some 1 := by decide +kernel
abbrev RM7_seed : Room := { frames := 4, cells := 0, slots := 0, locals := 86 }
def wm7_go : List Cond := .code yX7_go cX7_go 2 (some .int) :: bg_L
theorem hd7_go : yX7_go.cls = RX7 ∧ yX7_go.cls ≠ "java/lang/invoke/MethodHandle" ∧ yX7_go.cls ≠ "java/lang/invoke/VarHandle" ∧ (parseMethodDescriptor yX7_go.desc).map (fun d => d.parameters.length) = some 1 := by decide +kernel
abbrev RM7_go : Room := { frames := 5, cells := 0, slots := 0, locals := 118 }
def wm7_clear : List Cond := .code yX7_clear cX7_clear 2 (some .int) :: bg_L
theorem hd7_clear : yX7_clear.cls = RX7 ∧ yX7_clear.cls ≠ "java/lang/invoke/MethodHandle" ∧ yX7_clear.cls ≠ "java/lang/invoke/VarHandle" ∧ (parseMethodDescriptor yX7_clear.desc).map (fun d => d.parameters.length) = some 1 := by decide +kernel
abbrev RM7_clear : Room := { frames := 5, cells := 0, slots := 0, locals := 122 }
def wm7_of : List Cond := .code yX7_of cX7_of 3 (some .int) :: bg_L
theorem hd7_of : yX7_of.cls = RX7 ∧ yX7_of.cls ≠ "java/lang/invoke/MethodHandle" ∧ yX7_of.cls ≠ "java/lang/invoke/VarHandle" ∧ (parseMethodDescriptor yX7_of.desc).map (fun d => d.parameters.length) = some 2 := by decide +kernel
abbrev RM7_of : Room := { frames := 3, cells := 0, slots := 0, locals := 66 }
def wm7_ofSquare : List Cond := .code yX7_ofSquare cX7_ofSquare 3 (some .int) :: bg_L
theorem hd7_ofSquare : yX7_ofSquare.cls = RX7 ∧ yX7_ofSquare.cls ≠ "java/lang/invoke/MethodHandle" ∧ yX7_ofSquare.cls ≠ "java/lang/invoke/VarHandle" ∧ (parseMethodDescriptor yX7_ofSquare.desc).map (fun d => d.parameters.length) = some 2 := by decide +kernel
abbrev RM7_ofSquare : Room := { frames := 3, cells := 0, slots := 0, locals := 69 }
def wm7_owes : List Cond := .code yX7_owes cX7_owes 4 (some .int) :: bg_L
theorem hd7_owes : yX7_owes.cls = RX7 ∧ yX7_owes.cls ≠ "java/lang/invoke/MethodHandle" ∧ yX7_owes.cls ≠ "java/lang/invoke/VarHandle" ∧ (parseMethodDescriptor yX7_owes.desc).map (fun d => d.parameters.length) = some 3 := by decide +kernel
abbrev RM7_owes : Room := { frames := 2, cells := 0, slots := 0, locals := 43 }
def wm7_count : List Cond := .code yX7_count cX7_count 2 (some .int) :: bg_L
theorem hd7_count : yX7_count.cls = RX7 ∧ yX7_count.cls ≠ "java/lang/invoke/MethodHandle" ∧ yX7_count.cls ≠ "java/lang/invoke/VarHandle" ∧ (parseMethodDescriptor yX7_count.desc).map (fun d => d.parameters.length) = some 1 := by decide +kernel
abbrev RM7_count : Room := { frames := 3, cells := 0, slots := 0, locals := 67 }
def wm7_sign : List Cond := .code yX7_sign cX7_sign 2 (some .int) :: bg_L
theorem hd7_sign : yX7_sign.cls = RX7 ∧ yX7_sign.cls ≠ "java/lang/invoke/MethodHandle" ∧ yX7_sign.cls ≠ "java/lang/invoke/VarHandle" ∧ (parseMethodDescriptor yX7_sign.desc).map (fun d => d.parameters.length) = some 1 := by decide +kernel
abbrev RM7_sign : Room := { frames := 3, cells := 0, slots := 0, locals := 67 }
def wm7_chain : List Cond := .code yX7_chain cX7_chain 3 (some .int) :: bg_L
theorem hd7_chain : yX7_chain.cls = RX7 ∧ yX7_chain.cls ≠ "java/lang/invoke/MethodHandle" ∧ yX7_chain.cls ≠ "java/lang/invoke/VarHandle" ∧ (parseMethodDescriptor yX7_chain.desc).map (fun d => d.parameters.length) = some 2 := by decide +kernel
abbrev RM7_chain : Room := { frames := 2, cells := 0, slots := 0, locals := 47 }
def wm7_emptyIn : List Cond := .code yX7_emptyIn cX7_emptyIn 3 (some .int) :: bg_L
theorem hd7_emptyIn : yX7_emptyIn.cls = RX7 ∧ yX7_emptyIn.cls ≠ "java/lang/invoke/MethodHandle" ∧ yX7_emptyIn.cls ≠ "java/lang/invoke/VarHandle" ∧ (parseMethodDescriptor yX7_emptyIn.desc).map (fun d => d.parameters.length) = some 1 := by decide +kernel
abbrev RM7_emptyIn : Room := { frames := 4, cells := 0, slots := 0, locals := 95 }
def wm7_purseIn : List Cond := .code yX7_purseIn cX7_purseIn 3 (some .int) :: bg_L
theorem hd7_purseIn : yX7_purseIn.cls = RX7 ∧ yX7_purseIn.cls ≠ "java/lang/invoke/MethodHandle" ∧ yX7_purseIn.cls ≠ "java/lang/invoke/VarHandle" ∧ (parseMethodDescriptor yX7_purseIn.desc).map (fun d => d.parameters.length) = some 2 := by decide +kernel
abbrev RM7_purseIn : Room := { frames := 5, cells := 0, slots := 0, locals := 117 }
def wm7_bestSeed : List Cond := .code yX7_bestSeed cX7_bestSeed 7 (some .int) :: bg_L
theorem hd7_bestSeed : yX7_bestSeed.cls = RX7 ∧ yX7_bestSeed.cls ≠ "java/lang/invoke/MethodHandle" ∧ yX7_bestSeed.cls ≠ "java/lang/invoke/VarHandle" ∧ (parseMethodDescriptor yX7_bestSeed.desc).map (fun d => d.parameters.length) = some 2 := by decide +kernel
abbrev RM7_bestSeed : Room := { frames := 5, cells := 0, slots := 0, locals := 117 }
abbrev RM2_stage : Room := { frames := 3, cells := 0, slots := 0, locals := 64 }
abbrev RM2_stepBack : Room := { frames := 3, cells := 0, slots := 0, locals := 64 }
theorem hd2_stage : yX2_stage.cls = RX2 ∧ yX2_stage.cls ≠ "java/lang/invoke/MethodHandle" ∧ yX2_stage.cls ≠ "java/lang/invoke/VarHandle" ∧ (parseMethodDescriptor yX2_stage.desc).map (fun d => d.parameters.length) = some 1 := by decide +kernel
def wm2_stage : List Cond := .code yX2_stage cX2_stage 3 none :: bg_L
theorem gv_X7_66 : GoodIn bg_L (wsV RX7 66 RX2 yX2_keepStaged wm2_keepStaged) := gb_V wr_234 wr_235 wr_236 wr_17 wr_237
theorem gv_X7_42 : GoodIn bg_L (wsV RX7 42 RX2 yX2_stage wm2_stage) := gb_V wr_196 wr_197 wr_198 wr_17 wr_199
theorem gv_X7_46 : GoodIn bg_L (wsV RX7 46 RX0 yX0_changeSetting wm0_changeSetting) := gb_V wr_218 wr_219 wr_220 wr_12 wr_221
theorem gv_X7_50 : GoodIn bg_L (wsV RX7 50 RX7 yX7_changed wm7_changed) := gb_V wr_230 wr_232 wr_0 wr_11 wr_233
theorem gv_X7_54 : GoodIn bg_L (wsV RX7 54 RX0 yX0_addPlayer wm0_addPlayer) := gb_V wr_245 wr_246 wr_247 wr_12 wr_248
theorem gv_X7_57 : GoodIn bg_L (wsV RX7 57 RX0 yX0_changeDraws wm0_changeDraws) := gb_V wr_253 wr_254 wr_255 wr_12 wr_256
theorem gv_X7_60 : GoodIn bg_L (wsV RX7 60 RX0 yX0_doTurns wm0_doTurns) := gb_V wr_261 wr_262 wr_263 wr_12 wr_264
theorem gv_X7_63 : GoodIn bg_L (wsV RX7 63 RX0 yX0_clearAround wm0_clearAround) := gb_V wr_375 wr_376 wr_377 wr_12 wr_378
theorem gv_X7_69 : GoodIn bg_L (wsV RX7 69 RX0 yX0_hasPlayer wm0_hasPlayer) := gb_V wr_437 wr_380 wr_381 wr_12 wr_382
theorem gv_X7_73 : GoodIn bg_L (wsV RX7 73 RX0 yX0_factOfPlayer wm0_factOfPlayer) := gb_V wr_444 wr_445 wr_446 wr_12 wr_447
theorem gv_X7_76 : GoodIn bg_L (wsV RX7 76 RX0 yX0_factOfSquare wm0_factOfSquare) := gb_V wr_487 wr_488 wr_489 wr_12 wr_490
theorem gv_X7_88 : GoodIn bg_L (wsV RX7 88 RX1 yX1_ageOf wm1_ageOf) := gb_V wr_439 wr_360 wr_361 wr_16 wr_362
theorem gv_X7_83 : GoodIn bg_L (wsV RX7 83 RX1 yX1_coinsOf wm1_coinsOf) := gb_V wr_438 wr_283 wr_284 wr_16 wr_285
theorem gv_X7_91 : GoodIn bg_L (wsV RX7 91 RX0 yX0_describe wm0_describe) := gb_V wr_464 wr_465 wr_466 wr_12 wr_467
theorem gv_X7_95 : GoodIn bg_L (wsV RX7 95 RX3 yX3_length wm3_length) := gb_V wr_499 wr_500 wr_501 wr_18 wr_502
theorem gv_X7_99 : GoodIn bg_L (wsV RX7 99 RX2 yX2_kept wm2_kept) := gb_V wr_503 wr_504 wr_505 wr_17 wr_506
theorem gv_X7_102 : GoodIn bg_L (wsV RX7 102 RX0 yX0_fact wm0_fact) := gb_V wr_507 wr_508 wr_509 wr_12 wr_510
theorem gv_X7_105 : GoodIn bg_L (wsV RX7 105 RX3 yX3_at wm3_at) := gb_V wr_478 wr_479 wr_480 wr_18 wr_481
theorem gv_X7_108 : GoodIn bg_L (wsV RX7 108 RX1 yX1_distance wm1_distance) := gb_V wr_557 wr_388 wr_389 wr_16 wr_390
theorem gv_X7_114 : GoodIn bg_L (wsV RX7 114 RX0 yX0_purseOf wm0_purseOf) := gb_V wr_531 wr_532 wr_533 wr_12 wr_534
theorem gv_X7_117 : GoodIn bg_L (wsV RX7 117 RX0 yX0_takeTurn wm0_takeTurn) := gb_V wr_535 wr_270 wr_271 wr_12 wr_272
theorem gv_X7_111 : GoodIn bg_L (wsV RX7 111 RX0 yX0_copyFrom wm0_copyFrom) := gb_V wr_530 wr_201 wr_202 wr_12 wr_203
theorem gv_X7_120 : GoodIn bg_L (wsV RX7 120 RX0 yX0_takeTurns wm0_takeTurns) := gb_V wr_540 wr_541 wr_542 wr_12 wr_543
theorem gv_X7_123 : GoodIn bg_L (wsV RX7 123 RX0 yX0_wealthOf wm0_wealthOf) := gb_V wr_549 wr_550 wr_551 wr_12 wr_552
theorem gv_X2_25 : GoodIn bg_L (wsV RX2 25 RX0 yX0_copyFrom wm0_copyFrom) := gb_V wr_200 wr_201 wr_202 wr_12 wr_203
