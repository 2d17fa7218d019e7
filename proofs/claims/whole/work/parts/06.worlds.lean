abbrev wd_M0 (cI : ClassId) (a : Nat → Nat) (X : Nat → Int32) (S : (Nat → Int32)) : va_W := [(a 0, .inr (7, [.ref (a 1), .ref (a 2), .ref (a 3), .int (X 0), .ref (a 4), .ref (a 5), .ref (a 6), .int (X 1), .int (X 2), .int (X 3), .int (X 4), .ref (a 7), .int (X 5), .ref (a 8), .int (X 6), .int (X 7), .int (X 8)])), (a 1, .inl (cI, (107, .inl S)))]
abbrev wd_M (cI : ClassId) (a : Nat → Nat) (S : ms_T) : va_W := [(a 0, .inr (7, [.ref (a 1), .ref (a 2), .ref (a 3), .int (S 8 0), .ref (a 4), .ref (a 5), .ref (a 6), .int (S 8 1), .int (S 8 2), .int (S 8 3), .int (S 8 4), .ref (a 7), .int (S 8 5), .ref (a 8), .int (S 8 6), .int (S 8 7), .int (S 8 8)])), (a 1, .inl (cI, (107, .inl (S 0)))), (a 2, .inl (cI, (107, .inl (S 1)))), (a 3, .inl (cI, (642, .inl (S 2)))), (a 4, .inl (cI, (214, .inl (S 3)))), (a 5, .inl (cI, (2, .inl (S 4)))), (a 6, .inl (cI, (80, .inl (S 5)))), (a 7, .inl (cI, (4, .inl (S 6)))), (a 8, .inl (cI, (4, .inl (S 7))))]
abbrev wd_MV (cI : ClassId) (a : Nat → Nat) (z : Nat) (g : Nat) (F : Nat → Int32) (S : (Nat → Int32)) : va_W := [(a 0, .inl (cI, (z, .inl F))), (a 1, .inl (cI, (g, .inl S)))]
abbrev wd_R (cI : ClassId) (a : Nat → Nat) (v : Int32) (z : Nat) (S : (Nat → Int32)) : va_W := [(a 0, .inr (5, [.ref (a 1), .int v])), (a 1, .inl (cI, (z, .inl S)))]
abbrev wd_RR (cI : ClassId) (a : Nat → Nat) (v : Int32) (w : Int32) (z : Nat) (F : Nat → Int32) (S : (Nat → Int32)) : va_W := [(a 0, .inr (5, [.ref (a 1), .int v])), (a 1, .inl (cI, (z, .inl S))), (a 2, .inr (5, [.ref (a 3), .int w])), (a 3, .inl (cI, (z, .inl F)))]
abbrev wd_O (cI : ClassId) (a : Nat → Nat) (S : ms_T) : va_W := [(a 0, .inr (4, [.ref (a 1), .ref (a 3)])), (a 1, .inr (5, [.ref (a 2), .int (-6)])), (a 2, .inl (cI, (20, .inl (S 0)))), (a 3, .inr (5, [.ref (a 4), .int (-6)])), (a 4, .inl (cI, (20, .inl (S 1))))]
abbrev wd_D (cI : ClassId) (a : Nat → Nat) (S : ms_T) : va_W := [(a 0, .inr (1, [.ref (a 1), .ref (a 3), .ref (a 5)])), (a 1, .inr (5, [.ref (a 2), .int 0])), (a 2, .inl (cI, (16, .inl (S 0)))), (a 3, .inr (5, [.ref (a 4), .int (-6)])), (a 4, .inl (cI, (16, .inl (S 1)))), (a 5, .inr (5, [.ref (a 6), .int (-6)])), (a 6, .inl (cI, (5, .inl (S 2))))]
abbrev wd_L (cI : ClassId) (a : Nat → Nat) (g : Nat) (S : ms_T) : va_W := [(a 0, .inr (3, [.ref (a 1), .int (nI g), .int (S 1 0)])), (a 1, .inr (5, [.ref (a 2), .int (-1)])), (a 2, .inl (cI, (g, .inl (S 0))))]
abbrev wd_B (cI : ClassId) (a : Nat → Nat) (S : ms_T) : va_W := [(a 0, .inr (0, [.ref (a 1), .ref (a 6), .ref (a 13), .ref (a 15), .ref (a 17), .ref (a 19), .ref (a 21), .ref (a 23), .ref (a 25), .int (S 12 0), .int (S 12 1), .int (S 12 2), .int (S 12 3), .int (S 12 4), .int (S 12 5)])), (a 1, .inr (4, [.ref (a 2), .ref (a 4)])), (a 2, .inr (5, [.ref (a 3), .int (-6)])), (a 3, .inl (cI, (20, .inl (S 0)))), (a 4, .inr (5, [.ref (a 5), .int (-6)])), (a 5, .inl (cI, (20, .inl (S 1)))), (a 6, .inr (1, [.ref (a 7), .ref (a 9), .ref (a 11)])), (a 7, .inr (5, [.ref (a 8), .int 0])), (a 8, .inl (cI, (16, .inl (S 2)))), (a 9, .inr (5, [.ref (a 10), .int (-6)])), (a 10, .inl (cI, (16, .inl (S 3)))), (a 11, .inr (5, [.ref (a 12), .int (-6)])), (a 12, .inl (cI, (5, .inl (S 4)))), (a 13, .inr (5, [.ref (a 14), .int 0])), (a 14, .inl (cI, (5, .inl (S 5)))), (a 15, .inr (5, [.ref (a 16), .int 0])), (a 16, .inl (cI, (4, .inl (S 6)))), (a 17, .inr (5, [.ref (a 18), .int 0])), (a 18, .inl (cI, (4, .inl (S 7)))), (a 19, .inr (5, [.ref (a 20), .int 0])), (a 20, .inl (cI, (4, .inl (S 8)))), (a 21, .inr (5, [.ref (a 22), .int 0])), (a 22, .inl (cI, (4, .inl (S 9)))), (a 23, .inr (5, [.ref (a 24), .int 0])), (a 24, .inl (cI, (4, .inl (S 10)))), (a 25, .inr (5, [.ref (a 26), .int 0])), (a 26, .inl (cI, (4, .inl (S 11))))]
abbrev wd_BB (cI : ClassId) (a : Nat → Nat) (Z : ms_T) (S : ms_T) : va_W := [(a 0, .inr (0, [.ref (a 1), .ref (a 6), .ref (a 13), .ref (a 15), .ref (a 17), .ref (a 19), .ref (a 21), .ref (a 23), .ref (a 25), .int (S 12 0), .int (S 12 1), .int (S 12 2), .int (S 12 3), .int (S 12 4), .int (S 12 5)])), (a 1, .inr (4, [.ref (a 2), .ref (a 4)])), (a 2, .inr (5, [.ref (a 3), .int (-6)])), (a 3, .inl (cI, (20, .inl (S 0)))), (a 4, .inr (5, [.ref (a 5), .int (-6)])), (a 5, .inl (cI, (20, .inl (S 1)))), (a 6, .inr (1, [.ref (a 7), .ref (a 9), .ref (a 11)])), (a 7, .inr (5, [.ref (a 8), .int 0])), (a 8, .inl (cI, (16, .inl (S 2)))), (a 9, .inr (5, [.ref (a 10), .int (-6)])), (a 10, .inl (cI, (16, .inl (S 3)))), (a 11, .inr (5, [.ref (a 12), .int (-6)])), (a 12, .inl (cI, (5, .inl (S 4)))), (a 13, .inr (5, [.ref (a 14), .int 0])), (a 14, .inl (cI, (5, .inl (S 5)))), (a 15, .inr (5, [.ref (a 16), .int 0])), (a 16, .inl (cI, (4, .inl (S 6)))), (a 17, .inr (5, [.ref (a 18), .int 0])), (a 18, .inl (cI, (4, .inl (S 7)))), (a 19, .inr (5, [.ref (a 20), .int 0])), (a 20, .inl (cI, (4, .inl (S 8)))), (a 21, .inr (5, [.ref (a 22), .int 0])), (a 22, .inl (cI, (4, .inl (S 9)))), (a 23, .inr (5, [.ref (a 24), .int 0])), (a 24, .inl (cI, (4, .inl (S 10)))), (a 25, .inr (5, [.ref (a 26), .int 0])), (a 26, .inl (cI, (4, .inl (S 11)))), (a 27, .inr (0, [.ref (a 28), .ref (a 33), .ref (a 40), .ref (a 42), .ref (a 44), .ref (a 46), .ref (a 48), .ref (a 50), .ref (a 52), .int ((Z 12) 0), .int ((Z 12) 1), .int ((Z 12) 2), .int ((Z 12) 3), .int ((Z 12) 4), .int ((Z 12) 5)])), (a 28, .inr (4, [.ref (a 29), .ref (a 31)])), (a 29, .inr (5, [.ref (a 30), .int (-6)])), (a 30, .inl (cI, (20, .inl (Z 0)))), (a 31, .inr (5, [.ref (a 32), .int (-6)])), (a 32, .inl (cI, (20, .inl (Z 1)))), (a 33, .inr (1, [.ref (a 34), .ref (a 36), .ref (a 38)])), (a 34, .inr (5, [.ref (a 35), .int 0])), (a 35, .inl (cI, (16, .inl (Z 2)))), (a 36, .inr (5, [.ref (a 37), .int (-6)])), (a 37, .inl (cI, (16, .inl (Z 3)))), (a 38, .inr (5, [.ref (a 39), .int (-6)])), (a 39, .inl (cI, (5, .inl (Z 4)))), (a 40, .inr (5, [.ref (a 41), .int 0])), (a 41, .inl (cI, (5, .inl (Z 5)))), (a 42, .inr (5, [.ref (a 43), .int 0])), (a 43, .inl (cI, (4, .inl (Z 6)))), (a 44, .inr (5, [.ref (a 45), .int 0])), (a 45, .inl (cI, (4, .inl (Z 7)))), (a 46, .inr (5, [.ref (a 47), .int 0])), (a 47, .inl (cI, (4, .inl (Z 8)))), (a 48, .inr (5, [.ref (a 49), .int 0])), (a 49, .inl (cI, (4, .inl (Z 9)))), (a 50, .inr (5, [.ref (a 51), .int 0])), (a 51, .inl (cI, (4, .inl (Z 10)))), (a 52, .inr (5, [.ref (a 53), .int 0])), (a 53, .inl (cI, (4, .inl (Z 11))))]
abbrev wd_BL (cI : ClassId) (a : Nat → Nat) (g : Nat) (S : ms_T) : va_W := [(a 0, .inr (0, [.ref (a 1), .ref (a 6), .ref (a 13), .ref (a 15), .ref (a 17), .ref (a 19), .ref (a 21), .ref (a 23), .ref (a 25), .int (S 12 0), .int (S 12 1), .int (S 12 2), .int (S 12 3), .int (S 12 4), .int (S 12 5)])), (a 1, .inr (4, [.ref (a 2), .ref (a 4)])), (a 2, .inr (5, [.ref (a 3), .int (-6)])), (a 3, .inl (cI, (20, .inl (S 0)))), (a 4, .inr (5, [.ref (a 5), .int (-6)])), (a 5, .inl (cI, (20, .inl (S 1)))), (a 6, .inr (1, [.ref (a 7), .ref (a 9), .ref (a 11)])), (a 7, .inr (5, [.ref (a 8), .int 0])), (a 8, .inl (cI, (16, .inl (S 2)))), (a 9, .inr (5, [.ref (a 10), .int (-6)])), (a 10, .inl (cI, (16, .inl (S 3)))), (a 11, .inr (5, [.ref (a 12), .int (-6)])), (a 12, .inl (cI, (5, .inl (S 4)))), (a 13, .inr (5, [.ref (a 14), .int 0])), (a 14, .inl (cI, (5, .inl (S 5)))), (a 15, .inr (5, [.ref (a 16), .int 0])), (a 16, .inl (cI, (4, .inl (S 6)))), (a 17, .inr (5, [.ref (a 18), .int 0])), (a 18, .inl (cI, (4, .inl (S 7)))), (a 19, .inr (5, [.ref (a 20), .int 0])), (a 20, .inl (cI, (4, .inl (S 8)))), (a 21, .inr (5, [.ref (a 22), .int 0])), (a 22, .inl (cI, (4, .inl (S 9)))), (a 23, .inr (5, [.ref (a 24), .int 0])), (a 24, .inl (cI, (4, .inl (S 10)))), (a 25, .inr (5, [.ref (a 26), .int 0])), (a 26, .inl (cI, (4, .inl (S 11)))), (a 27, .inr (3, [.ref (a 28), .int (nI g), .int (S 14 0)])), (a 28, .inr (5, [.ref (a 29), .int (-1)])), (a 29, .inl (cI, (g, .inl (S 13))))]
abbrev wd_DD (cI : ClassId) (a : Nat → Nat) (Z : ms_T) (S : ms_T) : va_W := [(a 0, .inr (1, [.ref (a 1), .ref (a 3), .ref (a 5)])), (a 1, .inr (5, [.ref (a 2), .int 0])), (a 2, .inl (cI, (16, .inl (S 0)))), (a 3, .inr (5, [.ref (a 4), .int (-6)])), (a 4, .inl (cI, (16, .inl (S 1)))), (a 5, .inr (5, [.ref (a 6), .int (-6)])), (a 6, .inl (cI, (5, .inl (S 2)))), (a 7, .inr (1, [.ref (a 8), .ref (a 10), .ref (a 12)])), (a 8, .inr (5, [.ref (a 9), .int 0])), (a 9, .inl (cI, (16, .inl (Z 0)))), (a 10, .inr (5, [.ref (a 11), .int (-6)])), (a 11, .inl (cI, (16, .inl (Z 1)))), (a 12, .inr (5, [.ref (a 13), .int (-6)])), (a 13, .inl (cI, (5, .inl (Z 2))))]
abbrev wd_OO (cI : ClassId) (a : Nat → Nat) (Z : ms_T) (S : ms_T) : va_W := [(a 0, .inr (4, [.ref (a 1), .ref (a 3)])), (a 1, .inr (5, [.ref (a 2), .int (-6)])), (a 2, .inl (cI, (20, .inl (S 0)))), (a 3, .inr (5, [.ref (a 4), .int (-6)])), (a 4, .inl (cI, (20, .inl (S 1)))), (a 5, .inr (4, [.ref (a 6), .ref (a 8)])), (a 6, .inr (5, [.ref (a 7), .int (-6)])), (a 7, .inl (cI, (20, .inl (Z 0)))), (a 8, .inr (5, [.ref (a 9), .int (-6)])), (a 9, .inl (cI, (20, .inl (Z 1))))]
def wm8_within : List Cond := .code yX8_within cX8_within 3 (some .boolean) :: bg_L
theorem hd8_within : yX8_within.cls ≠ "java/lang/invoke/MethodHandle" ∧ yX8_within.cls ≠ "java/lang/invoke/VarHandle" ∧ (parseMethodDescriptor yX8_within.desc).map (fun d => d.parameters.length) = some 3 := by decide +kernel
abbrev RM8_within : Room := { frames := 0, cells := 0, slots := 0, locals := 0 }
def wm8_isSquare : List Cond := .code yX8_isSquare cX8_isSquare 1 (some .boolean) :: bg_L
theorem hd8_isSquare : yX8_isSquare.cls ≠ "java/lang/invoke/MethodHandle" ∧ yX8_isSquare.cls ≠ "java/lang/invoke/VarHandle" ∧ (parseMethodDescriptor yX8_isSquare.desc).map (fun d => d.parameters.length) = some 1 := by decide +kernel
abbrev RM8_isSquare : Room := { frames := 1, cells := 0, slots := 0, locals := 22 }
def wm8_sortOf : List Cond := .code yX8_sortOf cX8_sortOf 1 (some .int) :: bg_L
theorem hd8_sortOf : yX8_sortOf.cls ≠ "java/lang/invoke/MethodHandle" ∧ yX8_sortOf.cls ≠ "java/lang/invoke/VarHandle" ∧ (parseMethodDescriptor yX8_sortOf.desc).map (fun d => d.parameters.length) = some 1 := by decide +kernel
abbrev RM8_sortOf : Room := { frames := 0, cells := 0, slots := 0, locals := 0 }
def wm8_isValue : List Cond := .code yX8_isValue cX8_isValue 2 (some .boolean) :: bg_L
theorem hd8_isValue : yX8_isValue.cls ≠ "java/lang/invoke/MethodHandle" ∧ yX8_isValue.cls ≠ "java/lang/invoke/VarHandle" ∧ (parseMethodDescriptor yX8_isValue.desc).map (fun d => d.parameters.length) = some 2 := by decide +kernel
abbrev RM8_isValue : Room := { frames := 1, cells := 0, slots := 0, locals := 22 }
def wm8_moves : List Cond := .code yX8_moves cX8_moves 5 none :: bg_L
theorem hd8_moves : yX8_moves.cls ≠ "java/lang/invoke/MethodHandle" ∧ yX8_moves.cls ≠ "java/lang/invoke/VarHandle" ∧ (parseMethodDescriptor yX8_moves.desc).map (fun d => d.parameters.length) = some 4 := by decide +kernel
abbrev RM8_moves : Room := { frames := 0, cells := 0, slots := 0, locals := 0 }
def wm8_isPlayer : List Cond := .code yX8_isPlayer cX8_isPlayer 2 (some .boolean) :: bg_L
theorem hd8_isPlayer : yX8_isPlayer.cls = RX8 ∧ yX8_isPlayer.cls ≠ "java/lang/invoke/MethodHandle" ∧ yX8_isPlayer.cls ≠ "java/lang/invoke/VarHandle" ∧ (parseMethodDescriptor yX8_isPlayer.desc).map (fun d => d.parameters.length) = some 1 := by decide +kernel
abbrev RM8_isPlayer : Room := { frames := 1, cells := 0, slots := 0, locals := 22 }
def wm8_playerPart : List Cond := .code yX8_playerPart cX8_playerPart 3 (some .int) :: bg_L
theorem hd8_playerPart : yX8_playerPart.cls = RX8 ∧ yX8_playerPart.cls ≠ "java/lang/invoke/MethodHandle" ∧ yX8_playerPart.cls ≠ "java/lang/invoke/VarHandle" ∧ (parseMethodDescriptor yX8_playerPart.desc).map (fun d => d.parameters.length) = some 2 := by decide +kernel
abbrev RM8_playerPart : Room := { frames := 0, cells := 0, slots := 0, locals := 0 }
def wm8_adds : List Cond := .code yX8_adds cX8_adds 4 none :: bg_L
theorem hd8_adds : yX8_adds.cls = RX8 ∧ yX8_adds.cls ≠ "java/lang/invoke/MethodHandle" ∧ yX8_adds.cls ≠ "java/lang/invoke/VarHandle" ∧ (parseMethodDescriptor yX8_adds.desc).map (fun d => d.parameters.length) = some 3 := by decide +kernel
abbrev RM8_adds : Room := { frames := 0, cells := 0, slots := 0, locals := 0 }
def wm8_debtOf : List Cond := .code yX8_debtOf cX8_debtOf 3 (some .int) :: bg_L
theorem hd8_debtOf : yX8_debtOf.cls = RX8 ∧ yX8_debtOf.cls ≠ "java/lang/invoke/MethodHandle" ∧ yX8_debtOf.cls ≠ "java/lang/invoke/VarHandle" ∧ (parseMethodDescriptor yX8_debtOf.desc).map (fun d => d.parameters.length) = some 2 := by decide +kernel
abbrev RM8_debtOf : Room := { frames := 0, cells := 0, slots := 0, locals := 0 }
def wm8_ageOf : List Cond := .code yX8_ageOf cX8_ageOf 3 (some .int) :: bg_L
theorem hd8_ageOf : yX8_ageOf.cls = RX8 ∧ yX8_ageOf.cls ≠ "java/lang/invoke/MethodHandle" ∧ yX8_ageOf.cls ≠ "java/lang/invoke/VarHandle" ∧ (parseMethodDescriptor yX8_ageOf.desc).map (fun d => d.parameters.length) = some 2 := by decide +kernel
abbrev RM8_ageOf : Room := { frames := 0, cells := 0, slots := 0, locals := 0 }
def wm8_addsDebt : List Cond := .code yX8_addsDebt cX8_addsDebt 5 none :: bg_L
theorem hd8_addsDebt : yX8_addsDebt.cls = RX8 ∧ yX8_addsDebt.cls ≠ "java/lang/invoke/MethodHandle" ∧ yX8_addsDebt.cls ≠ "java/lang/invoke/VarHandle" ∧ (parseMethodDescriptor yX8_addsDebt.desc).map (fun d => d.parameters.length) = some 3 := by decide +kernel
abbrev RM8_addsDebt : Room := { frames := 1, cells := 0, slots := 0, locals := 22 }
def wm8_owns : List Cond := .code yX8_owns cX8_owns 3 (some .boolean) :: bg_L
theorem hd8_owns : yX8_owns.cls = RX8 ∧ yX8_owns.cls ≠ "java/lang/invoke/MethodHandle" ∧ yX8_owns.cls ≠ "java/lang/invoke/VarHandle" ∧ (parseMethodDescriptor yX8_owns.desc).map (fun d => d.parameters.length) = some 2 := by decide +kernel
abbrev RM8_owns : Room := { frames := 0, cells := 0, slots := 0, locals := 0 }
def wm8_ownedBy : List Cond := .code yX8_ownedBy cX8_ownedBy 4 (some .int) :: bg_L
theorem hd8_ownedBy : yX8_ownedBy.cls = RX8 ∧ yX8_ownedBy.cls ≠ "java/lang/invoke/MethodHandle" ∧ yX8_ownedBy.cls ≠ "java/lang/invoke/VarHandle" ∧ (parseMethodDescriptor yX8_ownedBy.desc).map (fun d => d.parameters.length) = some 1 := by decide +kernel
abbrev RM8_ownedBy : Room := { frames := 1, cells := 0, slots := 0, locals := 22 }
def wm8_lowestOf : List Cond := .code yX8_lowestOf cX8_lowestOf 4 (some .int) :: bg_L
theorem hd8_lowestOf : yX8_lowestOf.cls = RX8 ∧ yX8_lowestOf.cls ≠ "java/lang/invoke/MethodHandle" ∧ yX8_lowestOf.cls ≠ "java/lang/invoke/VarHandle" ∧ (parseMethodDescriptor yX8_lowestOf.desc).map (fun d => d.parameters.length) = some 1 := by decide +kernel
abbrev RM8_lowestOf : Room := { frames := 1, cells := 0, slots := 0, locals := 22 }
def wm8_standingAt : List Cond := .code yX8_standingAt cX8_standingAt 4 (some .int) :: bg_L
theorem hd8_standingAt : yX8_standingAt.cls = RX8 ∧ yX8_standingAt.cls ≠ "java/lang/invoke/MethodHandle" ∧ yX8_standingAt.cls ≠ "java/lang/invoke/VarHandle" ∧ (parseMethodDescriptor yX8_standingAt.desc).map (fun d => d.parameters.length) = some 1 := by decide +kernel
abbrev RM8_standingAt : Room := { frames := 1, cells := 0, slots := 0, locals := 22 }
def wm8_tollOf : List Cond := .code yX8_tollOf cX8_tollOf 5 (some .int) :: bg_L
theorem hd8_tollOf : yX8_tollOf.cls = RX8 ∧ yX8_tollOf.cls ≠ "java/lang/invoke/MethodHandle" ∧ yX8_tollOf.cls ≠ "java/lang/invoke/VarHandle" ∧ (parseMethodDescriptor yX8_tollOf.desc).map (fun d => d.parameters.length) = some 1 := by decide +kernel
abbrev RM8_tollOf : Room := { frames := 1, cells := 0, slots := 0, locals := 20 }
def wm8_owedBy : List Cond := .code yX8_owedBy cX8_owedBy 4 (some .int) :: bg_L
theorem hd8_owedBy : yX8_owedBy.cls = RX8 ∧ yX8_owedBy.cls ≠ "java/lang/invoke/MethodHandle" ∧ yX8_owedBy.cls ≠ "java/lang/invoke/VarHandle" ∧ (parseMethodDescriptor yX8_owedBy.desc).map (fun d => d.parameters.length) = some 1 := by decide +kernel
abbrev RM8_owedBy : Room := { frames := 1, cells := 0, slots := 0, locals := 22 }
def wm8_owedTo : List Cond := .code yX8_owedTo cX8_owedTo 4 (some .int) :: bg_L
theorem hd8_owedTo : yX8_owedTo.cls = RX8 ∧ yX8_owedTo.cls ≠ "java/lang/invoke/MethodHandle" ∧ yX8_owedTo.cls ≠ "java/lang/invoke/VarHandle" ∧ (parseMethodDescriptor yX8_owedTo.desc).map (fun d => d.parameters.length) = some 1 := by decide +kernel
abbrev RM8_owedTo : Room := { frames := 1, cells := 0, slots := 0, locals := 22 }
def wm8_sumOf : List Cond := .code yX8_sumOf cX8_sumOf 4 (some .int) :: bg_L
theorem hd8_sumOf : yX8_sumOf.cls = RX8 ∧ yX8_sumOf.cls ≠ "java/lang/invoke/MethodHandle" ∧ yX8_sumOf.cls ≠ "java/lang/invoke/VarHandle" ∧ (parseMethodDescriptor yX8_sumOf.desc).map (fun d => d.parameters.length) = some 1 := by decide +kernel
abbrev RM8_sumOf : Room := { frames := 1, cells := 0, slots := 0, locals := 22 }
def wm8_sumOfDebts : List Cond := .code yX8_sumOfDebts cX8_sumOfDebts 3 (some .int) :: bg_L
theorem hd8_sumOfDebts : yX8_sumOfDebts.cls = RX8 ∧ yX8_sumOfDebts.cls ≠ "java/lang/invoke/MethodHandle" ∧ yX8_sumOfDebts.cls ≠ "java/lang/invoke/VarHandle" ∧ (parseMethodDescriptor yX8_sumOfDebts.desc).map (fun d => d.parameters.length) = some 0 := by decide +kernel
abbrev RM8_sumOfDebts : Room := { frames := 2, cells := 0, slots := 0, locals := 45 }
def wm8_debtsMany : List Cond := .code yX8_debtsMany cX8_debtsMany 4 (some .int) :: bg_L
theorem hd8_debtsMany : yX8_debtsMany.cls = RX8 ∧ yX8_debtsMany.cls ≠ "java/lang/invoke/MethodHandle" ∧ yX8_debtsMany.cls ≠ "java/lang/invoke/VarHandle" ∧ (parseMethodDescriptor yX8_debtsMany.desc).map (fun d => d.parameters.length) = some 0 := by decide +kernel
abbrev RM8_debtsMany : Room := { frames := 1, cells := 0, slots := 0, locals := 22 }
def wm8_die : List Cond := .code yX8_die cX8_die 1 (some .int) :: bg_L
theorem hd8_die : yX8_die.cls = RX8 ∧ yX8_die.cls ≠ "java/lang/invoke/MethodHandle" ∧ yX8_die.cls ≠ "java/lang/invoke/VarHandle" ∧ (parseMethodDescriptor yX8_die.desc).map (fun d => d.parameters.length) = some 0 := by decide +kernel
abbrev RM8_die : Room := { frames := 0, cells := 0, slots := 0, locals := 0 }
def wm8_oldest : List Cond := .code yX8_oldest cX8_oldest 6 (some .int) :: bg_L
theorem hd8_oldest : yX8_oldest.cls = RX8 ∧ yX8_oldest.cls ≠ "java/lang/invoke/MethodHandle" ∧ yX8_oldest.cls ≠ "java/lang/invoke/VarHandle" ∧ (parseMethodDescriptor yX8_oldest.desc).map (fun d => d.parameters.length) = some 2 := by decide +kernel
abbrev RM8_oldest : Room := { frames := 1, cells := 0, slots := 0, locals := 22 }
def wm8_pays : List Cond := .code yX8_pays cX8_pays 5 (some .int) :: bg_L
theorem hd8_pays : yX8_pays.cls = RX8 ∧ yX8_pays.cls ≠ "java/lang/invoke/MethodHandle" ∧ yX8_pays.cls ≠ "java/lang/invoke/VarHandle" ∧ (parseMethodDescriptor yX8_pays.desc).map (fun d => d.parameters.length) = some 3 := by decide +kernel
abbrev RM8_pays : Room := { frames := 1, cells := 0, slots := 0, locals := 23 }
def wm8_paysDebts : List Cond := .code yX8_paysDebts cX8_paysDebts 4 none :: bg_L
theorem hd8_paysDebts : yX8_paysDebts.cls = RX8 ∧ yX8_paysDebts.cls ≠ "java/lang/invoke/MethodHandle" ∧ yX8_paysDebts.cls ≠ "java/lang/invoke/VarHandle" ∧ (parseMethodDescriptor yX8_paysDebts.desc).map (fun d => d.parameters.length) = some 1 := by decide +kernel
abbrev RM8_paysDebts : Room := { frames := 2, cells := 0, slots := 0, locals := 47 }
def wm8_goes : List Cond := .code yX8_goes cX8_goes 4 none :: bg_L
theorem hd8_goes : yX8_goes.cls = RX8 ∧ yX8_goes.cls ≠ "java/lang/invoke/MethodHandle" ∧ yX8_goes.cls ≠ "java/lang/invoke/VarHandle" ∧ (parseMethodDescriptor yX8_goes.desc).map (fun d => d.parameters.length) = some 1 := by decide +kernel
abbrev RM8_goes : Room := { frames := 1, cells := 0, slots := 0, locals := 23 }
def wm8_canBeClaimed : List Cond := .code yX8_canBeClaimed cX8_canBeClaimed 2 (some .boolean) :: bg_L
theorem hd8_canBeClaimed : yX8_canBeClaimed.cls = RX8 ∧ yX8_canBeClaimed.cls ≠ "java/lang/invoke/MethodHandle" ∧ yX8_canBeClaimed.cls ≠ "java/lang/invoke/VarHandle" ∧ (parseMethodDescriptor yX8_canBeClaimed.desc).map (fun d => d.parameters.length) = some 1 := by decide +kernel
abbrev RM8_canBeClaimed : Room := { frames := 1, cells := 0, slots := 0, locals := 20 }
def wm8_claims : List Cond := .code yX8_claims cX8_claims 4 none :: bg_L
theorem hd8_claims : yX8_claims.cls = RX8 ∧ yX8_claims.cls ≠ "java/lang/invoke/MethodHandle" ∧ yX8_claims.cls ≠ "java/lang/invoke/VarHandle" ∧ (parseMethodDescriptor yX8_claims.desc).map (fun d => d.parameters.length) = some 2 := by decide +kernel
abbrev RM8_claims : Room := { frames := 1, cells := 0, slots := 0, locals := 23 }
def wm8_paysToll : List Cond := .code yX8_paysToll cX8_paysToll 5 none :: bg_L
theorem hd8_paysToll : yX8_paysToll.cls = RX8 ∧ yX8_paysToll.cls ≠ "java/lang/invoke/MethodHandle" ∧ yX8_paysToll.cls ≠ "java/lang/invoke/VarHandle" ∧ (parseMethodDescriptor yX8_paysToll.desc).map (fun d => d.parameters.length) = some 3 := by decide +kernel
abbrev RM8_paysToll : Room := { frames := 2, cells := 0, slots := 0, locals := 47 }
def wm8_arrives : List Cond := .code yX8_arrives cX8_arrives 5 none :: bg_L
theorem hd8_arrives : yX8_arrives.cls = RX8 ∧ yX8_arrives.cls ≠ "java/lang/invoke/MethodHandle" ∧ yX8_arrives.cls ≠ "java/lang/invoke/VarHandle" ∧ (parseMethodDescriptor yX8_arrives.desc).map (fun d => d.parameters.length) = some 2 := by decide +kernel
abbrev RM8_arrives : Room := { frames := 3, cells := 0, slots := 0, locals := 71 }
def wm8_hands : List Cond := .code yX8_hands cX8_hands 4 none :: bg_L
theorem hd8_hands : yX8_hands.cls = RX8 ∧ yX8_hands.cls ≠ "java/lang/invoke/MethodHandle" ∧ yX8_hands.cls ≠ "java/lang/invoke/VarHandle" ∧ (parseMethodDescriptor yX8_hands.desc).map (fun d => d.parameters.length) = some 3 := by decide +kernel
abbrev RM8_hands : Room := { frames := 0, cells := 0, slots := 0, locals := 0 }
def wm8_growsOlder : List Cond := .code yX8_growsOlder cX8_growsOlder 5 none :: bg_L
theorem hd8_growsOlder : yX8_growsOlder.cls = RX8 ∧ yX8_growsOlder.cls ≠ "java/lang/invoke/MethodHandle" ∧ yX8_growsOlder.cls ≠ "java/lang/invoke/VarHandle" ∧ (parseMethodDescriptor yX8_growsOlder.desc).map (fun d => d.parameters.length) = some 1 := by decide +kernel
abbrev RM8_growsOlder : Room := { frames := 2, cells := 0, slots := 0, locals := 47 }
def wm8_turn : List Cond := .code yX8_turn cX8_turn 2 none :: bg_L
theorem hd8_turn : yX8_turn.cls = RX8 ∧ yX8_turn.cls ≠ "java/lang/invoke/MethodHandle" ∧ yX8_turn.cls ≠ "java/lang/invoke/VarHandle" ∧ (parseMethodDescriptor yX8_turn.desc).map (fun d => d.parameters.length) = some 0 := by decide +kernel
abbrev RM8_turn : Room := { frames := 4, cells := 0, slots := 0, locals := 95 }
def wm8_doTurns : List Cond := .code yX8_doTurns cX8_doTurns 4 (some .int) :: bg_L
theorem hd8_doTurns : yX8_doTurns.cls = RX8 ∧ yX8_doTurns.cls ≠ "java/lang/invoke/MethodHandle" ∧ yX8_doTurns.cls ≠ "java/lang/invoke/VarHandle" ∧ (parseMethodDescriptor yX8_doTurns.desc).map (fun d => d.parameters.length) = some 1 := by decide +kernel
abbrev RM8_doTurns : Room := { frames := 5, cells := 0, slots := 0, locals := 116 }
def wm8_whyNoPlayer : List Cond := .code yX8_whyNoPlayer cX8_whyNoPlayer 2 (some .int) :: bg_L
theorem hd8_whyNoPlayer : yX8_whyNoPlayer.cls = RX8 ∧ yX8_whyNoPlayer.cls ≠ "java/lang/invoke/MethodHandle" ∧ yX8_whyNoPlayer.cls ≠ "java/lang/invoke/VarHandle" ∧ (parseMethodDescriptor yX8_whyNoPlayer.desc).map (fun d => d.parameters.length) = some 1 := by decide +kernel
abbrev RM8_whyNoPlayer : Room := { frames := 1, cells := 0, slots := 0, locals := 22 }
def wm8_comes : List Cond := .code yX8_comes cX8_comes 4 (some .int) :: bg_L
theorem hd8_comes : yX8_comes.cls = RX8 ∧ yX8_comes.cls ≠ "java/lang/invoke/MethodHandle" ∧ yX8_comes.cls ≠ "java/lang/invoke/VarHandle" ∧ (parseMethodDescriptor yX8_comes.desc).map (fun d => d.parameters.length) = some 1 := by decide +kernel
abbrev RM8_comes : Room := { frames := 0, cells := 0, slots := 0, locals := 0 }
def wm8_whyNoTurns : List Cond := .code yX8_whyNoTurns cX8_whyNoTurns 2 (some .int) :: bg_L
theorem hd8_whyNoTurns : yX8_whyNoTurns.cls = RX8 ∧ yX8_whyNoTurns.cls ≠ "java/lang/invoke/MethodHandle" ∧ yX8_whyNoTurns.cls ≠ "java/lang/invoke/VarHandle" ∧ (parseMethodDescriptor yX8_whyNoTurns.desc).map (fun d => d.parameters.length) = some 1 := by decide +kernel
abbrev RM8_whyNoTurns : Room := { frames := 1, cells := 0, slots := 0, locals := 22 }
def wm8_of : List Cond := .code yX8_of cX8_of 3 (some .int) :: bg_L
theorem hd8_of : yX8_of.cls = RX8 ∧ yX8_of.cls ≠ "java/lang/invoke/MethodHandle" ∧ yX8_of.cls ≠ "java/lang/invoke/VarHandle" ∧ (parseMethodDescriptor yX8_of.desc).map (fun d => d.parameters.length) = some 2 := by decide +kernel
abbrev RM8_of : Room := { frames := 2, cells := 0, slots := 0, locals := 45 }
def wm8_ofSquare : List Cond := .code yX8_ofSquare cX8_ofSquare 3 (some .int) :: bg_L
theorem hd8_ofSquare : yX8_ofSquare.cls = RX8 ∧ yX8_ofSquare.cls ≠ "java/lang/invoke/MethodHandle" ∧ yX8_ofSquare.cls ≠ "java/lang/invoke/VarHandle" ∧ (parseMethodDescriptor yX8_ofSquare.desc).map (fun d => d.parameters.length) = some 2 := by decide +kernel
abbrev RM8_ofSquare : Room := { frames := 2, cells := 0, slots := 0, locals := 45 }
def wm8_owes : List Cond := .code yX8_owes cX8_owes 5 (some .int) :: bg_L
theorem hd8_owes : yX8_owes.cls = RX8 ∧ yX8_owes.cls ≠ "java/lang/invoke/MethodHandle" ∧ yX8_owes.cls ≠ "java/lang/invoke/VarHandle" ∧ (parseMethodDescriptor yX8_owes.desc).map (fun d => d.parameters.length) = some 3 := by decide +kernel
abbrev RM8_owes : Room := { frames := 2, cells := 0, slots := 0, locals := 43 }
def wm8_record : List Cond := .code yX8_record cX8_record 2 none :: bg_L
theorem hd8_record : yX8_record.cls = RX8 ∧ yX8_record.cls ≠ "java/lang/invoke/MethodHandle" ∧ yX8_record.cls ≠ "java/lang/invoke/VarHandle" ∧ (parseMethodDescriptor yX8_record.desc).map (fun d => d.parameters.length) = some 0 := by decide +kernel
abbrev RM8_record : Room := { frames := 1, cells := 0, slots := 0, locals := 24 }
def wm8_set : List Cond := .code yX8_set cX8_set 4 (some .int) :: bg_L
theorem hd8_set : yX8_set.cls = RX8 ∧ yX8_set.cls ≠ "java/lang/invoke/MethodHandle" ∧ yX8_set.cls ≠ "java/lang/invoke/VarHandle" ∧ (parseMethodDescriptor yX8_set.desc).map (fun d => d.parameters.length) = some 2 := by decide +kernel
abbrev RM8_set : Room := { frames := 2, cells := 0, slots := 0, locals := 45 }
def wm8_player : List Cond := .code yX8_player cX8_player 3 (some .int) :: bg_L
theorem hd8_player : yX8_player.cls = RX8 ∧ yX8_player.cls ≠ "java/lang/invoke/MethodHandle" ∧ yX8_player.cls ≠ "java/lang/invoke/VarHandle" ∧ (parseMethodDescriptor yX8_player.desc).map (fun d => d.parameters.length) = some 1 := by decide +kernel
abbrev RM8_player : Room := { frames := 2, cells := 0, slots := 0, locals := 45 }
def wm8_seed : List Cond := .code yX8_seed cX8_seed 3 (some .int) :: bg_L
theorem hd8_seed : yX8_seed.cls = RX8 ∧ yX8_seed.cls ≠ "java/lang/invoke/MethodHandle" ∧ yX8_seed.cls ≠ "java/lang/invoke/VarHandle" ∧ (parseMethodDescriptor yX8_seed.desc).map (fun d => d.parameters.length) = some 1 := by decide +kernel
abbrev RM8_seed : Room := { frames := 2, cells := 0, slots := 0, locals := 45 }
def wm8_go : List Cond := .code yX8_go cX8_go 3 (some .int) :: bg_L
theorem hd8_go : yX8_go.cls = RX8 ∧ yX8_go.cls ≠ "java/lang/invoke/MethodHandle" ∧ yX8_go.cls ≠ "java/lang/invoke/VarHandle" ∧ (parseMethodDescriptor yX8_go.desc).map (fun d => d.parameters.length) = some 1 := by decide +kernel
abbrev RM8_go : Room := { frames := 6, cells := 0, slots := 0, locals := 139 }
def wm8_takesRing : List Cond := .code yX8_takesRing cX8_takesRing 6 none :: bg_L
theorem hd8_takesRing : yX8_takesRing.cls = RX8 ∧ yX8_takesRing.cls ≠ "java/lang/invoke/MethodHandle" ∧ yX8_takesRing.cls ≠ "java/lang/invoke/VarHandle" ∧ (parseMethodDescriptor yX8_takesRing.desc).map (fun d => d.parameters.length) = some 5 := by decide +kernel
abbrev RM8_takesRing : Room := { frames := 0, cells := 0, slots := 0, locals := 0 }
def wm8_findRing : List Cond := .code yX8_findRing cX8_findRing 8 (some .boolean) :: bg_L
theorem hd8_findRing : yX8_findRing.cls = RX8 ∧ yX8_findRing.cls ≠ "java/lang/invoke/MethodHandle" ∧ yX8_findRing.cls ≠ "java/lang/invoke/VarHandle" ∧ (parseMethodDescriptor yX8_findRing.desc).map (fun d => d.parameters.length) = some 2 := by decide +kernel
abbrev RM8_findRing : Room := { frames := 1, cells := 0, slots := 0, locals := 25 }
def wm8_clearsRing : List Cond := .code yX8_clearsRing cX8_clearsRing 4 (some .int) :: bg_L
theorem hd8_clearsRing : yX8_clearsRing.cls = RX8 ∧ yX8_clearsRing.cls ≠ "java/lang/invoke/MethodHandle" ∧ yX8_clearsRing.cls ≠ "java/lang/invoke/VarHandle" ∧ (parseMethodDescriptor yX8_clearsRing.desc).map (fun d => d.parameters.length) = some 0 := by decide +kernel
abbrev RM8_clearsRing : Room := { frames := 2, cells := 0, slots := 0, locals := 46 }
def wm8_clears : List Cond := .code yX8_clears cX8_clears 3 (some .int) :: bg_L
theorem hd8_clears : yX8_clears.cls = RX8 ∧ yX8_clears.cls ≠ "java/lang/invoke/MethodHandle" ∧ yX8_clears.cls ≠ "java/lang/invoke/VarHandle" ∧ (parseMethodDescriptor yX8_clears.desc).map (fun d => d.parameters.length) = some 1 := by decide +kernel
abbrev RM8_clears : Room := { frames := 3, cells := 0, slots := 0, locals := 69 }
def wm8_clear : List Cond := .code yX8_clear cX8_clear 2 (some .int) :: bg_L
theorem hd8_clear : yX8_clear.cls = RX8 ∧ yX8_clear.cls ≠ "java/lang/invoke/MethodHandle" ∧ yX8_clear.cls ≠ "java/lang/invoke/VarHandle" ∧ (parseMethodDescriptor yX8_clear.desc).map (fun d => d.parameters.length) = some 1 := by decide +kernel
abbrev RM8_clear : Room := { frames := 4, cells := 0, slots := 0, locals := 91 }
def wm8_writesSign : List Cond := .code yX8_writesSign cX8_writesSign 2 none :: bg_L
theorem hd8_writesSign : yX8_writesSign.cls = RX8 ∧ yX8_writesSign.cls ≠ "java/lang/invoke/MethodHandle" ∧ yX8_writesSign.cls ≠ "java/lang/invoke/VarHandle" ∧ (parseMethodDescriptor yX8_writesSign.desc).map (fun d => d.parameters.length) = some 1 := by decide +kernel
abbrev RM8_writesSign : Room := { frames := 0, cells := 0, slots := 0, locals := 0 }
def wm8_writesSquare : List Cond := .code yX8_writesSquare cX8_writesSquare 3 none :: bg_L
theorem hd8_writesSquare : yX8_writesSquare.cls = RX8 ∧ yX8_writesSquare.cls ≠ "java/lang/invoke/MethodHandle" ∧ yX8_writesSquare.cls ≠ "java/lang/invoke/VarHandle" ∧ (parseMethodDescriptor yX8_writesSquare.desc).map (fun d => d.parameters.length) = some 1 := by decide +kernel
abbrev RM8_writesSquare : Room := { frames := 1, cells := 0, slots := 0, locals := 22 }
def wm8_writes : List Cond := .code yX8_writes cX8_writes 3 none :: bg_L
theorem hd8_writes : yX8_writes.cls = RX8 ∧ yX8_writes.cls ≠ "java/lang/invoke/MethodHandle" ∧ yX8_writes.cls ≠ "java/lang/invoke/VarHandle" ∧ (parseMethodDescriptor yX8_writes.desc).map (fun d => d.parameters.length) = some 1 := by decide +kernel
abbrev RM8_writes : Room := { frames := 2, cells := 0, slots := 0, locals := 44 }
def wm8_count : List Cond := .code yX8_count cX8_count 2 (some .int) :: bg_L
theorem hd8_count : yX8_count.cls = RX8 ∧ yX8_count.cls ≠ "java/lang/invoke/MethodHandle" ∧ yX8_count.cls ≠ "java/lang/invoke/VarHandle" ∧ (parseMethodDescriptor yX8_count.desc).map (fun d => d.parameters.length) = some 1 := by decide +kernel
abbrev RM8_count : Room := { frames := 3, cells := 0, slots := 0, locals := 67 }
def wm8_sign : List Cond := .code yX8_sign cX8_sign 2 (some .int) :: bg_L
theorem hd8_sign : yX8_sign.cls = RX8 ∧ yX8_sign.cls ≠ "java/lang/invoke/MethodHandle" ∧ yX8_sign.cls ≠ "java/lang/invoke/VarHandle" ∧ (parseMethodDescriptor yX8_sign.desc).map (fun d => d.parameters.length) = some 1 := by decide +kernel
abbrev RM8_sign : Room := { frames := 3, cells := 0, slots := 0, locals := 66 }
def wm8_chain : List Cond := .code yX8_chain cX8_chain 7 (some .int) :: bg_L
theorem hd8_chain : yX8_chain.cls = RX8 ∧ yX8_chain.cls ≠ "java/lang/invoke/MethodHandle" ∧ yX8_chain.cls ≠ "java/lang/invoke/VarHandle" ∧ (parseMethodDescriptor yX8_chain.desc).map (fun d => d.parameters.length) = some 2 := by decide +kernel
abbrev RM8_chain : Room := { frames := 2, cells := 0, slots := 0, locals := 43 }
def wm8_emptyIn : List Cond := .code yX8_emptyIn cX8_emptyIn 4 (some .int) :: bg_L
theorem hd8_emptyIn : yX8_emptyIn.cls = RX8 ∧ yX8_emptyIn.cls ≠ "java/lang/invoke/MethodHandle" ∧ yX8_emptyIn.cls ≠ "java/lang/invoke/VarHandle" ∧ (parseMethodDescriptor yX8_emptyIn.desc).map (fun d => d.parameters.length) = some 1 := by decide +kernel
abbrev RM8_emptyIn : Room := { frames := 5, cells := 0, slots := 0, locals := 116 }
def wm8_purseIn : List Cond := .code yX8_purseIn cX8_purseIn 4 (some .int) :: bg_L
theorem hd8_purseIn : yX8_purseIn.cls = RX8 ∧ yX8_purseIn.cls ≠ "java/lang/invoke/MethodHandle" ∧ yX8_purseIn.cls ≠ "java/lang/invoke/VarHandle" ∧ (parseMethodDescriptor yX8_purseIn.desc).map (fun d => d.parameters.length) = some 2 := by decide +kernel
abbrev RM8_purseIn : Room := { frames := 6, cells := 0, slots := 0, locals := 139 }
def wm8_bestSeed : List Cond := .code yX8_bestSeed cX8_bestSeed 8 (some .int) :: bg_L
theorem hd8_bestSeed : yX8_bestSeed.cls = RX8 ∧ yX8_bestSeed.cls ≠ "java/lang/invoke/MethodHandle" ∧ yX8_bestSeed.cls ≠ "java/lang/invoke/VarHandle" ∧ (parseMethodDescriptor yX8_bestSeed.desc).map (fun d => d.parameters.length) = some 2 := by decide +kernel
abbrev RM8_bestSeed : Room := { frames := 6, cells := 0, slots := 0, locals := 139 }
def wm8_put : List Cond := .code yX8_put cX8_put 8 (some .int) :: bg_L
theorem hd8_put : yX8_put.cls = RX8 ∧ yX8_put.cls ≠ "java/lang/invoke/MethodHandle" ∧ yX8_put.cls ≠ "java/lang/invoke/VarHandle" ∧ (parseMethodDescriptor yX8_put.desc).map (fun d => d.parameters.length) = some 1 := by decide +kernel
abbrev RM8_put : Room := { frames := 1, cells := 0, slots := 0, locals := 22 }
def wm8_wipe : List Cond := .code yX8_wipe cX8_wipe 2 (some .int) :: bg_L
theorem hd8_wipe : yX8_wipe.cls = RX8 ∧ yX8_wipe.cls ≠ "java/lang/invoke/MethodHandle" ∧ yX8_wipe.cls ≠ "java/lang/invoke/VarHandle" ∧ (parseMethodDescriptor yX8_wipe.desc).map (fun d => d.parameters.length) = some 0 := by decide +kernel
abbrev RM8_wipe : Room := { frames := 0, cells := 0, slots := 0, locals := 0 }
def wm8_character : List Cond := .code yX8_character cX8_character 2 (some .int) :: bg_L
theorem hd8_character : yX8_character.cls = RX8 ∧ yX8_character.cls ≠ "java/lang/invoke/MethodHandle" ∧ yX8_character.cls ≠ "java/lang/invoke/VarHandle" ∧ (parseMethodDescriptor yX8_character.desc).map (fun d => d.parameters.length) = some 1 := by decide +kernel
abbrev RM8_character : Room := { frames := 0, cells := 0, slots := 0, locals := 0 }
def wm8_isNext : List Cond := .code yX8_isNext cX8_isNext 3 (some .boolean) :: bg_L
theorem hd8_isNext : yX8_isNext.cls = RX8 ∧ yX8_isNext.cls ≠ "java/lang/invoke/MethodHandle" ∧ yX8_isNext.cls ≠ "java/lang/invoke/VarHandle" ∧ (parseMethodDescriptor yX8_isNext.desc).map (fun d => d.parameters.length) = some 1 := by decide +kernel
abbrev RM8_isNext : Room := { frames := 1, cells := 0, slots := 0, locals := 21 }
def wm8_isDigit : List Cond := .code yX8_isDigit cX8_isDigit 1 (some .boolean) :: bg_L
theorem hd8_isDigit : yX8_isDigit.cls = RX8 ∧ yX8_isDigit.cls ≠ "java/lang/invoke/MethodHandle" ∧ yX8_isDigit.cls ≠ "java/lang/invoke/VarHandle" ∧ (parseMethodDescriptor yX8_isDigit.desc).map (fun d => d.parameters.length) = some 0 := by decide +kernel
abbrev RM8_isDigit : Room := { frames := 1, cells := 0, slots := 0, locals := 22 }
def wm8_takesNumber : List Cond := .code yX8_takesNumber cX8_takesNumber 2 (some .boolean) :: bg_L
theorem hd8_takesNumber : yX8_takesNumber.cls = RX8 ∧ yX8_takesNumber.cls ≠ "java/lang/invoke/MethodHandle" ∧ yX8_takesNumber.cls ≠ "java/lang/invoke/VarHandle" ∧ (parseMethodDescriptor yX8_takesNumber.desc).map (fun d => d.parameters.length) = some 1 := by decide +kernel
abbrev RM8_takesNumber : Room := { frames := 2, cells := 0, slots := 0, locals := 42 }
def wm8_readsOrder : List Cond := .code yX8_readsOrder cX8_readsOrder 1 (some .boolean) :: bg_L
theorem hd8_readsOrder : yX8_readsOrder.cls = RX8 ∧ yX8_readsOrder.cls ≠ "java/lang/invoke/MethodHandle" ∧ yX8_readsOrder.cls ≠ "java/lang/invoke/VarHandle" ∧ (parseMethodDescriptor yX8_readsOrder.desc).map (fun d => d.parameters.length) = some 0 := by decide +kernel
abbrev RM8_readsOrder : Room := { frames := 3, cells := 0, slots := 0, locals := 63 }
def wm8_findFault : List Cond := .code yX8_findFault cX8_findFault 1 (some .int) :: bg_L
theorem hd8_findFault : yX8_findFault.cls = RX8 ∧ yX8_findFault.cls ≠ "java/lang/invoke/MethodHandle" ∧ yX8_findFault.cls ≠ "java/lang/invoke/VarHandle" ∧ (parseMethodDescriptor yX8_findFault.desc).map (fun d => d.parameters.length) = some 0 := by decide +kernel
abbrev RM8_findFault : Room := { frames := 4, cells := 0, slots := 0, locals := 83 }
def wm8_fault : List Cond := .code yX8_fault cX8_fault 1 (some .int) :: bg_L
theorem hd8_fault : yX8_fault.cls = RX8 ∧ yX8_fault.cls ≠ "java/lang/invoke/MethodHandle" ∧ yX8_fault.cls ≠ "java/lang/invoke/VarHandle" ∧ (parseMethodDescriptor yX8_fault.desc).map (fun d => d.parameters.length) = some 0 := by decide +kernel
abbrev RM8_fault : Room := { frames := 5, cells := 0, slots := 0, locals := 103 }
def wm8_whyNotDone : List Cond := .code yX8_whyNotDone cX8_whyNotDone 1 (some .int) :: bg_L
theorem hd8_whyNotDone : yX8_whyNotDone.cls = RX8 ∧ yX8_whyNotDone.cls ≠ "java/lang/invoke/MethodHandle" ∧ yX8_whyNotDone.cls ≠ "java/lang/invoke/VarHandle" ∧ (parseMethodDescriptor yX8_whyNotDone.desc).map (fun d => d.parameters.length) = some 0 := by decide +kernel
abbrev RM8_whyNotDone : Room := { frames := 2, cells := 0, slots := 0, locals := 43 }
def wm8_does : List Cond := .code yX8_does cX8_does 1 none :: bg_L
theorem hd8_does : yX8_does.cls = RX8 ∧ yX8_does.cls ≠ "java/lang/invoke/MethodHandle" ∧ yX8_does.cls ≠ "java/lang/invoke/VarHandle" ∧ (parseMethodDescriptor yX8_does.desc).map (fun d => d.parameters.length) = some 0 := by decide +kernel
abbrev RM8_does : Room := { frames := 6, cells := 0, slots := 0, locals := 139 }
def wm8_carryOut : List Cond := .code yX8_carryOut cX8_carryOut 3 (some .int) :: bg_L
theorem hd8_carryOut : yX8_carryOut.cls = RX8 ∧ yX8_carryOut.cls ≠ "java/lang/invoke/MethodHandle" ∧ yX8_carryOut.cls ≠ "java/lang/invoke/VarHandle" ∧ (parseMethodDescriptor yX8_carryOut.desc).map (fun d => d.parameters.length) = some 0 := by decide +kernel
abbrev RM8_carryOut : Room := { frames := 7, cells := 0, slots := 0, locals := 159 }
def wm8_undo : List Cond := .code yX8_undo cX8_undo 1 (some .int) :: bg_L
theorem hd8_undo : yX8_undo.cls = RX8 ∧ yX8_undo.cls ≠ "java/lang/invoke/MethodHandle" ∧ yX8_undo.cls ≠ "java/lang/invoke/VarHandle" ∧ (parseMethodDescriptor yX8_undo.desc).map (fun d => d.parameters.length) = some 0 := by decide +kernel
abbrev RM8_undo : Room := { frames := 1, cells := 0, slots := 0, locals := 24 }
def wm8_save : List Cond := .code yX8_save cX8_save 2 (some .int) :: bg_L
theorem hd8_save : yX8_save.cls = RX8 ∧ yX8_save.cls ≠ "java/lang/invoke/MethodHandle" ∧ yX8_save.cls ≠ "java/lang/invoke/VarHandle" ∧ (parseMethodDescriptor yX8_save.desc).map (fun d => d.parameters.length) = some 1 := by decide +kernel
abbrev RM8_save : Room := { frames := 1, cells := 0, slots := 0, locals := 24 }
def wm8_restore : List Cond := .code yX8_restore cX8_restore 2 (some .int) :: bg_L
theorem hd8_restore : yX8_restore.cls = RX8 ∧ yX8_restore.cls ≠ "java/lang/invoke/MethodHandle" ∧ yX8_restore.cls ≠ "java/lang/invoke/VarHandle" ∧ (parseMethodDescriptor yX8_restore.desc).map (fun d => d.parameters.length) = some 1 := by decide +kernel
abbrev RM8_restore : Room := { frames := 2, cells := 0, slots := 0, locals := 45 }
def wm6_at : List Cond := .code yX6_at cX6_at 2 (some .int) :: bg_L
theorem hd6_at : yX6_at.cls = RX6 ∧ yX6_at.cls ≠ "java/lang/invoke/MethodHandle" ∧ yX6_at.cls ≠ "java/lang/invoke/VarHandle" ∧ (parseMethodDescriptor yX6_at.desc).map (fun d => d.parameters.length) = some 1 := by decide +kernel
abbrev RM6_at : Room := { frames := 0, cells := 0, slots := 0, locals := 0 }
def wm6_write : List Cond := .code yX6_write cX6_write 3 none :: bg_L
theorem hd6_write : yX6_write.cls = RX6 ∧ yX6_write.cls ≠ "java/lang/invoke/MethodHandle" ∧ yX6_write.cls ≠ "java/lang/invoke/VarHandle" ∧ (parseMethodDescriptor yX6_write.desc).map (fun d => d.parameters.length) = some 2 := by decide +kernel
abbrev RM6_write : Room := { frames := 0, cells := 0, slots := 0, locals := 0 }
def wm6_add : List Cond := .code yX6_add cX6_add 3 none :: bg_L
theorem hd6_add : yX6_add.cls = RX6 ∧ yX6_add.cls ≠ "java/lang/invoke/MethodHandle" ∧ yX6_add.cls ≠ "java/lang/invoke/VarHandle" ∧ (parseMethodDescriptor yX6_add.desc).map (fun d => d.parameters.length) = some 2 := by decide +kernel
abbrev RM6_add : Room := { frames := 0, cells := 0, slots := 0, locals := 0 }
def wm6_sum : List Cond := .code yX6_sum cX6_sum 3 (some .int) :: bg_L
theorem hd6_sum : yX6_sum.cls = RX6 ∧ yX6_sum.cls ≠ "java/lang/invoke/MethodHandle" ∧ yX6_sum.cls ≠ "java/lang/invoke/VarHandle" ∧ (parseMethodDescriptor yX6_sum.desc).map (fun d => d.parameters.length) = some 0 := by decide +kernel
abbrev RM6_sum : Room := { frames := 0, cells := 0, slots := 0, locals := 0 }
def wm6_copyFrom : List Cond := .code yX6_copyFrom cX6_copyFrom 3 none :: bg_L
theorem hd6_copyFrom : yX6_copyFrom.cls = RX6 ∧ yX6_copyFrom.cls ≠ "java/lang/invoke/MethodHandle" ∧ yX6_copyFrom.cls ≠ "java/lang/invoke/VarHandle" ∧ (parseMethodDescriptor yX6_copyFrom.desc).map (fun d => d.parameters.length) = some 1 := by decide +kernel
abbrev RM6_copyFrom : Room := { frames := 0, cells := 0, slots := 0, locals := 0 }
def wm5_sortOf : List Cond := .code yX5_sortOf cX5_sortOf 1 (some .int) :: bg_L
theorem hd5_sortOf : yX5_sortOf.cls ≠ "java/lang/invoke/MethodHandle" ∧ yX5_sortOf.cls ≠ "java/lang/invoke/VarHandle" ∧ (parseMethodDescriptor yX5_sortOf.desc).map (fun d => d.parameters.length) = some 1 := by decide +kernel
abbrev RM5_sortOf : Room := { frames := 0, cells := 0, slots := 0, locals := 0 }
def wm5_firstOwner : List Cond := .code yX5_firstOwner cX5_firstOwner 2 (some .int) :: bg_L
theorem hd5_firstOwner : yX5_firstOwner.cls = RX5 ∧ yX5_firstOwner.cls ≠ "java/lang/invoke/MethodHandle" ∧ yX5_firstOwner.cls ≠ "java/lang/invoke/VarHandle" ∧ (parseMethodDescriptor yX5_firstOwner.desc).map (fun d => d.parameters.length) = some 1 := by decide +kernel
abbrev RM5_firstOwner : Room := { frames := 1, cells := 0, slots := 0, locals := 21 }
def wm5_secondOwner : List Cond := .code yX5_secondOwner cX5_secondOwner 2 (some .int) :: bg_L
theorem hd5_secondOwner : yX5_secondOwner.cls = RX5 ∧ yX5_secondOwner.cls ≠ "java/lang/invoke/MethodHandle" ∧ yX5_secondOwner.cls ≠ "java/lang/invoke/VarHandle" ∧ (parseMethodDescriptor yX5_secondOwner.desc).map (fun d => d.parameters.length) = some 1 := by decide +kernel
abbrev RM5_secondOwner : Room := { frames := 1, cells := 0, slots := 0, locals := 21 }
def wm5_isOwnedBy : List Cond := .code yX5_isOwnedBy cX5_isOwnedBy 3 (some .boolean) :: bg_L
theorem hd5_isOwnedBy : yX5_isOwnedBy.cls = RX5 ∧ yX5_isOwnedBy.cls ≠ "java/lang/invoke/MethodHandle" ∧ yX5_isOwnedBy.cls ≠ "java/lang/invoke/VarHandle" ∧ (parseMethodDescriptor yX5_isOwnedBy.desc).map (fun d => d.parameters.length) = some 2 := by decide +kernel
abbrev RM5_isOwnedBy : Room := { frames := 1, cells := 0, slots := 0, locals := 21 }
def wm5_hasFreePart : List Cond := .code yX5_hasFreePart cX5_hasFreePart 3 (some .boolean) :: bg_L
theorem hd5_hasFreePart : yX5_hasFreePart.cls = RX5 ∧ yX5_hasFreePart.cls ≠ "java/lang/invoke/MethodHandle" ∧ yX5_hasFreePart.cls ≠ "java/lang/invoke/VarHandle" ∧ (parseMethodDescriptor yX5_hasFreePart.desc).map (fun d => d.parameters.length) = some 1 := by decide +kernel
abbrev RM5_hasFreePart : Room := { frames := 1, cells := 0, slots := 0, locals := 21 }
def wm5_giveFreePart : List Cond := .code yX5_giveFreePart cX5_giveFreePart 3 none :: bg_L
theorem hd5_giveFreePart : yX5_giveFreePart.cls = RX5 ∧ yX5_giveFreePart.cls ≠ "java/lang/invoke/MethodHandle" ∧ yX5_giveFreePart.cls ≠ "java/lang/invoke/VarHandle" ∧ (parseMethodDescriptor yX5_giveFreePart.desc).map (fun d => d.parameters.length) = some 2 := by decide +kernel
abbrev RM5_giveFreePart : Room := { frames := 1, cells := 0, slots := 0, locals := 22 }
def wm5_handOn : List Cond := .code yX5_handOn cX5_handOn 6 none :: bg_L
theorem hd5_handOn : yX5_handOn.cls = RX5 ∧ yX5_handOn.cls ≠ "java/lang/invoke/MethodHandle" ∧ yX5_handOn.cls ≠ "java/lang/invoke/VarHandle" ∧ (parseMethodDescriptor yX5_handOn.desc).map (fun d => d.parameters.length) = some 3 := by decide +kernel
abbrev RM5_handOn : Room := { frames := 1, cells := 0, slots := 0, locals := 22 }
def wm5_lowestOf : List Cond := .code yX5_lowestOf cX5_lowestOf 3 (some .int) :: bg_L
theorem hd5_lowestOf : yX5_lowestOf.cls = RX5 ∧ yX5_lowestOf.cls ≠ "java/lang/invoke/MethodHandle" ∧ yX5_lowestOf.cls ≠ "java/lang/invoke/VarHandle" ∧ (parseMethodDescriptor yX5_lowestOf.desc).map (fun d => d.parameters.length) = some 1 := by decide +kernel
abbrev RM5_lowestOf : Room := { frames := 1, cells := 0, slots := 0, locals := 21 }
def wm5_squaresOf : List Cond := .code yX5_squaresOf cX5_squaresOf 4 (some .int) :: bg_L
theorem hd5_squaresOf : yX5_squaresOf.cls = RX5 ∧ yX5_squaresOf.cls ≠ "java/lang/invoke/MethodHandle" ∧ yX5_squaresOf.cls ≠ "java/lang/invoke/VarHandle" ∧ (parseMethodDescriptor yX5_squaresOf.desc).map (fun d => d.parameters.length) = some 1 := by decide +kernel
abbrev RM5_squaresOf : Room := { frames := 1, cells := 0, slots := 0, locals := 21 }
def wm5_toll : List Cond := .code yX5_toll cX5_toll 7 (some .int) :: bg_L
theorem hd5_toll : yX5_toll.cls = RX5 ∧ yX5_toll.cls ≠ "java/lang/invoke/MethodHandle" ∧ yX5_toll.cls ≠ "java/lang/invoke/VarHandle" ∧ (parseMethodDescriptor yX5_toll.desc).map (fun d => d.parameters.length) = some 2 := by decide +kernel
abbrev RM5_toll : Room := { frames := 1, cells := 0, slots := 0, locals := 21 }
def wm5_copyFrom : List Cond := .code yX5_copyFrom cX5_copyFrom 2 none :: bg_L
theorem hd5_copyFrom : yX5_copyFrom.cls = RX5 ∧ yX5_copyFrom.cls ≠ "java/lang/invoke/MethodHandle" ∧ yX5_copyFrom.cls ≠ "java/lang/invoke/VarHandle" ∧ (parseMethodDescriptor yX5_copyFrom.desc).map (fun d => d.parameters.length) = some 1 := by decide +kernel
abbrev RM5_copyFrom : Room := { frames := 1, cells := 0, slots := 0, locals := 22 }
def wm1_coinsOf : List Cond := .code yX1_coinsOf cX1_coinsOf 3 (some .int) :: bg_L
theorem hd1_coinsOf : yX1_coinsOf.cls = RX1 ∧ yX1_coinsOf.cls ≠ "java/lang/invoke/MethodHandle" ∧ yX1_coinsOf.cls ≠ "java/lang/invoke/VarHandle" ∧ (parseMethodDescriptor yX1_coinsOf.desc).map (fun d => d.parameters.length) = some 2 := by decide +kernel
abbrev RM1_coinsOf : Room := { frames := 1, cells := 0, slots := 0, locals := 21 }
def wm1_ageOf : List Cond := .code yX1_ageOf cX1_ageOf 3 (some .int) :: bg_L
theorem hd1_ageOf : yX1_ageOf.cls = RX1 ∧ yX1_ageOf.cls ≠ "java/lang/invoke/MethodHandle" ∧ yX1_ageOf.cls ≠ "java/lang/invoke/VarHandle" ∧ (parseMethodDescriptor yX1_ageOf.desc).map (fun d => d.parameters.length) = some 2 := by decide +kernel
abbrev RM1_ageOf : Room := { frames := 1, cells := 0, slots := 0, locals := 21 }
def wm1_grow : List Cond := .code yX1_grow cX1_grow 5 none :: bg_L
theorem hd1_grow : yX1_grow.cls = RX1 ∧ yX1_grow.cls ≠ "java/lang/invoke/MethodHandle" ∧ yX1_grow.cls ≠ "java/lang/invoke/VarHandle" ∧ (parseMethodDescriptor yX1_grow.desc).map (fun d => d.parameters.length) = some 3 := by decide +kernel
abbrev RM1_grow : Room := { frames := 1, cells := 0, slots := 0, locals := 22 }
def wm1_shrink : List Cond := .code yX1_shrink cX1_shrink 5 none :: bg_L
theorem hd1_shrink : yX1_shrink.cls = RX1 ∧ yX1_shrink.cls ≠ "java/lang/invoke/MethodHandle" ∧ yX1_shrink.cls ≠ "java/lang/invoke/VarHandle" ∧ (parseMethodDescriptor yX1_shrink.desc).map (fun d => d.parameters.length) = some 3 := by decide +kernel
abbrev RM1_shrink : Room := { frames := 1, cells := 0, slots := 0, locals := 22 }
def wm1_makeOlder : List Cond := .code yX1_makeOlder cX1_makeOlder 4 none :: bg_L
theorem hd1_makeOlder : yX1_makeOlder.cls = RX1 ∧ yX1_makeOlder.cls ≠ "java/lang/invoke/MethodHandle" ∧ yX1_makeOlder.cls ≠ "java/lang/invoke/VarHandle" ∧ (parseMethodDescriptor yX1_makeOlder.desc).map (fun d => d.parameters.length) = some 1 := by decide +kernel
abbrev RM1_makeOlder : Room := { frames := 1, cells := 0, slots := 0, locals := 22 }
def wm1_oldestOf : List Cond := .code yX1_oldestOf cX1_oldestOf 6 (some .int) :: bg_L
theorem hd1_oldestOf : yX1_oldestOf.cls = RX1 ∧ yX1_oldestOf.cls ≠ "java/lang/invoke/MethodHandle" ∧ yX1_oldestOf.cls ≠ "java/lang/invoke/VarHandle" ∧ (parseMethodDescriptor yX1_oldestOf.desc).map (fun d => d.parameters.length) = some 1 := by decide +kernel
abbrev RM1_oldestOf : Room := { frames := 1, cells := 0, slots := 0, locals := 21 }
def wm1_owedBy : List Cond := .code yX1_owedBy cX1_owedBy 4 (some .int) :: bg_L
theorem hd1_owedBy : yX1_owedBy.cls = RX1 ∧ yX1_owedBy.cls ≠ "java/lang/invoke/MethodHandle" ∧ yX1_owedBy.cls ≠ "java/lang/invoke/VarHandle" ∧ (parseMethodDescriptor yX1_owedBy.desc).map (fun d => d.parameters.length) = some 1 := by decide +kernel
abbrev RM1_owedBy : Room := { frames := 1, cells := 0, slots := 0, locals := 21 }
def wm1_owedTo : List Cond := .code yX1_owedTo cX1_owedTo 4 (some .int) :: bg_L
theorem hd1_owedTo : yX1_owedTo.cls = RX1 ∧ yX1_owedTo.cls ≠ "java/lang/invoke/MethodHandle" ∧ yX1_owedTo.cls ≠ "java/lang/invoke/VarHandle" ∧ (parseMethodDescriptor yX1_owedTo.desc).map (fun d => d.parameters.length) = some 1 := by decide +kernel
abbrev RM1_owedTo : Room := { frames := 1, cells := 0, slots := 0, locals := 21 }
def wm1_inAll : List Cond := .code yX1_inAll cX1_inAll 1 (some .int) :: bg_L
theorem hd1_inAll : yX1_inAll.cls = RX1 ∧ yX1_inAll.cls ≠ "java/lang/invoke/MethodHandle" ∧ yX1_inAll.cls ≠ "java/lang/invoke/VarHandle" ∧ (parseMethodDescriptor yX1_inAll.desc).map (fun d => d.parameters.length) = some 0 := by decide +kernel
abbrev RM1_inAll : Room := { frames := 1, cells := 0, slots := 0, locals := 22 }
def wm1_howMany : List Cond := .code yX1_howMany cX1_howMany 3 (some .int) :: bg_L
theorem hd1_howMany : yX1_howMany.cls = RX1 ∧ yX1_howMany.cls ≠ "java/lang/invoke/MethodHandle" ∧ yX1_howMany.cls ≠ "java/lang/invoke/VarHandle" ∧ (parseMethodDescriptor yX1_howMany.desc).map (fun d => d.parameters.length) = some 0 := by decide +kernel
abbrev RM1_howMany : Room := { frames := 1, cells := 0, slots := 0, locals := 21 }
def wm1_distance : List Cond := .code yX1_distance cX1_distance 7 (some .int) :: bg_L
theorem hd1_distance : yX1_distance.cls = RX1 ∧ yX1_distance.cls ≠ "java/lang/invoke/MethodHandle" ∧ yX1_distance.cls ≠ "java/lang/invoke/VarHandle" ∧ (parseMethodDescriptor yX1_distance.desc).map (fun d => d.parameters.length) = some 2 := by decide +kernel
abbrev RM1_distance : Room := { frames := 1, cells := 0, slots := 0, locals := 21 }
def wm1_nextOnRing : List Cond := .code yX1_nextOnRing cX1_nextOnRing 5 (some .int) :: bg_L
theorem hd1_nextOnRing : yX1_nextOnRing.cls = RX1 ∧ yX1_nextOnRing.cls ≠ "java/lang/invoke/MethodHandle" ∧ yX1_nextOnRing.cls ≠ "java/lang/invoke/VarHandle" ∧ (parseMethodDescriptor yX1_nextOnRing.desc).map (fun d => d.parameters.length) = some 3 := by decide +kernel
abbrev RM1_nextOnRing : Room := { frames := 2, cells := 0, slots := 0, locals := 47 }
def wm1_clearRing : List Cond := .code yX1_clearRing cX1_clearRing 8 (some .int) :: bg_L
theorem hd1_clearRing : yX1_clearRing.cls = RX1 ∧ yX1_clearRing.cls ≠ "java/lang/invoke/MethodHandle" ∧ yX1_clearRing.cls ≠ "java/lang/invoke/VarHandle" ∧ (parseMethodDescriptor yX1_clearRing.desc).map (fun d => d.parameters.length) = some 1 := by decide +kernel
abbrev RM1_clearRing : Room := { frames := 3, cells := 0, slots := 0, locals := 71 }
def wm1_copyFrom : List Cond := .code yX1_copyFrom cX1_copyFrom 2 none :: bg_L
theorem hd1_copyFrom : yX1_copyFrom.cls = RX1 ∧ yX1_copyFrom.cls ≠ "java/lang/invoke/MethodHandle" ∧ yX1_copyFrom.cls ≠ "java/lang/invoke/VarHandle" ∧ (parseMethodDescriptor yX1_copyFrom.desc).map (fun d => d.parameters.length) = some 1 := by decide +kernel
abbrev RM1_copyFrom : Room := { frames := 1, cells := 0, slots := 0, locals := 22 }
def wm3_length : List Cond := .code yX3_length cX3_length 1 (some .int) :: bg_L
theorem hd3_length : yX3_length.cls = RX3 ∧ yX3_length.cls ≠ "java/lang/invoke/MethodHandle" ∧ yX3_length.cls ≠ "java/lang/invoke/VarHandle" ∧ (parseMethodDescriptor yX3_length.desc).map (fun d => d.parameters.length) = some 0 := by decide +kernel
abbrev RM3_length : Room := { frames := 0, cells := 0, slots := 0, locals := 0 }
def wm3_at : List Cond := .code yX3_at cX3_at 2 (some .int) :: bg_L
theorem hd3_at : yX3_at.cls = RX3 ∧ yX3_at.cls ≠ "java/lang/invoke/MethodHandle" ∧ yX3_at.cls ≠ "java/lang/invoke/VarHandle" ∧ (parseMethodDescriptor yX3_at.desc).map (fun d => d.parameters.length) = some 1 := by decide +kernel
abbrev RM3_at : Room := { frames := 1, cells := 0, slots := 0, locals := 21 }
def wm3_append : List Cond := .code yX3_append cX3_append 2 none :: bg_L
theorem hd3_append : yX3_append.cls = RX3 ∧ yX3_append.cls ≠ "java/lang/invoke/MethodHandle" ∧ yX3_append.cls ≠ "java/lang/invoke/VarHandle" ∧ (parseMethodDescriptor yX3_append.desc).map (fun d => d.parameters.length) = some 1 := by decide +kernel
abbrev RM3_append : Room := { frames := 1, cells := 0, slots := 0, locals := 22 }
def wm3_makeEmpty : List Cond := .code yX3_makeEmpty cX3_makeEmpty 1 none :: bg_L
theorem hd3_makeEmpty : yX3_makeEmpty.cls = RX3 ∧ yX3_makeEmpty.cls ≠ "java/lang/invoke/MethodHandle" ∧ yX3_makeEmpty.cls ≠ "java/lang/invoke/VarHandle" ∧ (parseMethodDescriptor yX3_makeEmpty.desc).map (fun d => d.parameters.length) = some 0 := by decide +kernel
abbrev RM3_makeEmpty : Room := { frames := 0, cells := 0, slots := 0, locals := 0 }
def wm0_addPlayer : List Cond := .code yX0_addPlayer cX0_addPlayer 2 (some .int) :: bg_L
theorem hd0_addPlayer : yX0_addPlayer.cls = RX0 ∧ yX0_addPlayer.cls ≠ "java/lang/invoke/MethodHandle" ∧ yX0_addPlayer.cls ≠ "java/lang/invoke/VarHandle" ∧ (parseMethodDescriptor yX0_addPlayer.desc).map (fun d => d.parameters.length) = some 1 := by decide +kernel
abbrev RM0_addPlayer : Room := { frames := 1, cells := 0, slots := 0, locals := 22 }
def wm0_changeDraws : List Cond := .code yX0_changeDraws cX0_changeDraws 3 (some .int) :: bg_L
theorem hd0_changeDraws : yX0_changeDraws.cls = RX0 ∧ yX0_changeDraws.cls ≠ "java/lang/invoke/MethodHandle" ∧ yX0_changeDraws.cls ≠ "java/lang/invoke/VarHandle" ∧ (parseMethodDescriptor yX0_changeDraws.desc).map (fun d => d.parameters.length) = some 1 := by decide +kernel
abbrev RM0_changeDraws : Room := { frames := 0, cells := 0, slots := 0, locals := 0 }
def wm0_payWhatThereIs : List Cond := .code yX0_payWhatThereIs cX0_payWhatThereIs 5 (some .int) :: bg_L
theorem hd0_payWhatThereIs : yX0_payWhatThereIs.cls = RX0 ∧ yX0_payWhatThereIs.cls ≠ "java/lang/invoke/MethodHandle" ∧ yX0_payWhatThereIs.cls ≠ "java/lang/invoke/VarHandle" ∧ (parseMethodDescriptor yX0_payWhatThereIs.desc).map (fun d => d.parameters.length) = some 3 := by decide +kernel
abbrev RM0_payWhatThereIs : Room := { frames := 1, cells := 0, slots := 0, locals := 22 }
def wm0_payDebts : List Cond := .code yX0_payDebts cX0_payDebts 5 none :: bg_L
theorem hd0_payDebts : yX0_payDebts.cls = RX0 ∧ yX0_payDebts.cls ≠ "java/lang/invoke/MethodHandle" ∧ yX0_payDebts.cls ≠ "java/lang/invoke/VarHandle" ∧ (parseMethodDescriptor yX0_payDebts.desc).map (fun d => d.parameters.length) = some 1 := by decide +kernel
abbrev RM0_payDebts : Room := { frames := 2, cells := 0, slots := 0, locals := 46 }
def wm0_throwDie : List Cond := .code yX0_throwDie cX0_throwDie 1 (some .int) :: bg_L
theorem hd0_throwDie : yX0_throwDie.cls = RX0 ∧ yX0_throwDie.cls ≠ "java/lang/invoke/MethodHandle" ∧ yX0_throwDie.cls ≠ "java/lang/invoke/VarHandle" ∧ (parseMethodDescriptor yX0_throwDie.desc).map (fun d => d.parameters.length) = some 0 := by decide +kernel
abbrev RM0_throwDie : Room := { frames := 0, cells := 0, slots := 0, locals := 0 }
def wm0_move : List Cond := .code yX0_move cX0_move 5 none :: bg_L
theorem hd0_move : yX0_move.cls = RX0 ∧ yX0_move.cls ≠ "java/lang/invoke/MethodHandle" ∧ yX0_move.cls ≠ "java/lang/invoke/VarHandle" ∧ (parseMethodDescriptor yX0_move.desc).map (fun d => d.parameters.length) = some 1 := by decide +kernel
abbrev RM0_move : Room := { frames := 1, cells := 0, slots := 0, locals := 22 }
def wm0_tryToClaim : List Cond := .code yX0_tryToClaim cX0_tryToClaim 5 none :: bg_L
theorem hd0_tryToClaim : yX0_tryToClaim.cls = RX0 ∧ yX0_tryToClaim.cls ≠ "java/lang/invoke/MethodHandle" ∧ yX0_tryToClaim.cls ≠ "java/lang/invoke/VarHandle" ∧ (parseMethodDescriptor yX0_tryToClaim.desc).map (fun d => d.parameters.length) = some 1 := by decide +kernel
abbrev RM0_tryToClaim : Room := { frames := 2, cells := 0, slots := 0, locals := 44 }
def wm0_payToll : List Cond := .code yX0_payToll cX0_payToll 8 none :: bg_L
theorem hd0_payToll : yX0_payToll.cls = RX0 ∧ yX0_payToll.cls ≠ "java/lang/invoke/MethodHandle" ∧ yX0_payToll.cls ≠ "java/lang/invoke/VarHandle" ∧ (parseMethodDescriptor yX0_payToll.desc).map (fun d => d.parameters.length) = some 1 := by decide +kernel
abbrev RM0_payToll : Room := { frames := 2, cells := 0, slots := 0, locals := 47 }
def wm0_loseSquares : List Cond := .code yX0_loseSquares cX0_loseSquares 5 none :: bg_L
theorem hd0_loseSquares : yX0_loseSquares.cls = RX0 ∧ yX0_loseSquares.cls ≠ "java/lang/invoke/MethodHandle" ∧ yX0_loseSquares.cls ≠ "java/lang/invoke/VarHandle" ∧ (parseMethodDescriptor yX0_loseSquares.desc).map (fun d => d.parameters.length) = some 1 := by decide +kernel
abbrev RM0_loseSquares : Room := { frames := 2, cells := 0, slots := 0, locals := 47 }
def wm0_takeTurn : List Cond := .code yX0_takeTurn cX0_takeTurn 2 none :: bg_L
theorem hd0_takeTurn : yX0_takeTurn.cls = RX0 ∧ yX0_takeTurn.cls ≠ "java/lang/invoke/MethodHandle" ∧ yX0_takeTurn.cls ≠ "java/lang/invoke/VarHandle" ∧ (parseMethodDescriptor yX0_takeTurn.desc).map (fun d => d.parameters.length) = some 0 := by decide +kernel
abbrev RM0_takeTurn : Room := { frames := 3, cells := 0, slots := 0, locals := 74 }
def wm0_doTurns : List Cond := .code yX0_doTurns cX0_doTurns 4 (some .int) :: bg_L
theorem hd0_doTurns : yX0_doTurns.cls = RX0 ∧ yX0_doTurns.cls ≠ "java/lang/invoke/MethodHandle" ∧ yX0_doTurns.cls ≠ "java/lang/invoke/VarHandle" ∧ (parseMethodDescriptor yX0_doTurns.desc).map (fun d => d.parameters.length) = some 1 := by decide +kernel
abbrev RM0_doTurns : Room := { frames := 4, cells := 0, slots := 0, locals := 95 }
def wm0_hasPlayer : List Cond := .code yX0_hasPlayer cX0_hasPlayer 2 (some .boolean) :: bg_L
theorem hd0_hasPlayer : yX0_hasPlayer.cls = RX0 ∧ yX0_hasPlayer.cls ≠ "java/lang/invoke/MethodHandle" ∧ yX0_hasPlayer.cls ≠ "java/lang/invoke/VarHandle" ∧ (parseMethodDescriptor yX0_hasPlayer.desc).map (fun d => d.parameters.length) = some 1 := by decide +kernel
abbrev RM0_hasPlayer : Room := { frames := 0, cells := 0, slots := 0, locals := 0 }
def wm0_clearAround : List Cond := .code yX0_clearAround cX0_clearAround 5 (some .int) :: bg_L
theorem hd0_clearAround : yX0_clearAround.cls = RX0 ∧ yX0_clearAround.cls ≠ "java/lang/invoke/MethodHandle" ∧ yX0_clearAround.cls ≠ "java/lang/invoke/VarHandle" ∧ (parseMethodDescriptor yX0_clearAround.desc).map (fun d => d.parameters.length) = some 1 := by decide +kernel
abbrev RM0_clearAround : Room := { frames := 4, cells := 0, slots := 0, locals := 98 }
def wm0_takeTurns : List Cond := .code yX0_takeTurns cX0_takeTurns 3 none :: bg_L
theorem hd0_takeTurns : yX0_takeTurns.cls = RX0 ∧ yX0_takeTurns.cls ≠ "java/lang/invoke/MethodHandle" ∧ yX0_takeTurns.cls ≠ "java/lang/invoke/VarHandle" ∧ (parseMethodDescriptor yX0_takeTurns.desc).map (fun d => d.parameters.length) = some 1 := by decide +kernel
abbrev RM0_takeTurns : Room := { frames := 4, cells := 0, slots := 0, locals := 95 }
def wm0_players : List Cond := .code yX0_players cX0_players 1 (some .int) :: bg_L
theorem hd0_players : yX0_players.cls = RX0 ∧ yX0_players.cls ≠ "java/lang/invoke/MethodHandle" ∧ yX0_players.cls ≠ "java/lang/invoke/VarHandle" ∧ (parseMethodDescriptor yX0_players.desc).map (fun d => d.parameters.length) = some 0 := by decide +kernel
abbrev RM0_players : Room := { frames := 0, cells := 0, slots := 0, locals := 0 }
def wm0_purseOf : List Cond := .code yX0_purseOf cX0_purseOf 2 (some .int) :: bg_L
theorem hd0_purseOf : yX0_purseOf.cls = RX0 ∧ yX0_purseOf.cls ≠ "java/lang/invoke/MethodHandle" ∧ yX0_purseOf.cls ≠ "java/lang/invoke/VarHandle" ∧ (parseMethodDescriptor yX0_purseOf.desc).map (fun d => d.parameters.length) = some 1 := by decide +kernel
abbrev RM0_purseOf : Room := { frames := 1, cells := 0, slots := 0, locals := 21 }
def wm0_wealthOf : List Cond := .code yX0_wealthOf cX0_wealthOf 2 (some .int) :: bg_L
theorem hd0_wealthOf : yX0_wealthOf.cls = RX0 ∧ yX0_wealthOf.cls ≠ "java/lang/invoke/MethodHandle" ∧ yX0_wealthOf.cls ≠ "java/lang/invoke/VarHandle" ∧ (parseMethodDescriptor yX0_wealthOf.desc).map (fun d => d.parameters.length) = some 1 := by decide +kernel
abbrev RM0_wealthOf : Room := { frames := 2, cells := 0, slots := 0, locals := 44 }
def wm0_factOfPlayer : List Cond := .code yX0_factOfPlayer cX0_factOfPlayer 3 (some .int) :: bg_L
theorem hd0_factOfPlayer : yX0_factOfPlayer.cls = RX0 ∧ yX0_factOfPlayer.cls ≠ "java/lang/invoke/MethodHandle" ∧ yX0_factOfPlayer.cls ≠ "java/lang/invoke/VarHandle" ∧ (parseMethodDescriptor yX0_factOfPlayer.desc).map (fun d => d.parameters.length) = some 2 := by decide +kernel
abbrev RM0_factOfPlayer : Room := { frames := 2, cells := 0, slots := 0, locals := 44 }
def wm0_playersOn : List Cond := .code yX0_playersOn cX0_playersOn 4 (some .int) :: bg_L
theorem hd0_playersOn : yX0_playersOn.cls = RX0 ∧ yX0_playersOn.cls ≠ "java/lang/invoke/MethodHandle" ∧ yX0_playersOn.cls ≠ "java/lang/invoke/VarHandle" ∧ (parseMethodDescriptor yX0_playersOn.desc).map (fun d => d.parameters.length) = some 1 := by decide +kernel
abbrev RM0_playersOn : Room := { frames := 1, cells := 0, slots := 0, locals := 21 }
def wm0_factOfSquare : List Cond := .code yX0_factOfSquare cX0_factOfSquare 3 (some .int) :: bg_L
theorem hd0_factOfSquare : yX0_factOfSquare.cls = RX0 ∧ yX0_factOfSquare.cls ≠ "java/lang/invoke/MethodHandle" ∧ yX0_factOfSquare.cls ≠ "java/lang/invoke/VarHandle" ∧ (parseMethodDescriptor yX0_factOfSquare.desc).map (fun d => d.parameters.length) = some 2 := by decide +kernel
abbrev RM0_factOfSquare : Room := { frames := 2, cells := 0, slots := 0, locals := 47 }
def wm0_fact : List Cond := .code yX0_fact cX0_fact 2 (some .int) :: bg_L
theorem hd0_fact : yX0_fact.cls = RX0 ∧ yX0_fact.cls ≠ "java/lang/invoke/MethodHandle" ∧ yX0_fact.cls ≠ "java/lang/invoke/VarHandle" ∧ (parseMethodDescriptor yX0_fact.desc).map (fun d => d.parameters.length) = some 1 := by decide +kernel
abbrev RM0_fact : Room := { frames := 2, cells := 0, slots := 0, locals := 43 }
def wm0_copyFrom : List Cond := .code yX0_copyFrom cX0_copyFrom 2 none :: bg_L
theorem hd0_copyFrom : yX0_copyFrom.cls = RX0 ∧ yX0_copyFrom.cls ≠ "java/lang/invoke/MethodHandle" ∧ yX0_copyFrom.cls ≠ "java/lang/invoke/VarHandle" ∧ (parseMethodDescriptor yX0_copyFrom.desc).map (fun d => d.parameters.length) = some 1 := by decide +kernel
abbrev RM0_copyFrom : Room := { frames := 2, cells := 0, slots := 0, locals := 43 }
def wm0_describe : List Cond := .code yX0_describe cX0_describe 5 none :: bg_L
theorem hd0_describe : yX0_describe.cls = RX0 ∧ yX0_describe.cls ≠ "java/lang/invoke/MethodHandle" ∧ yX0_describe.cls ≠ "java/lang/invoke/VarHandle" ∧ (parseMethodDescriptor yX0_describe.desc).map (fun d => d.parameters.length) = some 1 := by decide +kernel
abbrev RM0_describe : Room := { frames := 2, cells := 0, slots := 0, locals := 43 }
def wm4_signsIn : List Cond := .code yX4_signsIn cX4_signsIn 7 (some .int) :: bg_L
theorem hd4_signsIn : yX4_signsIn.cls ≠ "java/lang/invoke/MethodHandle" ∧ yX4_signsIn.cls ≠ "java/lang/invoke/VarHandle" ∧ (parseMethodDescriptor yX4_signsIn.desc).map (fun d => d.parameters.length) = some 1 := by decide +kernel
abbrev RM4_signsIn : Room := { frames := 0, cells := 0, slots := 0, locals := 0 }
def wm4_signOf : List Cond := .code yX4_signOf cX4_signOf 3 (some .int) :: bg_L
theorem hd4_signOf : yX4_signOf.cls ≠ "java/lang/invoke/MethodHandle" ∧ yX4_signOf.cls ≠ "java/lang/invoke/VarHandle" ∧ (parseMethodDescriptor yX4_signOf.desc).map (fun d => d.parameters.length) = some 2 := by decide +kernel
abbrev RM4_signOf : Room := { frames := 0, cells := 0, slots := 0, locals := 0 }
def wm4_isDigit : List Cond := .code yX4_isDigit cX4_isDigit 1 (some .boolean) :: bg_L
theorem hd4_isDigit : yX4_isDigit.cls ≠ "java/lang/invoke/MethodHandle" ∧ yX4_isDigit.cls ≠ "java/lang/invoke/VarHandle" ∧ (parseMethodDescriptor yX4_isDigit.desc).map (fun d => d.parameters.length) = some 1 := by decide +kernel
abbrev RM4_isDigit : Room := { frames := 0, cells := 0, slots := 0, locals := 0 }
def wm4_dueBehindLetter : List Cond := .code yX4_dueBehindLetter cX4_dueBehindLetter 1 (some .int) :: bg_L
theorem hd4_dueBehindLetter : yX4_dueBehindLetter.cls ≠ "java/lang/invoke/MethodHandle" ∧ yX4_dueBehindLetter.cls ≠ "java/lang/invoke/VarHandle" ∧ (parseMethodDescriptor yX4_dueBehindLetter.desc).map (fun d => d.parameters.length) = some 1 := by decide +kernel
abbrev RM4_dueBehindLetter : Room := { frames := 0, cells := 0, slots := 0, locals := 0 }
def wm4_dueBehind : List Cond := .code yX4_dueBehind cX4_dueBehind 2 (some .int) :: bg_L
theorem hd4_dueBehind : yX4_dueBehind.cls ≠ "java/lang/invoke/MethodHandle" ∧ yX4_dueBehind.cls ≠ "java/lang/invoke/VarHandle" ∧ (parseMethodDescriptor yX4_dueBehind.desc).map (fun d => d.parameters.length) = some 2 := by decide +kernel
abbrev RM4_dueBehind : Room := { frames := 1, cells := 0, slots := 0, locals := 20 }
def wm4_firstFault : List Cond := .code yX4_firstFault cX4_firstFault 3 (some .int) :: bg_L
theorem hd4_firstFault : yX4_firstFault.cls ≠ "java/lang/invoke/MethodHandle" ∧ yX4_firstFault.cls ≠ "java/lang/invoke/VarHandle" ∧ (parseMethodDescriptor yX4_firstFault.desc).map (fun d => d.parameters.length) = some 1 := by decide +kernel
abbrev RM4_firstFault : Room := { frames := 2, cells := 0, slots := 0, locals := 42 }
theorem gv_X8_42 : GoodIn bg_L (va_wsS RX8 42 yX8_within wm8_within) := gb_S wq_696 wq_697 wq_68 wq_698
theorem gv_X8_46 : GoodIn bg_L (wsV RX8 46 RX8 yX8_debtOf wm8_debtOf) := gb_V wq_754 wq_756 wq_21 wq_68 wq_757
theorem gv_X8_50 : GoodIn bg_L (wsV RX8 50 RX8 yX8_owns wm8_owns) := gb_V wq_787 wq_789 wq_29 wq_68 wq_790
theorem gv_X8_54 : GoodIn bg_L (wsV RX8 54 RX8 yX8_playerPart wm8_playerPart) := gb_V wq_738 wq_740 wq_17 wq_68 wq_741
theorem gv_X8_57 : GoodIn bg_L (va_wsS RX8 57 yX8_sortOf wm8_sortOf) := gb_S wq_795 wq_796 wq_68 wq_797
theorem gv_X8_61 : GoodIn bg_L (wsV RX8 61 RX8 yX8_owedBy wm8_owedBy) := gb_V wq_854 wq_856 wq_43 wq_68 wq_857
theorem gv_X8_65 : GoodIn bg_L (wsV RX8 65 RX8 yX8_ageOf wm8_ageOf) := gb_V wq_758 wq_760 wq_22 wq_68 wq_761
theorem gv_X8_68 : GoodIn bg_L (wsV RX8 68 RX8 yX8_adds wm8_adds) := gb_V wq_766 wq_768 wq_24 wq_68 wq_769
theorem gv_X8_75 : GoodIn bg_L (wsV RX8 75 RX8 yX8_pays wm8_pays) := gb_V wq_762 wq_764 wq_23 wq_68 wq_765
theorem gv_X8_79 : GoodIn bg_L (wsV RX8 79 RX8 yX8_addsDebt wm8_addsDebt) := gb_V wq_770 wq_772 wq_25 wq_68 wq_773
theorem gv_X8_72 : GoodIn bg_L (wsV RX8 72 RX8 yX8_oldest wm8_oldest) := gb_V wq_750 wq_752 wq_20 wq_68 wq_753
theorem gv_X8_82 : GoodIn bg_L (wsV RX8 82 RX8 yX8_die wm8_die) := gb_V wq_778 wq_780 wq_27 wq_68 wq_781
theorem gv_X8_97 : GoodIn bg_L (wsV RX8 97 RX8 yX8_paysToll wm8_paysToll) := gb_V wq_806 wq_808 wq_33 wq_68 wq_809
theorem gv_X8_94 : GoodIn bg_L (wsV RX8 94 RX8 yX8_tollOf wm8_tollOf) := gb_V wq_802 wq_804 wq_32 wq_68 wq_805
theorem gv_X8_86 : GoodIn bg_L (wsV RX8 86 RX8 yX8_canBeClaimed wm8_canBeClaimed) := gb_V wq_791 wq_793 wq_30 wq_68 wq_794
theorem gv_X8_90 : GoodIn bg_L (wsV RX8 90 RX8 yX8_claims wm8_claims) := gb_V wq_798 wq_800 wq_31 wq_68 wq_801
theorem gv_X8_100 : GoodIn bg_L (wsV RX8 100 RX8 yX8_lowestOf wm8_lowestOf) := gb_V wq_814 wq_816 wq_35 wq_68 wq_817
theorem gv_X8_103 : GoodIn bg_L (wsV RX8 103 RX8 yX8_hands wm8_hands) := gb_V wq_818 wq_820 wq_36 wq_68 wq_821
theorem gv_X8_106 : GoodIn bg_L (wsV RX8 106 RX8 yX8_paysDebts wm8_paysDebts) := gb_V wq_746 wq_748 wq_19 wq_68 wq_749
theorem gv_X8_110 : GoodIn bg_L (wsV RX8 110 RX8 yX8_goes wm8_goes) := gb_V wq_774 wq_776 wq_26 wq_68 wq_777
theorem gv_X8_113 : GoodIn bg_L (wsV RX8 113 RX8 yX8_arrives wm8_arrives) := gb_V wq_783 wq_785 wq_28 wq_68 wq_786
theorem gv_X8_116 : GoodIn bg_L (wsV RX8 116 RX8 yX8_growsOlder wm8_growsOlder) := gb_V wq_810 wq_812 wq_34 wq_68 wq_813
theorem gv_X8_119 : GoodIn bg_L (wsV RX8 119 RX8 yX8_sumOf wm8_sumOf) := gb_V wq_734 wq_736 wq_16 wq_68 wq_737
theorem gv_X8_122 : GoodIn bg_L (wsV RX8 122 RX8 yX8_turn wm8_turn) := gb_V wq_742 wq_744 wq_18 wq_68 wq_745
theorem gv_X8_156 : GoodIn bg_L (wsV RX8 156 RX8 yX8_isPlayer wm8_isPlayer) := gb_V wq_826 wq_828 wq_37 wq_68 wq_829
theorem gv_X8_162 : GoodIn bg_L (wsV RX8 162 RX8 yX8_ownedBy wm8_ownedBy) := gb_V wq_850 wq_852 wq_42 wq_68 wq_853
theorem gv_X8_165 : GoodIn bg_L (wsV RX8 165 RX8 yX8_owedTo wm8_owedTo) := gb_V wq_858 wq_860 wq_44 wq_68 wq_861
theorem gv_X8_168 : GoodIn bg_L (va_wsS RX8 168 yX8_isSquare wm8_isSquare) := gb_S wq_866 wq_867 wq_68 wq_868
theorem gv_X8_171 : GoodIn bg_L (wsV RX8 171 RX8 yX8_standingAt wm8_standingAt) := gb_V wq_869 wq_871 wq_45 wq_68 wq_872
theorem gv_X8_38 : GoodIn bg_L (va_wsS RX8 38 yX8_moves wm8_moves) := gb_S wq_703 wq_704 wq_68 wq_705
theorem gv_X8_125 : GoodIn bg_L (va_wsS RX8 125 yX8_isValue wm8_isValue) := gb_S wq_693 wq_694 wq_68 wq_695
theorem gv_X8_128 : GoodIn bg_L (wsV RX8 128 RX8 yX8_record wm8_record) := gb_V wq_699 wq_701 wq_11 wq_68 wq_702
theorem gv_X8_131 : GoodIn bg_L (wsV RX8 131 RX8 yX8_whyNoPlayer wm8_whyNoPlayer) := gb_V wq_710 wq_712 wq_12 wq_68 wq_713
theorem gv_X8_134 : GoodIn bg_L (wsV RX8 134 RX8 yX8_comes wm8_comes) := gb_V wq_714 wq_716 wq_13 wq_68 wq_717
theorem gv_X8_137 : GoodIn bg_L (wsV RX8 137 RX8 yX8_whyNoTurns wm8_whyNoTurns) := gb_V wq_726 wq_728 wq_14 wq_68 wq_729
theorem gv_X8_140 : GoodIn bg_L (wsV RX8 140 RX8 yX8_doTurns wm8_doTurns) := gb_V wq_730 wq_732 wq_15 wq_68 wq_733
theorem gv_X8_146 : GoodIn bg_L (wsV RX8 146 RX8 yX8_takesRing wm8_takesRing) := gb_V wq_838 wq_840 wq_40 wq_68 wq_841
theorem gv_X8_153 : GoodIn bg_L (wsV RX8 153 RX8 yX8_clearsRing wm8_clearsRing) := gb_V wq_842 wq_844 wq_41 wq_68 wq_845
theorem gv_X8_150 : GoodIn bg_L (wsV RX8 150 RX8 yX8_findRing wm8_findRing) := gb_V wq_834 wq_836 wq_39 wq_68 wq_837
theorem gv_X8_159 : GoodIn bg_L (wsV RX8 159 RX8 yX8_clears wm8_clears) := gb_V wq_830 wq_832 wq_38 wq_68 wq_833
theorem gv_X8_195 : GoodIn bg_L (wsV RX8 195 RX8 yX8_writesSign wm8_writesSign) := gb_V wq_897 wq_899 wq_50 wq_68 wq_900
theorem gv_X8_198 : GoodIn bg_L (wsV RX8 198 RX8 yX8_writesSquare wm8_writesSquare) := gb_V wq_893 wq_895 wq_49 wq_68 wq_896
theorem gv_X8_174 : GoodIn bg_L (wsV RX8 174 RX8 yX8_debtsMany wm8_debtsMany) := gb_V wq_881 wq_883 wq_46 wq_68 wq_884
theorem gv_X8_177 : GoodIn bg_L (wsV RX8 177 RX8 yX8_sumOfDebts wm8_sumOfDebts) := gb_V wq_885 wq_887 wq_47 wq_68 wq_888
theorem gv_X8_180 : GoodIn bg_L (wsV RX8 180 RX8 yX8_writes wm8_writes) := gb_V wq_889 wq_891 wq_48 wq_68 wq_892
theorem gv_X8_206 : GoodIn bg_L (wsV RX8 206 RX8 yX8_character wm8_character) := gb_V wq_942 wq_944 wq_53 wq_68 wq_945
theorem gv_X8_209 : GoodIn bg_L (wsV RX8 209 RX8 yX8_isDigit wm8_isDigit) := gb_V wq_950 wq_952 wq_55 wq_68 wq_953
theorem gv_X8_219 : GoodIn bg_L (wsV RX8 219 RX8 yX8_takesNumber wm8_takesNumber) := gb_V wq_946 wq_948 wq_54 wq_68 wq_949
theorem gv_X8_222 : GoodIn bg_L (wsV RX8 222 RX8 yX8_readsOrder wm8_readsOrder) := gb_V wq_938 wq_940 wq_52 wq_68 wq_941
theorem gv_X8_225 : GoodIn bg_L (wsV RX8 225 RX8 yX8_isNext wm8_isNext) := gb_V wq_954 wq_956 wq_56 wq_68 wq_957
theorem gv_X8_228 : GoodIn bg_L (wsV RX8 228 RX8 yX8_findFault wm8_findFault) := gb_V wq_934 wq_936 wq_51 wq_68 wq_937
theorem gv_X8_234 : GoodIn bg_L (wsV RX8 234 RX8 yX8_does wm8_does) := gb_V wq_966 wq_968 wq_58 wq_68 wq_969
theorem gv_X8_231 : GoodIn bg_L (wsV RX8 231 RX8 yX8_whyNotDone wm8_whyNotDone) := gb_V wq_962 wq_964 wq_57 wq_68 wq_965
theorem gv_X5_27 : GoodIn bg_L (wsV RX5 27 RX6 yX6_at wm6_at) := gb_V wq_369 wq_278 wq_279 wq_63 wq_280
theorem gv_X5_31 : GoodIn bg_L (va_wsS RX5 31 yX5_sortOf wm5_sortOf) := gb_S wq_374 wq_375 wq_62 wq_376
theorem gv_X5_34 : GoodIn bg_L (wsV RX5 34 RX6 yX6_write wm6_write) := gb_V wq_385 wq_137 wq_138 wq_63 wq_139
theorem gv_X5_23 : GoodIn bg_L (wsV RX5 23 RX6 yX6_copyFrom wm6_copyFrom) := gb_V wq_259 wq_260 wq_261 wq_63 wq_262
theorem gv_X1_30 : GoodIn bg_L (wsV RX1 30 RX6 yX6_at wm6_at) := gb_V wq_332 wq_278 wq_279 wq_63 wq_280
theorem gv_X1_37 : GoodIn bg_L (wsV RX1 37 RX6 yX6_add wm6_add) := gb_V wq_350 wq_343 wq_344 wq_63 wq_345
theorem gv_X1_34 : GoodIn bg_L (wsV RX1 34 RX6 yX6_write wm6_write) := gb_V wq_351 wq_137 wq_138 wq_63 wq_139
theorem gv_X1_40 : GoodIn bg_L (wsV RX1 40 RX6 yX6_sum wm6_sum) := gb_V wq_526 wq_317 wq_318 wq_63 wq_319
theorem gv_X1_52 : GoodIn bg_L (wsV RX1 52 RX1 yX1_coinsOf wm1_coinsOf) := gb_V wq_446 wq_334 wq_335 wq_65 wq_336
theorem gv_X1_44 : GoodIn bg_L (wsV RX1 44 RX1 yX1_distance wm1_distance) := gb_V wq_438 wq_439 wq_440 wq_65 wq_441
theorem gv_X1_60 : GoodIn bg_L (wsV RX1 60 RX1 yX1_shrink wm1_shrink) := gb_V wq_448 wq_347 wq_348 wq_65 wq_349
theorem gv_X1_48 : GoodIn bg_L (wsV RX1 48 RX1 yX1_nextOnRing wm1_nextOnRing) := gb_V wq_442 wq_444 wq_8 wq_65 wq_445
theorem gv_X1_26 : GoodIn bg_L (wsV RX1 26 RX6 yX6_copyFrom wm6_copyFrom) := gb_V wq_267 wq_260 wq_261 wq_63 wq_262
theorem gv_X3_27 : GoodIn bg_L (wsV RX3 27 RX6 yX6_at wm6_at) := gb_V wq_535 wq_278 wq_279 wq_63 wq_280
theorem gv_X3_31 : GoodIn bg_L (wsV RX3 31 RX6 yX6_write wm6_write) := gb_V wq_505 wq_137 wq_138 wq_63 wq_139
theorem gv_X0_75 : GoodIn bg_L (wsV RX0 75 RX6 yX6_write wm6_write) := gb_V wq_136 wq_137 wq_138 wq_63 wq_139
theorem gv_X0_94 : GoodIn bg_L (wsV RX0 94 RX6 yX6_at wm6_at) := gb_V wq_277 wq_278 wq_279 wq_63 wq_280
theorem gv_X0_131 : GoodIn bg_L (wsV RX0 131 RX6 yX6_add wm6_add) := gb_V wq_342 wq_343 wq_344 wq_63 wq_345
theorem gv_X0_134 : GoodIn bg_L (wsV RX0 134 RX1 yX1_oldestOf wm1_oldestOf) := gb_V wq_328 wq_329 wq_330 wq_65 wq_331
theorem gv_X0_137 : GoodIn bg_L (wsV RX0 137 RX1 yX1_coinsOf wm1_coinsOf) := gb_V wq_333 wq_334 wq_335 wq_65 wq_336
theorem gv_X0_141 : GoodIn bg_L (wsV RX0 141 RX0 yX0_payWhatThereIs wm0_payWhatThereIs) := gb_V wq_337 wq_339 wq_2 wq_61 wq_340
theorem gv_X0_145 : GoodIn bg_L (wsV RX0 145 RX1 yX1_shrink wm1_shrink) := gb_V wq_346 wq_347 wq_348 wq_65 wq_349
theorem gv_X0_154 : GoodIn bg_L (wsV RX0 154 RX0 yX0_throwDie wm0_throwDie) := gb_V wq_356 wq_358 wq_4 wq_61 wq_359
theorem gv_X0_168 : GoodIn bg_L (wsV RX0 168 RX5 yX5_giveFreePart wm5_giveFreePart) := gb_V wq_381 wq_382 wq_383 wq_62 wq_384
theorem gv_X0_158 : GoodIn bg_L (wsV RX0 158 RX5 yX5_isOwnedBy wm5_isOwnedBy) := gb_V wq_365 wq_366 wq_367 wq_62 wq_368
theorem gv_X0_162 : GoodIn bg_L (wsV RX0 162 RX5 yX5_hasFreePart wm5_hasFreePart) := gb_V wq_370 wq_371 wq_372 wq_62 wq_373
theorem gv_X0_165 : GoodIn bg_L (wsV RX0 165 RX5 yX5_firstOwner wm5_firstOwner) := gb_V wq_377 wq_378 wq_379 wq_62 wq_380
theorem gv_X0_177 : GoodIn bg_L (wsV RX0 177 RX1 yX1_grow wm1_grow) := gb_V wq_398 wq_399 wq_400 wq_65 wq_401
theorem gv_X0_171 : GoodIn bg_L (wsV RX0 171 RX5 yX5_secondOwner wm5_secondOwner) := gb_V wq_390 wq_391 wq_392 wq_62 wq_393
theorem gv_X0_174 : GoodIn bg_L (wsV RX0 174 RX5 yX5_toll wm5_toll) := gb_V wq_394 wq_395 wq_396 wq_62 wq_397
theorem gv_X0_180 : GoodIn bg_L (wsV RX0 180 RX1 yX1_ageOf wm1_ageOf) := gb_V wq_410 wq_411 wq_412 wq_65 wq_413
theorem gv_X0_183 : GoodIn bg_L (wsV RX0 183 RX5 yX5_lowestOf wm5_lowestOf) := gb_V wq_414 wq_415 wq_416 wq_62 wq_417
theorem gv_X0_186 : GoodIn bg_L (wsV RX0 186 RX5 yX5_handOn wm5_handOn) := gb_V wq_418 wq_419 wq_420 wq_62 wq_421
theorem gv_X0_112 : GoodIn bg_L (wsV RX0 112 RX0 yX0_payDebts wm0_payDebts) := gb_V wq_324 wq_326 wq_1 wq_61 wq_327
theorem gv_X0_116 : GoodIn bg_L (wsV RX0 116 RX0 yX0_move wm0_move) := gb_V wq_352 wq_354 wq_3 wq_61 wq_355
theorem gv_X0_119 : GoodIn bg_L (wsV RX0 119 RX0 yX0_tryToClaim wm0_tryToClaim) := gb_V wq_361 wq_363 wq_5 wq_61 wq_364
theorem gv_X0_122 : GoodIn bg_L (wsV RX0 122 RX0 yX0_payToll wm0_payToll) := gb_V wq_386 wq_388 wq_6 wq_61 wq_389
theorem gv_X0_125 : GoodIn bg_L (wsV RX0 125 RX1 yX1_makeOlder wm1_makeOlder) := gb_V wq_402 wq_403 wq_404 wq_65 wq_405
theorem gv_X0_128 : GoodIn bg_L (wsV RX0 128 RX0 yX0_loseSquares wm0_loseSquares) := gb_V wq_406 wq_408 wq_7 wq_61 wq_409
theorem gv_X0_98 : GoodIn bg_L (wsV RX0 98 RX6 yX6_sum wm6_sum) := gb_V wq_316 wq_317 wq_318 wq_63 wq_319
theorem gv_X0_102 : GoodIn bg_L (wsV RX0 102 RX0 yX0_takeTurn wm0_takeTurn) := gb_V wq_320 wq_321 wq_322 wq_61 wq_323
theorem gv_X0_109 : GoodIn bg_L (wsV RX0 109 RX1 yX1_clearRing wm1_clearRing) := gb_V wq_434 wq_435 wq_436 wq_65 wq_437
theorem gv_X0_105 : GoodIn bg_L (wsV RX0 105 RX0 yX0_hasPlayer wm0_hasPlayer) := gb_V wq_430 wq_431 wq_432 wq_61 wq_433
theorem gv_X0_189 : GoodIn bg_L (wsV RX0 189 RX1 yX1_owedTo wm1_owedTo) := gb_V wq_466 wq_467 wq_468 wq_65 wq_469
theorem gv_X0_192 : GoodIn bg_L (wsV RX0 192 RX1 yX1_owedBy wm1_owedBy) := gb_V wq_462 wq_463 wq_464 wq_65 wq_465
theorem gv_X0_195 : GoodIn bg_L (wsV RX0 195 RX5 yX5_squaresOf wm5_squaresOf) := gb_V wq_458 wq_459 wq_460 wq_62 wq_461
theorem gv_X0_198 : GoodIn bg_L (va_wsS RX0 198 yX5_sortOf wm5_sortOf) := gb_S wq_478 wq_375 wq_62 wq_376
theorem gv_X0_201 : GoodIn bg_L (wsV RX0 201 RX0 yX0_playersOn wm0_playersOn) := gb_V wq_479 wq_481 wq_9 wq_61 wq_482
theorem gv_X0_204 : GoodIn bg_L (wsV RX0 204 RX1 yX1_howMany wm1_howMany) := gb_V wq_518 wq_519 wq_520 wq_65 wq_521
theorem gv_X0_207 : GoodIn bg_L (wsV RX0 207 RX1 yX1_inAll wm1_inAll) := gb_V wq_522 wq_523 wq_524 wq_65 wq_525
theorem gv_X0_78 : GoodIn bg_L (wsV RX0 78 RX5 yX5_copyFrom wm5_copyFrom) := gb_V wq_255 wq_256 wq_257 wq_62 wq_258
theorem gv_X0_82 : GoodIn bg_L (wsV RX0 82 RX1 yX1_copyFrom wm1_copyFrom) := gb_V wq_263 wq_264 wq_265 wq_65 wq_266
theorem gv_X0_85 : GoodIn bg_L (wsV RX0 85 RX6 yX6_copyFrom wm6_copyFrom) := gb_V wq_268 wq_260 wq_261 wq_63 wq_262
theorem gv_X0_215 : GoodIn bg_L (wsV RX0 215 RX3 yX3_append wm3_append) := gb_V wq_501 wq_502 wq_503 wq_67 wq_504
theorem gv_X0_210 : GoodIn bg_L (wsV RX0 210 RX3 yX3_makeEmpty wm3_makeEmpty) := gb_V wq_497 wq_498 wq_499 wq_67 wq_500
theorem gv_X4_30 : GoodIn bg_L (va_wsS RX4 30 yX4_isDigit wm4_isDigit) := gb_S wq_599 wq_600 wq_69 wq_601
theorem gv_X4_27 : GoodIn bg_L (va_wsS RX4 27 yX4_dueBehindLetter wm4_dueBehindLetter) := gb_S wq_596 wq_597 wq_69 wq_598
theorem gv_X4_13 : GoodIn bg_L (wsV RX4 13 RX3 yX3_length wm3_length) := gb_V wq_591 wq_507 wq_508 wq_67 wq_509
theorem gv_X4_19 : GoodIn bg_L (wsV RX4 19 RX3 yX3_at wm3_at) := gb_V wq_592 wq_532 wq_533 wq_67 wq_534
theorem gv_X4_23 : GoodIn bg_L (va_wsS RX4 23 yX4_dueBehind wm4_dueBehind) := gb_S wq_593 wq_594 wq_69 wq_595
