abbrev wd_R (cI : ClassId) (a : Nat → Nat) (v : Int32) (z : Nat) (S : (Nat → Int32)) : va_W := [(a 0, .inr (5, [.ref (a 1), .int v])), (a 1, .inl (cI, (z, .inl S)))]
abbrev wd_RR (cI : ClassId) (a : Nat → Nat) (v : Int32) (w : Int32) (z : Nat) (F : Nat → Int32) (S : (Nat → Int32)) : va_W := [(a 0, .inr (5, [.ref (a 1), .int v])), (a 1, .inl (cI, (z, .inl S))), (a 2, .inr (5, [.ref (a 3), .int w])), (a 3, .inl (cI, (z, .inl F)))]
abbrev wd_O (cI : ClassId) (a : Nat → Nat) (S : ms_T) : va_W := [(a 0, .inr (4, [.ref (a 1), .ref (a 3)])), (a 1, .inr (5, [.ref (a 2), .int (-6)])), (a 2, .inl (cI, (20, .inl (S 0)))), (a 3, .inr (5, [.ref (a 4), .int (-6)])), (a 4, .inl (cI, (20, .inl (S 1))))]
abbrev wd_D (cI : ClassId) (a : Nat → Nat) (S : ms_T) : va_W := [(a 0, .inr (1, [.ref (a 1), .ref (a 3), .ref (a 5)])), (a 1, .inr (5, [.ref (a 2), .int 0])), (a 2, .inl (cI, (16, .inl (S 0)))), (a 3, .inr (5, [.ref (a 4), .int (-6)])), (a 4, .inl (cI, (16, .inl (S 1)))), (a 5, .inr (5, [.ref (a 6), .int (-6)])), (a 6, .inl (cI, (5, .inl (S 2))))]
abbrev wd_L (cI : ClassId) (a : Nat → Nat) (g : Nat) (S : ms_T) : va_W := [(a 0, .inr (3, [.ref (a 1), .int (nI g), .int (S 1 0)])), (a 1, .inr (5, [.ref (a 2), .int (-1)])), (a 2, .inl (cI, (g, .inl (S 0))))]
abbrev wd_B (cI : ClassId) (a : Nat → Nat) (S : ms_T) : va_W := [(a 0, .inr (0, [.ref (a 1), .ref (a 6), .ref (a 13), .ref (a 15), .ref (a 17), .ref (a 19), .ref (a 21), .ref (a 23), .ref (a 25), .int (S 12 0), .int (S 12 1), .int (S 12 2), .int (S 12 3), .int (S 12 4), .int (S 12 5)])), (a 1, .inr (4, [.ref (a 2), .ref (a 4)])), (a 2, .inr (5, [.ref (a 3), .int (-6)])), (a 3, .inl (cI, (20, .inl (S 0)))), (a 4, .inr (5, [.ref (a 5), .int (-6)])), (a 5, .inl (cI, (20, .inl (S 1)))), (a 6, .inr (1, [.ref (a 7), .ref (a 9), .ref (a 11)])), (a 7, .inr (5, [.ref (a 8), .int 0])), (a 8, .inl (cI, (16, .inl (S 2)))), (a 9, .inr (5, [.ref (a 10), .int (-6)])), (a 10, .inl (cI, (16, .inl (S 3)))), (a 11, .inr (5, [.ref (a 12), .int (-6)])), (a 12, .inl (cI, (5, .inl (S 4)))), (a 13, .inr (5, [.ref (a 14), .int 0])), (a 14, .inl (cI, (5, .inl (S 5)))), (a 15, .inr (5, [.ref (a 16), .int 0])), (a 16, .inl (cI, (4, .inl (S 6)))), (a 17, .inr (5, [.ref (a 18), .int 0])), (a 18, .inl (cI, (4, .inl (S 7)))), (a 19, .inr (5, [.ref (a 20), .int 0])), (a 20, .inl (cI, (4, .inl (S 8)))), (a 21, .inr (5, [.ref (a 22), .int 0])), (a 22, .inl (cI, (4, .inl (S 9)))), (a 23, .inr (5, [.ref (a 24), .int 0])), (a 24, .inl (cI, (4, .inl (S 10)))), (a 25, .inr (5, [.ref (a 26), .int 0])), (a 26, .inl (cI, (4, .inl (S 11))))]
abbrev wd_BB (cI : ClassId) (a : Nat → Nat) (Z : ms_T) (S : ms_T) : va_W := [(a 0, .inr (0, [.ref (a 1), .ref (a 6), .ref (a 13), .ref (a 15), .ref (a 17), .ref (a 19), .ref (a 21), .ref (a 23), .ref (a 25), .int (S 12 0), .int (S 12 1), .int (S 12 2), .int (S 12 3), .int (S 12 4), .int (S 12 5)])), (a 1, .inr (4, [.ref (a 2), .ref (a 4)])), (a 2, .inr (5, [.ref (a 3), .int (-6)])), (a 3, .inl (cI, (20, .inl (S 0)))), (a 4, .inr (5, [.ref (a 5), .int (-6)])), (a 5, .inl (cI, (20, .inl (S 1)))), (a 6, .inr (1, [.ref (a 7), .ref (a 9), .ref (a 11)])), (a 7, .inr (5, [.ref (a 8), .int 0])), (a 8, .inl (cI, (16, .inl (S 2)))), (a 9, .inr (5, [.ref (a 10), .int (-6)])), (a 10, .inl (cI, (16, .inl (S 3)))), (a 11, .inr (5, [.ref (a 12), .int (-6)])), (a 12, .inl (cI, (5, .inl (S 4)))), (a 13, .inr (5, [.ref (a 14), .int 0])), (a 14, .inl (cI, (5, .inl (S 5)))), (a 15, .inr (5, [.ref (a 16), .int 0])), (a 16, .inl (cI, (4, .inl (S 6)))), (a 17, .inr (5, [.ref (a 18), .int 0])), (a 18, .inl (cI, (4, .inl (S 7)))), (a 19, .inr (5, [.ref (a 20), .int 0])), (a 20, .inl (cI, (4, .inl (S 8)))), (a 21, .inr (5, [.ref (a 22), .int 0])), (a 22, .inl (cI, (4, .inl (S 9)))), (a 23, .inr (5, [.ref (a 24), .int 0])), (a 24, .inl (cI, (4, .inl (S 10)))), (a 25, .inr (5, [.ref (a 26), .int 0])), (a 26, .inl (cI, (4, .inl (S 11)))), (a 27, .inr (0, [.ref (a 28), .ref (a 33), .ref (a 40), .ref (a 42), .ref (a 44), .ref (a 46), .ref (a 48), .ref (a 50), .ref (a 52), .int ((Z 12) 0), .int ((Z 12) 1), .int ((Z 12) 2), .int ((Z 12) 3), .int ((Z 12) 4), .int ((Z 12) 5)])), (a 28, .inr (4, [.ref (a 29), .ref (a 31)])), (a 29, .inr (5, [.ref (a 30), .int (-6)])), (a 30, .inl (cI, (20, .inl (Z 0)))), (a 31, .inr (5, [.ref (a 32), .int (-6)])), (a 32, .inl (cI, (20, .inl (Z 1)))), (a 33, .inr (1, [.ref (a 34), .ref (a 36), .ref (a 38)])), (a 34, .inr (5, [.ref (a 35), .int 0])), (a 35, .inl (cI, (16, .inl (Z 2)))), (a 36, .inr (5, [.ref (a 37), .int (-6)])), (a 37, .inl (cI, (16, .inl (Z 3)))), (a 38, .inr (5, [.ref (a 39), .int (-6)])), (a 39, .inl (cI, (5, .inl (Z 4)))), (a 40, .inr (5, [.ref (a 41), .int 0])), (a 41, .inl (cI, (5, .inl (Z 5)))), (a 42, .inr (5, [.ref (a 43), .int 0])), (a 43, .inl (cI, (4, .inl (Z 6)))), (a 44, .inr (5, [.ref (a 45), .int 0])), (a 45, .inl (cI, (4, .inl (Z 7)))), (a 46, .inr (5, [.ref (a 47), .int 0])), (a 47, .inl (cI, (4, .inl (Z 8)))), (a 48, .inr (5, [.ref (a 49), .int 0])), (a 49, .inl (cI, (4, .inl (Z 9)))), (a 50, .inr (5, [.ref (a 51), .int 0])), (a 51, .inl (cI, (4, .inl (Z 10)))), (a 52, .inr (5, [.ref (a 53), .int 0])), (a 53, .inl (cI, (4, .inl (Z 11))))]
abbrev wd_BL (cI : ClassId) (a : Nat → Nat) (g : Nat) (S : ms_T) : va_W := [(a 0, .inr (0, [.ref (a 1), .ref (a 6), .ref (a 13), .ref (a 15), .ref (a 17), .ref (a 19), .ref (a 21), .ref (a 23), .ref (a 25), .int (S 12 0), .int (S 12 1), .int (S 12 2), .int (S 12 3), .int (S 12 4), .int (S 12 5)])), (a 1, .inr (4, [.ref (a 2), .ref (a 4)])), (a 2, .inr (5, [.ref (a 3), .int (-6)])), (a 3, .inl (cI, (20, .inl (S 0)))), (a 4, .inr (5, [.ref (a 5), .int (-6)])), (a 5, .inl (cI, (20, .inl (S 1)))), (a 6, .inr (1, [.ref (a 7), .ref (a 9), .ref (a 11)])), (a 7, .inr (5, [.ref (a 8), .int 0])), (a 8, .inl (cI, (16, .inl (S 2)))), (a 9, .inr (5, [.ref (a 10), .int (-6)])), (a 10, .inl (cI, (16, .inl (S 3)))), (a 11, .inr (5, [.ref (a 12), .int (-6)])), (a 12, .inl (cI, (5, .inl (S 4)))), (a 13, .inr (5, [.ref (a 14), .int 0])), (a 14, .inl (cI, (5, .inl (S 5)))), (a 15, .inr (5, [.ref (a 16), .int 0])), (a 16, .inl (cI, (4, .inl (S 6)))), (a 17, .inr (5, [.ref (a 18), .int 0])), (a 18, .inl (cI, (4, .inl (S 7)))), (a 19, .inr (5, [.ref (a 20), .int 0])), (a 20, .inl (cI, (4, .inl (S 8)))), (a 21, .inr (5, [.ref (a 22), .int 0])), (a 22, .inl (cI, (4, .inl (S 9)))), (a 23, .inr (5, [.ref (a 24), .int 0])), (a 24, .inl (cI, (4, .inl (S 10)))), (a 25, .inr (5, [.ref (a 26), .int 0])), (a 26, .inl (cI, (4, .inl (S 11)))), (a 27, .inr (3, [.ref (a 28), .int (nI g), .int (S 14 0)])), (a 28, .inr (5, [.ref (a 29), .int (-1)])), (a 29, .inl (cI, (g, .inl (S 13))))]
abbrev wd_DD (cI : ClassId) (a : Nat → Nat) (Z : ms_T) (S : ms_T) : va_W := [(a 0, .inr (1, [.ref (a 1), .ref (a 3), .ref (a 5)])), (a 1, .inr (5, [.ref (a 2), .int 0])), (a 2, .inl (cI, (16, .inl (S 0)))), (a 3, .inr (5, [.ref (a 4), .int (-6)])), (a 4, .inl (cI, (16, .inl (S 1)))), (a 5, .inr (5, [.ref (a 6), .int (-6)])), (a 6, .inl (cI, (5, .inl (S 2)))), (a 7, .inr (1, [.ref (a 8), .ref (a 10), .ref (a 12)])), (a 8, .inr (5, [.ref (a 9), .int 0])), (a 9, .inl (cI, (16, .inl (Z 0)))), (a 10, .inr (5, [.ref (a 11), .int (-6)])), (a 11, .inl (cI, (16, .inl (Z 1)))), (a 12, .inr (5, [.ref (a 13), .int (-6)])), (a 13, .inl (cI, (5, .inl (Z 2))))]
abbrev wd_OO (cI : ClassId) (a : Nat → Nat) (Z : ms_T) (S : ms_T) : va_W := [(a 0, .inr (4, [.ref (a 1), .ref (a 3)])), (a 1, .inr (5, [.ref (a 2), .int (-6)])), (a 2, .inl (cI, (20, .inl (S 0)))), (a 3, .inr (5, [.ref (a 4), .int (-6)])), (a 4, .inl (cI, (20, .inl (S 1)))), (a 5, .inr (4, [.ref (a 6), .ref (a 8)])), (a 6, .inr (5, [.ref (a 7), .int (-6)])), (a 7, .inl (cI, (20, .inl (Z 0)))), (a 8, .inr (5, [.ref (a 9), .int (-6)])), (a 9, .inl (cI, (20, .inl (Z 1))))]
def wm6_at : List Cond := .code yX6_at cX6_at 2 (some .int) :: bg_L
theorem hd6_at : yX6_at.cls = RX6 ∧ yX6_at.cls ≠ "java/lang/invoke/MethodHandle" ∧ yX6_at.cls ≠ "java/lang/invoke/VarHandle" ∧ (parseMethodDescriptor yX6_at.desc).map (fun d => d.parameters.length) = some 1 := by decide +kernel
abbrev RM6_at : Room := { frames := 0, cells := 0, slots := 0, locals := 0 }
def wm6_write : List Cond := .code yX6_write cX6_write 3 none :: bg_L
theorem hd6_write : yX6_write.cls = RX6 ∧ yX6_write.cls ≠ "java/lang/invoke/MethodHandle" ∧ yX6_write.cls ≠ "java/lang/invoke/VarHandle" ∧ (parseMethodDescriptor yX6_write.desc).map (fun d => d.parameters.length) = some 2 := by decide +kernel
abbrev RM6_write : Room := { frames := 0, cells := 0, slots := 0, locals := 0 }
def wm6_add : List Cond := .code yX6_add cX6_add 3 none :: bg_L
theorem hd6_add : yX6_add.cls = RX6 ∧ yX6_add.cls ≠ "java/lang/invoke/MethodHandle" ∧ yX6_add.cls ≠ "java/lang/invoke/VarHandle" ∧ (parseMethodDescriptor yX6_add.desc).map (fun d => d.parameters.length) = some 2 := by decide +kernel
abbrev RM6_add : Room := { frames := 0, cells := 0, slots := 0, locals := 0 }
def wm6_sum : List Cond := .code yX6_sum cX6_sum 3 (some .int) :: bg_L
theorem hd6_sum : yX6_sum.cls = RX6 ∧ yX6_sum.cls ≠ "java/lang/invoke/MethodHandle" ∧ yX6_sum.cls ≠ "java/lang/invoke/VarHandle" ∧ (parseMethodDescriptor yX6_sum.desc).map (fun d => d.parameters.length) = some 0 := by decide +kernel
abbrev RM6_sum : Room := { frames := 0, cells := 0, slots := 0, locals := 0 }
def wm6_copyFrom : List Cond := .code yX6_copyFrom cX6_copyFrom 3 none :: bg_L
theorem hd6_copyFrom : yX6_copyFrom.cls = RX6 ∧ yX6_copyFrom.cls ≠ "java/lang/invoke/MethodHandle" ∧ yX6_copyFrom.cls ≠ "java/lang/invoke/VarHandle" ∧ (parseMethodDescriptor yX6_copyFrom.desc).map (fun d => d.parameters.length) = some 1 := by decide +kernel
abbrev RM6_copyFrom : Room := { frames := 0, cells := 0, slots := 0, locals := 0 }
def wm5_sortOf : List Cond := .code yX5_sortOf cX5_sortOf 1 (some .int) :: bg_L
theorem hd5_sortOf : yX5_sortOf.cls ≠ "java/lang/invoke/MethodHandle" ∧ yX5_sortOf.cls ≠ "java/lang/invoke/VarHandle" ∧ (parseMethodDescriptor yX5_sortOf.desc).map (fun d => d.parameters.length) = some 1 := by decide +kernel
abbrev RM5_sortOf : Room := { frames := 0, cells := 0, slots := 0, locals := 0 }
def wm5_firstOwner : List Cond := .code yX5_firstOwner cX5_firstOwner 2 (some .int) :: bg_L
theorem hd5_firstOwner : yX5_firstOwner.cls = RX5 ∧ yX5_firstOwner.cls ≠ "java/lang/invoke/MethodHandle" ∧ yX5_firstOwner.cls ≠ "java/lang/invoke/VarHandle" ∧ (parseMethodDescriptor yX5_firstOwner.desc).map (fun d => d.parameters.length) = some 1 := by decide +kernel
abbrev RM5_firstOwner : Room := { frames := 1, cells := 0, slots := 0, locals := 21 }
def wm5_secondOwner : List Cond := .code yX5_secondOwner cX5_secondOwner 2 (some .int) :: bg_L
theorem hd5_secondOwner : yX5_secondOwner.cls = RX5 ∧ yX5_secondOwner.cls ≠ "java/lang/invoke/MethodHandle" ∧ yX5_secondOwner.cls ≠ "java/lang/invoke/VarHandle" ∧ (parseMethodDescriptor yX5_secondOwner.desc).map (fun d => d.parameters.length) = some 1 := by decide +kernel
abbrev RM5_secondOwner : Room := { frames := 1, cells := 0, slots := 0, locals := 21 }
def wm5_isOwnedBy : List Cond := .code yX5_isOwnedBy cX5_isOwnedBy 3 (some .boolean) :: bg_L
theorem hd5_isOwnedBy : yX5_isOwnedBy.cls = RX5 ∧ yX5_isOwnedBy.cls ≠ "java/lang/invoke/MethodHandle" ∧ yX5_isOwnedBy.cls ≠ "java/lang/invoke/VarHandle" ∧ (parseMethodDescriptor yX5_isOwnedBy.desc).map (fun d => d.parameters.length) = some 2 := by decide +kernel
abbrev RM5_isOwnedBy : Room := { frames := 1, cells := 0, slots := 0, locals := 21 }
def wm5_hasFreePart : List Cond := .code yX5_hasFreePart cX5_hasFreePart 3 (some .boolean) :: bg_L
theorem hd5_hasFreePart : yX5_hasFreePart.cls = RX5 ∧ yX5_hasFreePart.cls ≠ "java/lang/invoke/MethodHandle" ∧ yX5_hasFreePart.cls ≠ "java/lang/invoke/VarHandle" ∧ (parseMethodDescriptor yX5_hasFreePart.desc).map (fun d => d.parameters.length) = some 1 := by decide +kernel
abbrev RM5_hasFreePart : Room := { frames := 1, cells := 0, slots := 0, locals := 21 }
def wm5_giveFreePart : List Cond := .code yX5_giveFreePart cX5_giveFreePart 3 none :: bg_L
theorem hd5_giveFreePart : yX5_giveFreePart.cls = RX5 ∧ yX5_giveFreePart.cls ≠ "java/lang/invoke/MethodHandle" ∧ yX5_giveFreePart.cls ≠ "java/lang/invoke/VarHandle" ∧ (parseMethodDescriptor yX5_giveFreePart.desc).map (fun d => d.parameters.length) = some 2 := by decide +kernel
abbrev RM5_giveFreePart : Room := { frames := 1, cells := 0, slots := 0, locals := 22 }
def wm5_handOn : List Cond := .code yX5_handOn cX5_handOn 6 none :: bg_L
theorem hd5_handOn : yX5_handOn.cls = RX5 ∧ yX5_handOn.cls ≠ "java/lang/invoke/MethodHandle" ∧ yX5_handOn.cls ≠ "java/lang/invoke/VarHandle" ∧ (parseMethodDescriptor yX5_handOn.desc).map (fun d => d.parameters.length) = some 3 := by decide +kernel
abbrev RM5_handOn : Room := { frames := 1, cells := 0, slots := 0, locals := 22 }
def wm5_lowestOf : List Cond := .code yX5_lowestOf cX5_lowestOf 3 (some .int) :: bg_L
theorem hd5_lowestOf : yX5_lowestOf.cls = RX5 ∧ yX5_lowestOf.cls ≠ "java/lang/invoke/MethodHandle" ∧ yX5_lowestOf.cls ≠ "java/lang/invoke/VarHandle" ∧ (parseMethodDescriptor yX5_lowestOf.desc).map (fun d => d.parameters.length) = some 1 := by decide +kernel
abbrev RM5_lowestOf : Room := { frames := 1, cells := 0, slots := 0, locals := 21 }
def wm5_squaresOf : List Cond := .code yX5_squaresOf cX5_squaresOf 4 (some .int) :: bg_L
theorem hd5_squaresOf : yX5_squaresOf.cls = RX5 ∧ yX5_squaresOf.cls ≠ "java/lang/invoke/MethodHandle" ∧ yX5_squaresOf.cls ≠ "java/lang/invoke/VarHandle" ∧ (parseMethodDescriptor yX5_squaresOf.desc).map (fun d => d.parameters.length) = some 1 := by decide +kernel
abbrev RM5_squaresOf : Room := { frames := 1, cells := 0, slots := 0, locals := 21 }
def wm5_toll : List Cond := .code yX5_toll cX5_toll 7 (some .int) :: bg_L
theorem hd5_toll : yX5_toll.cls = RX5 ∧ yX5_toll.cls ≠ "java/lang/invoke/MethodHandle" ∧ yX5_toll.cls ≠ "java/lang/invoke/VarHandle" ∧ (parseMethodDescriptor yX5_toll.desc).map (fun d => d.parameters.length) = some 2 := by decide +kernel
abbrev RM5_toll : Room := { frames := 1, cells := 0, slots := 0, locals := 21 }
def wm5_copyFrom : List Cond := .code yX5_copyFrom cX5_copyFrom 2 none :: bg_L
theorem hd5_copyFrom : yX5_copyFrom.cls = RX5 ∧ yX5_copyFrom.cls ≠ "java/lang/invoke/MethodHandle" ∧ yX5_copyFrom.cls ≠ "java/lang/invoke/VarHandle" ∧ (parseMethodDescriptor yX5_copyFrom.desc).map (fun d => d.parameters.length) = some 1 := by decide +kernel
abbrev RM5_copyFrom : Room := { frames := 1, cells := 0, slots := 0, locals := 22 }
def wm1_coinsOf : List Cond := .code yX1_coinsOf cX1_coinsOf 3 (some .int) :: bg_L
theorem hd1_coinsOf : yX1_coinsOf.cls = RX1 ∧ yX1_coinsOf.cls ≠ "java/lang/invoke/MethodHandle" ∧ yX1_coinsOf.cls ≠ "java/lang/invoke/VarHandle" ∧ (parseMethodDescriptor yX1_coinsOf.desc).map (fun d => d.parameters.length) = some 2 := by decide +kernel
abbrev RM1_coinsOf : Room := { frames := 1, cells := 0, slots := 0, locals := 21 }
def wm1_ageOf : List Cond := .code yX1_ageOf cX1_ageOf 3 (some .int) :: bg_L
theorem hd1_ageOf : yX1_ageOf.cls = RX1 ∧ yX1_ageOf.cls ≠ "java/lang/invoke/MethodHandle" ∧ yX1_ageOf.cls ≠ "java/lang/invoke/VarHandle" ∧ (parseMethodDescriptor yX1_ageOf.desc).map (fun d => d.parameters.length) = some 2 := by decide +kernel
abbrev RM1_ageOf : Room := { frames := 1, cells := 0, slots := 0, locals := 21 }
def wm1_grow : List Cond := .code yX1_grow cX1_grow 5 none :: bg_L
theorem hd1_grow : yX1_grow.cls = RX1 ∧ yX1_grow.cls ≠ "java/lang/invoke/MethodHandle" ∧ yX1_grow.cls ≠ "java/lang/invoke/VarHandle" ∧ (parseMethodDescriptor yX1_grow.desc).map (fun d => d.parameters.length) = some 3 := by decide +kernel
abbrev RM1_grow : Room := { frames := 1, cells := 0, slots := 0, locals := 22 }
def wm1_shrink : List Cond := .code yX1_shrink cX1_shrink 5 none :: bg_L
theorem hd1_shrink : yX1_shrink.cls = RX1 ∧ yX1_shrink.cls ≠ "java/lang/invoke/MethodHandle" ∧ yX1_shrink.cls ≠ "java/lang/invoke/VarHandle" ∧ (parseMethodDescriptor yX1_shrink.desc).map (fun d => d.parameters.length) = some 3 := by decide +kernel
abbrev RM1_shrink : Room := { frames := 1, cells := 0, slots := 0, locals := 22 }
def wm1_makeOlder : List Cond := .code yX1_makeOlder cX1_makeOlder 4 none :: bg_L
theorem hd1_makeOlder : yX1_makeOlder.cls = RX1 ∧ yX1_makeOlder.cls ≠ "java/lang/invoke/MethodHandle" ∧ yX1_makeOlder.cls ≠ "java/lang/invoke/VarHandle" ∧ (parseMethodDescriptor yX1_makeOlder.desc).map (fun d => d.parameters.length) = some 1 := by decide +kernel
abbrev RM1_makeOlder : Room := { frames := 1, cells := 0, slots := 0, locals := 22 }
def wm1_oldestOf : List Cond := .code yX1_oldestOf cX1_oldestOf 6 (some .int) :: bg_L
theorem hd1_oldestOf : yX1_oldestOf.cls = RX1 ∧ yX1_oldestOf.cls ≠ "java/lang/invoke/MethodHandle" ∧ yX1_oldestOf.cls ≠ "java/lang/invoke/VarHandle" ∧ (parseMethodDescriptor yX1_oldestOf.desc).map (fun d => d.parameters.length) = some 1 := by decide +kernel
abbrev RM1_oldestOf : Room := { frames := 1, cells := 0, slots := 0, locals := 21 }
def wm1_owedBy : List Cond := .code yX1_owedBy cX1_owedBy 4 (some .int) :: bg_L
theorem hd1_owedBy : yX1_owedBy.cls = RX1 ∧ yX1_owedBy.cls ≠ "java/lang/invoke/MethodHandle" ∧ yX1_owedBy.cls ≠ "java/lang/invoke/VarHandle" ∧ (parseMethodDescriptor yX1_owedBy.desc).map (fun d => d.parameters.length) = some 1 := by decide +kernel
abbrev RM1_owedBy : Room := { frames := 1, cells := 0, slots := 0, locals := 21 }
def wm1_owedTo : List Cond := .code yX1_owedTo cX1_owedTo 4 (some .int) :: bg_L
theorem hd1_owedTo : yX1_owedTo.cls = RX1 ∧ yX1_owedTo.cls ≠ "java/lang/invoke/MethodHandle" ∧ yX1_owedTo.cls ≠ "java/lang/invoke/VarHandle" ∧ (parseMethodDescriptor yX1_owedTo.desc).map (fun d => d.parameters.length) = some 1 := by decide +kernel
abbrev RM1_owedTo : Room := { frames := 1, cells := 0, slots := 0, locals := 21 }
def wm1_inAll : List Cond := .code yX1_inAll cX1_inAll 1 (some .int) :: bg_L
theorem hd1_inAll : yX1_inAll.cls = RX1 ∧ yX1_inAll.cls ≠ "java/lang/invoke/MethodHandle" ∧ yX1_inAll.cls ≠ "java/lang/invoke/VarHandle" ∧ (parseMethodDescriptor yX1_inAll.desc).map (fun d => d.parameters.length) = some 0 := by decide +kernel
abbrev RM1_inAll : Room := { frames := 1, cells := 0, slots := 0, locals := 22 }
def wm1_howMany : List Cond := .code yX1_howMany cX1_howMany 3 (some .int) :: bg_L
theorem hd1_howMany : yX1_howMany.cls = RX1 ∧ yX1_howMany.cls ≠ "java/lang/invoke/MethodHandle" ∧ yX1_howMany.cls ≠ "java/lang/invoke/VarHandle" ∧ (parseMethodDescriptor yX1_howMany.desc).map (fun d => d.parameters.length) = some 0 := by decide +kernel
abbrev RM1_howMany : Room := { frames := 1, cells := 0, slots := 0, locals := 21 }
def wm1_distance : List Cond := .code yX1_distance cX1_distance 7 (some .int) :: bg_L
theorem hd1_distance : yX1_distance.cls = RX1 ∧ yX1_distance.cls ≠ "java/lang/invoke/MethodHandle" ∧ yX1_distance.cls ≠ "java/lang/invoke/VarHandle" ∧ (parseMethodDescriptor yX1_distance.desc).map (fun d => d.parameters.length) = some 2 := by decide +kernel
abbrev RM1_distance : Room := { frames := 1, cells := 0, slots := 0, locals := 21 }
def wm1_nextOnRing : List Cond := .code yX1_nextOnRing cX1_nextOnRing 5 (some .int) :: bg_L
theorem hd1_nextOnRing : yX1_nextOnRing.cls = RX1 ∧ yX1_nextOnRing.cls ≠ "java/lang/invoke/MethodHandle" ∧ yX1_nextOnRing.cls ≠ "java/lang/invoke/VarHandle" ∧ (parseMethodDescriptor yX1_nextOnRing.desc).map (fun d => d.parameters.length) = some 3 := by decide +kernel
abbrev RM1_nextOnRing : Room := { frames := 2, cells := 0, slots := 0, locals := 47 }
def wm1_clearRing : List Cond := .code yX1_clearRing cX1_clearRing 8 (some .int) :: bg_L
theorem hd1_clearRing : yX1_clearRing.cls = RX1 ∧ yX1_clearRing.cls ≠ "java/lang/invoke/MethodHandle" ∧ yX1_clearRing.cls ≠ "java/lang/invoke/VarHandle" ∧ (parseMethodDescriptor yX1_clearRing.desc).map (fun d => d.parameters.length) = some 1 := by decide +kernel
abbrev RM1_clearRing : Room := { frames := 3, cells := 0, slots := 0, locals := 71 }
def wm1_copyFrom : List Cond := .code yX1_copyFrom cX1_copyFrom 2 none :: bg_L
theorem hd1_copyFrom : yX1_copyFrom.cls = RX1 ∧ yX1_copyFrom.cls ≠ "java/lang/invoke/MethodHandle" ∧ yX1_copyFrom.cls ≠ "java/lang/invoke/VarHandle" ∧ (parseMethodDescriptor yX1_copyFrom.desc).map (fun d => d.parameters.length) = some 1 := by decide +kernel
abbrev RM1_copyFrom : Room := { frames := 1, cells := 0, slots := 0, locals := 22 }
def wm3_length : List Cond := .code yX3_length cX3_length 1 (some .int) :: bg_L
theorem hd3_length : yX3_length.cls = RX3 ∧ yX3_length.cls ≠ "java/lang/invoke/MethodHandle" ∧ yX3_length.cls ≠ "java/lang/invoke/VarHandle" ∧ (parseMethodDescriptor yX3_length.desc).map (fun d => d.parameters.length) = some 0 := by decide +kernel
abbrev RM3_length : Room := { frames := 0, cells := 0, slots := 0, locals := 0 }
def wm3_at : List Cond := .code yX3_at cX3_at 2 (some .int) :: bg_L
theorem hd3_at : yX3_at.cls = RX3 ∧ yX3_at.cls ≠ "java/lang/invoke/MethodHandle" ∧ yX3_at.cls ≠ "java/lang/invoke/VarHandle" ∧ (parseMethodDescriptor yX3_at.desc).map (fun d => d.parameters.length) = some 1 := by decide +kernel
abbrev RM3_at : Room := { frames := 1, cells := 0, slots := 0, locals := 21 }
def wm3_append : List Cond := .code yX3_append cX3_append 2 none :: bg_L
theorem hd3_append : yX3_append.cls = RX3 ∧ yX3_append.cls ≠ "java/lang/invoke/MethodHandle" ∧ yX3_append.cls ≠ "java/lang/invoke/VarHandle" ∧ (parseMethodDescriptor yX3_append.desc).map (fun d => d.parameters.length) = some 1 := by decide +kernel
abbrev RM3_append : Room := { frames := 1, cells := 0, slots := 0, locals := 22 }
def wm3_makeEmpty : List Cond := .code yX3_makeEmpty cX3_makeEmpty 1 none :: bg_L
theorem hd3_makeEmpty : yX3_makeEmpty.cls = RX3 ∧ yX3_makeEmpty.cls ≠ "java/lang/invoke/MethodHandle" ∧ yX3_makeEmpty.cls ≠ "java/lang/invoke/VarHandle" ∧ (parseMethodDescriptor yX3_makeEmpty.desc).map (fun d => d.parameters.length) = some 0 := by decide +kernel
abbrev RM3_makeEmpty : Room := { frames := 0, cells := 0, slots := 0, locals := 0 }
def wm0_addPlayer : List Cond := .code yX0_addPlayer cX0_addPlayer 2 (some .int) :: bg_L
theorem hd0_addPlayer : yX0_addPlayer.cls = RX0 ∧ yX0_addPlayer.cls ≠ "java/lang/invoke/MethodHandle" ∧ yX0_addPlayer.cls ≠ "java/lang/invoke/VarHandle" ∧ (parseMethodDescriptor yX0_addPlayer.desc).map (fun d => d.parameters.length) = some 1 := by decide +kernel
abbrev RM0_addPlayer : Room := { frames := 1, cells := 0, slots := 0, locals := 22 }
def wm0_changeDraws : List Cond := .code yX0_changeDraws cX0_changeDraws 3 (some .int) :: bg_L
theorem hd0_changeDraws : yX0_changeDraws.cls = RX0 ∧ yX0_changeDraws.cls ≠ "java/lang/invoke/MethodHandle" ∧ yX0_changeDraws.cls ≠ "java/lang/invoke/VarHandle" ∧ (parseMethodDescriptor yX0_changeDraws.desc).map (fun d => d.parameters.length) = some 1 := by decide +kernel
abbrev RM0_changeDraws : Room := { frames := 0, cells := 0, slots := 0, locals := 0 }
def wm0_payWhatThereIs : List Cond := .code yX0_payWhatThereIs cX0_payWhatThereIs 5 (some .int) :: bg_L
theorem hd0_payWhatThereIs : yX0_payWhatThereIs.cls = RX0 ∧ yX0_payWhatThereIs.cls ≠ "java/lang/invoke/MethodHandle" ∧ yX0_payWhatThereIs.cls ≠ "java/lang/invoke/VarHandle" ∧ (parseMethodDescriptor yX0_payWhatThereIs.desc).map (fun d => d.parameters.length) = some 3 := by decide +kernel
abbrev RM0_payWhatThereIs : Room := { frames := 1, cells := 0, slots := 0, locals := 22 }
def wm0_payDebts : List Cond := .code yX0_payDebts cX0_payDebts 5 none :: bg_L
theorem hd0_payDebts : yX0_payDebts.cls = RX0 ∧ yX0_payDebts.cls ≠ "java/lang/invoke/MethodHandle" ∧ yX0_payDebts.cls ≠ "java/lang/invoke/VarHandle" ∧ (parseMethodDescriptor yX0_payDebts.desc).map (fun d => d.parameters.length) = some 1 := by decide +kernel
abbrev RM0_payDebts : Room := { frames := 2, cells := 0, slots := 0, locals := 46 }
def wm0_throwDie : List Cond := .code yX0_throwDie cX0_throwDie 1 (some .int) :: bg_L
theorem hd0_throwDie : yX0_throwDie.cls = RX0 ∧ yX0_throwDie.cls ≠ "java/lang/invoke/MethodHandle" ∧ yX0_throwDie.cls ≠ "java/lang/invoke/VarHandle" ∧ (parseMethodDescriptor yX0_throwDie.desc).map (fun d => d.parameters.length) = some 0 := by decide +kernel
abbrev RM0_throwDie : Room := { frames := 0, cells := 0, slots := 0, locals := 0 }
def wm0_move : List Cond := .code yX0_move cX0_move 5 none :: bg_L
theorem hd0_move : yX0_move.cls = RX0 ∧ yX0_move.cls ≠ "java/lang/invoke/MethodHandle" ∧ yX0_move.cls ≠ "java/lang/invoke/VarHandle" ∧ (parseMethodDescriptor yX0_move.desc).map (fun d => d.parameters.length) = some 1 := by decide +kernel
abbrev RM0_move : Room := { frames := 1, cells := 0, slots := 0, locals := 22 }
def wm0_tryToClaim : List Cond := .code yX0_tryToClaim cX0_tryToClaim 5 none :: bg_L
theorem hd0_tryToClaim : yX0_tryToClaim.cls = RX0 ∧ yX0_tryToClaim.cls ≠ "java/lang/invoke/MethodHandle" ∧ yX0_tryToClaim.cls ≠ "java/lang/invoke/VarHandle" ∧ (parseMethodDescriptor yX0_tryToClaim.desc).map (fun d => d.parameters.length) = some 1 := by decide +kernel
abbrev RM0_tryToClaim : Room := { frames := 2, cells := 0, slots := 0, locals := 44 }
def wm0_payToll : List Cond := .code yX0_payToll cX0_payToll 8 none :: bg_L
theorem hd0_payToll : yX0_payToll.cls = RX0 ∧ yX0_payToll.cls ≠ "java/lang/invoke/MethodHandle" ∧ yX0_payToll.cls ≠ "java/lang/invoke/VarHandle" ∧ (parseMethodDescriptor yX0_payToll.desc).map (fun d => d.parameters.length) = some 1 := by decide +kernel
abbrev RM0_payToll : Room := { frames := 2, cells := 0, slots := 0, locals := 47 }
def wm0_loseSquares : List Cond := .code yX0_loseSquares cX0_loseSquares 5 none :: bg_L
theorem hd0_loseSquares : yX0_loseSquares.cls = RX0 ∧ yX0_loseSquares.cls ≠ "java/lang/invoke/MethodHandle" ∧ yX0_loseSquares.cls ≠ "java/lang/invoke/VarHandle" ∧ (parseMethodDescriptor yX0_loseSquares.desc).map (fun d => d.parameters.length) = some 1 := by decide +kernel
abbrev RM0_loseSquares : Room := { frames := 2, cells := 0, slots := 0, locals := 47 }
def wm0_takeTurn : List Cond := .code yX0_takeTurn cX0_takeTurn 2 none :: bg_L
theorem hd0_takeTurn : yX0_takeTurn.cls = RX0 ∧ yX0_takeTurn.cls ≠ "java/lang/invoke/MethodHandle" ∧ yX0_takeTurn.cls ≠ "java/lang/invoke/VarHandle" ∧ (parseMethodDescriptor yX0_takeTurn.desc).map (fun d => d.parameters.length) = some 0 := by decide +kernel
abbrev RM0_takeTurn : Room := { frames := 3, cells := 0, slots := 0, locals := 74 }
def wm0_doTurns : List Cond := .code yX0_doTurns cX0_doTurns 4 (some .int) :: bg_L
theorem hd0_doTurns : yX0_doTurns.cls = RX0 ∧ yX0_doTurns.cls ≠ "java/lang/invoke/MethodHandle" ∧ yX0_doTurns.cls ≠ "java/lang/invoke/VarHandle" ∧ (parseMethodDescriptor yX0_doTurns.desc).map (fun d => d.parameters.length) = some 1 := by decide +kernel
abbrev RM0_doTurns : Room := { frames := 4, cells := 0, slots := 0, locals := 95 }
def wm0_hasPlayer : List Cond := .code yX0_hasPlayer cX0_hasPlayer 2 (some .boolean) :: bg_L
theorem hd0_hasPlayer : yX0_hasPlayer.cls = RX0 ∧ yX0_hasPlayer.cls ≠ "java/lang/invoke/MethodHandle" ∧ yX0_hasPlayer.cls ≠ "java/lang/invoke/VarHandle" ∧ (parseMethodDescriptor yX0_hasPlayer.desc).map (fun d => d.parameters.length) = some 1 := by decide +kernel
abbrev RM0_hasPlayer : Room := { frames := 0, cells := 0, slots := 0, locals := 0 }
def wm0_clearAround : List Cond := .code yX0_clearAround cX0_clearAround 5 (some .int) :: bg_L
theorem hd0_clearAround : yX0_clearAround.cls = RX0 ∧ yX0_clearAround.cls ≠ "java/lang/invoke/MethodHandle" ∧ yX0_clearAround.cls ≠ "java/lang/invoke/VarHandle" ∧ (parseMethodDescriptor yX0_clearAround.desc).map (fun d => d.parameters.length) = some 1 := by decide +kernel
abbrev RM0_clearAround : Room := { frames := 4, cells := 0, slots := 0, locals := 98 }
def wm0_takeTurns : List Cond := .code yX0_takeTurns cX0_takeTurns 3 none :: bg_L
theorem hd0_takeTurns : yX0_takeTurns.cls = RX0 ∧ yX0_takeTurns.cls ≠ "java/lang/invoke/MethodHandle" ∧ yX0_takeTurns.cls ≠ "java/lang/invoke/VarHandle" ∧ (parseMethodDescriptor yX0_takeTurns.desc).map (fun d => d.parameters.length) = some 1 := by decide +kernel
abbrev RM0_takeTurns : Room := { frames := 4, cells := 0, slots := 0, locals := 95 }
def wm0_purseOf : List Cond := .code yX0_purseOf cX0_purseOf 2 (some .int) :: bg_L
theorem hd0_purseOf : yX0_purseOf.cls = RX0 ∧ yX0_purseOf.cls ≠ "java/lang/invoke/MethodHandle" ∧ yX0_purseOf.cls ≠ "java/lang/invoke/VarHandle" ∧ (parseMethodDescriptor yX0_purseOf.desc).map (fun d => d.parameters.length) = some 1 := by decide +kernel
abbrev RM0_purseOf : Room := { frames := 1, cells := 0, slots := 0, locals := 21 }
def wm0_wealthOf : List Cond := .code yX0_wealthOf cX0_wealthOf 2 (some .int) :: bg_L
theorem hd0_wealthOf : yX0_wealthOf.cls = RX0 ∧ yX0_wealthOf.cls ≠ "java/lang/invoke/MethodHandle" ∧ yX0_wealthOf.cls ≠ "java/lang/invoke/VarHandle" ∧ (parseMethodDescriptor yX0_wealthOf.desc).map (fun d => d.parameters.length) = some 1 := by decide +kernel
abbrev RM0_wealthOf : Room := { frames := 2, cells := 0, slots := 0, locals := 44 }
def wm0_factOfPlayer : List Cond := .code yX0_factOfPlayer cX0_factOfPlayer 3 (some .int) :: bg_L
theorem hd0_factOfPlayer : yX0_factOfPlayer.cls = RX0 ∧ yX0_factOfPlayer.cls ≠ "java/lang/invoke/MethodHandle" ∧ yX0_factOfPlayer.cls ≠ "java/lang/invoke/VarHandle" ∧ (parseMethodDescriptor yX0_factOfPlayer.desc).map (fun d => d.parameters.length) = some 2 := by decide +kernel
abbrev RM0_factOfPlayer : Room := { frames := 2, cells := 0, slots := 0, locals := 44 }
def wm0_playersOn : List Cond := .code yX0_playersOn cX0_playersOn 4 (some .int) :: bg_L
theorem hd0_playersOn : yX0_playersOn.cls = RX0 ∧ yX0_playersOn.cls ≠ "java/lang/invoke/MethodHandle" ∧ yX0_playersOn.cls ≠ "java/lang/invoke/VarHandle" ∧ (parseMethodDescriptor yX0_playersOn.desc).map (fun d => d.parameters.length) = some 1 := by decide +kernel
abbrev RM0_playersOn : Room := { frames := 1, cells := 0, slots := 0, locals := 21 }
def wm0_factOfSquare : List Cond := .code yX0_factOfSquare cX0_factOfSquare 3 (some .int) :: bg_L
theorem hd0_factOfSquare : yX0_factOfSquare.cls = RX0 ∧ yX0_factOfSquare.cls ≠ "java/lang/invoke/MethodHandle" ∧ yX0_factOfSquare.cls ≠ "java/lang/invoke/VarHandle" ∧ (parseMethodDescriptor yX0_factOfSquare.desc).map (fun d => d.parameters.length) = some 2 := by decide +kernel
abbrev RM0_factOfSquare : Room := { frames := 2, cells := 0, slots := 0, locals := 47 }
def wm0_fact : List Cond := .code yX0_fact cX0_fact 2 (some .int) :: bg_L
theorem hd0_fact : yX0_fact.cls = RX0 ∧ yX0_fact.cls ≠ "java/lang/invoke/MethodHandle" ∧ yX0_fact.cls ≠ "java/lang/invoke/VarHandle" ∧ (parseMethodDescriptor yX0_fact.desc).map (fun d => d.parameters.length) = some 1 := by decide +kernel
abbrev RM0_fact : Room := { frames := 2, cells := 0, slots := 0, locals := 43 }
def wm0_copyFrom : List Cond := .code yX0_copyFrom cX0_copyFrom 2 none :: bg_L
theorem hd0_copyFrom : yX0_copyFrom.cls = RX0 ∧ yX0_copyFrom.cls ≠ "java/lang/invoke/MethodHandle" ∧ yX0_copyFrom.cls ≠ "java/lang/invoke/VarHandle" ∧ (parseMethodDescriptor yX0_copyFrom.desc).map (fun d => d.parameters.length) = some 1 := by decide +kernel
abbrev RM0_copyFrom : Room := { frames := 2, cells := 0, slots := 0, locals := 43 }
def wm0_describe : List Cond := .code yX0_describe cX0_describe 5 none :: bg_L
theorem hd0_describe : yX0_describe.cls = RX0 ∧ yX0_describe.cls ≠ "java/lang/invoke/MethodHandle" ∧ yX0_describe.cls ≠ "java/lang/invoke/VarHandle" ∧ (parseMethodDescriptor yX0_describe.desc).map (fun d => d.parameters.length) = some 1 := by decide +kernel
abbrev RM0_describe : Room := { frames := 2, cells := 0, slots := 0, locals := 43 }
theorem gv_X5_27 : GoodIn bg_L (wsV RX5 27 RX6 yX6_at wm6_at) := gb_V wq_318 wq_227 wq_228 wq_14 wq_229
theorem gv_X5_31 : GoodIn bg_L (va_wsS RX5 31 yX5_sortOf wm5_sortOf) := gb_S wq_323 wq_324 wq_13 wq_325
theorem gv_X5_34 : GoodIn bg_L (wsV RX5 34 RX6 yX6_write wm6_write) := gb_V wq_334 wq_86 wq_87 wq_14 wq_88
theorem gv_X5_23 : GoodIn bg_L (wsV RX5 23 RX6 yX6_copyFrom wm6_copyFrom) := gb_V wq_208 wq_209 wq_210 wq_14 wq_211
theorem gv_X1_30 : GoodIn bg_L (wsV RX1 30 RX6 yX6_at wm6_at) := gb_V wq_281 wq_227 wq_228 wq_14 wq_229
theorem gv_X1_37 : GoodIn bg_L (wsV RX1 37 RX6 yX6_add wm6_add) := gb_V wq_299 wq_292 wq_293 wq_14 wq_294
theorem gv_X1_34 : GoodIn bg_L (wsV RX1 34 RX6 yX6_write wm6_write) := gb_V wq_300 wq_86 wq_87 wq_14 wq_88
theorem gv_X1_40 : GoodIn bg_L (wsV RX1 40 RX6 yX6_sum wm6_sum) := gb_V wq_519 wq_266 wq_267 wq_14 wq_268
theorem gv_X1_52 : GoodIn bg_L (wsV RX1 52 RX1 yX1_coinsOf wm1_coinsOf) := gb_V wq_395 wq_283 wq_284 wq_16 wq_285
theorem gv_X1_44 : GoodIn bg_L (wsV RX1 44 RX1 yX1_distance wm1_distance) := gb_V wq_387 wq_388 wq_389 wq_16 wq_390
theorem gv_X1_60 : GoodIn bg_L (wsV RX1 60 RX1 yX1_shrink wm1_shrink) := gb_V wq_397 wq_296 wq_297 wq_16 wq_298
theorem gv_X1_48 : GoodIn bg_L (wsV RX1 48 RX1 yX1_nextOnRing wm1_nextOnRing) := gb_V wq_391 wq_393 wq_8 wq_16 wq_394
theorem gv_X1_26 : GoodIn bg_L (wsV RX1 26 RX6 yX6_copyFrom wm6_copyFrom) := gb_V wq_216 wq_209 wq_210 wq_14 wq_211
theorem gv_X3_27 : GoodIn bg_L (wsV RX3 27 RX6 yX6_at wm6_at) := gb_V wq_482 wq_227 wq_228 wq_14 wq_229
theorem gv_X3_31 : GoodIn bg_L (wsV RX3 31 RX6 yX6_write wm6_write) := gb_V wq_477 wq_86 wq_87 wq_14 wq_88
theorem gv_X0_75 : GoodIn bg_L (wsV RX0 75 RX6 yX6_write wm6_write) := gb_V wq_85 wq_86 wq_87 wq_14 wq_88
theorem gv_X0_94 : GoodIn bg_L (wsV RX0 94 RX6 yX6_at wm6_at) := gb_V wq_226 wq_227 wq_228 wq_14 wq_229
theorem gv_X0_131 : GoodIn bg_L (wsV RX0 131 RX6 yX6_add wm6_add) := gb_V wq_291 wq_292 wq_293 wq_14 wq_294
theorem gv_X0_134 : GoodIn bg_L (wsV RX0 134 RX1 yX1_oldestOf wm1_oldestOf) := gb_V wq_277 wq_278 wq_279 wq_16 wq_280
theorem gv_X0_137 : GoodIn bg_L (wsV RX0 137 RX1 yX1_coinsOf wm1_coinsOf) := gb_V wq_282 wq_283 wq_284 wq_16 wq_285
theorem gv_X0_141 : GoodIn bg_L (wsV RX0 141 RX0 yX0_payWhatThereIs wm0_payWhatThereIs) := gb_V wq_286 wq_288 wq_2 wq_12 wq_289
theorem gv_X0_145 : GoodIn bg_L (wsV RX0 145 RX1 yX1_shrink wm1_shrink) := gb_V wq_295 wq_296 wq_297 wq_16 wq_298
theorem gv_X0_154 : GoodIn bg_L (wsV RX0 154 RX0 yX0_throwDie wm0_throwDie) := gb_V wq_305 wq_307 wq_4 wq_12 wq_308
theorem gv_X0_168 : GoodIn bg_L (wsV RX0 168 RX5 yX5_giveFreePart wm5_giveFreePart) := gb_V wq_330 wq_331 wq_332 wq_13 wq_333
theorem gv_X0_158 : GoodIn bg_L (wsV RX0 158 RX5 yX5_isOwnedBy wm5_isOwnedBy) := gb_V wq_314 wq_315 wq_316 wq_13 wq_317
theorem gv_X0_162 : GoodIn bg_L (wsV RX0 162 RX5 yX5_hasFreePart wm5_hasFreePart) := gb_V wq_319 wq_320 wq_321 wq_13 wq_322
theorem gv_X0_165 : GoodIn bg_L (wsV RX0 165 RX5 yX5_firstOwner wm5_firstOwner) := gb_V wq_326 wq_327 wq_328 wq_13 wq_329
theorem gv_X0_177 : GoodIn bg_L (wsV RX0 177 RX1 yX1_grow wm1_grow) := gb_V wq_347 wq_348 wq_349 wq_16 wq_350
theorem gv_X0_171 : GoodIn bg_L (wsV RX0 171 RX5 yX5_secondOwner wm5_secondOwner) := gb_V wq_339 wq_340 wq_341 wq_13 wq_342
theorem gv_X0_174 : GoodIn bg_L (wsV RX0 174 RX5 yX5_toll wm5_toll) := gb_V wq_343 wq_344 wq_345 wq_13 wq_346
theorem gv_X0_180 : GoodIn bg_L (wsV RX0 180 RX1 yX1_ageOf wm1_ageOf) := gb_V wq_359 wq_360 wq_361 wq_16 wq_362
theorem gv_X0_183 : GoodIn bg_L (wsV RX0 183 RX5 yX5_lowestOf wm5_lowestOf) := gb_V wq_363 wq_364 wq_365 wq_13 wq_366
theorem gv_X0_186 : GoodIn bg_L (wsV RX0 186 RX5 yX5_handOn wm5_handOn) := gb_V wq_367 wq_368 wq_369 wq_13 wq_370
theorem gv_X0_112 : GoodIn bg_L (wsV RX0 112 RX0 yX0_payDebts wm0_payDebts) := gb_V wq_273 wq_275 wq_1 wq_12 wq_276
theorem gv_X0_116 : GoodIn bg_L (wsV RX0 116 RX0 yX0_move wm0_move) := gb_V wq_301 wq_303 wq_3 wq_12 wq_304
theorem gv_X0_119 : GoodIn bg_L (wsV RX0 119 RX0 yX0_tryToClaim wm0_tryToClaim) := gb_V wq_310 wq_312 wq_5 wq_12 wq_313
theorem gv_X0_122 : GoodIn bg_L (wsV RX0 122 RX0 yX0_payToll wm0_payToll) := gb_V wq_335 wq_337 wq_6 wq_12 wq_338
theorem gv_X0_125 : GoodIn bg_L (wsV RX0 125 RX1 yX1_makeOlder wm1_makeOlder) := gb_V wq_351 wq_352 wq_353 wq_16 wq_354
theorem gv_X0_128 : GoodIn bg_L (wsV RX0 128 RX0 yX0_loseSquares wm0_loseSquares) := gb_V wq_355 wq_357 wq_7 wq_12 wq_358
theorem gv_X0_98 : GoodIn bg_L (wsV RX0 98 RX6 yX6_sum wm6_sum) := gb_V wq_265 wq_266 wq_267 wq_14 wq_268
theorem gv_X0_102 : GoodIn bg_L (wsV RX0 102 RX0 yX0_takeTurn wm0_takeTurn) := gb_V wq_269 wq_270 wq_271 wq_12 wq_272
theorem gv_X0_109 : GoodIn bg_L (wsV RX0 109 RX1 yX1_clearRing wm1_clearRing) := gb_V wq_383 wq_384 wq_385 wq_16 wq_386
theorem gv_X0_105 : GoodIn bg_L (wsV RX0 105 RX0 yX0_hasPlayer wm0_hasPlayer) := gb_V wq_379 wq_380 wq_381 wq_12 wq_382
theorem gv_X0_189 : GoodIn bg_L (wsV RX0 189 RX1 yX1_owedTo wm1_owedTo) := gb_V wq_456 wq_457 wq_458 wq_16 wq_459
theorem gv_X0_192 : GoodIn bg_L (wsV RX0 192 RX1 yX1_owedBy wm1_owedBy) := gb_V wq_452 wq_453 wq_454 wq_16 wq_455
theorem gv_X0_195 : GoodIn bg_L (wsV RX0 195 RX5 yX5_squaresOf wm5_squaresOf) := gb_V wq_448 wq_449 wq_450 wq_13 wq_451
theorem gv_X0_198 : GoodIn bg_L (va_wsS RX0 198 yX5_sortOf wm5_sortOf) := gb_S wq_472 wq_324 wq_13 wq_325
theorem gv_X0_201 : GoodIn bg_L (wsV RX0 201 RX0 yX0_playersOn wm0_playersOn) := gb_V wq_491 wq_493 wq_9 wq_12 wq_494
theorem gv_X0_204 : GoodIn bg_L (wsV RX0 204 RX1 yX1_howMany wm1_howMany) := gb_V wq_511 wq_512 wq_513 wq_16 wq_514
theorem gv_X0_207 : GoodIn bg_L (wsV RX0 207 RX1 yX1_inAll wm1_inAll) := gb_V wq_515 wq_516 wq_517 wq_16 wq_518
theorem gv_X0_78 : GoodIn bg_L (wsV RX0 78 RX5 yX5_copyFrom wm5_copyFrom) := gb_V wq_204 wq_205 wq_206 wq_13 wq_207
theorem gv_X0_82 : GoodIn bg_L (wsV RX0 82 RX1 yX1_copyFrom wm1_copyFrom) := gb_V wq_212 wq_213 wq_214 wq_16 wq_215
theorem gv_X0_85 : GoodIn bg_L (wsV RX0 85 RX6 yX6_copyFrom wm6_copyFrom) := gb_V wq_217 wq_209 wq_210 wq_14 wq_211
theorem gv_X0_215 : GoodIn bg_L (wsV RX0 215 RX3 yX3_append wm3_append) := gb_V wq_473 wq_474 wq_475 wq_18 wq_476
theorem gv_X0_210 : GoodIn bg_L (wsV RX0 210 RX3 yX3_makeEmpty wm3_makeEmpty) := gb_V wq_468 wq_469 wq_470 wq_18 wq_471
