/-! ## the law's clear -/
abbrev wd_GW (cI : ClassId) (a : Nat → Nat) (S : ms_T) : va_W := [(a 0, .inl (cI, (11, .inl (S 0)))), (a 1, .inl (cI, (24, .inl (S 1)))), (a 2, .inl (cI, (40, .inl (S 2)))), (a 3, .inl (cI, (16, .inl (S 3)))), (a 4, .inl (cI, (16, .inl (S 4)))), (a 5, .inl (cI, (5, .inl (S 5))))]
def f9_clear_b322 (rec8 : Int32 → Int32 → ms_T → Option (Int32 × ms_T)) (rec271 : Int32 → Int32 → Int32 → Int32 → Int32 → ms_T → Option (Int32 × ms_T)) (v0 : Int32) (v4 : Int32) (v6 : Int32) (v7 : Int32) (v8 : Int32) (t1 : Int32) (t2 : Int32) (S : ms_T) : Option (Int32 × ms_T) := (fo_ck t1 16 (fo_bd (some (ms_set S 4 (upd (S 4) t1.toNatClampNeg t2))) (fun s322 => (rec271 v0 v4 v6 v7 (v8 + (1 : Int32)) s322))))
def f9_clear_b271 (rec8 : Int32 → Int32 → ms_T → Option (Int32 × ms_T)) (rec271 : Int32 → Int32 → Int32 → Int32 → Int32 → ms_T → Option (Int32 × ms_T)) (v0 : Int32) (v4 : Int32) (v6 : Int32) (v7 : Int32) (v8 : Int32) (S : ms_T) : Option (Int32 × ms_T) := ((if v6 ≤ v8 then (rec8 v0 (v4 + v7) S) else ((fo_ck v8 5 (fo_ck (v8 + (1 : Int32)) 5 (fo_ck (((4 : Int32) * ((S 5) v8.toNatClampNeg)) + ((S 5) (v8 + (1 : Int32)).toNatClampNeg)) 16 (fo_ck (((4 : Int32) * ((S 5) v8.toNatClampNeg)) + ((S 5) (v8 + (1 : Int32)).toNatClampNeg)) 16 (fo_bd (some (ms_set S 3 (upd (S 3) (((4 : Int32) * ((S 5) v8.toNatClampNeg)) + ((S 5) (v8 + (1 : Int32)).toNatClampNeg)).toNatClampNeg (((S 3) (((4 : Int32) * ((S 5) v8.toNatClampNeg)) + ((S 5) (v8 + (1 : Int32)).toNatClampNeg)).toNatClampNeg) - v7)))) (fun s303 => (fo_ck (((4 : Int32) * ((S 5) v8.toNatClampNeg)) + ((S 5) (v8 + (1 : Int32)).toNatClampNeg)) 16 (if ((s303 3) (((4 : Int32) * ((S 5) v8.toNatClampNeg)) + ((S 5) (v8 + (1 : Int32)).toNatClampNeg)).toNatClampNeg) ≤ 0 then (f9_clear_b322 rec8 rec271 v0 v4 v6 v7 v8 (((4 : Int32) * ((S 5) v8.toNatClampNeg)) + ((S 5) (v8 + (1 : Int32)).toNatClampNeg)) (0 : Int32) s303) else (fo_ck (((4 : Int32) * ((S 5) v8.toNatClampNeg)) + ((S 5) (v8 + (1 : Int32)).toNatClampNeg)) 16 (f9_clear_b322 rec8 rec271 v0 v4 v6 v7 v8 (((4 : Int32) * ((S 5) v8.toNatClampNeg)) + ((S 5) (v8 + (1 : Int32)).toNatClampNeg)) ((s303 4) (((4 : Int32) * ((S 5) v8.toNatClampNeg)) + ((S 5) (v8 + (1 : Int32)).toNatClampNeg)).toNatClampNeg) s303)))))))))))))
def f9_clear_L271 (rec8 : Int32 → Int32 → ms_T → Option (Int32 × ms_T)) : Nat → Int32 → Int32 → Int32 → Int32 → Int32 → ms_T → Option (Int32 × ms_T)
  | 0, _, _, _, _, _, _ => none
  | n + 1, v0, v4, v6, v7, v8, S => f9_clear_b271 rec8 (f9_clear_L271 rec8 n) v0 v4 v6 v7 v8 S
def f9_clear_b260 (rec8 : Int32 → Int32 → ms_T → Option (Int32 × ms_T)) (rec209 : Int32 → Int32 → Int32 → Int32 → Int32 → ms_T → Option (Int32 × ms_T)) (v0 : Int32) (v4 : Int32) (v6 : Int32) (v8 : Int32) (t0 : Int32) (S : ms_T) : Option (Int32 × ms_T) := (rec209 v0 v4 v6 t0 (v8 + (1 : Int32)) S)
def f9_clear_b209 (rec8 : Int32 → Int32 → ms_T → Option (Int32 × ms_T)) (rec209 : Int32 → Int32 → Int32 → Int32 → Int32 → ms_T → Option (Int32 × ms_T)) (v0 : Int32) (v4 : Int32) (v6 : Int32) (v7 : Int32) (v8 : Int32) (S : ms_T) : Option (Int32 × ms_T) := ((if v6 ≤ v8 then (f9_clear_L271 rec8 fo_fu v0 v4 v6 v7 (0 : Int32) S) else ((fo_ck v8 5 (fo_ck (v8 + (1 : Int32)) 5 (fo_ck (((4 : Int32) * ((S 5) v8.toNatClampNeg)) + ((S 5) (v8 + (1 : Int32)).toNatClampNeg)) 16 (if v7 ≤ ((S 3) (((4 : Int32) * ((S 5) v8.toNatClampNeg)) + ((S 5) (v8 + (1 : Int32)).toNatClampNeg)).toNatClampNeg) then (f9_clear_b260 rec8 rec209 v0 v4 v6 v8 v7 S) else (fo_ck v8 5 (fo_ck (v8 + (1 : Int32)) 5 (fo_ck (((4 : Int32) * ((S 5) v8.toNatClampNeg)) + ((S 5) (v8 + (1 : Int32)).toNatClampNeg)) 16 (f9_clear_b260 rec8 rec209 v0 v4 v6 v8 ((S 3) (((4 : Int32) * ((S 5) v8.toNatClampNeg)) + ((S 5) (v8 + (1 : Int32)).toNatClampNeg)).toNatClampNeg) S)))))))))))
def f9_clear_L209 (rec8 : Int32 → Int32 → ms_T → Option (Int32 × ms_T)) : Nat → Int32 → Int32 → Int32 → Int32 → Int32 → ms_T → Option (Int32 × ms_T)
  | 0, _, _, _, _, _, _ => none
  | n + 1, v0, v4, v6, v7, v8, S => f9_clear_b209 rec8 (f9_clear_L209 rec8 n) v0 v4 v6 v7 v8 S
def f9_clear_b194 (rec8 : Int32 → Int32 → ms_T → Option (Int32 × ms_T)) (v0 : Int32) (v4 : Int32) (v6 : Int32) (S : ms_T) : Option (Int32 × ms_T) := ((if v6 = 0 then (some (v4, S)) else (f9_clear_L209 rec8 fo_fu v0 v4 v6 (999999 : Int32) (0 : Int32) S)))
def f9_clear_b188 (rec8 : Int32 → Int32 → ms_T → Option (Int32 × ms_T)) (rec14 : Int32 → Int32 → Int32 → Int32 → ms_T → Option (Int32 × ms_T)) (v0 : Int32) (v4 : Int32) (v6 : Int32) (v7 : Int32) (S : ms_T) : Option (Int32 × ms_T) := (rec14 v0 v4 v6 (v7 + (1 : Int32)) S)
def f9_clear_b180 (rec8 : Int32 → Int32 → ms_T → Option (Int32 × ms_T)) (rec14 : Int32 → Int32 → Int32 → Int32 → ms_T → Option (Int32 × ms_T)) (rec28 : Int32 → Int32 → Int32 → Int32 → Int32 → ms_T → Option (Int32 × ms_T)) (v0 : Int32) (v4 : Int32) (v7 : Int32) (v8 : Int32) (t0 : Int32) (S : ms_T) : Option (Int32 × ms_T) := (rec28 v0 v4 t0 v7 (v8 + (1 : Int32)) S)
def f9_clear_b155 (rec8 : Int32 → Int32 → ms_T → Option (Int32 × ms_T)) (rec14 : Int32 → Int32 → Int32 → Int32 → ms_T → Option (Int32 × ms_T)) (rec28 : Int32 → Int32 → Int32 → Int32 → Int32 → ms_T → Option (Int32 × ms_T)) (rec83 : Int32 → Int32 → Int32 → Int32 → Int32 → Int32 → ms_T → Option (Int32 × ms_T)) (rec125 : Int32 → Int32 → Int32 → Int32 → Int32 → Int32 → Int32 → ms_T → Option (Int32 × ms_T)) (v0 : Int32) (v4 : Int32) (v7 : Int32) (v8 : Int32) (v10 : Int32) (v11 : Int32) (t0 : Int32) (S : ms_T) : Option (Int32 × ms_T) := (rec125 v0 v4 v7 v8 t0 v10 (v11 + (1 : Int32)) S)
def f9_clear_b154 (rec8 : Int32 → Int32 → ms_T → Option (Int32 × ms_T)) (rec14 : Int32 → Int32 → Int32 → Int32 → ms_T → Option (Int32 × ms_T)) (rec28 : Int32 → Int32 → Int32 → Int32 → Int32 → ms_T → Option (Int32 × ms_T)) (rec83 : Int32 → Int32 → Int32 → Int32 → Int32 → Int32 → ms_T → Option (Int32 × ms_T)) (rec125 : Int32 → Int32 → Int32 → Int32 → Int32 → Int32 → Int32 → ms_T → Option (Int32 × ms_T)) (v0 : Int32) (v4 : Int32) (v7 : Int32) (v8 : Int32) (v10 : Int32) (v11 : Int32) (S : ms_T) : Option (Int32 × ms_T) := (f9_clear_b155 rec8 rec14 rec28 rec83 rec125 v0 v4 v7 v8 v10 v11 (0 : Int32) S)
def f9_clear_b125 (rec8 : Int32 → Int32 → ms_T → Option (Int32 × ms_T)) (rec14 : Int32 → Int32 → Int32 → Int32 → ms_T → Option (Int32 × ms_T)) (rec28 : Int32 → Int32 → Int32 → Int32 → Int32 → ms_T → Option (Int32 × ms_T)) (rec83 : Int32 → Int32 → Int32 → Int32 → Int32 → Int32 → ms_T → Option (Int32 × ms_T)) (rec125 : Int32 → Int32 → Int32 → Int32 → Int32 → Int32 → Int32 → ms_T → Option (Int32 × ms_T)) (v0 : Int32) (v4 : Int32) (v7 : Int32) (v8 : Int32) (v9 : Int32) (v10 : Int32) (v11 : Int32) (S : ms_T) : Option (Int32 × ms_T) := ((if v10 ≤ v11 then (rec83 v0 v4 v7 v8 v9 (v10 + (1 : Int32)) S) else ((if v9 = 0 then (f9_clear_b154 rec8 rec14 rec28 rec83 rec125 v0 v4 v7 v8 v10 v11 S) else ((fo_ck v11 5 (fo_ck v10 5 (if ((S 5) v11.toNatClampNeg) = ((S 5) v10.toNatClampNeg) then (f9_clear_b154 rec8 rec14 rec28 rec83 rec125 v0 v4 v7 v8 v10 v11 S) else (f9_clear_b155 rec8 rec14 rec28 rec83 rec125 v0 v4 v7 v8 v10 v11 (1 : Int32) S)))))))))
def f9_clear_L125 (rec8 : Int32 → Int32 → ms_T → Option (Int32 × ms_T)) (rec14 : Int32 → Int32 → Int32 → Int32 → ms_T → Option (Int32 × ms_T)) (rec28 : Int32 → Int32 → Int32 → Int32 → Int32 → ms_T → Option (Int32 × ms_T)) (rec83 : Int32 → Int32 → Int32 → Int32 → Int32 → Int32 → ms_T → Option (Int32 × ms_T)) : Nat → Int32 → Int32 → Int32 → Int32 → Int32 → Int32 → Int32 → ms_T → Option (Int32 × ms_T)
  | 0, _, _, _, _, _, _, _, _ => none
  | n + 1, v0, v4, v7, v8, v9, v10, v11, S => f9_clear_b125 rec8 rec14 rec28 rec83 (f9_clear_L125 rec8 rec14 rec28 rec83 n) v0 v4 v7 v8 v9 v10 v11 S
def f9_clear_b120 (rec8 : Int32 → Int32 → ms_T → Option (Int32 × ms_T)) (rec14 : Int32 → Int32 → Int32 → Int32 → ms_T → Option (Int32 × ms_T)) (rec28 : Int32 → Int32 → Int32 → Int32 → Int32 → ms_T → Option (Int32 × ms_T)) (rec83 : Int32 → Int32 → Int32 → Int32 → Int32 → Int32 → ms_T → Option (Int32 × ms_T)) (v0 : Int32) (v4 : Int32) (v7 : Int32) (v8 : Int32) (v10 : Int32) (t0 : Int32) (S : ms_T) : Option (Int32 × ms_T) := (f9_clear_L125 rec8 rec14 rec28 rec83 fo_fu v0 v4 v7 v8 t0 v10 (0 : Int32) S)
def f9_clear_b119 (rec8 : Int32 → Int32 → ms_T → Option (Int32 × ms_T)) (rec14 : Int32 → Int32 → Int32 → Int32 → ms_T → Option (Int32 × ms_T)) (rec28 : Int32 → Int32 → Int32 → Int32 → Int32 → ms_T → Option (Int32 × ms_T)) (rec83 : Int32 → Int32 → Int32 → Int32 → Int32 → Int32 → ms_T → Option (Int32 × ms_T)) (v0 : Int32) (v4 : Int32) (v7 : Int32) (v8 : Int32) (v10 : Int32) (S : ms_T) : Option (Int32 × ms_T) := (f9_clear_b120 rec8 rec14 rec28 rec83 v0 v4 v7 v8 v10 (0 : Int32) S)
def f9_clear_b83 (rec8 : Int32 → Int32 → ms_T → Option (Int32 × ms_T)) (rec14 : Int32 → Int32 → Int32 → Int32 → ms_T → Option (Int32 × ms_T)) (rec28 : Int32 → Int32 → Int32 → Int32 → Int32 → ms_T → Option (Int32 × ms_T)) (rec83 : Int32 → Int32 → Int32 → Int32 → Int32 → Int32 → ms_T → Option (Int32 × ms_T)) (v0 : Int32) (v4 : Int32) (v7 : Int32) (v8 : Int32) (v9 : Int32) (v10 : Int32) (S : ms_T) : Option (Int32 × ms_T) := ((if v7 ≤ v10 then ((if v9 = 0 then (f9_clear_b180 rec8 rec14 rec28 v0 v4 v7 v8 (0 : Int32) S) else (f9_clear_b180 rec8 rec14 rec28 v0 v4 v7 v8 v7 S))) else ((if v9 = 0 then (f9_clear_b119 rec8 rec14 rec28 rec83 v0 v4 v7 v8 v10 S) else ((fo_ck v10 5 (fo_ck (v10 + (1 : Int32)) 5 (fo_ck (((4 : Int32) * ((S 5) v10.toNatClampNeg)) + ((S 5) (v10 + (1 : Int32)).toNatClampNeg)) 16 (if ((S 3) (((4 : Int32) * ((S 5) v10.toNatClampNeg)) + ((S 5) (v10 + (1 : Int32)).toNatClampNeg)).toNatClampNeg) ≤ 0 then (f9_clear_b119 rec8 rec14 rec28 rec83 v0 v4 v7 v8 v10 S) else (f9_clear_b120 rec8 rec14 rec28 rec83 v0 v4 v7 v8 v10 (1 : Int32) S))))))))))
def f9_clear_L83 (rec8 : Int32 → Int32 → ms_T → Option (Int32 × ms_T)) (rec14 : Int32 → Int32 → Int32 → Int32 → ms_T → Option (Int32 × ms_T)) (rec28 : Int32 → Int32 → Int32 → Int32 → Int32 → ms_T → Option (Int32 × ms_T)) : Nat → Int32 → Int32 → Int32 → Int32 → Int32 → Int32 → ms_T → Option (Int32 × ms_T)
  | 0, _, _, _, _, _, _, _ => none
  | n + 1, v0, v4, v7, v8, v9, v10, S => f9_clear_b83 rec8 rec14 rec28 (f9_clear_L83 rec8 rec14 rec28 n) v0 v4 v7 v8 v9 v10 S
def f9_clear_b28 (rec8 : Int32 → Int32 → ms_T → Option (Int32 × ms_T)) (rec14 : Int32 → Int32 → Int32 → Int32 → ms_T → Option (Int32 × ms_T)) (rec28 : Int32 → Int32 → Int32 → Int32 → Int32 → ms_T → Option (Int32 × ms_T)) (v0 : Int32) (v4 : Int32) (v6 : Int32) (v7 : Int32) (v8 : Int32) (S : ms_T) : Option (Int32 × ms_T) := ((if (64 : Int32) ≤ v8 then (f9_clear_b188 rec8 rec14 v0 v4 v6 v7 S) else ((if v6 = 0 then (fo_ck (0 : Int32) 5 (fo_bd (some (ms_set S 5 (upd (S 5) (0 : Int32).toNatClampNeg v0))) (fun s44 => (fo_ck (1 : Int32) 5 (fo_bd (some (ms_set s44 5 (upd (s44 5) (1 : Int32).toNatClampNeg (v8 >>> ((4 : Int32) &&& 31))))) (fun s52 => (fo_ck (2 : Int32) 5 (fo_bd (some (ms_set s52 5 (upd (s52 5) (2 : Int32).toNatClampNeg ((v8 >>> ((2 : Int32) &&& 31)) &&& (3 : Int32))))) (fun s62 => (fo_ck (3 : Int32) 5 (fo_bd (some (ms_set s62 5 (upd (s62 5) (3 : Int32).toNatClampNeg (v8 &&& (3 : Int32))))) (fun s70 => (fo_ck v7 5 (fo_bd (some (ms_set s70 5 (upd (s70 5) v7.toNatClampNeg v0))) (fun s76 => (f9_clear_L83 rec8 rec14 rec28 fo_fu v0 v4 v7 v8 (1 : Int32) (0 : Int32) s76)))))))))))))))) else (f9_clear_b188 rec8 rec14 v0 v4 v6 v7 S)))))
def f9_clear_L28 (rec8 : Int32 → Int32 → ms_T → Option (Int32 × ms_T)) (rec14 : Int32 → Int32 → Int32 → Int32 → ms_T → Option (Int32 × ms_T)) : Nat → Int32 → Int32 → Int32 → Int32 → Int32 → ms_T → Option (Int32 × ms_T)
  | 0, _, _, _, _, _, _ => none
  | n + 1, v0, v4, v6, v7, v8, S => f9_clear_b28 rec8 rec14 (f9_clear_L28 rec8 rec14 n) v0 v4 v6 v7 v8 S
def f9_clear_b14 (rec8 : Int32 → Int32 → ms_T → Option (Int32 × ms_T)) (rec14 : Int32 → Int32 → Int32 → Int32 → ms_T → Option (Int32 × ms_T)) (v0 : Int32) (v4 : Int32) (v6 : Int32) (v7 : Int32) (S : ms_T) : Option (Int32 × ms_T) := ((if (5 : Int32) ≤ v7 then (f9_clear_b194 rec8 v0 v4 v6 S) else ((if v6 = 0 then (f9_clear_L28 rec8 rec14 fo_fu v0 v4 v6 v7 (0 : Int32) S) else (f9_clear_b194 rec8 v0 v4 v6 S)))))
def f9_clear_L14 (rec8 : Int32 → Int32 → ms_T → Option (Int32 × ms_T)) : Nat → Int32 → Int32 → Int32 → Int32 → ms_T → Option (Int32 × ms_T)
  | 0, _, _, _, _, _ => none
  | n + 1, v0, v4, v6, v7, S => f9_clear_b14 rec8 (f9_clear_L14 rec8 n) v0 v4 v6 v7 S
def f9_clear_b8 (rec8 : Int32 → Int32 → ms_T → Option (Int32 × ms_T)) (v0 : Int32) (v4 : Int32) (S : ms_T) : Option (Int32 × ms_T) := (f9_clear_L14 rec8 fo_fu v0 v4 (0 : Int32) (2 : Int32) S)
def f9_clear_L8 : Nat → Int32 → Int32 → ms_T → Option (Int32 × ms_T)
  | 0, _, _, _ => none
  | n + 1, v0, v4, S => f9_clear_b8 (f9_clear_L8 n) v0 v4 S
def f9_clear (v0 : Int32) (v4 : Int32) (S : ms_T) : Option (Int32 × ms_T) := (f9_clear_L8 fo_fu v0 v4 S)
def wm9_clear : List Cond := .code yL_clear cL_clear 12 (some .int) :: bg_L
theorem hd9_clear : yL_clear.cls ≠ "java/lang/invoke/MethodHandle" ∧ yL_clear.cls ≠ "java/lang/invoke/VarHandle" ∧ (parseMethodDescriptor yL_clear.desc).map (fun d => d.parameters.length) = some 4 := by decide +kernel
abbrev RM9_clear : Room := { frames := 0, cells := 1, slots := 5, locals := 0 }
section
variable {p : Program} {l : Launch} {e : Env} {s : State} {m : MethodId} {args : Array Value} {below : List Frame} {meth : Method} {c : Code} {dC : Nat → ClassId} {dI : Nat → Nat → Nat} {cI cB : ClassId} {A : Nat → Prop}
set_option maxRecDepth 100000 in
set_option maxHeartbeats 4000000 in
theorem w9_clear_b322 (C : cx_M p s m args meth c RL cL_clear (some .int) 12) (hK : va_K (dC, dI) vwCl [(cI, .int)] s) (hA : ∀ q, s.heap.size ≤ q → A q) {a : Nat → Nat} {q : (Int32 × ms_T)} {rec8 : Int32 → Int32 → ms_T → Option (Int32 × ms_T)} (hrec8 : ∀ {v0 : Int32} {v4 : Int32} {S : ms_T} , rec8 v0 v4 S = some q → ∀ {H : Heap} {locs : List Loc} {ls : Array Slot}, gd_W (dC, dI) A s (wd_GW cI a S) H locs → lv_has ls 12 [(0, .int v0), (2, .ref (a 3)), (3, .ref (a 4)), (4, .int v4), (5, .ref (a 5))] → W p l e RM9_clear s m args below meth c H locs 1 5 (MQ below (qi_W (dC, dI) [(cI, .int)] A q.1 (wd_G cI a q.2)) args s 1 5 A) (F0 m 8 ls [])) {rec271 : Int32 → Int32 → Int32 → Int32 → Int32 → ms_T → Option (Int32 × ms_T)} (hrec271 : ∀ {v0 : Int32} {v4 : Int32} {v6 : Int32} {v7 : Int32} {v8 : Int32} {S : ms_T} , rec271 v0 v4 v6 v7 v8 S = some q → ∀ {H : Heap} {locs : List Loc} {ls : Array Slot}, gd_W (dC, dI) A s (wd_GW cI a S) H locs → lv_has ls 12 [(0, .int v0), (2, .ref (a 3)), (3, .ref (a 4)), (4, .int v4), (5, .ref (a 5)), (6, .int v6), (7, .int v7), (8, .int v8)] → W p l e RM9_clear s m args below meth c H locs 1 5 (MQ below (qi_W (dC, dI) [(cI, .int)] A q.1 (wd_G cI a q.2)) args s 1 5 A) (F0 m 271 ls [])) {v0 : Int32} {v4 : Int32} {v6 : Int32} {v7 : Int32} {v8 : Int32} {t1 : Int32} {t2 : Int32} {S : ms_T} (h : f9_clear_b322 rec8 rec271 v0 v4 v6 v7 v8 t1 t2 S = some q) {H : Heap} {locs : List Loc} {ls : Array Slot} (hG : gd_W (dC, dI) A s (wd_GW cI a S) H locs) (hl : lv_has ls 12 [(0, .int v0), (2, .ref (a 3)), (3, .ref (a 4)), (4, .int v4), (5, .ref (a 5)), (6, .int v6), (7, .int v7), (8, .int v8)]) : W p l e RM9_clear s m args below meth c H locs 1 5 (MQ below (qi_W (dC, dI) [(cI, .int)] A q.1 (wd_G cI a q.2)) args s 1 5 A) (F0 m 322 ls [.int t2, .int t1, .ref (a 4)]) := by
  unfold f9_clear_b322 at h
  obtain ⟨hx, hb, hr, hts, hown, hlocks, hml⟩ := id C
  obtain ⟨hi, h⟩ := fo_ck_some h
  obtain ⟨s322, es322, h⟩ := fo_bd_some h
  have es322 := Option.some.inj es322
  refine va_iast hx hb hK hG.1 hG.2.1 hG.2.2 4 0 rfl rfl hi dL_clear_322 (fun H locs hP9 hD9 hS9 => ?_)
  have hG : gd_W (dC, dI) A s (wd_GW cI a (ms_set S 4 (upd (S 4) t1.toNatClampNeg t2))) H locs := ⟨hP9, hD9, hS9⟩
  rw [es322] at hG
  refine lv_iinc (v := (v8 + (1 : Int32))) (lv' := [(8, .int (v8 + (1 : Int32))), (0, .int v0), (2, .ref (a 3)), (3, .ref (a 4)), (4, .int v4), (5, .ref (a 5)), (6, .int v6), (7, .int v7)]) hx hb dL_clear_323 hl (k := 7) rfl rfl (by decide) rfl (fun ls hl => ?_)
  refine lv_goto (tgt := 271) hx hb dL_clear_326 (by decide) ?_
  exact hrec271 h hG (lv_sub hl [1, 2, 3, 4, 5, 6, 7, 0] rfl)
set_option maxRecDepth 100000 in
set_option maxHeartbeats 4000000 in
theorem w9_clear_b271 (C : cx_M p s m args meth c RL cL_clear (some .int) 12) (hK : va_K (dC, dI) vwCl [(cI, .int)] s) (hA : ∀ q, s.heap.size ≤ q → A q) {a : Nat → Nat} {q : (Int32 × ms_T)} {rec8 : Int32 → Int32 → ms_T → Option (Int32 × ms_T)} (hrec8 : ∀ {v0 : Int32} {v4 : Int32} {S : ms_T} , rec8 v0 v4 S = some q → ∀ {H : Heap} {locs : List Loc} {ls : Array Slot}, gd_W (dC, dI) A s (wd_GW cI a S) H locs → lv_has ls 12 [(0, .int v0), (2, .ref (a 3)), (3, .ref (a 4)), (4, .int v4), (5, .ref (a 5))] → W p l e RM9_clear s m args below meth c H locs 1 5 (MQ below (qi_W (dC, dI) [(cI, .int)] A q.1 (wd_G cI a q.2)) args s 1 5 A) (F0 m 8 ls [])) {rec271 : Int32 → Int32 → Int32 → Int32 → Int32 → ms_T → Option (Int32 × ms_T)} (hrec271 : ∀ {v0 : Int32} {v4 : Int32} {v6 : Int32} {v7 : Int32} {v8 : Int32} {S : ms_T} , rec271 v0 v4 v6 v7 v8 S = some q → ∀ {H : Heap} {locs : List Loc} {ls : Array Slot}, gd_W (dC, dI) A s (wd_GW cI a S) H locs → lv_has ls 12 [(0, .int v0), (2, .ref (a 3)), (3, .ref (a 4)), (4, .int v4), (5, .ref (a 5)), (6, .int v6), (7, .int v7), (8, .int v8)] → W p l e RM9_clear s m args below meth c H locs 1 5 (MQ below (qi_W (dC, dI) [(cI, .int)] A q.1 (wd_G cI a q.2)) args s 1 5 A) (F0 m 271 ls [])) {v0 : Int32} {v4 : Int32} {v6 : Int32} {v7 : Int32} {v8 : Int32} {S : ms_T} (h : f9_clear_b271 rec8 rec271 v0 v4 v6 v7 v8 S = some q) {H : Heap} {locs : List Loc} {ls : Array Slot} (hG : gd_W (dC, dI) A s (wd_GW cI a S) H locs) (hl : lv_has ls 12 [(0, .int v0), (2, .ref (a 3)), (3, .ref (a 4)), (4, .int v4), (5, .ref (a 5)), (6, .int v6), (7, .int v7), (8, .int v8)]) : W p l e RM9_clear s m args below meth c H locs 1 5 (MQ below (qi_W (dC, dI) [(cI, .int)] A q.1 (wd_G cI a q.2)) args s 1 5 A) (F0 m 271 ls []) := by
  unfold f9_clear_b271 at h
  obtain ⟨hx, hb, hr, hts, hown, hlocks, hml⟩ := id C
  refine lv_iload hx hb dL_clear_271 (lv_at hl 7 rfl) ?_
  refine lv_iload hx hb dL_clear_273 (lv_at hl 5 rfl) ?_
  refine lv_icmp_ge (tgt := 329) hx hb dL_clear_275 (by decide) (fun hc => ?_) (fun hc => ?_)
  · have h := fo_it h hc
    refine lv_iload hx hb dL_clear_329 (lv_at hl 3 rfl) ?_
    refine lv_iload hx hb dL_clear_331 (lv_at hl 6 rfl) ?_
    refine lv_iadd hx hb dL_clear_333 ?_
    refine lv_istore (lv' := [(4, .int (v4 + v7)), (0, .int v0), (2, .ref (a 3)), (3, .ref (a 4)), (5, .ref (a 5)), (6, .int v6), (7, .int v7), (8, .int v8)]) hx hb dL_clear_334 hl (by decide) rfl (fun ls hl => ?_)
    refine lv_goto (tgt := 8) hx hb dL_clear_336 (by decide) ?_
    exact hrec8 h hG (lv_sub hl [1, 2, 3, 0, 4] rfl)
  · have h := fo_if h hc
    refine lv_iconst (v := (4 : Int32)) hx hb dL_clear_278 (by decide) ?_
    refine lv_aload hx hb dL_clear_279 (lv_at hl 4 rfl) ?_
    refine lv_iload hx hb dL_clear_281 (lv_at hl 7 rfl) ?_
    obtain ⟨hi, h⟩ := fo_ck_some h
    refine va_iald hx hb hK hG.1 5 0 rfl rfl hi dL_clear_283 ?_
    refine lv_imul hx hb dL_clear_284 ?_
    refine lv_aload hx hb dL_clear_285 (lv_at hl 4 rfl) ?_
    refine lv_iload hx hb dL_clear_287 (lv_at hl 7 rfl) ?_
    refine lv_iconst (v := (1 : Int32)) hx hb dL_clear_289 (by decide) ?_
    refine lv_iadd hx hb dL_clear_290 ?_
    obtain ⟨hi, h⟩ := fo_ck_some h
    refine va_iald hx hb hK hG.1 5 0 rfl rfl hi dL_clear_291 ?_
    refine lv_iadd hx hb dL_clear_292 ?_
    refine lv_istore (lv' := [(9, .int (((4 : Int32) * ((S 5) v8.toNatClampNeg)) + ((S 5) (v8 + (1 : Int32)).toNatClampNeg))), (0, .int v0), (2, .ref (a 3)), (3, .ref (a 4)), (4, .int v4), (5, .ref (a 5)), (6, .int v6), (7, .int v7), (8, .int v8)]) hx hb dL_clear_293 hl (by decide) rfl (fun ls hl => ?_)
    refine lv_aload_n hx hb dL_clear_295 rfl (lv_at hl 2 rfl) ?_
    refine lv_iload hx hb dL_clear_296 (lv_at hl 0 rfl) ?_
    refine lv_dup2_11 hx hb dL_clear_298 rfl rfl ?_
    obtain ⟨hi, h⟩ := fo_ck_some h
    refine va_iald hx hb hK hG.1 3 0 rfl rfl hi dL_clear_299 ?_
    refine lv_iload hx hb dL_clear_300 (lv_at hl 7 rfl) ?_
    refine lv_isub hx hb dL_clear_302 ?_
    obtain ⟨hi, h⟩ := fo_ck_some h
    obtain ⟨s303, es303, h⟩ := fo_bd_some h
    have es303 := Option.some.inj es303
    refine va_iast hx hb hK hG.1 hG.2.1 hG.2.2 3 0 rfl rfl hi dL_clear_303 (fun H locs hP9 hD9 hS9 => ?_)
    have hG : gd_W (dC, dI) A s (wd_GW cI a (ms_set S 3 (upd (S 3) (((4 : Int32) * ((S 5) v8.toNatClampNeg)) + ((S 5) (v8 + (1 : Int32)).toNatClampNeg)).toNatClampNeg (((S 3) (((4 : Int32) * ((S 5) v8.toNatClampNeg)) + ((S 5) (v8 + (1 : Int32)).toNatClampNeg)).toNatClampNeg) - v7)))) H locs := ⟨hP9, hD9, hS9⟩
    rw [es303] at hG
    refine lv_aload_n hx hb dL_clear_304 rfl (lv_at hl 3 rfl) ?_
    refine lv_iload hx hb dL_clear_305 (lv_at hl 0 rfl) ?_
    refine lv_aload_n hx hb dL_clear_307 rfl (lv_at hl 2 rfl) ?_
    refine lv_iload hx hb dL_clear_308 (lv_at hl 0 rfl) ?_
    obtain ⟨hi, h⟩ := fo_ck_some h
    refine va_iald hx hb hK hG.1 3 0 rfl rfl hi dL_clear_310 ?_
    refine lv_if_le (tgt := 321) hx hb dL_clear_311 (by decide) (fun hc => ?_) (fun hc => ?_)
    · have h := fo_it h hc
      refine lv_iconst (v := (0 : Int32)) hx hb dL_clear_321 (by decide) ?_
      exact w9_clear_b322 C hK hA (fun h => hrec8 h) (fun h => hrec271 h) h hG (lv_sub hl [1, 2, 3, 4, 5, 6, 7, 8] rfl)
    · have h := fo_if h hc
      refine lv_aload_n hx hb dL_clear_314 rfl (lv_at hl 3 rfl) ?_
      refine lv_iload hx hb dL_clear_315 (lv_at hl 0 rfl) ?_
      obtain ⟨hi, h⟩ := fo_ck_some h
      refine va_iald hx hb hK hG.1 4 0 rfl rfl hi dL_clear_317 ?_
      refine lv_goto (tgt := 322) hx hb dL_clear_318 (by decide) ?_
      exact w9_clear_b322 C hK hA (fun h => hrec8 h) (fun h => hrec271 h) h hG (lv_sub hl [1, 2, 3, 4, 5, 6, 7, 8] rfl)
set_option maxRecDepth 100000 in
set_option maxHeartbeats 4000000 in
theorem w9_clear_L271 (C : cx_M p s m args meth c RL cL_clear (some .int) 12) (hK : va_K (dC, dI) vwCl [(cI, .int)] s) (hA : ∀ q, s.heap.size ≤ q → A q) {a : Nat → Nat} {q : (Int32 × ms_T)} {rec8 : Int32 → Int32 → ms_T → Option (Int32 × ms_T)} (hrec8 : ∀ {v0 : Int32} {v4 : Int32} {S : ms_T} , rec8 v0 v4 S = some q → ∀ {H : Heap} {locs : List Loc} {ls : Array Slot}, gd_W (dC, dI) A s (wd_GW cI a S) H locs → lv_has ls 12 [(0, .int v0), (2, .ref (a 3)), (3, .ref (a 4)), (4, .int v4), (5, .ref (a 5))] → W p l e RM9_clear s m args below meth c H locs 1 5 (MQ below (qi_W (dC, dI) [(cI, .int)] A q.1 (wd_G cI a q.2)) args s 1 5 A) (F0 m 8 ls [])) : ∀ (n : Nat) {v0 : Int32} {v4 : Int32} {v6 : Int32} {v7 : Int32} {v8 : Int32} {S : ms_T}, f9_clear_L271 rec8 n v0 v4 v6 v7 v8 S = some q → ∀ {H : Heap} {locs : List Loc} {ls : Array Slot}, gd_W (dC, dI) A s (wd_GW cI a S) H locs → lv_has ls 12 [(0, .int v0), (2, .ref (a 3)), (3, .ref (a 4)), (4, .int v4), (5, .ref (a 5)), (6, .int v6), (7, .int v7), (8, .int v8)] → W p l e RM9_clear s m args below meth c H locs 1 5 (MQ below (qi_W (dC, dI) [(cI, .int)] A q.1 (wd_G cI a q.2)) args s 1 5 A) (F0 m 271 ls []) := by
  intro n
  induction n with
  | zero => intro _ _ _ _ _ _ h; exact nomatch h
  | succ n ih => intro v0 v4 v6 v7 v8 S h H locs ls hG hl; exact w9_clear_b271 C hK hA (fun h => hrec8 h) (fun h => ih h) (show f9_clear_b271 rec8 (f9_clear_L271 rec8 n) v0 v4 v6 v7 v8 S = some q from h) hG hl
set_option maxRecDepth 100000 in
set_option maxHeartbeats 4000000 in
theorem w9_clear_b260 (C : cx_M p s m args meth c RL cL_clear (some .int) 12) (hK : va_K (dC, dI) vwCl [(cI, .int)] s) (hA : ∀ q, s.heap.size ≤ q → A q) {a : Nat → Nat} {q : (Int32 × ms_T)} {rec8 : Int32 → Int32 → ms_T → Option (Int32 × ms_T)} (hrec8 : ∀ {v0 : Int32} {v4 : Int32} {S : ms_T} , rec8 v0 v4 S = some q → ∀ {H : Heap} {locs : List Loc} {ls : Array Slot}, gd_W (dC, dI) A s (wd_GW cI a S) H locs → lv_has ls 12 [(0, .int v0), (2, .ref (a 3)), (3, .ref (a 4)), (4, .int v4), (5, .ref (a 5))] → W p l e RM9_clear s m args below meth c H locs 1 5 (MQ below (qi_W (dC, dI) [(cI, .int)] A q.1 (wd_G cI a q.2)) args s 1 5 A) (F0 m 8 ls [])) {rec209 : Int32 → Int32 → Int32 → Int32 → Int32 → ms_T → Option (Int32 × ms_T)} (hrec209 : ∀ {v0 : Int32} {v4 : Int32} {v6 : Int32} {v7 : Int32} {v8 : Int32} {S : ms_T} , rec209 v0 v4 v6 v7 v8 S = some q → ∀ {H : Heap} {locs : List Loc} {ls : Array Slot}, gd_W (dC, dI) A s (wd_GW cI a S) H locs → lv_has ls 12 [(0, .int v0), (2, .ref (a 3)), (3, .ref (a 4)), (4, .int v4), (5, .ref (a 5)), (6, .int v6), (7, .int v7), (8, .int v8)] → W p l e RM9_clear s m args below meth c H locs 1 5 (MQ below (qi_W (dC, dI) [(cI, .int)] A q.1 (wd_G cI a q.2)) args s 1 5 A) (F0 m 209 ls [])) {v0 : Int32} {v4 : Int32} {v6 : Int32} {v8 : Int32} {t0 : Int32} {S : ms_T} (h : f9_clear_b260 rec8 rec209 v0 v4 v6 v8 t0 S = some q) {H : Heap} {locs : List Loc} {ls : Array Slot} (hG : gd_W (dC, dI) A s (wd_GW cI a S) H locs) (hl : lv_has ls 12 [(0, .int v0), (2, .ref (a 3)), (3, .ref (a 4)), (4, .int v4), (5, .ref (a 5)), (6, .int v6), (8, .int v8)]) : W p l e RM9_clear s m args below meth c H locs 1 5 (MQ below (qi_W (dC, dI) [(cI, .int)] A q.1 (wd_G cI a q.2)) args s 1 5 A) (F0 m 260 ls [.int t0]) := by
  unfold f9_clear_b260 at h
  obtain ⟨hx, hb, hr, hts, hown, hlocks, hml⟩ := id C
  refine lv_istore (lv' := [(7, .int t0), (0, .int v0), (2, .ref (a 3)), (3, .ref (a 4)), (4, .int v4), (5, .ref (a 5)), (6, .int v6), (8, .int v8)]) hx hb dL_clear_260 hl (by decide) rfl (fun ls hl => ?_)
  refine lv_iinc (v := (v8 + (1 : Int32))) (lv' := [(8, .int (v8 + (1 : Int32))), (7, .int t0), (0, .int v0), (2, .ref (a 3)), (3, .ref (a 4)), (4, .int v4), (5, .ref (a 5)), (6, .int v6)]) hx hb dL_clear_262 hl (k := 7) rfl rfl (by decide) rfl (fun ls hl => ?_)
  refine lv_goto (tgt := 209) hx hb dL_clear_265 (by decide) ?_
  exact hrec209 h hG (lv_sub hl [2, 3, 4, 5, 6, 7, 1, 0] rfl)
set_option maxRecDepth 100000 in
set_option maxHeartbeats 4000000 in
theorem w9_clear_b209 (C : cx_M p s m args meth c RL cL_clear (some .int) 12) (hK : va_K (dC, dI) vwCl [(cI, .int)] s) (hA : ∀ q, s.heap.size ≤ q → A q) {a : Nat → Nat} {q : (Int32 × ms_T)} {rec8 : Int32 → Int32 → ms_T → Option (Int32 × ms_T)} (hrec8 : ∀ {v0 : Int32} {v4 : Int32} {S : ms_T} , rec8 v0 v4 S = some q → ∀ {H : Heap} {locs : List Loc} {ls : Array Slot}, gd_W (dC, dI) A s (wd_GW cI a S) H locs → lv_has ls 12 [(0, .int v0), (2, .ref (a 3)), (3, .ref (a 4)), (4, .int v4), (5, .ref (a 5))] → W p l e RM9_clear s m args below meth c H locs 1 5 (MQ below (qi_W (dC, dI) [(cI, .int)] A q.1 (wd_G cI a q.2)) args s 1 5 A) (F0 m 8 ls [])) {rec209 : Int32 → Int32 → Int32 → Int32 → Int32 → ms_T → Option (Int32 × ms_T)} (hrec209 : ∀ {v0 : Int32} {v4 : Int32} {v6 : Int32} {v7 : Int32} {v8 : Int32} {S : ms_T} , rec209 v0 v4 v6 v7 v8 S = some q → ∀ {H : Heap} {locs : List Loc} {ls : Array Slot}, gd_W (dC, dI) A s (wd_GW cI a S) H locs → lv_has ls 12 [(0, .int v0), (2, .ref (a 3)), (3, .ref (a 4)), (4, .int v4), (5, .ref (a 5)), (6, .int v6), (7, .int v7), (8, .int v8)] → W p l e RM9_clear s m args below meth c H locs 1 5 (MQ below (qi_W (dC, dI) [(cI, .int)] A q.1 (wd_G cI a q.2)) args s 1 5 A) (F0 m 209 ls [])) {v0 : Int32} {v4 : Int32} {v6 : Int32} {v7 : Int32} {v8 : Int32} {S : ms_T} (h : f9_clear_b209 rec8 rec209 v0 v4 v6 v7 v8 S = some q) {H : Heap} {locs : List Loc} {ls : Array Slot} (hG : gd_W (dC, dI) A s (wd_GW cI a S) H locs) (hl : lv_has ls 12 [(0, .int v0), (2, .ref (a 3)), (3, .ref (a 4)), (4, .int v4), (5, .ref (a 5)), (6, .int v6), (7, .int v7), (8, .int v8)]) : W p l e RM9_clear s m args below meth c H locs 1 5 (MQ below (qi_W (dC, dI) [(cI, .int)] A q.1 (wd_G cI a q.2)) args s 1 5 A) (F0 m 209 ls []) := by
  unfold f9_clear_b209 at h
  obtain ⟨hx, hb, hr, hts, hown, hlocks, hml⟩ := id C
  refine lv_iload hx hb dL_clear_209 (lv_at hl 7 rfl) ?_
  refine lv_iload hx hb dL_clear_211 (lv_at hl 5 rfl) ?_
  refine lv_icmp_ge (tgt := 268) hx hb dL_clear_213 (by decide) (fun hc => ?_) (fun hc => ?_)
  · have h := fo_it h hc
    refine lv_iconst (v := (0 : Int32)) hx hb dL_clear_268 (by decide) ?_
    refine lv_istore (lv' := [(8, .int (0 : Int32)), (0, .int v0), (2, .ref (a 3)), (3, .ref (a 4)), (4, .int v4), (5, .ref (a 5)), (6, .int v6), (7, .int v7)]) hx hb dL_clear_269 hl (by decide) rfl (fun ls hl => ?_)
    exact w9_clear_L271 C hK hA (fun h => hrec8 h) fo_fu h hG (lv_sub hl [1, 2, 3, 4, 5, 6, 7, 0] rfl)
  · have h := fo_if h hc
    refine lv_aload_n hx hb dL_clear_216 rfl (lv_at hl 1 rfl) ?_
    refine lv_iconst (v := (4 : Int32)) hx hb dL_clear_217 (by decide) ?_
    refine lv_aload hx hb dL_clear_218 (lv_at hl 4 rfl) ?_
    refine lv_iload hx hb dL_clear_220 (lv_at hl 7 rfl) ?_
    obtain ⟨hi, h⟩ := fo_ck_some h
    refine va_iald hx hb hK hG.1 5 0 rfl rfl hi dL_clear_222 ?_
    refine lv_imul hx hb dL_clear_223 ?_
    refine lv_aload hx hb dL_clear_224 (lv_at hl 4 rfl) ?_
    refine lv_iload hx hb dL_clear_226 (lv_at hl 7 rfl) ?_
    refine lv_iconst (v := (1 : Int32)) hx hb dL_clear_228 (by decide) ?_
    refine lv_iadd hx hb dL_clear_229 ?_
    obtain ⟨hi, h⟩ := fo_ck_some h
    refine va_iald hx hb hK hG.1 5 0 rfl rfl hi dL_clear_230 ?_
    refine lv_iadd hx hb dL_clear_231 ?_
    obtain ⟨hi, h⟩ := fo_ck_some h
    refine va_iald hx hb hK hG.1 3 0 rfl rfl hi dL_clear_232 ?_
    refine lv_iload hx hb dL_clear_233 (lv_at hl 6 rfl) ?_
    refine lv_icmp_ge (tgt := 258) hx hb dL_clear_235 (by decide) (fun hc => ?_) (fun hc => ?_)
    · have h := fo_it h hc
      refine lv_iload hx hb dL_clear_258 (lv_at hl 6 rfl) ?_
      exact w9_clear_b260 C hK hA (fun h => hrec8 h) (fun h => hrec209 h) h hG (lv_sub hl [0, 1, 2, 3, 4, 5, 7] rfl)
    · have h := fo_if h hc
      refine lv_aload_n hx hb dL_clear_238 rfl (lv_at hl 1 rfl) ?_
      refine lv_iconst (v := (4 : Int32)) hx hb dL_clear_239 (by decide) ?_
      refine lv_aload hx hb dL_clear_240 (lv_at hl 4 rfl) ?_
      refine lv_iload hx hb dL_clear_242 (lv_at hl 7 rfl) ?_
      obtain ⟨hi, h⟩ := fo_ck_some h
      refine va_iald hx hb hK hG.1 5 0 rfl rfl hi dL_clear_244 ?_
      refine lv_imul hx hb dL_clear_245 ?_
      refine lv_aload hx hb dL_clear_246 (lv_at hl 4 rfl) ?_
      refine lv_iload hx hb dL_clear_248 (lv_at hl 7 rfl) ?_
      refine lv_iconst (v := (1 : Int32)) hx hb dL_clear_250 (by decide) ?_
      refine lv_iadd hx hb dL_clear_251 ?_
      obtain ⟨hi, h⟩ := fo_ck_some h
      refine va_iald hx hb hK hG.1 5 0 rfl rfl hi dL_clear_252 ?_
      refine lv_iadd hx hb dL_clear_253 ?_
      obtain ⟨hi, h⟩ := fo_ck_some h
      refine va_iald hx hb hK hG.1 3 0 rfl rfl hi dL_clear_254 ?_
      refine lv_goto (tgt := 260) hx hb dL_clear_255 (by decide) ?_
      exact w9_clear_b260 C hK hA (fun h => hrec8 h) (fun h => hrec209 h) h hG (lv_sub hl [0, 1, 2, 3, 4, 5, 7] rfl)
set_option maxRecDepth 100000 in
set_option maxHeartbeats 4000000 in
theorem w9_clear_L209 (C : cx_M p s m args meth c RL cL_clear (some .int) 12) (hK : va_K (dC, dI) vwCl [(cI, .int)] s) (hA : ∀ q, s.heap.size ≤ q → A q) {a : Nat → Nat} {q : (Int32 × ms_T)} {rec8 : Int32 → Int32 → ms_T → Option (Int32 × ms_T)} (hrec8 : ∀ {v0 : Int32} {v4 : Int32} {S : ms_T} , rec8 v0 v4 S = some q → ∀ {H : Heap} {locs : List Loc} {ls : Array Slot}, gd_W (dC, dI) A s (wd_GW cI a S) H locs → lv_has ls 12 [(0, .int v0), (2, .ref (a 3)), (3, .ref (a 4)), (4, .int v4), (5, .ref (a 5))] → W p l e RM9_clear s m args below meth c H locs 1 5 (MQ below (qi_W (dC, dI) [(cI, .int)] A q.1 (wd_G cI a q.2)) args s 1 5 A) (F0 m 8 ls [])) : ∀ (n : Nat) {v0 : Int32} {v4 : Int32} {v6 : Int32} {v7 : Int32} {v8 : Int32} {S : ms_T}, f9_clear_L209 rec8 n v0 v4 v6 v7 v8 S = some q → ∀ {H : Heap} {locs : List Loc} {ls : Array Slot}, gd_W (dC, dI) A s (wd_GW cI a S) H locs → lv_has ls 12 [(0, .int v0), (2, .ref (a 3)), (3, .ref (a 4)), (4, .int v4), (5, .ref (a 5)), (6, .int v6), (7, .int v7), (8, .int v8)] → W p l e RM9_clear s m args below meth c H locs 1 5 (MQ below (qi_W (dC, dI) [(cI, .int)] A q.1 (wd_G cI a q.2)) args s 1 5 A) (F0 m 209 ls []) := by
  intro n
  induction n with
  | zero => intro _ _ _ _ _ _ h; exact nomatch h
  | succ n ih => intro v0 v4 v6 v7 v8 S h H locs ls hG hl; exact w9_clear_b209 C hK hA (fun h => hrec8 h) (fun h => ih h) (show f9_clear_b209 rec8 (f9_clear_L209 rec8 n) v0 v4 v6 v7 v8 S = some q from h) hG hl
set_option maxRecDepth 100000 in
set_option maxHeartbeats 4000000 in
theorem w9_clear_b194 (C : cx_M p s m args meth c RL cL_clear (some .int) 12) (hK : va_K (dC, dI) vwCl [(cI, .int)] s) (hA : ∀ q, s.heap.size ≤ q → A q) {a : Nat → Nat} {q : (Int32 × ms_T)} {rec8 : Int32 → Int32 → ms_T → Option (Int32 × ms_T)} (hrec8 : ∀ {v0 : Int32} {v4 : Int32} {S : ms_T} , rec8 v0 v4 S = some q → ∀ {H : Heap} {locs : List Loc} {ls : Array Slot}, gd_W (dC, dI) A s (wd_GW cI a S) H locs → lv_has ls 12 [(0, .int v0), (2, .ref (a 3)), (3, .ref (a 4)), (4, .int v4), (5, .ref (a 5))] → W p l e RM9_clear s m args below meth c H locs 1 5 (MQ below (qi_W (dC, dI) [(cI, .int)] A q.1 (wd_G cI a q.2)) args s 1 5 A) (F0 m 8 ls [])) {v0 : Int32} {v4 : Int32} {v6 : Int32} {S : ms_T} (h : f9_clear_b194 rec8 v0 v4 v6 S = some q) {H : Heap} {locs : List Loc} {ls : Array Slot} (hG : gd_W (dC, dI) A s (wd_GW cI a S) H locs) (hl : lv_has ls 12 [(0, .int v0), (2, .ref (a 3)), (3, .ref (a 4)), (4, .int v4), (5, .ref (a 5)), (6, .int v6)]) : W p l e RM9_clear s m args below meth c H locs 1 5 (MQ below (qi_W (dC, dI) [(cI, .int)] A q.1 (wd_G cI a q.2)) args s 1 5 A) (F0 m 194 ls []) := by
  unfold f9_clear_b194 at h
  obtain ⟨hx, hb, hr, hts, hown, hlocks, hml⟩ := id C
  refine lv_iload hx hb dL_clear_194 (lv_at hl 5 rfl) ?_
  refine lv_if_ne (tgt := 202) hx hb dL_clear_196 (by decide) (fun hc => ?_) (fun hc => ?_)
  · have h := fo_if h hc
    refine lv_ldc (v := (999999 : Int32)) hx hb hown (hts (Cond.constant RL 28 (999999)) wr_429) dL_clear_202 ?_
    refine lv_istore (lv' := [(7, .int (999999 : Int32)), (0, .int v0), (2, .ref (a 3)), (3, .ref (a 4)), (4, .int v4), (5, .ref (a 5)), (6, .int v6)]) hx hb dL_clear_204 hl (by decide) rfl (fun ls hl => ?_)
    refine lv_iconst (v := (0 : Int32)) hx hb dL_clear_206 (by decide) ?_
    refine lv_istore (lv' := [(8, .int (0 : Int32)), (7, .int (999999 : Int32)), (0, .int v0), (2, .ref (a 3)), (3, .ref (a 4)), (4, .int v4), (5, .ref (a 5)), (6, .int v6)]) hx hb dL_clear_207 hl (by decide) rfl (fun ls hl => ?_)
    exact w9_clear_L209 C hK hA (fun h => hrec8 h) fo_fu h hG (lv_sub hl [2, 3, 4, 5, 6, 7, 1, 0] rfl)
  · have h := fo_it h hc
    refine lv_iload hx hb dL_clear_199 (lv_at hl 3 rfl) ?_
    obtain rfl := Option.some.inj h
    exact gr_i hx hb hr hlocks hK (gd_fst (wt := [_]) hG) rfl dL_clear_201
set_option maxRecDepth 100000 in
set_option maxHeartbeats 4000000 in
theorem w9_clear_b188 (C : cx_M p s m args meth c RL cL_clear (some .int) 12) (hK : va_K (dC, dI) vwCl [(cI, .int)] s) (hA : ∀ q, s.heap.size ≤ q → A q) {a : Nat → Nat} {q : (Int32 × ms_T)} {rec8 : Int32 → Int32 → ms_T → Option (Int32 × ms_T)} (hrec8 : ∀ {v0 : Int32} {v4 : Int32} {S : ms_T} , rec8 v0 v4 S = some q → ∀ {H : Heap} {locs : List Loc} {ls : Array Slot}, gd_W (dC, dI) A s (wd_GW cI a S) H locs → lv_has ls 12 [(0, .int v0), (2, .ref (a 3)), (3, .ref (a 4)), (4, .int v4), (5, .ref (a 5))] → W p l e RM9_clear s m args below meth c H locs 1 5 (MQ below (qi_W (dC, dI) [(cI, .int)] A q.1 (wd_G cI a q.2)) args s 1 5 A) (F0 m 8 ls [])) {rec14 : Int32 → Int32 → Int32 → Int32 → ms_T → Option (Int32 × ms_T)} (hrec14 : ∀ {v0 : Int32} {v4 : Int32} {v6 : Int32} {v7 : Int32} {S : ms_T} , rec14 v0 v4 v6 v7 S = some q → ∀ {H : Heap} {locs : List Loc} {ls : Array Slot}, gd_W (dC, dI) A s (wd_GW cI a S) H locs → lv_has ls 12 [(0, .int v0), (2, .ref (a 3)), (3, .ref (a 4)), (4, .int v4), (5, .ref (a 5)), (6, .int v6), (7, .int v7)] → W p l e RM9_clear s m args below meth c H locs 1 5 (MQ below (qi_W (dC, dI) [(cI, .int)] A q.1 (wd_G cI a q.2)) args s 1 5 A) (F0 m 14 ls [])) {v0 : Int32} {v4 : Int32} {v6 : Int32} {v7 : Int32} {S : ms_T} (h : f9_clear_b188 rec8 rec14 v0 v4 v6 v7 S = some q) {H : Heap} {locs : List Loc} {ls : Array Slot} (hG : gd_W (dC, dI) A s (wd_GW cI a S) H locs) (hl : lv_has ls 12 [(0, .int v0), (2, .ref (a 3)), (3, .ref (a 4)), (4, .int v4), (5, .ref (a 5)), (6, .int v6), (7, .int v7)]) : W p l e RM9_clear s m args below meth c H locs 1 5 (MQ below (qi_W (dC, dI) [(cI, .int)] A q.1 (wd_G cI a q.2)) args s 1 5 A) (F0 m 188 ls []) := by
  unfold f9_clear_b188 at h
  obtain ⟨hx, hb, hr, hts, hown, hlocks, hml⟩ := id C
  refine lv_iinc (v := (v7 + (1 : Int32))) (lv' := [(7, .int (v7 + (1 : Int32))), (0, .int v0), (2, .ref (a 3)), (3, .ref (a 4)), (4, .int v4), (5, .ref (a 5)), (6, .int v6)]) hx hb dL_clear_188 hl (k := 6) rfl rfl (by decide) rfl (fun ls hl => ?_)
  refine lv_goto (tgt := 14) hx hb dL_clear_191 (by decide) ?_
  exact hrec14 h hG (lv_sub hl [1, 2, 3, 4, 5, 6, 0] rfl)
set_option maxRecDepth 100000 in
set_option maxHeartbeats 4000000 in
theorem w9_clear_b180 (C : cx_M p s m args meth c RL cL_clear (some .int) 12) (hK : va_K (dC, dI) vwCl [(cI, .int)] s) (hA : ∀ q, s.heap.size ≤ q → A q) {a : Nat → Nat} {q : (Int32 × ms_T)} {rec8 : Int32 → Int32 → ms_T → Option (Int32 × ms_T)} (hrec8 : ∀ {v0 : Int32} {v4 : Int32} {S : ms_T} , rec8 v0 v4 S = some q → ∀ {H : Heap} {locs : List Loc} {ls : Array Slot}, gd_W (dC, dI) A s (wd_GW cI a S) H locs → lv_has ls 12 [(0, .int v0), (2, .ref (a 3)), (3, .ref (a 4)), (4, .int v4), (5, .ref (a 5))] → W p l e RM9_clear s m args below meth c H locs 1 5 (MQ below (qi_W (dC, dI) [(cI, .int)] A q.1 (wd_G cI a q.2)) args s 1 5 A) (F0 m 8 ls [])) {rec14 : Int32 → Int32 → Int32 → Int32 → ms_T → Option (Int32 × ms_T)} (hrec14 : ∀ {v0 : Int32} {v4 : Int32} {v6 : Int32} {v7 : Int32} {S : ms_T} , rec14 v0 v4 v6 v7 S = some q → ∀ {H : Heap} {locs : List Loc} {ls : Array Slot}, gd_W (dC, dI) A s (wd_GW cI a S) H locs → lv_has ls 12 [(0, .int v0), (2, .ref (a 3)), (3, .ref (a 4)), (4, .int v4), (5, .ref (a 5)), (6, .int v6), (7, .int v7)] → W p l e RM9_clear s m args below meth c H locs 1 5 (MQ below (qi_W (dC, dI) [(cI, .int)] A q.1 (wd_G cI a q.2)) args s 1 5 A) (F0 m 14 ls [])) {rec28 : Int32 → Int32 → Int32 → Int32 → Int32 → ms_T → Option (Int32 × ms_T)} (hrec28 : ∀ {v0 : Int32} {v4 : Int32} {v6 : Int32} {v7 : Int32} {v8 : Int32} {S : ms_T} , rec28 v0 v4 v6 v7 v8 S = some q → ∀ {H : Heap} {locs : List Loc} {ls : Array Slot}, gd_W (dC, dI) A s (wd_GW cI a S) H locs → lv_has ls 12 [(0, .int v0), (2, .ref (a 3)), (3, .ref (a 4)), (4, .int v4), (5, .ref (a 5)), (6, .int v6), (7, .int v7), (8, .int v8)] → W p l e RM9_clear s m args below meth c H locs 1 5 (MQ below (qi_W (dC, dI) [(cI, .int)] A q.1 (wd_G cI a q.2)) args s 1 5 A) (F0 m 28 ls [])) {v0 : Int32} {v4 : Int32} {v7 : Int32} {v8 : Int32} {t0 : Int32} {S : ms_T} (h : f9_clear_b180 rec8 rec14 rec28 v0 v4 v7 v8 t0 S = some q) {H : Heap} {locs : List Loc} {ls : Array Slot} (hG : gd_W (dC, dI) A s (wd_GW cI a S) H locs) (hl : lv_has ls 12 [(0, .int v0), (2, .ref (a 3)), (3, .ref (a 4)), (4, .int v4), (5, .ref (a 5)), (7, .int v7), (8, .int v8)]) : W p l e RM9_clear s m args below meth c H locs 1 5 (MQ below (qi_W (dC, dI) [(cI, .int)] A q.1 (wd_G cI a q.2)) args s 1 5 A) (F0 m 180 ls [.int t0]) := by
  unfold f9_clear_b180 at h
  obtain ⟨hx, hb, hr, hts, hown, hlocks, hml⟩ := id C
  refine lv_istore (lv' := [(6, .int t0), (0, .int v0), (2, .ref (a 3)), (3, .ref (a 4)), (4, .int v4), (5, .ref (a 5)), (7, .int v7), (8, .int v8)]) hx hb dL_clear_180 hl (by decide) rfl (fun ls hl => ?_)
  refine lv_iinc (v := (v8 + (1 : Int32))) (lv' := [(8, .int (v8 + (1 : Int32))), (6, .int t0), (0, .int v0), (2, .ref (a 3)), (3, .ref (a 4)), (4, .int v4), (5, .ref (a 5)), (7, .int v7)]) hx hb dL_clear_182 hl (k := 7) rfl rfl (by decide) rfl (fun ls hl => ?_)
  refine lv_goto (tgt := 28) hx hb dL_clear_185 (by decide) ?_
  exact hrec28 h hG (lv_sub hl [2, 3, 4, 5, 6, 1, 7, 0] rfl)
set_option maxRecDepth 100000 in
set_option maxHeartbeats 4000000 in
theorem w9_clear_b155 (C : cx_M p s m args meth c RL cL_clear (some .int) 12) (hK : va_K (dC, dI) vwCl [(cI, .int)] s) (hA : ∀ q, s.heap.size ≤ q → A q) {a : Nat → Nat} {q : (Int32 × ms_T)} {rec8 : Int32 → Int32 → ms_T → Option (Int32 × ms_T)} (hrec8 : ∀ {v0 : Int32} {v4 : Int32} {S : ms_T} , rec8 v0 v4 S = some q → ∀ {H : Heap} {locs : List Loc} {ls : Array Slot}, gd_W (dC, dI) A s (wd_GW cI a S) H locs → lv_has ls 12 [(0, .int v0), (2, .ref (a 3)), (3, .ref (a 4)), (4, .int v4), (5, .ref (a 5))] → W p l e RM9_clear s m args below meth c H locs 1 5 (MQ below (qi_W (dC, dI) [(cI, .int)] A q.1 (wd_G cI a q.2)) args s 1 5 A) (F0 m 8 ls [])) {rec14 : Int32 → Int32 → Int32 → Int32 → ms_T → Option (Int32 × ms_T)} (hrec14 : ∀ {v0 : Int32} {v4 : Int32} {v6 : Int32} {v7 : Int32} {S : ms_T} , rec14 v0 v4 v6 v7 S = some q → ∀ {H : Heap} {locs : List Loc} {ls : Array Slot}, gd_W (dC, dI) A s (wd_GW cI a S) H locs → lv_has ls 12 [(0, .int v0), (2, .ref (a 3)), (3, .ref (a 4)), (4, .int v4), (5, .ref (a 5)), (6, .int v6), (7, .int v7)] → W p l e RM9_clear s m args below meth c H locs 1 5 (MQ below (qi_W (dC, dI) [(cI, .int)] A q.1 (wd_G cI a q.2)) args s 1 5 A) (F0 m 14 ls [])) {rec28 : Int32 → Int32 → Int32 → Int32 → Int32 → ms_T → Option (Int32 × ms_T)} (hrec28 : ∀ {v0 : Int32} {v4 : Int32} {v6 : Int32} {v7 : Int32} {v8 : Int32} {S : ms_T} , rec28 v0 v4 v6 v7 v8 S = some q → ∀ {H : Heap} {locs : List Loc} {ls : Array Slot}, gd_W (dC, dI) A s (wd_GW cI a S) H locs → lv_has ls 12 [(0, .int v0), (2, .ref (a 3)), (3, .ref (a 4)), (4, .int v4), (5, .ref (a 5)), (6, .int v6), (7, .int v7), (8, .int v8)] → W p l e RM9_clear s m args below meth c H locs 1 5 (MQ below (qi_W (dC, dI) [(cI, .int)] A q.1 (wd_G cI a q.2)) args s 1 5 A) (F0 m 28 ls [])) {rec83 : Int32 → Int32 → Int32 → Int32 → Int32 → Int32 → ms_T → Option (Int32 × ms_T)} (hrec83 : ∀ {v0 : Int32} {v4 : Int32} {v7 : Int32} {v8 : Int32} {v9 : Int32} {v10 : Int32} {S : ms_T} , rec83 v0 v4 v7 v8 v9 v10 S = some q → ∀ {H : Heap} {locs : List Loc} {ls : Array Slot}, gd_W (dC, dI) A s (wd_GW cI a S) H locs → lv_has ls 12 [(0, .int v0), (2, .ref (a 3)), (3, .ref (a 4)), (4, .int v4), (5, .ref (a 5)), (7, .int v7), (8, .int v8), (9, .int v9), (10, .int v10)] → W p l e RM9_clear s m args below meth c H locs 1 5 (MQ below (qi_W (dC, dI) [(cI, .int)] A q.1 (wd_G cI a q.2)) args s 1 5 A) (F0 m 83 ls [])) {rec125 : Int32 → Int32 → Int32 → Int32 → Int32 → Int32 → Int32 → ms_T → Option (Int32 × ms_T)} (hrec125 : ∀ {v0 : Int32} {v4 : Int32} {v7 : Int32} {v8 : Int32} {v9 : Int32} {v10 : Int32} {v11 : Int32} {S : ms_T} , rec125 v0 v4 v7 v8 v9 v10 v11 S = some q → ∀ {H : Heap} {locs : List Loc} {ls : Array Slot}, gd_W (dC, dI) A s (wd_GW cI a S) H locs → lv_has ls 12 [(0, .int v0), (2, .ref (a 3)), (3, .ref (a 4)), (4, .int v4), (5, .ref (a 5)), (7, .int v7), (8, .int v8), (9, .int v9), (10, .int v10), (11, .int v11)] → W p l e RM9_clear s m args below meth c H locs 1 5 (MQ below (qi_W (dC, dI) [(cI, .int)] A q.1 (wd_G cI a q.2)) args s 1 5 A) (F0 m 125 ls [])) {v0 : Int32} {v4 : Int32} {v7 : Int32} {v8 : Int32} {v10 : Int32} {v11 : Int32} {t0 : Int32} {S : ms_T} (h : f9_clear_b155 rec8 rec14 rec28 rec83 rec125 v0 v4 v7 v8 v10 v11 t0 S = some q) {H : Heap} {locs : List Loc} {ls : Array Slot} (hG : gd_W (dC, dI) A s (wd_GW cI a S) H locs) (hl : lv_has ls 12 [(0, .int v0), (2, .ref (a 3)), (3, .ref (a 4)), (4, .int v4), (5, .ref (a 5)), (7, .int v7), (8, .int v8), (10, .int v10), (11, .int v11)]) : W p l e RM9_clear s m args below meth c H locs 1 5 (MQ below (qi_W (dC, dI) [(cI, .int)] A q.1 (wd_G cI a q.2)) args s 1 5 A) (F0 m 155 ls [.int t0]) := by
  unfold f9_clear_b155 at h
  obtain ⟨hx, hb, hr, hts, hown, hlocks, hml⟩ := id C
  refine lv_istore (lv' := [(9, .int t0), (0, .int v0), (2, .ref (a 3)), (3, .ref (a 4)), (4, .int v4), (5, .ref (a 5)), (7, .int v7), (8, .int v8), (10, .int v10), (11, .int v11)]) hx hb dL_clear_155 hl (by decide) rfl (fun ls hl => ?_)
  refine lv_iinc (v := (v11 + (1 : Int32))) (lv' := [(11, .int (v11 + (1 : Int32))), (9, .int t0), (0, .int v0), (2, .ref (a 3)), (3, .ref (a 4)), (4, .int v4), (5, .ref (a 5)), (7, .int v7), (8, .int v8), (10, .int v10)]) hx hb dL_clear_157 hl (k := 9) rfl rfl (by decide) rfl (fun ls hl => ?_)
  refine lv_goto (tgt := 125) hx hb dL_clear_160 (by decide) ?_
  exact hrec125 h hG (lv_sub hl [2, 3, 4, 5, 6, 7, 8, 1, 9, 0] rfl)
set_option maxRecDepth 100000 in
set_option maxHeartbeats 4000000 in
theorem w9_clear_b154 (C : cx_M p s m args meth c RL cL_clear (some .int) 12) (hK : va_K (dC, dI) vwCl [(cI, .int)] s) (hA : ∀ q, s.heap.size ≤ q → A q) {a : Nat → Nat} {q : (Int32 × ms_T)} {rec8 : Int32 → Int32 → ms_T → Option (Int32 × ms_T)} (hrec8 : ∀ {v0 : Int32} {v4 : Int32} {S : ms_T} , rec8 v0 v4 S = some q → ∀ {H : Heap} {locs : List Loc} {ls : Array Slot}, gd_W (dC, dI) A s (wd_GW cI a S) H locs → lv_has ls 12 [(0, .int v0), (2, .ref (a 3)), (3, .ref (a 4)), (4, .int v4), (5, .ref (a 5))] → W p l e RM9_clear s m args below meth c H locs 1 5 (MQ below (qi_W (dC, dI) [(cI, .int)] A q.1 (wd_G cI a q.2)) args s 1 5 A) (F0 m 8 ls [])) {rec14 : Int32 → Int32 → Int32 → Int32 → ms_T → Option (Int32 × ms_T)} (hrec14 : ∀ {v0 : Int32} {v4 : Int32} {v6 : Int32} {v7 : Int32} {S : ms_T} , rec14 v0 v4 v6 v7 S = some q → ∀ {H : Heap} {locs : List Loc} {ls : Array Slot}, gd_W (dC, dI) A s (wd_GW cI a S) H locs → lv_has ls 12 [(0, .int v0), (2, .ref (a 3)), (3, .ref (a 4)), (4, .int v4), (5, .ref (a 5)), (6, .int v6), (7, .int v7)] → W p l e RM9_clear s m args below meth c H locs 1 5 (MQ below (qi_W (dC, dI) [(cI, .int)] A q.1 (wd_G cI a q.2)) args s 1 5 A) (F0 m 14 ls [])) {rec28 : Int32 → Int32 → Int32 → Int32 → Int32 → ms_T → Option (Int32 × ms_T)} (hrec28 : ∀ {v0 : Int32} {v4 : Int32} {v6 : Int32} {v7 : Int32} {v8 : Int32} {S : ms_T} , rec28 v0 v4 v6 v7 v8 S = some q → ∀ {H : Heap} {locs : List Loc} {ls : Array Slot}, gd_W (dC, dI) A s (wd_GW cI a S) H locs → lv_has ls 12 [(0, .int v0), (2, .ref (a 3)), (3, .ref (a 4)), (4, .int v4), (5, .ref (a 5)), (6, .int v6), (7, .int v7), (8, .int v8)] → W p l e RM9_clear s m args below meth c H locs 1 5 (MQ below (qi_W (dC, dI) [(cI, .int)] A q.1 (wd_G cI a q.2)) args s 1 5 A) (F0 m 28 ls [])) {rec83 : Int32 → Int32 → Int32 → Int32 → Int32 → Int32 → ms_T → Option (Int32 × ms_T)} (hrec83 : ∀ {v0 : Int32} {v4 : Int32} {v7 : Int32} {v8 : Int32} {v9 : Int32} {v10 : Int32} {S : ms_T} , rec83 v0 v4 v7 v8 v9 v10 S = some q → ∀ {H : Heap} {locs : List Loc} {ls : Array Slot}, gd_W (dC, dI) A s (wd_GW cI a S) H locs → lv_has ls 12 [(0, .int v0), (2, .ref (a 3)), (3, .ref (a 4)), (4, .int v4), (5, .ref (a 5)), (7, .int v7), (8, .int v8), (9, .int v9), (10, .int v10)] → W p l e RM9_clear s m args below meth c H locs 1 5 (MQ below (qi_W (dC, dI) [(cI, .int)] A q.1 (wd_G cI a q.2)) args s 1 5 A) (F0 m 83 ls [])) {rec125 : Int32 → Int32 → Int32 → Int32 → Int32 → Int32 → Int32 → ms_T → Option (Int32 × ms_T)} (hrec125 : ∀ {v0 : Int32} {v4 : Int32} {v7 : Int32} {v8 : Int32} {v9 : Int32} {v10 : Int32} {v11 : Int32} {S : ms_T} , rec125 v0 v4 v7 v8 v9 v10 v11 S = some q → ∀ {H : Heap} {locs : List Loc} {ls : Array Slot}, gd_W (dC, dI) A s (wd_GW cI a S) H locs → lv_has ls 12 [(0, .int v0), (2, .ref (a 3)), (3, .ref (a 4)), (4, .int v4), (5, .ref (a 5)), (7, .int v7), (8, .int v8), (9, .int v9), (10, .int v10), (11, .int v11)] → W p l e RM9_clear s m args below meth c H locs 1 5 (MQ below (qi_W (dC, dI) [(cI, .int)] A q.1 (wd_G cI a q.2)) args s 1 5 A) (F0 m 125 ls [])) {v0 : Int32} {v4 : Int32} {v7 : Int32} {v8 : Int32} {v10 : Int32} {v11 : Int32} {S : ms_T} (h : f9_clear_b154 rec8 rec14 rec28 rec83 rec125 v0 v4 v7 v8 v10 v11 S = some q) {H : Heap} {locs : List Loc} {ls : Array Slot} (hG : gd_W (dC, dI) A s (wd_GW cI a S) H locs) (hl : lv_has ls 12 [(0, .int v0), (2, .ref (a 3)), (3, .ref (a 4)), (4, .int v4), (5, .ref (a 5)), (7, .int v7), (8, .int v8), (10, .int v10), (11, .int v11)]) : W p l e RM9_clear s m args below meth c H locs 1 5 (MQ below (qi_W (dC, dI) [(cI, .int)] A q.1 (wd_G cI a q.2)) args s 1 5 A) (F0 m 154 ls []) := by
  unfold f9_clear_b154 at h
  obtain ⟨hx, hb, hr, hts, hown, hlocks, hml⟩ := id C
  refine lv_iconst (v := (0 : Int32)) hx hb dL_clear_154 (by decide) ?_
  exact w9_clear_b155 C hK hA (fun h => hrec8 h) (fun h => hrec14 h) (fun h => hrec28 h) (fun h => hrec83 h) (fun h => hrec125 h) h hG (lv_sub hl [0, 1, 2, 3, 4, 5, 6, 7, 8] rfl)
set_option maxRecDepth 100000 in
set_option maxHeartbeats 4000000 in
theorem w9_clear_b125 (C : cx_M p s m args meth c RL cL_clear (some .int) 12) (hK : va_K (dC, dI) vwCl [(cI, .int)] s) (hA : ∀ q, s.heap.size ≤ q → A q) {a : Nat → Nat} {q : (Int32 × ms_T)} {rec8 : Int32 → Int32 → ms_T → Option (Int32 × ms_T)} (hrec8 : ∀ {v0 : Int32} {v4 : Int32} {S : ms_T} , rec8 v0 v4 S = some q → ∀ {H : Heap} {locs : List Loc} {ls : Array Slot}, gd_W (dC, dI) A s (wd_GW cI a S) H locs → lv_has ls 12 [(0, .int v0), (2, .ref (a 3)), (3, .ref (a 4)), (4, .int v4), (5, .ref (a 5))] → W p l e RM9_clear s m args below meth c H locs 1 5 (MQ below (qi_W (dC, dI) [(cI, .int)] A q.1 (wd_G cI a q.2)) args s 1 5 A) (F0 m 8 ls [])) {rec14 : Int32 → Int32 → Int32 → Int32 → ms_T → Option (Int32 × ms_T)} (hrec14 : ∀ {v0 : Int32} {v4 : Int32} {v6 : Int32} {v7 : Int32} {S : ms_T} , rec14 v0 v4 v6 v7 S = some q → ∀ {H : Heap} {locs : List Loc} {ls : Array Slot}, gd_W (dC, dI) A s (wd_GW cI a S) H locs → lv_has ls 12 [(0, .int v0), (2, .ref (a 3)), (3, .ref (a 4)), (4, .int v4), (5, .ref (a 5)), (6, .int v6), (7, .int v7)] → W p l e RM9_clear s m args below meth c H locs 1 5 (MQ below (qi_W (dC, dI) [(cI, .int)] A q.1 (wd_G cI a q.2)) args s 1 5 A) (F0 m 14 ls [])) {rec28 : Int32 → Int32 → Int32 → Int32 → Int32 → ms_T → Option (Int32 × ms_T)} (hrec28 : ∀ {v0 : Int32} {v4 : Int32} {v6 : Int32} {v7 : Int32} {v8 : Int32} {S : ms_T} , rec28 v0 v4 v6 v7 v8 S = some q → ∀ {H : Heap} {locs : List Loc} {ls : Array Slot}, gd_W (dC, dI) A s (wd_GW cI a S) H locs → lv_has ls 12 [(0, .int v0), (2, .ref (a 3)), (3, .ref (a 4)), (4, .int v4), (5, .ref (a 5)), (6, .int v6), (7, .int v7), (8, .int v8)] → W p l e RM9_clear s m args below meth c H locs 1 5 (MQ below (qi_W (dC, dI) [(cI, .int)] A q.1 (wd_G cI a q.2)) args s 1 5 A) (F0 m 28 ls [])) {rec83 : Int32 → Int32 → Int32 → Int32 → Int32 → Int32 → ms_T → Option (Int32 × ms_T)} (hrec83 : ∀ {v0 : Int32} {v4 : Int32} {v7 : Int32} {v8 : Int32} {v9 : Int32} {v10 : Int32} {S : ms_T} , rec83 v0 v4 v7 v8 v9 v10 S = some q → ∀ {H : Heap} {locs : List Loc} {ls : Array Slot}, gd_W (dC, dI) A s (wd_GW cI a S) H locs → lv_has ls 12 [(0, .int v0), (2, .ref (a 3)), (3, .ref (a 4)), (4, .int v4), (5, .ref (a 5)), (7, .int v7), (8, .int v8), (9, .int v9), (10, .int v10)] → W p l e RM9_clear s m args below meth c H locs 1 5 (MQ below (qi_W (dC, dI) [(cI, .int)] A q.1 (wd_G cI a q.2)) args s 1 5 A) (F0 m 83 ls [])) {rec125 : Int32 → Int32 → Int32 → Int32 → Int32 → Int32 → Int32 → ms_T → Option (Int32 × ms_T)} (hrec125 : ∀ {v0 : Int32} {v4 : Int32} {v7 : Int32} {v8 : Int32} {v9 : Int32} {v10 : Int32} {v11 : Int32} {S : ms_T} , rec125 v0 v4 v7 v8 v9 v10 v11 S = some q → ∀ {H : Heap} {locs : List Loc} {ls : Array Slot}, gd_W (dC, dI) A s (wd_GW cI a S) H locs → lv_has ls 12 [(0, .int v0), (2, .ref (a 3)), (3, .ref (a 4)), (4, .int v4), (5, .ref (a 5)), (7, .int v7), (8, .int v8), (9, .int v9), (10, .int v10), (11, .int v11)] → W p l e RM9_clear s m args below meth c H locs 1 5 (MQ below (qi_W (dC, dI) [(cI, .int)] A q.1 (wd_G cI a q.2)) args s 1 5 A) (F0 m 125 ls [])) {v0 : Int32} {v4 : Int32} {v7 : Int32} {v8 : Int32} {v9 : Int32} {v10 : Int32} {v11 : Int32} {S : ms_T} (h : f9_clear_b125 rec8 rec14 rec28 rec83 rec125 v0 v4 v7 v8 v9 v10 v11 S = some q) {H : Heap} {locs : List Loc} {ls : Array Slot} (hG : gd_W (dC, dI) A s (wd_GW cI a S) H locs) (hl : lv_has ls 12 [(0, .int v0), (2, .ref (a 3)), (3, .ref (a 4)), (4, .int v4), (5, .ref (a 5)), (7, .int v7), (8, .int v8), (9, .int v9), (10, .int v10), (11, .int v11)]) : W p l e RM9_clear s m args below meth c H locs 1 5 (MQ below (qi_W (dC, dI) [(cI, .int)] A q.1 (wd_G cI a q.2)) args s 1 5 A) (F0 m 125 ls []) := by
  unfold f9_clear_b125 at h
  obtain ⟨hx, hb, hr, hts, hown, hlocks, hml⟩ := id C
  refine lv_iload hx hb dL_clear_125 (lv_at hl 9 rfl) ?_
  refine lv_iload hx hb dL_clear_127 (lv_at hl 8 rfl) ?_
  refine lv_icmp_ge (tgt := 163) hx hb dL_clear_129 (by decide) (fun hc => ?_) (fun hc => ?_)
  · have h := fo_it h hc
    refine lv_iinc (v := (v10 + (1 : Int32))) (lv' := [(10, .int (v10 + (1 : Int32))), (0, .int v0), (2, .ref (a 3)), (3, .ref (a 4)), (4, .int v4), (5, .ref (a 5)), (7, .int v7), (8, .int v8), (9, .int v9), (11, .int v11)]) hx hb dL_clear_163 hl (k := 8) rfl rfl (by decide) rfl (fun ls hl => ?_)
    refine lv_goto (tgt := 83) hx hb dL_clear_166 (by decide) ?_
    exact hrec83 h hG (lv_sub hl [1, 2, 3, 4, 5, 6, 7, 8, 0] rfl)
  · have h := fo_if h hc
    refine lv_iload hx hb dL_clear_132 (lv_at hl 7 rfl) ?_
    refine lv_if_eq (tgt := 154) hx hb dL_clear_134 (by decide) (fun hc => ?_) (fun hc => ?_)
    · have h := fo_it h hc
      exact w9_clear_b154 C hK hA (fun h => hrec8 h) (fun h => hrec14 h) (fun h => hrec28 h) (fun h => hrec83 h) (fun h => hrec125 h) h hG (lv_sub hl [0, 1, 2, 3, 4, 5, 6, 8, 9] rfl)
    · have h := fo_if h hc
      refine lv_aload hx hb dL_clear_137 (lv_at hl 4 rfl) ?_
      refine lv_iload hx hb dL_clear_139 (lv_at hl 9 rfl) ?_
      obtain ⟨hi, h⟩ := fo_ck_some h
      refine va_iald hx hb hK hG.1 5 0 rfl rfl hi dL_clear_141 ?_
      refine lv_aload hx hb dL_clear_142 (lv_at hl 4 rfl) ?_
      refine lv_iload hx hb dL_clear_144 (lv_at hl 8 rfl) ?_
      obtain ⟨hi, h⟩ := fo_ck_some h
      refine va_iald hx hb hK hG.1 5 0 rfl rfl hi dL_clear_146 ?_
      refine lv_icmp_eq (tgt := 154) hx hb dL_clear_147 (by decide) (fun hc => ?_) (fun hc => ?_)
      · have h := fo_it h hc
        exact w9_clear_b154 C hK hA (fun h => hrec8 h) (fun h => hrec14 h) (fun h => hrec28 h) (fun h => hrec83 h) (fun h => hrec125 h) h hG (lv_sub hl [0, 1, 2, 3, 4, 5, 6, 8, 9] rfl)
      · have h := fo_if h hc
        refine lv_iconst (v := (1 : Int32)) hx hb dL_clear_150 (by decide) ?_
        refine lv_goto (tgt := 155) hx hb dL_clear_151 (by decide) ?_
        exact w9_clear_b155 C hK hA (fun h => hrec8 h) (fun h => hrec14 h) (fun h => hrec28 h) (fun h => hrec83 h) (fun h => hrec125 h) h hG (lv_sub hl [0, 1, 2, 3, 4, 5, 6, 8, 9] rfl)
set_option maxRecDepth 100000 in
set_option maxHeartbeats 4000000 in
theorem w9_clear_L125 (C : cx_M p s m args meth c RL cL_clear (some .int) 12) (hK : va_K (dC, dI) vwCl [(cI, .int)] s) (hA : ∀ q, s.heap.size ≤ q → A q) {a : Nat → Nat} {q : (Int32 × ms_T)} {rec8 : Int32 → Int32 → ms_T → Option (Int32 × ms_T)} (hrec8 : ∀ {v0 : Int32} {v4 : Int32} {S : ms_T} , rec8 v0 v4 S = some q → ∀ {H : Heap} {locs : List Loc} {ls : Array Slot}, gd_W (dC, dI) A s (wd_GW cI a S) H locs → lv_has ls 12 [(0, .int v0), (2, .ref (a 3)), (3, .ref (a 4)), (4, .int v4), (5, .ref (a 5))] → W p l e RM9_clear s m args below meth c H locs 1 5 (MQ below (qi_W (dC, dI) [(cI, .int)] A q.1 (wd_G cI a q.2)) args s 1 5 A) (F0 m 8 ls [])) {rec14 : Int32 → Int32 → Int32 → Int32 → ms_T → Option (Int32 × ms_T)} (hrec14 : ∀ {v0 : Int32} {v4 : Int32} {v6 : Int32} {v7 : Int32} {S : ms_T} , rec14 v0 v4 v6 v7 S = some q → ∀ {H : Heap} {locs : List Loc} {ls : Array Slot}, gd_W (dC, dI) A s (wd_GW cI a S) H locs → lv_has ls 12 [(0, .int v0), (2, .ref (a 3)), (3, .ref (a 4)), (4, .int v4), (5, .ref (a 5)), (6, .int v6), (7, .int v7)] → W p l e RM9_clear s m args below meth c H locs 1 5 (MQ below (qi_W (dC, dI) [(cI, .int)] A q.1 (wd_G cI a q.2)) args s 1 5 A) (F0 m 14 ls [])) {rec28 : Int32 → Int32 → Int32 → Int32 → Int32 → ms_T → Option (Int32 × ms_T)} (hrec28 : ∀ {v0 : Int32} {v4 : Int32} {v6 : Int32} {v7 : Int32} {v8 : Int32} {S : ms_T} , rec28 v0 v4 v6 v7 v8 S = some q → ∀ {H : Heap} {locs : List Loc} {ls : Array Slot}, gd_W (dC, dI) A s (wd_GW cI a S) H locs → lv_has ls 12 [(0, .int v0), (2, .ref (a 3)), (3, .ref (a 4)), (4, .int v4), (5, .ref (a 5)), (6, .int v6), (7, .int v7), (8, .int v8)] → W p l e RM9_clear s m args below meth c H locs 1 5 (MQ below (qi_W (dC, dI) [(cI, .int)] A q.1 (wd_G cI a q.2)) args s 1 5 A) (F0 m 28 ls [])) {rec83 : Int32 → Int32 → Int32 → Int32 → Int32 → Int32 → ms_T → Option (Int32 × ms_T)} (hrec83 : ∀ {v0 : Int32} {v4 : Int32} {v7 : Int32} {v8 : Int32} {v9 : Int32} {v10 : Int32} {S : ms_T} , rec83 v0 v4 v7 v8 v9 v10 S = some q → ∀ {H : Heap} {locs : List Loc} {ls : Array Slot}, gd_W (dC, dI) A s (wd_GW cI a S) H locs → lv_has ls 12 [(0, .int v0), (2, .ref (a 3)), (3, .ref (a 4)), (4, .int v4), (5, .ref (a 5)), (7, .int v7), (8, .int v8), (9, .int v9), (10, .int v10)] → W p l e RM9_clear s m args below meth c H locs 1 5 (MQ below (qi_W (dC, dI) [(cI, .int)] A q.1 (wd_G cI a q.2)) args s 1 5 A) (F0 m 83 ls [])) : ∀ (n : Nat) {v0 : Int32} {v4 : Int32} {v7 : Int32} {v8 : Int32} {v9 : Int32} {v10 : Int32} {v11 : Int32} {S : ms_T}, f9_clear_L125 rec8 rec14 rec28 rec83 n v0 v4 v7 v8 v9 v10 v11 S = some q → ∀ {H : Heap} {locs : List Loc} {ls : Array Slot}, gd_W (dC, dI) A s (wd_GW cI a S) H locs → lv_has ls 12 [(0, .int v0), (2, .ref (a 3)), (3, .ref (a 4)), (4, .int v4), (5, .ref (a 5)), (7, .int v7), (8, .int v8), (9, .int v9), (10, .int v10), (11, .int v11)] → W p l e RM9_clear s m args below meth c H locs 1 5 (MQ below (qi_W (dC, dI) [(cI, .int)] A q.1 (wd_G cI a q.2)) args s 1 5 A) (F0 m 125 ls []) := by
  intro n
  induction n with
  | zero => intro _ _ _ _ _ _ _ _ h; exact nomatch h
  | succ n ih => intro v0 v4 v7 v8 v9 v10 v11 S h H locs ls hG hl; exact w9_clear_b125 C hK hA (fun h => hrec8 h) (fun h => hrec14 h) (fun h => hrec28 h) (fun h => hrec83 h) (fun h => ih h) (show f9_clear_b125 rec8 rec14 rec28 rec83 (f9_clear_L125 rec8 rec14 rec28 rec83 n) v0 v4 v7 v8 v9 v10 v11 S = some q from h) hG hl
set_option maxRecDepth 100000 in
set_option maxHeartbeats 4000000 in
theorem w9_clear_b120 (C : cx_M p s m args meth c RL cL_clear (some .int) 12) (hK : va_K (dC, dI) vwCl [(cI, .int)] s) (hA : ∀ q, s.heap.size ≤ q → A q) {a : Nat → Nat} {q : (Int32 × ms_T)} {rec8 : Int32 → Int32 → ms_T → Option (Int32 × ms_T)} (hrec8 : ∀ {v0 : Int32} {v4 : Int32} {S : ms_T} , rec8 v0 v4 S = some q → ∀ {H : Heap} {locs : List Loc} {ls : Array Slot}, gd_W (dC, dI) A s (wd_GW cI a S) H locs → lv_has ls 12 [(0, .int v0), (2, .ref (a 3)), (3, .ref (a 4)), (4, .int v4), (5, .ref (a 5))] → W p l e RM9_clear s m args below meth c H locs 1 5 (MQ below (qi_W (dC, dI) [(cI, .int)] A q.1 (wd_G cI a q.2)) args s 1 5 A) (F0 m 8 ls [])) {rec14 : Int32 → Int32 → Int32 → Int32 → ms_T → Option (Int32 × ms_T)} (hrec14 : ∀ {v0 : Int32} {v4 : Int32} {v6 : Int32} {v7 : Int32} {S : ms_T} , rec14 v0 v4 v6 v7 S = some q → ∀ {H : Heap} {locs : List Loc} {ls : Array Slot}, gd_W (dC, dI) A s (wd_GW cI a S) H locs → lv_has ls 12 [(0, .int v0), (2, .ref (a 3)), (3, .ref (a 4)), (4, .int v4), (5, .ref (a 5)), (6, .int v6), (7, .int v7)] → W p l e RM9_clear s m args below meth c H locs 1 5 (MQ below (qi_W (dC, dI) [(cI, .int)] A q.1 (wd_G cI a q.2)) args s 1 5 A) (F0 m 14 ls [])) {rec28 : Int32 → Int32 → Int32 → Int32 → Int32 → ms_T → Option (Int32 × ms_T)} (hrec28 : ∀ {v0 : Int32} {v4 : Int32} {v6 : Int32} {v7 : Int32} {v8 : Int32} {S : ms_T} , rec28 v0 v4 v6 v7 v8 S = some q → ∀ {H : Heap} {locs : List Loc} {ls : Array Slot}, gd_W (dC, dI) A s (wd_GW cI a S) H locs → lv_has ls 12 [(0, .int v0), (2, .ref (a 3)), (3, .ref (a 4)), (4, .int v4), (5, .ref (a 5)), (6, .int v6), (7, .int v7), (8, .int v8)] → W p l e RM9_clear s m args below meth c H locs 1 5 (MQ below (qi_W (dC, dI) [(cI, .int)] A q.1 (wd_G cI a q.2)) args s 1 5 A) (F0 m 28 ls [])) {rec83 : Int32 → Int32 → Int32 → Int32 → Int32 → Int32 → ms_T → Option (Int32 × ms_T)} (hrec83 : ∀ {v0 : Int32} {v4 : Int32} {v7 : Int32} {v8 : Int32} {v9 : Int32} {v10 : Int32} {S : ms_T} , rec83 v0 v4 v7 v8 v9 v10 S = some q → ∀ {H : Heap} {locs : List Loc} {ls : Array Slot}, gd_W (dC, dI) A s (wd_GW cI a S) H locs → lv_has ls 12 [(0, .int v0), (2, .ref (a 3)), (3, .ref (a 4)), (4, .int v4), (5, .ref (a 5)), (7, .int v7), (8, .int v8), (9, .int v9), (10, .int v10)] → W p l e RM9_clear s m args below meth c H locs 1 5 (MQ below (qi_W (dC, dI) [(cI, .int)] A q.1 (wd_G cI a q.2)) args s 1 5 A) (F0 m 83 ls [])) {v0 : Int32} {v4 : Int32} {v7 : Int32} {v8 : Int32} {v10 : Int32} {t0 : Int32} {S : ms_T} (h : f9_clear_b120 rec8 rec14 rec28 rec83 v0 v4 v7 v8 v10 t0 S = some q) {H : Heap} {locs : List Loc} {ls : Array Slot} (hG : gd_W (dC, dI) A s (wd_GW cI a S) H locs) (hl : lv_has ls 12 [(0, .int v0), (2, .ref (a 3)), (3, .ref (a 4)), (4, .int v4), (5, .ref (a 5)), (7, .int v7), (8, .int v8), (10, .int v10)]) : W p l e RM9_clear s m args below meth c H locs 1 5 (MQ below (qi_W (dC, dI) [(cI, .int)] A q.1 (wd_G cI a q.2)) args s 1 5 A) (F0 m 120 ls [.int t0]) := by
  unfold f9_clear_b120 at h
  obtain ⟨hx, hb, hr, hts, hown, hlocks, hml⟩ := id C
  refine lv_istore (lv' := [(9, .int t0), (0, .int v0), (2, .ref (a 3)), (3, .ref (a 4)), (4, .int v4), (5, .ref (a 5)), (7, .int v7), (8, .int v8), (10, .int v10)]) hx hb dL_clear_120 hl (by decide) rfl (fun ls hl => ?_)
  refine lv_iconst (v := (0 : Int32)) hx hb dL_clear_122 (by decide) ?_
  refine lv_istore (lv' := [(11, .int (0 : Int32)), (9, .int t0), (0, .int v0), (2, .ref (a 3)), (3, .ref (a 4)), (4, .int v4), (5, .ref (a 5)), (7, .int v7), (8, .int v8), (10, .int v10)]) hx hb dL_clear_123 hl (by decide) rfl (fun ls hl => ?_)
  exact w9_clear_L125 C hK hA (fun h => hrec8 h) (fun h => hrec14 h) (fun h => hrec28 h) (fun h => hrec83 h) fo_fu h hG (lv_sub hl [2, 3, 4, 5, 6, 7, 8, 1, 9, 0] rfl)
set_option maxRecDepth 100000 in
set_option maxHeartbeats 4000000 in
theorem w9_clear_b119 (C : cx_M p s m args meth c RL cL_clear (some .int) 12) (hK : va_K (dC, dI) vwCl [(cI, .int)] s) (hA : ∀ q, s.heap.size ≤ q → A q) {a : Nat → Nat} {q : (Int32 × ms_T)} {rec8 : Int32 → Int32 → ms_T → Option (Int32 × ms_T)} (hrec8 : ∀ {v0 : Int32} {v4 : Int32} {S : ms_T} , rec8 v0 v4 S = some q → ∀ {H : Heap} {locs : List Loc} {ls : Array Slot}, gd_W (dC, dI) A s (wd_GW cI a S) H locs → lv_has ls 12 [(0, .int v0), (2, .ref (a 3)), (3, .ref (a 4)), (4, .int v4), (5, .ref (a 5))] → W p l e RM9_clear s m args below meth c H locs 1 5 (MQ below (qi_W (dC, dI) [(cI, .int)] A q.1 (wd_G cI a q.2)) args s 1 5 A) (F0 m 8 ls [])) {rec14 : Int32 → Int32 → Int32 → Int32 → ms_T → Option (Int32 × ms_T)} (hrec14 : ∀ {v0 : Int32} {v4 : Int32} {v6 : Int32} {v7 : Int32} {S : ms_T} , rec14 v0 v4 v6 v7 S = some q → ∀ {H : Heap} {locs : List Loc} {ls : Array Slot}, gd_W (dC, dI) A s (wd_GW cI a S) H locs → lv_has ls 12 [(0, .int v0), (2, .ref (a 3)), (3, .ref (a 4)), (4, .int v4), (5, .ref (a 5)), (6, .int v6), (7, .int v7)] → W p l e RM9_clear s m args below meth c H locs 1 5 (MQ below (qi_W (dC, dI) [(cI, .int)] A q.1 (wd_G cI a q.2)) args s 1 5 A) (F0 m 14 ls [])) {rec28 : Int32 → Int32 → Int32 → Int32 → Int32 → ms_T → Option (Int32 × ms_T)} (hrec28 : ∀ {v0 : Int32} {v4 : Int32} {v6 : Int32} {v7 : Int32} {v8 : Int32} {S : ms_T} , rec28 v0 v4 v6 v7 v8 S = some q → ∀ {H : Heap} {locs : List Loc} {ls : Array Slot}, gd_W (dC, dI) A s (wd_GW cI a S) H locs → lv_has ls 12 [(0, .int v0), (2, .ref (a 3)), (3, .ref (a 4)), (4, .int v4), (5, .ref (a 5)), (6, .int v6), (7, .int v7), (8, .int v8)] → W p l e RM9_clear s m args below meth c H locs 1 5 (MQ below (qi_W (dC, dI) [(cI, .int)] A q.1 (wd_G cI a q.2)) args s 1 5 A) (F0 m 28 ls [])) {rec83 : Int32 → Int32 → Int32 → Int32 → Int32 → Int32 → ms_T → Option (Int32 × ms_T)} (hrec83 : ∀ {v0 : Int32} {v4 : Int32} {v7 : Int32} {v8 : Int32} {v9 : Int32} {v10 : Int32} {S : ms_T} , rec83 v0 v4 v7 v8 v9 v10 S = some q → ∀ {H : Heap} {locs : List Loc} {ls : Array Slot}, gd_W (dC, dI) A s (wd_GW cI a S) H locs → lv_has ls 12 [(0, .int v0), (2, .ref (a 3)), (3, .ref (a 4)), (4, .int v4), (5, .ref (a 5)), (7, .int v7), (8, .int v8), (9, .int v9), (10, .int v10)] → W p l e RM9_clear s m args below meth c H locs 1 5 (MQ below (qi_W (dC, dI) [(cI, .int)] A q.1 (wd_G cI a q.2)) args s 1 5 A) (F0 m 83 ls [])) {v0 : Int32} {v4 : Int32} {v7 : Int32} {v8 : Int32} {v10 : Int32} {S : ms_T} (h : f9_clear_b119 rec8 rec14 rec28 rec83 v0 v4 v7 v8 v10 S = some q) {H : Heap} {locs : List Loc} {ls : Array Slot} (hG : gd_W (dC, dI) A s (wd_GW cI a S) H locs) (hl : lv_has ls 12 [(0, .int v0), (2, .ref (a 3)), (3, .ref (a 4)), (4, .int v4), (5, .ref (a 5)), (7, .int v7), (8, .int v8), (10, .int v10)]) : W p l e RM9_clear s m args below meth c H locs 1 5 (MQ below (qi_W (dC, dI) [(cI, .int)] A q.1 (wd_G cI a q.2)) args s 1 5 A) (F0 m 119 ls []) := by
  unfold f9_clear_b119 at h
  obtain ⟨hx, hb, hr, hts, hown, hlocks, hml⟩ := id C
  refine lv_iconst (v := (0 : Int32)) hx hb dL_clear_119 (by decide) ?_
  exact w9_clear_b120 C hK hA (fun h => hrec8 h) (fun h => hrec14 h) (fun h => hrec28 h) (fun h => hrec83 h) h hG (lv_sub hl [0, 1, 2, 3, 4, 5, 6, 7] rfl)
set_option maxRecDepth 100000 in
set_option maxHeartbeats 4000000 in
theorem w9_clear_b83 (C : cx_M p s m args meth c RL cL_clear (some .int) 12) (hK : va_K (dC, dI) vwCl [(cI, .int)] s) (hA : ∀ q, s.heap.size ≤ q → A q) {a : Nat → Nat} {q : (Int32 × ms_T)} {rec8 : Int32 → Int32 → ms_T → Option (Int32 × ms_T)} (hrec8 : ∀ {v0 : Int32} {v4 : Int32} {S : ms_T} , rec8 v0 v4 S = some q → ∀ {H : Heap} {locs : List Loc} {ls : Array Slot}, gd_W (dC, dI) A s (wd_GW cI a S) H locs → lv_has ls 12 [(0, .int v0), (2, .ref (a 3)), (3, .ref (a 4)), (4, .int v4), (5, .ref (a 5))] → W p l e RM9_clear s m args below meth c H locs 1 5 (MQ below (qi_W (dC, dI) [(cI, .int)] A q.1 (wd_G cI a q.2)) args s 1 5 A) (F0 m 8 ls [])) {rec14 : Int32 → Int32 → Int32 → Int32 → ms_T → Option (Int32 × ms_T)} (hrec14 : ∀ {v0 : Int32} {v4 : Int32} {v6 : Int32} {v7 : Int32} {S : ms_T} , rec14 v0 v4 v6 v7 S = some q → ∀ {H : Heap} {locs : List Loc} {ls : Array Slot}, gd_W (dC, dI) A s (wd_GW cI a S) H locs → lv_has ls 12 [(0, .int v0), (2, .ref (a 3)), (3, .ref (a 4)), (4, .int v4), (5, .ref (a 5)), (6, .int v6), (7, .int v7)] → W p l e RM9_clear s m args below meth c H locs 1 5 (MQ below (qi_W (dC, dI) [(cI, .int)] A q.1 (wd_G cI a q.2)) args s 1 5 A) (F0 m 14 ls [])) {rec28 : Int32 → Int32 → Int32 → Int32 → Int32 → ms_T → Option (Int32 × ms_T)} (hrec28 : ∀ {v0 : Int32} {v4 : Int32} {v6 : Int32} {v7 : Int32} {v8 : Int32} {S : ms_T} , rec28 v0 v4 v6 v7 v8 S = some q → ∀ {H : Heap} {locs : List Loc} {ls : Array Slot}, gd_W (dC, dI) A s (wd_GW cI a S) H locs → lv_has ls 12 [(0, .int v0), (2, .ref (a 3)), (3, .ref (a 4)), (4, .int v4), (5, .ref (a 5)), (6, .int v6), (7, .int v7), (8, .int v8)] → W p l e RM9_clear s m args below meth c H locs 1 5 (MQ below (qi_W (dC, dI) [(cI, .int)] A q.1 (wd_G cI a q.2)) args s 1 5 A) (F0 m 28 ls [])) {rec83 : Int32 → Int32 → Int32 → Int32 → Int32 → Int32 → ms_T → Option (Int32 × ms_T)} (hrec83 : ∀ {v0 : Int32} {v4 : Int32} {v7 : Int32} {v8 : Int32} {v9 : Int32} {v10 : Int32} {S : ms_T} , rec83 v0 v4 v7 v8 v9 v10 S = some q → ∀ {H : Heap} {locs : List Loc} {ls : Array Slot}, gd_W (dC, dI) A s (wd_GW cI a S) H locs → lv_has ls 12 [(0, .int v0), (2, .ref (a 3)), (3, .ref (a 4)), (4, .int v4), (5, .ref (a 5)), (7, .int v7), (8, .int v8), (9, .int v9), (10, .int v10)] → W p l e RM9_clear s m args below meth c H locs 1 5 (MQ below (qi_W (dC, dI) [(cI, .int)] A q.1 (wd_G cI a q.2)) args s 1 5 A) (F0 m 83 ls [])) {v0 : Int32} {v4 : Int32} {v7 : Int32} {v8 : Int32} {v9 : Int32} {v10 : Int32} {S : ms_T} (h : f9_clear_b83 rec8 rec14 rec28 rec83 v0 v4 v7 v8 v9 v10 S = some q) {H : Heap} {locs : List Loc} {ls : Array Slot} (hG : gd_W (dC, dI) A s (wd_GW cI a S) H locs) (hl : lv_has ls 12 [(0, .int v0), (2, .ref (a 3)), (3, .ref (a 4)), (4, .int v4), (5, .ref (a 5)), (7, .int v7), (8, .int v8), (9, .int v9), (10, .int v10)]) : W p l e RM9_clear s m args below meth c H locs 1 5 (MQ below (qi_W (dC, dI) [(cI, .int)] A q.1 (wd_G cI a q.2)) args s 1 5 A) (F0 m 83 ls []) := by
  unfold f9_clear_b83 at h
  obtain ⟨hx, hb, hr, hts, hown, hlocks, hml⟩ := id C
  refine lv_iload hx hb dL_clear_83 (lv_at hl 8 rfl) ?_
  refine lv_iload hx hb dL_clear_85 (lv_at hl 5 rfl) ?_
  refine lv_icmp_ge (tgt := 169) hx hb dL_clear_87 (by decide) (fun hc => ?_) (fun hc => ?_)
  · have h := fo_it h hc
    refine lv_iload hx hb dL_clear_169 (lv_at hl 7 rfl) ?_
    refine lv_if_eq (tgt := 179) hx hb dL_clear_171 (by decide) (fun hc => ?_) (fun hc => ?_)
    · have h := fo_it h hc
      refine lv_iconst (v := (0 : Int32)) hx hb dL_clear_179 (by decide) ?_
      exact w9_clear_b180 C hK hA (fun h => hrec8 h) (fun h => hrec14 h) (fun h => hrec28 h) h hG (lv_sub hl [0, 1, 2, 3, 4, 5, 6] rfl)
    · have h := fo_if h hc
      refine lv_iload hx hb dL_clear_174 (lv_at hl 5 rfl) ?_
      refine lv_goto (tgt := 180) hx hb dL_clear_176 (by decide) ?_
      exact w9_clear_b180 C hK hA (fun h => hrec8 h) (fun h => hrec14 h) (fun h => hrec28 h) h hG (lv_sub hl [0, 1, 2, 3, 4, 5, 6] rfl)
  · have h := fo_if h hc
    refine lv_iload hx hb dL_clear_90 (lv_at hl 7 rfl) ?_
    refine lv_if_eq (tgt := 119) hx hb dL_clear_92 (by decide) (fun hc => ?_) (fun hc => ?_)
    · have h := fo_it h hc
      exact w9_clear_b119 C hK hA (fun h => hrec8 h) (fun h => hrec14 h) (fun h => hrec28 h) (fun h => hrec83 h) h hG (lv_sub hl [0, 1, 2, 3, 4, 5, 6, 8] rfl)
    · have h := fo_if h hc
      refine lv_aload_n hx hb dL_clear_95 rfl (lv_at hl 1 rfl) ?_
      refine lv_iconst (v := (4 : Int32)) hx hb dL_clear_96 (by decide) ?_
      refine lv_aload hx hb dL_clear_97 (lv_at hl 4 rfl) ?_
      refine lv_iload hx hb dL_clear_99 (lv_at hl 8 rfl) ?_
      obtain ⟨hi, h⟩ := fo_ck_some h
      refine va_iald hx hb hK hG.1 5 0 rfl rfl hi dL_clear_101 ?_
      refine lv_imul hx hb dL_clear_102 ?_
      refine lv_aload hx hb dL_clear_103 (lv_at hl 4 rfl) ?_
      refine lv_iload hx hb dL_clear_105 (lv_at hl 8 rfl) ?_
      refine lv_iconst (v := (1 : Int32)) hx hb dL_clear_107 (by decide) ?_
      refine lv_iadd hx hb dL_clear_108 ?_
      obtain ⟨hi, h⟩ := fo_ck_some h
      refine va_iald hx hb hK hG.1 5 0 rfl rfl hi dL_clear_109 ?_
      refine lv_iadd hx hb dL_clear_110 ?_
      obtain ⟨hi, h⟩ := fo_ck_some h
      refine va_iald hx hb hK hG.1 3 0 rfl rfl hi dL_clear_111 ?_
      refine lv_if_le (tgt := 119) hx hb dL_clear_112 (by decide) (fun hc => ?_) (fun hc => ?_)
      · have h := fo_it h hc
        exact w9_clear_b119 C hK hA (fun h => hrec8 h) (fun h => hrec14 h) (fun h => hrec28 h) (fun h => hrec83 h) h hG (lv_sub hl [0, 1, 2, 3, 4, 5, 6, 8] rfl)
      · have h := fo_if h hc
        refine lv_iconst (v := (1 : Int32)) hx hb dL_clear_115 (by decide) ?_
        refine lv_goto (tgt := 120) hx hb dL_clear_116 (by decide) ?_
        exact w9_clear_b120 C hK hA (fun h => hrec8 h) (fun h => hrec14 h) (fun h => hrec28 h) (fun h => hrec83 h) h hG (lv_sub hl [0, 1, 2, 3, 4, 5, 6, 8] rfl)
set_option maxRecDepth 100000 in
set_option maxHeartbeats 4000000 in
theorem w9_clear_L83 (C : cx_M p s m args meth c RL cL_clear (some .int) 12) (hK : va_K (dC, dI) vwCl [(cI, .int)] s) (hA : ∀ q, s.heap.size ≤ q → A q) {a : Nat → Nat} {q : (Int32 × ms_T)} {rec8 : Int32 → Int32 → ms_T → Option (Int32 × ms_T)} (hrec8 : ∀ {v0 : Int32} {v4 : Int32} {S : ms_T} , rec8 v0 v4 S = some q → ∀ {H : Heap} {locs : List Loc} {ls : Array Slot}, gd_W (dC, dI) A s (wd_GW cI a S) H locs → lv_has ls 12 [(0, .int v0), (2, .ref (a 3)), (3, .ref (a 4)), (4, .int v4), (5, .ref (a 5))] → W p l e RM9_clear s m args below meth c H locs 1 5 (MQ below (qi_W (dC, dI) [(cI, .int)] A q.1 (wd_G cI a q.2)) args s 1 5 A) (F0 m 8 ls [])) {rec14 : Int32 → Int32 → Int32 → Int32 → ms_T → Option (Int32 × ms_T)} (hrec14 : ∀ {v0 : Int32} {v4 : Int32} {v6 : Int32} {v7 : Int32} {S : ms_T} , rec14 v0 v4 v6 v7 S = some q → ∀ {H : Heap} {locs : List Loc} {ls : Array Slot}, gd_W (dC, dI) A s (wd_GW cI a S) H locs → lv_has ls 12 [(0, .int v0), (2, .ref (a 3)), (3, .ref (a 4)), (4, .int v4), (5, .ref (a 5)), (6, .int v6), (7, .int v7)] → W p l e RM9_clear s m args below meth c H locs 1 5 (MQ below (qi_W (dC, dI) [(cI, .int)] A q.1 (wd_G cI a q.2)) args s 1 5 A) (F0 m 14 ls [])) {rec28 : Int32 → Int32 → Int32 → Int32 → Int32 → ms_T → Option (Int32 × ms_T)} (hrec28 : ∀ {v0 : Int32} {v4 : Int32} {v6 : Int32} {v7 : Int32} {v8 : Int32} {S : ms_T} , rec28 v0 v4 v6 v7 v8 S = some q → ∀ {H : Heap} {locs : List Loc} {ls : Array Slot}, gd_W (dC, dI) A s (wd_GW cI a S) H locs → lv_has ls 12 [(0, .int v0), (2, .ref (a 3)), (3, .ref (a 4)), (4, .int v4), (5, .ref (a 5)), (6, .int v6), (7, .int v7), (8, .int v8)] → W p l e RM9_clear s m args below meth c H locs 1 5 (MQ below (qi_W (dC, dI) [(cI, .int)] A q.1 (wd_G cI a q.2)) args s 1 5 A) (F0 m 28 ls [])) : ∀ (n : Nat) {v0 : Int32} {v4 : Int32} {v7 : Int32} {v8 : Int32} {v9 : Int32} {v10 : Int32} {S : ms_T}, f9_clear_L83 rec8 rec14 rec28 n v0 v4 v7 v8 v9 v10 S = some q → ∀ {H : Heap} {locs : List Loc} {ls : Array Slot}, gd_W (dC, dI) A s (wd_GW cI a S) H locs → lv_has ls 12 [(0, .int v0), (2, .ref (a 3)), (3, .ref (a 4)), (4, .int v4), (5, .ref (a 5)), (7, .int v7), (8, .int v8), (9, .int v9), (10, .int v10)] → W p l e RM9_clear s m args below meth c H locs 1 5 (MQ below (qi_W (dC, dI) [(cI, .int)] A q.1 (wd_G cI a q.2)) args s 1 5 A) (F0 m 83 ls []) := by
  intro n
  induction n with
  | zero => intro _ _ _ _ _ _ _ h; exact nomatch h
  | succ n ih => intro v0 v4 v7 v8 v9 v10 S h H locs ls hG hl; exact w9_clear_b83 C hK hA (fun h => hrec8 h) (fun h => hrec14 h) (fun h => hrec28 h) (fun h => ih h) (show f9_clear_b83 rec8 rec14 rec28 (f9_clear_L83 rec8 rec14 rec28 n) v0 v4 v7 v8 v9 v10 S = some q from h) hG hl
set_option maxRecDepth 100000 in
set_option maxHeartbeats 4000000 in
theorem w9_clear_b28 (C : cx_M p s m args meth c RL cL_clear (some .int) 12) (hK : va_K (dC, dI) vwCl [(cI, .int)] s) (hA : ∀ q, s.heap.size ≤ q → A q) {a : Nat → Nat} {q : (Int32 × ms_T)} {rec8 : Int32 → Int32 → ms_T → Option (Int32 × ms_T)} (hrec8 : ∀ {v0 : Int32} {v4 : Int32} {S : ms_T} , rec8 v0 v4 S = some q → ∀ {H : Heap} {locs : List Loc} {ls : Array Slot}, gd_W (dC, dI) A s (wd_GW cI a S) H locs → lv_has ls 12 [(0, .int v0), (2, .ref (a 3)), (3, .ref (a 4)), (4, .int v4), (5, .ref (a 5))] → W p l e RM9_clear s m args below meth c H locs 1 5 (MQ below (qi_W (dC, dI) [(cI, .int)] A q.1 (wd_G cI a q.2)) args s 1 5 A) (F0 m 8 ls [])) {rec14 : Int32 → Int32 → Int32 → Int32 → ms_T → Option (Int32 × ms_T)} (hrec14 : ∀ {v0 : Int32} {v4 : Int32} {v6 : Int32} {v7 : Int32} {S : ms_T} , rec14 v0 v4 v6 v7 S = some q → ∀ {H : Heap} {locs : List Loc} {ls : Array Slot}, gd_W (dC, dI) A s (wd_GW cI a S) H locs → lv_has ls 12 [(0, .int v0), (2, .ref (a 3)), (3, .ref (a 4)), (4, .int v4), (5, .ref (a 5)), (6, .int v6), (7, .int v7)] → W p l e RM9_clear s m args below meth c H locs 1 5 (MQ below (qi_W (dC, dI) [(cI, .int)] A q.1 (wd_G cI a q.2)) args s 1 5 A) (F0 m 14 ls [])) {rec28 : Int32 → Int32 → Int32 → Int32 → Int32 → ms_T → Option (Int32 × ms_T)} (hrec28 : ∀ {v0 : Int32} {v4 : Int32} {v6 : Int32} {v7 : Int32} {v8 : Int32} {S : ms_T} , rec28 v0 v4 v6 v7 v8 S = some q → ∀ {H : Heap} {locs : List Loc} {ls : Array Slot}, gd_W (dC, dI) A s (wd_GW cI a S) H locs → lv_has ls 12 [(0, .int v0), (2, .ref (a 3)), (3, .ref (a 4)), (4, .int v4), (5, .ref (a 5)), (6, .int v6), (7, .int v7), (8, .int v8)] → W p l e RM9_clear s m args below meth c H locs 1 5 (MQ below (qi_W (dC, dI) [(cI, .int)] A q.1 (wd_G cI a q.2)) args s 1 5 A) (F0 m 28 ls [])) {v0 : Int32} {v4 : Int32} {v6 : Int32} {v7 : Int32} {v8 : Int32} {S : ms_T} (h : f9_clear_b28 rec8 rec14 rec28 v0 v4 v6 v7 v8 S = some q) {H : Heap} {locs : List Loc} {ls : Array Slot} (hG : gd_W (dC, dI) A s (wd_GW cI a S) H locs) (hl : lv_has ls 12 [(0, .int v0), (2, .ref (a 3)), (3, .ref (a 4)), (4, .int v4), (5, .ref (a 5)), (6, .int v6), (7, .int v7), (8, .int v8)]) : W p l e RM9_clear s m args below meth c H locs 1 5 (MQ below (qi_W (dC, dI) [(cI, .int)] A q.1 (wd_G cI a q.2)) args s 1 5 A) (F0 m 28 ls []) := by
  unfold f9_clear_b28 at h
  obtain ⟨hx, hb, hr, hts, hown, hlocks, hml⟩ := id C
  refine lv_iload hx hb dL_clear_28 (lv_at hl 7 rfl) ?_
  refine lv_bipush (v := (64 : Int32)) hx hb dL_clear_30 (by decide) ?_
  refine lv_icmp_ge (tgt := 188) hx hb dL_clear_32 (by decide) (fun hc => ?_) (fun hc => ?_)
  · have h := fo_it h hc
    exact w9_clear_b188 C hK hA (fun h => hrec8 h) (fun h => hrec14 h) h hG (lv_sub hl [0, 1, 2, 3, 4, 5, 6] rfl)
  · have h := fo_if h hc
    refine lv_iload hx hb dL_clear_35 (lv_at hl 5 rfl) ?_
    refine lv_if_ne (tgt := 188) hx hb dL_clear_37 (by decide) (fun hc => ?_) (fun hc => ?_)
    · have h := fo_if h hc
      exact w9_clear_b188 C hK hA (fun h => hrec8 h) (fun h => hrec14 h) h hG (lv_sub hl [0, 1, 2, 3, 4, 5, 6] rfl)
    · have h := fo_it h hc
      refine lv_aload hx hb dL_clear_40 (lv_at hl 4 rfl) ?_
      refine lv_iconst (v := (0 : Int32)) hx hb dL_clear_42 (by decide) ?_
      refine lv_iload_n hx hb dL_clear_43 rfl (lv_at hl 0 rfl) ?_
      obtain ⟨hi, h⟩ := fo_ck_some h
      obtain ⟨s44, es44, h⟩ := fo_bd_some h
      have es44 := Option.some.inj es44
      refine va_iast hx hb hK hG.1 hG.2.1 hG.2.2 5 0 rfl rfl hi dL_clear_44 (fun H locs hP9 hD9 hS9 => ?_)
      have hG : gd_W (dC, dI) A s (wd_GW cI a (ms_set S 5 (upd (S 5) (0 : Int32).toNatClampNeg v0))) H locs := ⟨hP9, hD9, hS9⟩
      rw [es44] at hG
      refine lv_aload hx hb dL_clear_45 (lv_at hl 4 rfl) ?_
      refine lv_iconst (v := (1 : Int32)) hx hb dL_clear_47 (by decide) ?_
      refine lv_iload hx hb dL_clear_48 (lv_at hl 7 rfl) ?_
      refine lv_iconst (v := (4 : Int32)) hx hb dL_clear_50 (by decide) ?_
      refine lv_ishr hx hb dL_clear_51 ?_
      obtain ⟨hi, h⟩ := fo_ck_some h
      obtain ⟨s52, es52, h⟩ := fo_bd_some h
      have es52 := Option.some.inj es52
      refine va_iast hx hb hK hG.1 hG.2.1 hG.2.2 5 0 rfl rfl hi dL_clear_52 (fun H locs hP9 hD9 hS9 => ?_)
      have hG : gd_W (dC, dI) A s (wd_GW cI a (ms_set s44 5 (upd (s44 5) (1 : Int32).toNatClampNeg (v8 >>> ((4 : Int32) &&& 31))))) H locs := ⟨hP9, hD9, hS9⟩
      rw [es52] at hG
      refine lv_aload hx hb dL_clear_53 (lv_at hl 4 rfl) ?_
      refine lv_iconst (v := (2 : Int32)) hx hb dL_clear_55 (by decide) ?_
      refine lv_iload hx hb dL_clear_56 (lv_at hl 7 rfl) ?_
      refine lv_iconst (v := (2 : Int32)) hx hb dL_clear_58 (by decide) ?_
      refine lv_ishr hx hb dL_clear_59 ?_
      refine lv_iconst (v := (3 : Int32)) hx hb dL_clear_60 (by decide) ?_
      refine lv_iand hx hb dL_clear_61 ?_
      obtain ⟨hi, h⟩ := fo_ck_some h
      obtain ⟨s62, es62, h⟩ := fo_bd_some h
      have es62 := Option.some.inj es62
      refine va_iast hx hb hK hG.1 hG.2.1 hG.2.2 5 0 rfl rfl hi dL_clear_62 (fun H locs hP9 hD9 hS9 => ?_)
      have hG : gd_W (dC, dI) A s (wd_GW cI a (ms_set s52 5 (upd (s52 5) (2 : Int32).toNatClampNeg ((v8 >>> ((2 : Int32) &&& 31)) &&& (3 : Int32))))) H locs := ⟨hP9, hD9, hS9⟩
      rw [es62] at hG
      refine lv_aload hx hb dL_clear_63 (lv_at hl 4 rfl) ?_
      refine lv_iconst (v := (3 : Int32)) hx hb dL_clear_65 (by decide) ?_
      refine lv_iload hx hb dL_clear_66 (lv_at hl 7 rfl) ?_
      refine lv_iconst (v := (3 : Int32)) hx hb dL_clear_68 (by decide) ?_
      refine lv_iand hx hb dL_clear_69 ?_
      obtain ⟨hi, h⟩ := fo_ck_some h
      obtain ⟨s70, es70, h⟩ := fo_bd_some h
      have es70 := Option.some.inj es70
      refine va_iast hx hb hK hG.1 hG.2.1 hG.2.2 5 0 rfl rfl hi dL_clear_70 (fun H locs hP9 hD9 hS9 => ?_)
      have hG : gd_W (dC, dI) A s (wd_GW cI a (ms_set s62 5 (upd (s62 5) (3 : Int32).toNatClampNeg (v8 &&& (3 : Int32))))) H locs := ⟨hP9, hD9, hS9⟩
      rw [es70] at hG
      refine lv_aload hx hb dL_clear_71 (lv_at hl 4 rfl) ?_
      refine lv_iload hx hb dL_clear_73 (lv_at hl 6 rfl) ?_
      refine lv_iload_n hx hb dL_clear_75 rfl (lv_at hl 0 rfl) ?_
      obtain ⟨hi, h⟩ := fo_ck_some h
      obtain ⟨s76, es76, h⟩ := fo_bd_some h
      have es76 := Option.some.inj es76
      refine va_iast hx hb hK hG.1 hG.2.1 hG.2.2 5 0 rfl rfl hi dL_clear_76 (fun H locs hP9 hD9 hS9 => ?_)
      have hG : gd_W (dC, dI) A s (wd_GW cI a (ms_set s70 5 (upd (s70 5) v7.toNatClampNeg v0))) H locs := ⟨hP9, hD9, hS9⟩
      rw [es76] at hG
      refine lv_iconst (v := (1 : Int32)) hx hb dL_clear_77 (by decide) ?_
      refine lv_istore (lv' := [(9, .int (1 : Int32)), (0, .int v0), (2, .ref (a 3)), (3, .ref (a 4)), (4, .int v4), (5, .ref (a 5)), (6, .int v6), (7, .int v7), (8, .int v8)]) hx hb dL_clear_78 hl (by decide) rfl (fun ls hl => ?_)
      refine lv_iconst (v := (0 : Int32)) hx hb dL_clear_80 (by decide) ?_
      refine lv_istore (lv' := [(10, .int (0 : Int32)), (9, .int (1 : Int32)), (0, .int v0), (2, .ref (a 3)), (3, .ref (a 4)), (4, .int v4), (5, .ref (a 5)), (6, .int v6), (7, .int v7), (8, .int v8)]) hx hb dL_clear_81 hl (by decide) rfl (fun ls hl => ?_)
      exact w9_clear_L83 C hK hA (fun h => hrec8 h) (fun h => hrec14 h) (fun h => hrec28 h) fo_fu h hG (lv_sub hl [2, 3, 4, 5, 6, 8, 9, 1, 0] rfl)
set_option maxRecDepth 100000 in
set_option maxHeartbeats 4000000 in
theorem w9_clear_L28 (C : cx_M p s m args meth c RL cL_clear (some .int) 12) (hK : va_K (dC, dI) vwCl [(cI, .int)] s) (hA : ∀ q, s.heap.size ≤ q → A q) {a : Nat → Nat} {q : (Int32 × ms_T)} {rec8 : Int32 → Int32 → ms_T → Option (Int32 × ms_T)} (hrec8 : ∀ {v0 : Int32} {v4 : Int32} {S : ms_T} , rec8 v0 v4 S = some q → ∀ {H : Heap} {locs : List Loc} {ls : Array Slot}, gd_W (dC, dI) A s (wd_GW cI a S) H locs → lv_has ls 12 [(0, .int v0), (2, .ref (a 3)), (3, .ref (a 4)), (4, .int v4), (5, .ref (a 5))] → W p l e RM9_clear s m args below meth c H locs 1 5 (MQ below (qi_W (dC, dI) [(cI, .int)] A q.1 (wd_G cI a q.2)) args s 1 5 A) (F0 m 8 ls [])) {rec14 : Int32 → Int32 → Int32 → Int32 → ms_T → Option (Int32 × ms_T)} (hrec14 : ∀ {v0 : Int32} {v4 : Int32} {v6 : Int32} {v7 : Int32} {S : ms_T} , rec14 v0 v4 v6 v7 S = some q → ∀ {H : Heap} {locs : List Loc} {ls : Array Slot}, gd_W (dC, dI) A s (wd_GW cI a S) H locs → lv_has ls 12 [(0, .int v0), (2, .ref (a 3)), (3, .ref (a 4)), (4, .int v4), (5, .ref (a 5)), (6, .int v6), (7, .int v7)] → W p l e RM9_clear s m args below meth c H locs 1 5 (MQ below (qi_W (dC, dI) [(cI, .int)] A q.1 (wd_G cI a q.2)) args s 1 5 A) (F0 m 14 ls [])) : ∀ (n : Nat) {v0 : Int32} {v4 : Int32} {v6 : Int32} {v7 : Int32} {v8 : Int32} {S : ms_T}, f9_clear_L28 rec8 rec14 n v0 v4 v6 v7 v8 S = some q → ∀ {H : Heap} {locs : List Loc} {ls : Array Slot}, gd_W (dC, dI) A s (wd_GW cI a S) H locs → lv_has ls 12 [(0, .int v0), (2, .ref (a 3)), (3, .ref (a 4)), (4, .int v4), (5, .ref (a 5)), (6, .int v6), (7, .int v7), (8, .int v8)] → W p l e RM9_clear s m args below meth c H locs 1 5 (MQ below (qi_W (dC, dI) [(cI, .int)] A q.1 (wd_G cI a q.2)) args s 1 5 A) (F0 m 28 ls []) := by
  intro n
  induction n with
  | zero => intro _ _ _ _ _ _ h; exact nomatch h
  | succ n ih => intro v0 v4 v6 v7 v8 S h H locs ls hG hl; exact w9_clear_b28 C hK hA (fun h => hrec8 h) (fun h => hrec14 h) (fun h => ih h) (show f9_clear_b28 rec8 rec14 (f9_clear_L28 rec8 rec14 n) v0 v4 v6 v7 v8 S = some q from h) hG hl
set_option maxRecDepth 100000 in
set_option maxHeartbeats 4000000 in
theorem w9_clear_b14 (C : cx_M p s m args meth c RL cL_clear (some .int) 12) (hK : va_K (dC, dI) vwCl [(cI, .int)] s) (hA : ∀ q, s.heap.size ≤ q → A q) {a : Nat → Nat} {q : (Int32 × ms_T)} {rec8 : Int32 → Int32 → ms_T → Option (Int32 × ms_T)} (hrec8 : ∀ {v0 : Int32} {v4 : Int32} {S : ms_T} , rec8 v0 v4 S = some q → ∀ {H : Heap} {locs : List Loc} {ls : Array Slot}, gd_W (dC, dI) A s (wd_GW cI a S) H locs → lv_has ls 12 [(0, .int v0), (2, .ref (a 3)), (3, .ref (a 4)), (4, .int v4), (5, .ref (a 5))] → W p l e RM9_clear s m args below meth c H locs 1 5 (MQ below (qi_W (dC, dI) [(cI, .int)] A q.1 (wd_G cI a q.2)) args s 1 5 A) (F0 m 8 ls [])) {rec14 : Int32 → Int32 → Int32 → Int32 → ms_T → Option (Int32 × ms_T)} (hrec14 : ∀ {v0 : Int32} {v4 : Int32} {v6 : Int32} {v7 : Int32} {S : ms_T} , rec14 v0 v4 v6 v7 S = some q → ∀ {H : Heap} {locs : List Loc} {ls : Array Slot}, gd_W (dC, dI) A s (wd_GW cI a S) H locs → lv_has ls 12 [(0, .int v0), (2, .ref (a 3)), (3, .ref (a 4)), (4, .int v4), (5, .ref (a 5)), (6, .int v6), (7, .int v7)] → W p l e RM9_clear s m args below meth c H locs 1 5 (MQ below (qi_W (dC, dI) [(cI, .int)] A q.1 (wd_G cI a q.2)) args s 1 5 A) (F0 m 14 ls [])) {v0 : Int32} {v4 : Int32} {v6 : Int32} {v7 : Int32} {S : ms_T} (h : f9_clear_b14 rec8 rec14 v0 v4 v6 v7 S = some q) {H : Heap} {locs : List Loc} {ls : Array Slot} (hG : gd_W (dC, dI) A s (wd_GW cI a S) H locs) (hl : lv_has ls 12 [(0, .int v0), (2, .ref (a 3)), (3, .ref (a 4)), (4, .int v4), (5, .ref (a 5)), (6, .int v6), (7, .int v7)]) : W p l e RM9_clear s m args below meth c H locs 1 5 (MQ below (qi_W (dC, dI) [(cI, .int)] A q.1 (wd_G cI a q.2)) args s 1 5 A) (F0 m 14 ls []) := by
  unfold f9_clear_b14 at h
  obtain ⟨hx, hb, hr, hts, hown, hlocks, hml⟩ := id C
  refine lv_iload hx hb dL_clear_14 (lv_at hl 6 rfl) ?_
  refine lv_iconst (v := (5 : Int32)) hx hb dL_clear_16 (by decide) ?_
  refine lv_icmp_ge (tgt := 194) hx hb dL_clear_17 (by decide) (fun hc => ?_) (fun hc => ?_)
  · have h := fo_it h hc
    exact w9_clear_b194 C hK hA (fun h => hrec8 h) h hG (lv_sub hl [0, 1, 2, 3, 4, 5] rfl)
  · have h := fo_if h hc
    refine lv_iload hx hb dL_clear_20 (lv_at hl 5 rfl) ?_
    refine lv_if_ne (tgt := 194) hx hb dL_clear_22 (by decide) (fun hc => ?_) (fun hc => ?_)
    · have h := fo_if h hc
      exact w9_clear_b194 C hK hA (fun h => hrec8 h) h hG (lv_sub hl [0, 1, 2, 3, 4, 5] rfl)
    · have h := fo_it h hc
      refine lv_iconst (v := (0 : Int32)) hx hb dL_clear_25 (by decide) ?_
      refine lv_istore (lv' := [(8, .int (0 : Int32)), (0, .int v0), (2, .ref (a 3)), (3, .ref (a 4)), (4, .int v4), (5, .ref (a 5)), (6, .int v6), (7, .int v7)]) hx hb dL_clear_26 hl (by decide) rfl (fun ls hl => ?_)
      exact w9_clear_L28 C hK hA (fun h => hrec8 h) (fun h => hrec14 h) fo_fu h hG (lv_sub hl [1, 2, 3, 4, 5, 6, 7, 0] rfl)
set_option maxRecDepth 100000 in
set_option maxHeartbeats 4000000 in
theorem w9_clear_L14 (C : cx_M p s m args meth c RL cL_clear (some .int) 12) (hK : va_K (dC, dI) vwCl [(cI, .int)] s) (hA : ∀ q, s.heap.size ≤ q → A q) {a : Nat → Nat} {q : (Int32 × ms_T)} {rec8 : Int32 → Int32 → ms_T → Option (Int32 × ms_T)} (hrec8 : ∀ {v0 : Int32} {v4 : Int32} {S : ms_T} , rec8 v0 v4 S = some q → ∀ {H : Heap} {locs : List Loc} {ls : Array Slot}, gd_W (dC, dI) A s (wd_GW cI a S) H locs → lv_has ls 12 [(0, .int v0), (2, .ref (a 3)), (3, .ref (a 4)), (4, .int v4), (5, .ref (a 5))] → W p l e RM9_clear s m args below meth c H locs 1 5 (MQ below (qi_W (dC, dI) [(cI, .int)] A q.1 (wd_G cI a q.2)) args s 1 5 A) (F0 m 8 ls [])) : ∀ (n : Nat) {v0 : Int32} {v4 : Int32} {v6 : Int32} {v7 : Int32} {S : ms_T}, f9_clear_L14 rec8 n v0 v4 v6 v7 S = some q → ∀ {H : Heap} {locs : List Loc} {ls : Array Slot}, gd_W (dC, dI) A s (wd_GW cI a S) H locs → lv_has ls 12 [(0, .int v0), (2, .ref (a 3)), (3, .ref (a 4)), (4, .int v4), (5, .ref (a 5)), (6, .int v6), (7, .int v7)] → W p l e RM9_clear s m args below meth c H locs 1 5 (MQ below (qi_W (dC, dI) [(cI, .int)] A q.1 (wd_G cI a q.2)) args s 1 5 A) (F0 m 14 ls []) := by
  intro n
  induction n with
  | zero => intro _ _ _ _ _ h; exact nomatch h
  | succ n ih => intro v0 v4 v6 v7 S h H locs ls hG hl; exact w9_clear_b14 C hK hA (fun h => hrec8 h) (fun h => ih h) (show f9_clear_b14 rec8 (f9_clear_L14 rec8 n) v0 v4 v6 v7 S = some q from h) hG hl
set_option maxRecDepth 100000 in
set_option maxHeartbeats 4000000 in
theorem w9_clear_b8 (C : cx_M p s m args meth c RL cL_clear (some .int) 12) (hK : va_K (dC, dI) vwCl [(cI, .int)] s) (hA : ∀ q, s.heap.size ≤ q → A q) {a : Nat → Nat} {q : (Int32 × ms_T)} {rec8 : Int32 → Int32 → ms_T → Option (Int32 × ms_T)} (hrec8 : ∀ {v0 : Int32} {v4 : Int32} {S : ms_T} , rec8 v0 v4 S = some q → ∀ {H : Heap} {locs : List Loc} {ls : Array Slot}, gd_W (dC, dI) A s (wd_GW cI a S) H locs → lv_has ls 12 [(0, .int v0), (2, .ref (a 3)), (3, .ref (a 4)), (4, .int v4), (5, .ref (a 5))] → W p l e RM9_clear s m args below meth c H locs 1 5 (MQ below (qi_W (dC, dI) [(cI, .int)] A q.1 (wd_G cI a q.2)) args s 1 5 A) (F0 m 8 ls [])) {v0 : Int32} {v4 : Int32} {S : ms_T} (h : f9_clear_b8 rec8 v0 v4 S = some q) {H : Heap} {locs : List Loc} {ls : Array Slot} (hG : gd_W (dC, dI) A s (wd_GW cI a S) H locs) (hl : lv_has ls 12 [(0, .int v0), (2, .ref (a 3)), (3, .ref (a 4)), (4, .int v4), (5, .ref (a 5))]) : W p l e RM9_clear s m args below meth c H locs 1 5 (MQ below (qi_W (dC, dI) [(cI, .int)] A q.1 (wd_G cI a q.2)) args s 1 5 A) (F0 m 8 ls []) := by
  unfold f9_clear_b8 at h
  obtain ⟨hx, hb, hr, hts, hown, hlocks, hml⟩ := id C
  refine lv_iconst (v := (0 : Int32)) hx hb dL_clear_8 (by decide) ?_
  refine lv_istore (lv' := [(6, .int (0 : Int32)), (0, .int v0), (2, .ref (a 3)), (3, .ref (a 4)), (4, .int v4), (5, .ref (a 5))]) hx hb dL_clear_9 hl (by decide) rfl (fun ls hl => ?_)
  refine lv_iconst (v := (2 : Int32)) hx hb dL_clear_11 (by decide) ?_
  refine lv_istore (lv' := [(7, .int (2 : Int32)), (6, .int (0 : Int32)), (0, .int v0), (2, .ref (a 3)), (3, .ref (a 4)), (4, .int v4), (5, .ref (a 5))]) hx hb dL_clear_12 hl (by decide) rfl (fun ls hl => ?_)
  exact w9_clear_L14 C hK hA (fun h => hrec8 h) fo_fu h hG (lv_sub hl [2, 3, 4, 5, 6, 1, 0] rfl)
set_option maxRecDepth 100000 in
set_option maxHeartbeats 4000000 in
theorem w9_clear_L8 (C : cx_M p s m args meth c RL cL_clear (some .int) 12) (hK : va_K (dC, dI) vwCl [(cI, .int)] s) (hA : ∀ q, s.heap.size ≤ q → A q) {a : Nat → Nat} {q : (Int32 × ms_T)} : ∀ (n : Nat) {v0 : Int32} {v4 : Int32} {S : ms_T}, f9_clear_L8 n v0 v4 S = some q → ∀ {H : Heap} {locs : List Loc} {ls : Array Slot}, gd_W (dC, dI) A s (wd_GW cI a S) H locs → lv_has ls 12 [(0, .int v0), (2, .ref (a 3)), (3, .ref (a 4)), (4, .int v4), (5, .ref (a 5))] → W p l e RM9_clear s m args below meth c H locs 1 5 (MQ below (qi_W (dC, dI) [(cI, .int)] A q.1 (wd_G cI a q.2)) args s 1 5 A) (F0 m 8 ls []) := by
  intro n
  induction n with
  | zero => intro _ _ _ h; exact nomatch h
  | succ n ih => intro v0 v4 S h H locs ls hG hl; exact w9_clear_b8 C hK hA (fun h => ih h) (show f9_clear_b8 (f9_clear_L8 n) v0 v4 S = some q from h) hG hl
end
set_option maxRecDepth 100000 in
set_option maxHeartbeats 4000000 in
theorem c9_clear (l : Launch) {dC : Nat → ClassId} {dI : Nat → Nat → Nat} {cI : ClassId} {a : Nat → Nat} {v0 : Int32} {S : ms_T} {q : (Int32 × ms_T)} (h : f9_clear v0 0 (ms_set S 5 (fun _ => 0)) = some q) : nc_M l yL_clear wm9_clear RM9_clear (dC, dI) [(cI, .int)] [.int v0, .ref (a 0), .ref (a 3), .ref (a 4)] (wd_G cI a S) 1 5 q.1 (wd_G cI a q.2) := by
  intro sz
  refine Met.ofW (cc := cL_clear) (maxL := 12) (ret := (some .int)) (by decide) rfl ?_
  intro p e s m args below meth c s₁ B hml hv
  obtain ⟨rfl, hsz, hP, hK, hD0⟩ := hv
  subst hsz
  have hl := lv_entry ([.int v0, .ref (a 0), .ref (a 3), .ref (a 4)] : List Value) (n := 12) (Nat.le_of_ble_eq_true rfl)
  rw [lg_entry_eq]
  generalize (lg_sl ([.int v0, .ref (a 0), .ref (a 3), .ref (a 4)] : List Value) ++ List.replicate (12 - (lg_sl ([.int v0, .ref (a 0), .ref (a 3), .ref (a 4)] : List Value)).length) Slot.unset).toArray = ls at hl ⊢
  have hl : lv_has ls 12 [(0, .int v0), (1, .ref (a 0)), (2, .ref (a 3)), (3, .ref (a 4))] := hl
  have C : cx_M p s m ([.int v0, .ref (a 0), .ref (a 3), .ref (a 4)] : List Value).toArray meth c RL cL_clear (some .int) 12 := ⟨B.exec, B.bytes, B.returns, fun w hw => atoms_spec (ws := wm9_clear) B.pre w (List.mem_cons_of_mem _ hw), findClass_of_methodNamed B.named, B.notSynchronized, hml⟩
  obtain ⟨hx, hb, hr, hts, hown, hlocks, hml⟩ := id C
  have hG : gd_W (dC, dI) (va_A (wd_G cI a S) s.heap.size) s (wd_G cI a S) s.heap [] := ⟨hP, hD0.self, va_S.rf⟩
  have hA : ∀ q, s.heap.size ≤ q → va_A (wd_G cI a S) s.heap.size q := fun _ h => Or.inr h
  generalize va_A (wd_G cI a S) s.heap.size = A at hG hA ⊢
  refine lv_iconst (v := (0 : Int32)) hx hb dL_clear_0 (by decide) ?_
  refine lv_istore (lv' := [(4, .int (0 : Int32)), (0, .int v0), (1, .ref (a 0)), (2, .ref (a 3)), (3, .ref (a 4))]) hx hb dL_clear_1 hl (by decide) rfl (fun ls hl => ?_)
  refine lv_iconst (v := (5 : Int32)) hx hb dL_clear_3 (by decide) ?_
  refine gn_newa (N' := 5) hx hb (hts _ wr_55) hK hA hG (by decide) (by decide) (by decide) (Nat.le_of_ble_eq_true rfl) (Nat.le_of_ble_eq_true rfl) dL_clear_4 (fun qw H hG9 => ?_)
  have hG : gd_W (dC, dI) A s (wd_GW cI (fun k => if k < 5 then a k else qw) (ms_set S 5 (fun _ => 0))) H _ := hG9
  refine lv_astore (lv' := [(5, .ref qw), (4, .int (0 : Int32)), (0, .int v0), (1, .ref (a 0)), (2, .ref (a 3)), (3, .ref (a 4))]) hx hb dL_clear_6 hl (by decide) rfl (fun ls hl => ?_)
  exact w9_clear_L8 (a := fun k => if k < 5 then a k else qw) C hK hA fo_fu h hG (lv_sub hl [2, 4, 5, 1, 0] rfl)
