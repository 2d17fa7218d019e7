/-! ## the pure model's first row -/
def mst_0 : Nat → Nat → Int32
  | 0 => (upd (upd (upd (upd (upd (upd (fun _ => 0) 0 20) 1 15) 2 6) 3 3) 4 4) 8 1)
  | k + 1 => upd (upd (mst_0 k) (11 + k) (-6)) (31 + k) (-6)
def mm_0 (k : Nat) : ms_T := fun j => match j with | 0 => mst_0 k | _ => fun _ => 0
