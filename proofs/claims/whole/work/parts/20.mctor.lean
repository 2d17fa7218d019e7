section NEWA
variable {p : Program} {l : Launch} {e : Env} {R : Room} {s : State} {m : MethodId} {args : Array Value} {below : List Frame} {meth : Method} {c : Code} {H : Heap} {locs : List Loc} {cells slots : Nat} {Q : State → Prop}
variable {cc : ByteArray} {pc : Nat} {ls : Array Slot} {rest : List Value} {D : va_G} {A : Nat → Prop} {t1 : List (ClassId × FieldType)} {ws : va_W}
theorem gn_newa (hx : p.tables.exec = Jvm.exec) (hb : c.code = cc) (harr : (Cond.arrayClass .int).before args s = true) {cI : ClassId} (hK : va_K D vwCl ((cI, .int) :: t1) s) (hA : ∀ q, s.heap.size ≤ q → A q) (hG : gd_W D A s ws H locs) {n : Int32} {N' : Nat} (hn : ¬ n < 0) (hN : n.toNatClampNeg = N') (hbytes : N' * 4 ≤ 536870912) (hcells : cells + 1 ≤ R.cells) (hslots : slots + N' ≤ R.slots) (hdg : decode cc pc = .ok (.newarray .int, 2))
    (kk : ∀ (q : Nat) (H1 : Heap), gd_W D A s (ws ++ [(q, .inl (cI, (N', .inl (fun _ => 0))))]) H1 locs → W p l e R s m args below meth c H1 locs (cells + 1) (slots + N') Q (F0 m (pc + 2) ls (.ref q :: rest))) : W p l e R s m args below meth c H locs cells slots Q (F0 m pc ls (.int n :: rest)) := by
  obtain ⟨hP, hD, hS⟩ := hG
  refine va_newa (atype := .int) (N' := N') (a0 := (N', .inl (fun _ => 0))) hx hb harr rfl hK hP hD hS hA (fun cA => rfl) hn hN hbytes hcells hslots hdg (fun q cA H1 hK2 hP hD hS => ?_)
  have hcA : cA = cI := tys_int (t1 := t1) hK2
  subst hcA
  exact kk q H1 ⟨hP, hD, hS⟩
end NEWA
/-! ## the reference's constructor -/
def mst_0 : Nat → Nat → Int32
  | 0 => (upd (upd (upd (upd (upd (upd (fun _ => 0) 0 20) 1 15) 2 6) 3 3) 4 4) 8 1)
  | k + 1 => upd (upd (mst_0 k) (11 + k) (-6)) (31 + k) (-6)
def mm_0 (k : Nat) : ms_T := fun j => match j with | 0 => mst_0 k | _ => fun _ => 0
abbrev RM8_init : Room := { frames := 1, cells := 8, slots := 1160, locals := 30 }
def wm8_init : List Cond := .code yX8_init cX8_init 2 none :: bg_L
set_option maxRecDepth 100000 in
set_option maxHeartbeats 4000000 in
theorem w8_initL {p : Program} {l : Launch} {e : Env} {s : State} {m : MethodId} {args : Array Value} {below : List Frame} {meth : Method} {c : Code} {dC : Nat → ClassId} {dI : Nat → Nat → Nat} {cI : ClassId} {A : Nat → Prop} (C : cx_M p s m args meth c RX8 cX8_init none 2) (hK : va_K (dC, dI) vwCl [(cI, .int)] s) (hA : ∀ q, s.heap.size ≤ q → A q) {o : Nat} {a : Nat → Nat} (ha : a 0 = o) : ∀ (n k : Nat), k ≤ 20 → 21 ≤ k + n → ∀ {H : Heap} {locs : List Loc} {ls : Array Slot}, gd_W (dC, dI) A s (wd_M cI a (mm_0 k)) H locs → lv_has ls 2 [(0, .ref (a 0)), (1, .int (nI k))] → W p l e RM8_init s m args below meth c H locs 8 1160 (MQ below (va_Qv (fun (a : Nat → Nat) => a 0 = o) (fun a t => qc_W (dC, dI) [(cI, .int)] A (wd_M cI a (mm_0 20)) () t) A) args s 8 1160 A) (F0 m 115 ls []) := by
  obtain ⟨hx, hb, hr, hts, hown, hlocks, hml⟩ := id C
  intro n
  induction n with
  | zero => intro k h1 h2; exact absurd h2 (by omega)
  | succ n ih =>
    intro k hk hn H locs ls hG hl
    refine lv_iload_n hx hb dX8_init_115 rfl (lv_at hl 1 rfl) ?_
    refine lv_bipush (v := nI 20) hx hb dX8_init_116 (by decide) ?_
    refine lv_icmp_ge (tgt := 149) hx hb dX8_init_118 (by decide) (fun hc => ?_) (fun hc => ?_)
    · have hk5 : k = 20 := by
        rcases Nat.lt_or_ge k 20 with h | h
        · exact absurd hc (nI_ge h (by omega))
        · omega
      subst hk5
      obtain ⟨hP, hD, hS⟩ := hG
      exact W.vret hx hb hr (fun t ht hW => ⟨⟨a, rfl, ha, by rw [ht]; exact hP, va_K.moved hW.alike hK, hD⟩, hS.F ht⟩) hS.2.2 dX8_init_149
    · have hlt : k < 20 := by
        rcases Nat.lt_or_ge k 20 with h | h
        · exact h
        · exact absurd (nI_le h (by omega)) hc
      refine lv_aload_n hx hb dX8_init_121 rfl (lv_at hl 0 rfl) ?_
      refine va_get (D := (dC, dI)) (ci := 7) (v := .ref (a 1)) (C := RX8) (T := TX8) (N := 17) hx hb hts inlX8 hown hK hG.1 0 rfl rfl 0 (by decide) (hts _ wr_637) (fun _ h9 => h9) rfl dX8_init_122 ?_
      refine lv_bipush (v := nI 11) hx hb dX8_init_125 (by decide) ?_
      refine lv_iload_n hx hb dX8_init_127 rfl (lv_at hl 1 rfl) ?_
      refine lv_iadd hx hb dX8_init_128 ?_
      refine W.eq (g2 := F0 m 129 ls [.int (nI (11 + k)), .ref (a 1)]) (by rw [nI_add]) ?_
      refine lv_bipush (v := (-6 : Int32)) hx hb dX8_init_129 (by decide) ?_
      refine va_iast hx hb hK hG.1 hG.2.1 hG.2.2 1 0 rfl rfl (vp_in_nI (n := 11 + k) (by omega) (by omega)) dX8_init_131 (fun H locs hP9 hD9 hS9 => ?_)
      have hG : gd_W (dC, dI) A s (wd_M cI a (ms_set (mm_0 k) 0 (upd (mst_0 k) (nI (11 + k)).toNatClampNeg (-6)))) H locs := ⟨hP9, hD9, hS9⟩
      rw [nI_clamp (by omega)] at hG
      refine lv_aload_n hx hb dX8_init_132 rfl (lv_at hl 0 rfl) ?_
      refine va_get (D := (dC, dI)) (ci := 7) (v := .ref (a 1)) (C := RX8) (T := TX8) (N := 17) hx hb hts inlX8 hown hK hG.1 0 rfl rfl 0 (by decide) (hts _ wr_637) (fun _ h9 => h9) rfl dX8_init_133 ?_
      refine lv_bipush (v := nI 31) hx hb dX8_init_136 (by decide) ?_
      refine lv_iload_n hx hb dX8_init_138 rfl (lv_at hl 1 rfl) ?_
      refine lv_iadd hx hb dX8_init_139 ?_
      refine W.eq (g2 := F0 m 140 ls [.int (nI (31 + k)), .ref (a 1)]) (by rw [nI_add]) ?_
      refine lv_bipush (v := (-6 : Int32)) hx hb dX8_init_140 (by decide) ?_
      refine va_iast hx hb hK hG.1 hG.2.1 hG.2.2 1 0 rfl rfl (vp_in_nI (n := 31 + k) (by omega) (by omega)) dX8_init_142 (fun H locs hP9 hD9 hS9 => ?_)
      have hG : gd_W (dC, dI) A s (wd_M cI a (ms_set (mm_0 k) 0 (upd (upd (mst_0 k) (11 + k) (-6)) (nI (31 + k)).toNatClampNeg (-6)))) H locs := ⟨hP9, hD9, hS9⟩
      rw [nI_clamp (by omega)] at hG
      have hG : gd_W (dC, dI) A s (wd_M cI a (mm_0 (k + 1))) H locs := hG
      refine lv_iinc (v := nI (k + 1)) (lv' := [(1, .int (nI (k + 1))), (0, .ref (a 0))]) hx hb dX8_init_143 hl (k := 1) rfl (nI_1 k) (by decide) rfl (fun ls hl => ?_)
      refine lv_goto (tgt := 115) hx hb dX8_init_146 (by decide) ?_
      exact ih (k + 1) hlt (by omega) hG (lv_sub hl [1, 0] rfl)
set_option maxRecDepth 100000 in
set_option maxHeartbeats 4000000 in
theorem c8_init (l : Launch) {dC : Nat → ClassId} {dI : Nat → Nat → Nat} {cI : ClassId} {o : Nat} : mk_M l yX8_init wm8_init RM8_init (dC, dI) [(cI, .int)] [.ref o] [(o, .inr (7, [.null, .null, .null, .int 0, .null, .null, .null, .int 0, .int 0, .int 0, .int 0, .null, .int 0, .null, .int 0, .int 0, .int 0]))] 8 1160 (fun a => wd_M cI a (mm_0 20)) o := by
  intro sz
  refine Met.ofW (cc := cX8_init) (maxL := 2) (ret := none) (by decide) rfl ?_
  intro p e s m args below meth c s₁ B hml hv
  obtain ⟨rfl, hsz, hP, hK, hD0⟩ := hv
  have hin : meth.name = "<init>" := (name_of_methodNamed B.named B.method).1
  subst hsz
  have C : cx_M p s m ([.ref o] : List Value).toArray meth c RX8 cX8_init none 2 := ⟨B.exec, B.bytes, B.returns, fun w hw => atoms_spec (ws := wm8_init) B.pre w (List.mem_cons_of_mem _ hw), findClass_of_methodNamed B.named, B.notSynchronized, hml⟩
  obtain ⟨hx, hb, hr, hts, hown, hlocks, -⟩ := id C
  have hD := hD0.self (sz := s.heap.size)
  generalize hAe : va_A [(o, .inr (7, [.null, .null, .null, .int 0, .null, .null, .null, .int 0, .int 0, .int 0, .int 0, .null, .int 0, .null, .int 0, .int 0, .int 0]))] s.heap.size = A at hD ⊢
  have hA : ∀ q : Nat, s.heap.size ≤ q → A q := fun q h => by rw [← hAe]; exact Or.inr h
  have hl := lv_entry ([.ref o] : List Value) (n := 2) (Nat.le_of_ble_eq_true rfl)
  rw [lg_entry_eq]
  generalize (lg_sl ([.ref o] : List Value) ++ List.replicate (2 - (lg_sl ([.ref o] : List Value)).length) Slot.unset).toArray = ls at hl ⊢
  have hl : lv_has ls 2 [(0, .ref o)] := hl
  have hG : gd_W (dC, dI) A s [(o, .inr (7, [.null, .null, .null, .int 0, .null, .null, .null, .int 0, .int 0, .int 0, .int 0, .null, .int 0, .null, .int 0, .int 0, .int 0]))] s.heap [] := ⟨hP, hD, va_S.rf⟩
  refine lv_aload_n hx hb dX8_init_0 rfl (lv_at hl 0 rfl) ?_
  refine W.objInit hx hb hown (hts _ wr_636) (hts _ wr_76) (hts _ wr_77) rfl (by rw [hml]; exact hl.1) rfl dX8_init_1 (Nat.le_of_ble_eq_true rfl) (Nat.le_of_ble_eq_true rfl) ?_
  refine W.eq (g2 := F0 m 4 ls []) rfl ?_
  refine lv_aload_n hx hb dX8_init_4 rfl (lv_at hl 0 rfl) ?_
  refine lv_bipush (v := 107) hx hb dX8_init_5 (by decide) ?_
  refine gn_newa (N' := 107) hx hb (hts _ wr_106) hK hA hG (by decide) (by decide) (by decide) (Nat.le_of_ble_eq_true rfl) (Nat.le_of_ble_eq_true rfl) dX8_init_7 (fun q1 H hG9 => ?_)
  have hG : gd_W (dC, dI) A s ([(o, .inr (7, [.null, .null, .null, .int 0, .null, .null, .null, .int 0, .int 0, .int 0, .int 0, .null, .int 0, .null, .int 0, .int 0, .int 0])), (q1, .inl (cI, (107, .inl (fun _ => 0))))]) H _ := hG9
  refine va_putF (D := (dC, dI)) (ci := 7) (v := .ref q1) (ty := .array .int) (C := RX8) (T := TX8) (N := 17) hx hb hts inlX8 tyX8 tyX8_ok nmX8 hown hK hG.1 hG.2.1 hG.2.2 0 rfl rfl 0 (by decide) (hts _ wr_637) (fun _ h9 => h9) rfl hin rfl (by decide +kernel) rfl rfl (Nat.le_of_ble_eq_true rfl) dX8_init_9 (fun H locs hP9 hD9 hS9 => ?_)
  have hG : gd_W (dC, dI) A s ([(o, .inr (7, [.ref q1, .null, .null, .int 0, .null, .null, .null, .int 0, .int 0, .int 0, .int 0, .null, .int 0, .null, .int 0, .int 0, .int 0])), (q1, .inl (cI, (107, .inl (fun _ => 0))))]) H locs := ⟨hP9, hD9, hS9⟩
  refine lv_aload_n hx hb dX8_init_12 rfl (lv_at hl 0 rfl) ?_
  refine lv_bipush (v := 107) hx hb dX8_init_13 (by decide) ?_
  refine gn_newa (N' := 107) hx hb (hts _ wr_106) hK hA hG (by decide) (by decide) (by decide) (Nat.le_of_ble_eq_true rfl) (Nat.le_of_ble_eq_true rfl) dX8_init_15 (fun q2 H hG9 => ?_)
  have hG : gd_W (dC, dI) A s ([(o, .inr (7, [.ref q1, .null, .null, .int 0, .null, .null, .null, .int 0, .int 0, .int 0, .int 0, .null, .int 0, .null, .int 0, .int 0, .int 0])), (q1, .inl (cI, (107, .inl (fun _ => 0)))), (q2, .inl (cI, (107, .inl (fun _ => 0))))]) H _ := hG9
  refine va_putF (D := (dC, dI)) (ci := 7) (v := .ref q2) (ty := .array .int) (C := RX8) (T := TX8) (N := 17) hx hb hts inlX8 tyX8 tyX8_ok nmX8 hown hK hG.1 hG.2.1 hG.2.2 0 rfl rfl 1 (by decide) (hts _ wr_638) (fun _ h9 => h9) rfl hin rfl (by decide +kernel) rfl rfl (Nat.le_of_ble_eq_true rfl) dX8_init_17 (fun H locs hP9 hD9 hS9 => ?_)
  have hG : gd_W (dC, dI) A s ([(o, .inr (7, [.ref q1, .ref q2, .null, .int 0, .null, .null, .null, .int 0, .int 0, .int 0, .int 0, .null, .int 0, .null, .int 0, .int 0, .int 0])), (q1, .inl (cI, (107, .inl (fun _ => 0)))), (q2, .inl (cI, (107, .inl (fun _ => 0))))]) H locs := ⟨hP9, hD9, hS9⟩
  refine lv_aload_n hx hb dX8_init_20 rfl (lv_at hl 0 rfl) ?_
  refine lv_sipush (v := 642) hx hb dX8_init_21 (by decide) ?_
  refine gn_newa (N' := 642) hx hb (hts _ wr_106) hK hA hG (by decide) (by decide) (by decide) (Nat.le_of_ble_eq_true rfl) (Nat.le_of_ble_eq_true rfl) dX8_init_24 (fun q3 H hG9 => ?_)
  have hG : gd_W (dC, dI) A s ([(o, .inr (7, [.ref q1, .ref q2, .null, .int 0, .null, .null, .null, .int 0, .int 0, .int 0, .int 0, .null, .int 0, .null, .int 0, .int 0, .int 0])), (q1, .inl (cI, (107, .inl (fun _ => 0)))), (q2, .inl (cI, (107, .inl (fun _ => 0)))), (q3, .inl (cI, (642, .inl (fun _ => 0))))]) H _ := hG9
  refine va_putF (D := (dC, dI)) (ci := 7) (v := .ref q3) (ty := .array .int) (C := RX8) (T := TX8) (N := 17) hx hb hts inlX8 tyX8 tyX8_ok nmX8 hown hK hG.1 hG.2.1 hG.2.2 0 rfl rfl 2 (by decide) (hts _ wr_639) (fun _ h9 => h9) rfl hin rfl (by decide +kernel) rfl rfl (Nat.le_of_ble_eq_true rfl) dX8_init_26 (fun H locs hP9 hD9 hS9 => ?_)
  have hG : gd_W (dC, dI) A s ([(o, .inr (7, [.ref q1, .ref q2, .ref q3, .int 0, .null, .null, .null, .int 0, .int 0, .int 0, .int 0, .null, .int 0, .null, .int 0, .int 0, .int 0])), (q1, .inl (cI, (107, .inl (fun _ => 0)))), (q2, .inl (cI, (107, .inl (fun _ => 0)))), (q3, .inl (cI, (642, .inl (fun _ => 0))))]) H locs := ⟨hP9, hD9, hS9⟩
  refine lv_aload_n hx hb dX8_init_29 rfl (lv_at hl 0 rfl) ?_
  refine lv_sipush (v := 214) hx hb dX8_init_30 (by decide) ?_
  refine gn_newa (N' := 214) hx hb (hts _ wr_106) hK hA hG (by decide) (by decide) (by decide) (Nat.le_of_ble_eq_true rfl) (Nat.le_of_ble_eq_true rfl) dX8_init_33 (fun q4 H hG9 => ?_)
  have hG : gd_W (dC, dI) A s ([(o, .inr (7, [.ref q1, .ref q2, .ref q3, .int 0, .null, .null, .null, .int 0, .int 0, .int 0, .int 0, .null, .int 0, .null, .int 0, .int 0, .int 0])), (q1, .inl (cI, (107, .inl (fun _ => 0)))), (q2, .inl (cI, (107, .inl (fun _ => 0)))), (q3, .inl (cI, (642, .inl (fun _ => 0)))), (q4, .inl (cI, (214, .inl (fun _ => 0))))]) H _ := hG9
  refine va_putF (D := (dC, dI)) (ci := 7) (v := .ref q4) (ty := .array .int) (C := RX8) (T := TX8) (N := 17) hx hb hts inlX8 tyX8 tyX8_ok nmX8 hown hK hG.1 hG.2.1 hG.2.2 0 rfl rfl 4 (by decide) (hts _ wr_641) (fun _ h9 => h9) rfl hin rfl (by decide +kernel) rfl rfl (Nat.le_of_ble_eq_true rfl) dX8_init_35 (fun H locs hP9 hD9 hS9 => ?_)
  have hG : gd_W (dC, dI) A s ([(o, .inr (7, [.ref q1, .ref q2, .ref q3, .int 0, .ref q4, .null, .null, .int 0, .int 0, .int 0, .int 0, .null, .int 0, .null, .int 0, .int 0, .int 0])), (q1, .inl (cI, (107, .inl (fun _ => 0)))), (q2, .inl (cI, (107, .inl (fun _ => 0)))), (q3, .inl (cI, (642, .inl (fun _ => 0)))), (q4, .inl (cI, (214, .inl (fun _ => 0))))]) H locs := ⟨hP9, hD9, hS9⟩
  refine lv_aload_n hx hb dX8_init_38 rfl (lv_at hl 0 rfl) ?_
  refine lv_iconst (v := 2) hx hb dX8_init_39 (by decide) ?_
  refine gn_newa (N' := 2) hx hb (hts _ wr_106) hK hA hG (by decide) (by decide) (by decide) (Nat.le_of_ble_eq_true rfl) (Nat.le_of_ble_eq_true rfl) dX8_init_40 (fun q5 H hG9 => ?_)
  have hG : gd_W (dC, dI) A s ([(o, .inr (7, [.ref q1, .ref q2, .ref q3, .int 0, .ref q4, .null, .null, .int 0, .int 0, .int 0, .int 0, .null, .int 0, .null, .int 0, .int 0, .int 0])), (q1, .inl (cI, (107, .inl (fun _ => 0)))), (q2, .inl (cI, (107, .inl (fun _ => 0)))), (q3, .inl (cI, (642, .inl (fun _ => 0)))), (q4, .inl (cI, (214, .inl (fun _ => 0)))), (q5, .inl (cI, (2, .inl (fun _ => 0))))]) H _ := hG9
  refine va_putF (D := (dC, dI)) (ci := 7) (v := .ref q5) (ty := .array .int) (C := RX8) (T := TX8) (N := 17) hx hb hts inlX8 tyX8 tyX8_ok nmX8 hown hK hG.1 hG.2.1 hG.2.2 0 rfl rfl 5 (by decide) (hts _ wr_642) (fun _ h9 => h9) rfl hin rfl (by decide +kernel) rfl rfl (Nat.le_of_ble_eq_true rfl) dX8_init_42 (fun H locs hP9 hD9 hS9 => ?_)
  have hG : gd_W (dC, dI) A s ([(o, .inr (7, [.ref q1, .ref q2, .ref q3, .int 0, .ref q4, .ref q5, .null, .int 0, .int 0, .int 0, .int 0, .null, .int 0, .null, .int 0, .int 0, .int 0])), (q1, .inl (cI, (107, .inl (fun _ => 0)))), (q2, .inl (cI, (107, .inl (fun _ => 0)))), (q3, .inl (cI, (642, .inl (fun _ => 0)))), (q4, .inl (cI, (214, .inl (fun _ => 0)))), (q5, .inl (cI, (2, .inl (fun _ => 0))))]) H locs := ⟨hP9, hD9, hS9⟩
  refine lv_aload_n hx hb dX8_init_45 rfl (lv_at hl 0 rfl) ?_
  refine lv_bipush (v := 80) hx hb dX8_init_46 (by decide) ?_
  refine gn_newa (N' := 80) hx hb (hts _ wr_106) hK hA hG (by decide) (by decide) (by decide) (Nat.le_of_ble_eq_true rfl) (Nat.le_of_ble_eq_true rfl) dX8_init_48 (fun q6 H hG9 => ?_)
  have hG : gd_W (dC, dI) A s ([(o, .inr (7, [.ref q1, .ref q2, .ref q3, .int 0, .ref q4, .ref q5, .null, .int 0, .int 0, .int 0, .int 0, .null, .int 0, .null, .int 0, .int 0, .int 0])), (q1, .inl (cI, (107, .inl (fun _ => 0)))), (q2, .inl (cI, (107, .inl (fun _ => 0)))), (q3, .inl (cI, (642, .inl (fun _ => 0)))), (q4, .inl (cI, (214, .inl (fun _ => 0)))), (q5, .inl (cI, (2, .inl (fun _ => 0)))), (q6, .inl (cI, (80, .inl (fun _ => 0))))]) H _ := hG9
  refine va_putF (D := (dC, dI)) (ci := 7) (v := .ref q6) (ty := .array .int) (C := RX8) (T := TX8) (N := 17) hx hb hts inlX8 tyX8 tyX8_ok nmX8 hown hK hG.1 hG.2.1 hG.2.2 0 rfl rfl 6 (by decide) (hts _ wr_643) (fun _ h9 => h9) rfl hin rfl (by decide +kernel) rfl rfl (Nat.le_of_ble_eq_true rfl) dX8_init_50 (fun H locs hP9 hD9 hS9 => ?_)
  have hG : gd_W (dC, dI) A s ([(o, .inr (7, [.ref q1, .ref q2, .ref q3, .int 0, .ref q4, .ref q5, .ref q6, .int 0, .int 0, .int 0, .int 0, .null, .int 0, .null, .int 0, .int 0, .int 0])), (q1, .inl (cI, (107, .inl (fun _ => 0)))), (q2, .inl (cI, (107, .inl (fun _ => 0)))), (q3, .inl (cI, (642, .inl (fun _ => 0)))), (q4, .inl (cI, (214, .inl (fun _ => 0)))), (q5, .inl (cI, (2, .inl (fun _ => 0)))), (q6, .inl (cI, (80, .inl (fun _ => 0))))]) H locs := ⟨hP9, hD9, hS9⟩
  refine lv_aload_n hx hb dX8_init_53 rfl (lv_at hl 0 rfl) ?_
  refine lv_iconst (v := 4) hx hb dX8_init_54 (by decide) ?_
  refine gn_newa (N' := 4) hx hb (hts _ wr_106) hK hA hG (by decide) (by decide) (by decide) (Nat.le_of_ble_eq_true rfl) (Nat.le_of_ble_eq_true rfl) dX8_init_55 (fun q7 H hG9 => ?_)
  have hG : gd_W (dC, dI) A s ([(o, .inr (7, [.ref q1, .ref q2, .ref q3, .int 0, .ref q4, .ref q5, .ref q6, .int 0, .int 0, .int 0, .int 0, .null, .int 0, .null, .int 0, .int 0, .int 0])), (q1, .inl (cI, (107, .inl (fun _ => 0)))), (q2, .inl (cI, (107, .inl (fun _ => 0)))), (q3, .inl (cI, (642, .inl (fun _ => 0)))), (q4, .inl (cI, (214, .inl (fun _ => 0)))), (q5, .inl (cI, (2, .inl (fun _ => 0)))), (q6, .inl (cI, (80, .inl (fun _ => 0)))), (q7, .inl (cI, (4, .inl (fun _ => 0))))]) H _ := hG9
  refine va_putF (D := (dC, dI)) (ci := 7) (v := .ref q7) (ty := .array .int) (C := RX8) (T := TX8) (N := 17) hx hb hts inlX8 tyX8 tyX8_ok nmX8 hown hK hG.1 hG.2.1 hG.2.2 0 rfl rfl 11 (by decide) (hts _ wr_648) (fun _ h9 => h9) rfl hin rfl (by decide +kernel) rfl rfl (Nat.le_of_ble_eq_true rfl) dX8_init_57 (fun H locs hP9 hD9 hS9 => ?_)
  have hG : gd_W (dC, dI) A s ([(o, .inr (7, [.ref q1, .ref q2, .ref q3, .int 0, .ref q4, .ref q5, .ref q6, .int 0, .int 0, .int 0, .int 0, .ref q7, .int 0, .null, .int 0, .int 0, .int 0])), (q1, .inl (cI, (107, .inl (fun _ => 0)))), (q2, .inl (cI, (107, .inl (fun _ => 0)))), (q3, .inl (cI, (642, .inl (fun _ => 0)))), (q4, .inl (cI, (214, .inl (fun _ => 0)))), (q5, .inl (cI, (2, .inl (fun _ => 0)))), (q6, .inl (cI, (80, .inl (fun _ => 0)))), (q7, .inl (cI, (4, .inl (fun _ => 0))))]) H locs := ⟨hP9, hD9, hS9⟩
  refine lv_aload_n hx hb dX8_init_60 rfl (lv_at hl 0 rfl) ?_
  refine lv_iconst (v := 4) hx hb dX8_init_61 (by decide) ?_
  refine gn_newa (N' := 4) hx hb (hts _ wr_106) hK hA hG (by decide) (by decide) (by decide) (Nat.le_of_ble_eq_true rfl) (Nat.le_of_ble_eq_true rfl) dX8_init_62 (fun q8 H hG9 => ?_)
  have hG : gd_W (dC, dI) A s ([(o, .inr (7, [.ref q1, .ref q2, .ref q3, .int 0, .ref q4, .ref q5, .ref q6, .int 0, .int 0, .int 0, .int 0, .ref q7, .int 0, .null, .int 0, .int 0, .int 0])), (q1, .inl (cI, (107, .inl (fun _ => 0)))), (q2, .inl (cI, (107, .inl (fun _ => 0)))), (q3, .inl (cI, (642, .inl (fun _ => 0)))), (q4, .inl (cI, (214, .inl (fun _ => 0)))), (q5, .inl (cI, (2, .inl (fun _ => 0)))), (q6, .inl (cI, (80, .inl (fun _ => 0)))), (q7, .inl (cI, (4, .inl (fun _ => 0)))), (q8, .inl (cI, (4, .inl (fun _ => 0))))]) H _ := hG9
  refine va_putF (D := (dC, dI)) (ci := 7) (v := .ref q8) (ty := .array .int) (C := RX8) (T := TX8) (N := 17) hx hb hts inlX8 tyX8 tyX8_ok nmX8 hown hK hG.1 hG.2.1 hG.2.2 0 rfl rfl 13 (by decide) (hts _ wr_650) (fun _ h9 => h9) rfl hin rfl (by decide +kernel) rfl rfl (Nat.le_of_ble_eq_true rfl) dX8_init_64 (fun H locs hP9 hD9 hS9 => ?_)
  have hG : gd_W (dC, dI) A s ([(o, .inr (7, [.ref q1, .ref q2, .ref q3, .int 0, .ref q4, .ref q5, .ref q6, .int 0, .int 0, .int 0, .int 0, .ref q7, .int 0, .ref q8, .int 0, .int 0, .int 0])), (q1, .inl (cI, (107, .inl (fun _ => 0)))), (q2, .inl (cI, (107, .inl (fun _ => 0)))), (q3, .inl (cI, (642, .inl (fun _ => 0)))), (q4, .inl (cI, (214, .inl (fun _ => 0)))), (q5, .inl (cI, (2, .inl (fun _ => 0)))), (q6, .inl (cI, (80, .inl (fun _ => 0)))), (q7, .inl (cI, (4, .inl (fun _ => 0)))), (q8, .inl (cI, (4, .inl (fun _ => 0))))]) H locs := ⟨hP9, hD9, hS9⟩
  refine lv_aload_n hx hb dX8_init_67 rfl (lv_at hl 0 rfl) ?_
  refine va_get (D := (dC, dI)) (ci := 7) (v := .ref q1) (C := RX8) (T := TX8) (N := 17) hx hb hts inlX8 hown hK hG.1 0 rfl rfl 0 (by decide) (hts _ wr_637) (fun _ h9 => h9) rfl dX8_init_68 ?_
  refine lv_iconst (v := 0) hx hb dX8_init_71 (by decide) ?_
  refine lv_bipush (v := 20) hx hb dX8_init_72 (by decide) ?_
  refine va_iast hx hb hK hG.1 hG.2.1 hG.2.2 1 0 rfl rfl (vp_in_nI (n := 0) (by decide) (by decide)) dX8_init_74 (fun H locs hP9 hD9 hS9 => ?_)
  have hG : gd_W (dC, dI) A s ([(o, .inr (7, [.ref q1, .ref q2, .ref q3, .int 0, .ref q4, .ref q5, .ref q6, .int 0, .int 0, .int 0, .int 0, .ref q7, .int 0, .ref q8, .int 0, .int 0, .int 0])), (q1, .inl (cI, (107, .inl (upd (fun _ => 0) 0 20)))), (q2, .inl (cI, (107, .inl (fun _ => 0)))), (q3, .inl (cI, (642, .inl (fun _ => 0)))), (q4, .inl (cI, (214, .inl (fun _ => 0)))), (q5, .inl (cI, (2, .inl (fun _ => 0)))), (q6, .inl (cI, (80, .inl (fun _ => 0)))), (q7, .inl (cI, (4, .inl (fun _ => 0)))), (q8, .inl (cI, (4, .inl (fun _ => 0))))]) H locs := ⟨hP9, hD9, hS9⟩
  refine lv_aload_n hx hb dX8_init_75 rfl (lv_at hl 0 rfl) ?_
  refine va_get (D := (dC, dI)) (ci := 7) (v := .ref q1) (C := RX8) (T := TX8) (N := 17) hx hb hts inlX8 hown hK hG.1 0 rfl rfl 0 (by decide) (hts _ wr_637) (fun _ h9 => h9) rfl dX8_init_76 ?_
  refine lv_iconst (v := 1) hx hb dX8_init_79 (by decide) ?_
  refine lv_bipush (v := 15) hx hb dX8_init_80 (by decide) ?_
  refine va_iast hx hb hK hG.1 hG.2.1 hG.2.2 1 0 rfl rfl (vp_in_nI (n := 1) (by decide) (by decide)) dX8_init_82 (fun H locs hP9 hD9 hS9 => ?_)
  have hG : gd_W (dC, dI) A s ([(o, .inr (7, [.ref q1, .ref q2, .ref q3, .int 0, .ref q4, .ref q5, .ref q6, .int 0, .int 0, .int 0, .int 0, .ref q7, .int 0, .ref q8, .int 0, .int 0, .int 0])), (q1, .inl (cI, (107, .inl (upd (upd (fun _ => 0) 0 20) 1 15)))), (q2, .inl (cI, (107, .inl (fun _ => 0)))), (q3, .inl (cI, (642, .inl (fun _ => 0)))), (q4, .inl (cI, (214, .inl (fun _ => 0)))), (q5, .inl (cI, (2, .inl (fun _ => 0)))), (q6, .inl (cI, (80, .inl (fun _ => 0)))), (q7, .inl (cI, (4, .inl (fun _ => 0)))), (q8, .inl (cI, (4, .inl (fun _ => 0))))]) H locs := ⟨hP9, hD9, hS9⟩
  refine lv_aload_n hx hb dX8_init_83 rfl (lv_at hl 0 rfl) ?_
  refine va_get (D := (dC, dI)) (ci := 7) (v := .ref q1) (C := RX8) (T := TX8) (N := 17) hx hb hts inlX8 hown hK hG.1 0 rfl rfl 0 (by decide) (hts _ wr_637) (fun _ h9 => h9) rfl dX8_init_84 ?_
  refine lv_iconst (v := 2) hx hb dX8_init_87 (by decide) ?_
  refine lv_bipush (v := 6) hx hb dX8_init_88 (by decide) ?_
  refine va_iast hx hb hK hG.1 hG.2.1 hG.2.2 1 0 rfl rfl (vp_in_nI (n := 2) (by decide) (by decide)) dX8_init_90 (fun H locs hP9 hD9 hS9 => ?_)
  have hG : gd_W (dC, dI) A s ([(o, .inr (7, [.ref q1, .ref q2, .ref q3, .int 0, .ref q4, .ref q5, .ref q6, .int 0, .int 0, .int 0, .int 0, .ref q7, .int 0, .ref q8, .int 0, .int 0, .int 0])), (q1, .inl (cI, (107, .inl (upd (upd (upd (fun _ => 0) 0 20) 1 15) 2 6)))), (q2, .inl (cI, (107, .inl (fun _ => 0)))), (q3, .inl (cI, (642, .inl (fun _ => 0)))), (q4, .inl (cI, (214, .inl (fun _ => 0)))), (q5, .inl (cI, (2, .inl (fun _ => 0)))), (q6, .inl (cI, (80, .inl (fun _ => 0)))), (q7, .inl (cI, (4, .inl (fun _ => 0)))), (q8, .inl (cI, (4, .inl (fun _ => 0))))]) H locs := ⟨hP9, hD9, hS9⟩
  refine lv_aload_n hx hb dX8_init_91 rfl (lv_at hl 0 rfl) ?_
  refine va_get (D := (dC, dI)) (ci := 7) (v := .ref q1) (C := RX8) (T := TX8) (N := 17) hx hb hts inlX8 hown hK hG.1 0 rfl rfl 0 (by decide) (hts _ wr_637) (fun _ h9 => h9) rfl dX8_init_92 ?_
  refine lv_iconst (v := 3) hx hb dX8_init_95 (by decide) ?_
  refine lv_iconst (v := 3) hx hb dX8_init_96 (by decide) ?_
  refine va_iast hx hb hK hG.1 hG.2.1 hG.2.2 1 0 rfl rfl (vp_in_nI (n := 3) (by decide) (by decide)) dX8_init_97 (fun H locs hP9 hD9 hS9 => ?_)
  have hG : gd_W (dC, dI) A s ([(o, .inr (7, [.ref q1, .ref q2, .ref q3, .int 0, .ref q4, .ref q5, .ref q6, .int 0, .int 0, .int 0, .int 0, .ref q7, .int 0, .ref q8, .int 0, .int 0, .int 0])), (q1, .inl (cI, (107, .inl (upd (upd (upd (upd (fun _ => 0) 0 20) 1 15) 2 6) 3 3)))), (q2, .inl (cI, (107, .inl (fun _ => 0)))), (q3, .inl (cI, (642, .inl (fun _ => 0)))), (q4, .inl (cI, (214, .inl (fun _ => 0)))), (q5, .inl (cI, (2, .inl (fun _ => 0)))), (q6, .inl (cI, (80, .inl (fun _ => 0)))), (q7, .inl (cI, (4, .inl (fun _ => 0)))), (q8, .inl (cI, (4, .inl (fun _ => 0))))]) H locs := ⟨hP9, hD9, hS9⟩
  refine lv_aload_n hx hb dX8_init_98 rfl (lv_at hl 0 rfl) ?_
  refine va_get (D := (dC, dI)) (ci := 7) (v := .ref q1) (C := RX8) (T := TX8) (N := 17) hx hb hts inlX8 hown hK hG.1 0 rfl rfl 0 (by decide) (hts _ wr_637) (fun _ h9 => h9) rfl dX8_init_99 ?_
  refine lv_iconst (v := 4) hx hb dX8_init_102 (by decide) ?_
  refine lv_iconst (v := 4) hx hb dX8_init_103 (by decide) ?_
  refine va_iast hx hb hK hG.1 hG.2.1 hG.2.2 1 0 rfl rfl (vp_in_nI (n := 4) (by decide) (by decide)) dX8_init_104 (fun H locs hP9 hD9 hS9 => ?_)
  have hG : gd_W (dC, dI) A s ([(o, .inr (7, [.ref q1, .ref q2, .ref q3, .int 0, .ref q4, .ref q5, .ref q6, .int 0, .int 0, .int 0, .int 0, .ref q7, .int 0, .ref q8, .int 0, .int 0, .int 0])), (q1, .inl (cI, (107, .inl (upd (upd (upd (upd (upd (fun _ => 0) 0 20) 1 15) 2 6) 3 3) 4 4)))), (q2, .inl (cI, (107, .inl (fun _ => 0)))), (q3, .inl (cI, (642, .inl (fun _ => 0)))), (q4, .inl (cI, (214, .inl (fun _ => 0)))), (q5, .inl (cI, (2, .inl (fun _ => 0)))), (q6, .inl (cI, (80, .inl (fun _ => 0)))), (q7, .inl (cI, (4, .inl (fun _ => 0)))), (q8, .inl (cI, (4, .inl (fun _ => 0))))]) H locs := ⟨hP9, hD9, hS9⟩
  refine lv_aload_n hx hb dX8_init_105 rfl (lv_at hl 0 rfl) ?_
  refine va_get (D := (dC, dI)) (ci := 7) (v := .ref q1) (C := RX8) (T := TX8) (N := 17) hx hb hts inlX8 hown hK hG.1 0 rfl rfl 0 (by decide) (hts _ wr_637) (fun _ h9 => h9) rfl dX8_init_106 ?_
  refine lv_bipush (v := 8) hx hb dX8_init_109 (by decide) ?_
  refine lv_iconst (v := 1) hx hb dX8_init_111 (by decide) ?_
  refine va_iast hx hb hK hG.1 hG.2.1 hG.2.2 1 0 rfl rfl (vp_in_nI (n := 8) (by decide) (by decide)) dX8_init_112 (fun H locs hP9 hD9 hS9 => ?_)
  have hG : gd_W (dC, dI) A s ([(o, .inr (7, [.ref q1, .ref q2, .ref q3, .int 0, .ref q4, .ref q5, .ref q6, .int 0, .int 0, .int 0, .int 0, .ref q7, .int 0, .ref q8, .int 0, .int 0, .int 0])), (q1, .inl (cI, (107, .inl (upd (upd (upd (upd (upd (upd (fun _ => 0) 0 20) 1 15) 2 6) 3 3) 4 4) 8 1)))), (q2, .inl (cI, (107, .inl (fun _ => 0)))), (q3, .inl (cI, (642, .inl (fun _ => 0)))), (q4, .inl (cI, (214, .inl (fun _ => 0)))), (q5, .inl (cI, (2, .inl (fun _ => 0)))), (q6, .inl (cI, (80, .inl (fun _ => 0)))), (q7, .inl (cI, (4, .inl (fun _ => 0)))), (q8, .inl (cI, (4, .inl (fun _ => 0))))]) H locs := ⟨hP9, hD9, hS9⟩
  have hG : gd_W (dC, dI) A s (wd_M cI (fun k => match k with | 0 => o | 1 => q1 | 2 => q2 | 3 => q3 | 4 => q4 | 5 => q5 | 6 => q6 | 7 => q7 | _ => q8) (mm_0 0)) H locs := hG
  refine W.widen (k := 8) (n := 1160) (Nat.le_of_ble_eq_true rfl) (Nat.le_of_ble_eq_true rfl) ?_
  refine lv_iconst (v := nI 0) hx hb dX8_init_113 (by decide) ?_
  refine lv_istore_n (lv' := [(1, .int (nI 0)), (0, .ref o)]) hx hb dX8_init_114 rfl hl (by decide) rfl (fun ls hl => ?_)
  exact w8_initL C hK hA (a := (fun k => match k with | 0 => o | 1 => q1 | 2 => q2 | 3 => q3 | 4 => q4 | 5 => q5 | 6 => q6 | 7 => q7 | _ => q8)) rfl 21 0 (by decide) (by decide) hG (lv_sub hl [1, 0] rfl)
