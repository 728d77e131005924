/-! WEAK CONTRACTS: the layer -/
/-- the places of these kinds -/
def AT (τ : Nat → Option Nat) (L : List Nat) (q : Nat) : Prop := ∃ t, τ q = some t ∧ t ∈ L
theorem AT.sub {τ : Nat → Option Nat} {L1 L2 : List Nat} (h : ∀ t ∈ L1, t ∈ L2) : ∀ q, AT τ L1 q → AT τ L2 q := fun _ ⟨t, a, b⟩ => ⟨t, a, h t b⟩
theorem AT.out {τ : Nat → Option Nat} {L : List Nat} {q t : Nat} (h : τ q = some t) (hn : t ∉ L) : ¬ AT τ L q := fun ⟨u, a, b⟩ => hn (by rw [h] at a; cases a; exact b)
theorem b_iv {x : Int32} (h : x = 0 ∨ x = 1) : 0 ≤ x.toInt ∧ x.toInt ≤ 1 := by rcases h with rfl | rfl <;> decide
theorem i_max (x : Int32) : x.toInt ≤ 2147483647 := by have := Int32.toInt_lt x; omega
theorem i_min (x : Int32) : -2147483648 ≤ x.toInt := by have := Int32.le_toInt x; omega
theorem i_bm {z : Int} (l : -2147483648 ≤ z) (h : z ≤ 2147483647) : z.bmod (2 ^ 32) = z := by
  rw [Int.bmod_eq_of_le] <;> omega
theorem i_add {x y c : Int32} {k : Int} (hc : c.toInt = k) (e : x + c = y) (l : -2147483648 ≤ x.toInt + k) (h : x.toInt + k ≤ 2147483647) : y.toInt = x.toInt + k := by
  rw [← e, Int32.toInt_add, hc]; exact i_bm l h
theorem i_pl {x y z : Int32} {a b : Int} (ha : x.toInt = a) (hb : y.toInt = b) (e : z = x + y) (l : -2147483648 ≤ a + b) (h : a + b ≤ 2147483647) : z.toInt = a + b := by
  rw [e, Int32.toInt_add, ha, hb]; exact i_bm l h
theorem i_mi {x y z : Int32} {a b : Int} (ha : x.toInt = a) (hb : y.toInt = b) (e : z = x - y) (l : -2147483648 ≤ a - b) (h : a - b ≤ 2147483647) : z.toInt = a - b := by
  rw [e, Int32.toInt_sub, ha, hb]; exact i_bm l h
theorem i_ml {x y z : Int32} {a b : Int} (ha : x.toInt = a) (hb : y.toInt = b) (e : z = x * y) (l : -2147483648 ≤ a * b) (h : a * b ≤ 2147483647) : z.toInt = a * b := by
  rw [e, Int32.toInt_mul, ha, hb]; exact i_bm l h
theorem i_mask {x : Int32} : 0 ≤ (x &&& 63).toInt ∧ (x &&& 63).toInt ≤ 63 := by
  have h : (x &&& 63).toBitVec.toNat ≤ 63 := by
    rw [Int32.toBitVec_and, BitVec.toNat_and]
    exact Nat.and_le_right
  have e : (x &&& 63).toInt = ((x &&& 63).toBitVec.toNat : Int) := BitVec.toInt_eq_toNat_of_lt (by omega)
  rw [e]
  omega
theorem r_lt {x y : Int32} {a b : Int} (hx : x.toInt = a) (hy : y.toInt = b) (h : x < y) : a < b := by rw [← hx, ← hy]; exact Int32.lt_iff_toInt_lt.mp h
theorem r_nlt {x y : Int32} {a b : Int} (hx : x.toInt = a) (hy : y.toInt = b) (h : ¬ x < y) : b ≤ a := by rw [← hx, ← hy]; exact Int.not_lt.mp fun q => h (Int32.lt_iff_toInt_lt.mpr q)
theorem r_le {x y : Int32} {a b : Int} (hx : x.toInt = a) (hy : y.toInt = b) (h : x ≤ y) : a ≤ b := by rw [← hx, ← hy]; exact Int32.le_iff_toInt_le.mp h
theorem r_nle {x y : Int32} {a b : Int} (hx : x.toInt = a) (hy : y.toInt = b) (h : ¬ x ≤ y) : b < a := by rw [← hx, ← hy]; exact Int.not_le.mp fun q => h (Int32.le_iff_toInt_le.mpr q)
theorem r_eq {x y : Int32} {a b : Int} (hx : x.toInt = a) (hy : y.toInt = b) (h : x = y) : a = b := by rw [← hx, ← hy, h]
theorem r_ne {x y : Int32} {a b : Int} (hx : x.toInt = a) (hy : y.toInt = b) (h : ¬ x = y) : ¬ a = b := by rw [← hx, ← hy]; exact fun q => h (Int32.toInt_inj.mp q)
theorem i_ne {v c : Int32} {k : Int} (h : ¬ v = c) (hc : c.toInt = k) : ¬ v.toInt = k := fun q => h (Int32.toInt_inj.mp (q.trans hc.symm))
theorem i_max' {x y z : Int32} (e : z = if x < y then y else x) : (z = x ∨ z = y) := by
  rw [e]; split
  · exact Or.inr rfl
  · exact Or.inl rfl
theorem i_maxq {x y z : Int32} {a b : Int} (hx : x.toInt = a) (hy : y.toInt = b) (e : z = if x < y then y else x) : a ≤ z.toInt ∧ b ≤ z.toInt ∧ (z.toInt = a ∨ z.toInt = b) := by
  rw [e]; split
  · rename_i h
    have := r_lt hx hy h
    omega
  · rename_i h
    have := r_nlt hx hy h
    omega
theorem i_minq {x y z : Int32} {a b : Int} (hx : x.toInt = a) (hy : y.toInt = b) (e : z = if y < x then y else x) : z.toInt ≤ a ∧ z.toInt ≤ b ∧ (z.toInt = a ∨ z.toInt = b) := by
  rw [e]; split
  · rename_i h
    have := r_lt hy hx h
    omega
  · rename_i h
    have := r_nlt hy hx h
    omega
theorem mabs_X7_50 {p : Program} {l : Launch} {e : Env} {R : Room} {s : State} {m : MethodId} {args : Array Value} {below : List Frame} {meth : Method} {c : Code} {H : Heap} {locs : List Loc} {cells slots : Nat} {Q : State → Prop} {cc : ByteArray} {pc : Nat} {ls : Array Slot} {rest : List Value} {D : va_G} {cI cS : ClassId} {nL : Nat} {x : Int32} (E : EE p s m args c cc RX7 D cI cS) (hml : c.maxLocals = nL) (hl : ls.size = nL) (hR : 1 ≤ R.frames) (hw : (rest.map fun v => v.category).sum + 13 ≤ R.locals) (hcs : cells ≤ R.cells ∧ slots ≤ R.slots) (hdg : decode cc pc = .ok (.invokestatic 50, 3)) (kk : W p l e R s m args below meth c H locs cells slots Q (F0 m (pc + 3) ls (.int (if 0 ≤ x then x else 0 - x) :: rest))) : W p l e R s m args below meth c H locs cells slots Q (F0 m pc ls (.int x :: rest)) :=
  va_mabs E.1 E.2.1 (hml.trans hl.symm) E.2.2.1 (E.2.2.2.1 _ qw_1169) (E.2.2.2.1 _ qw_1170) (E.2.2.2.1 _ qw_1158) (E.2.2.2.1 _ qw_1171) hR hw hcs.1 hcs.2 hdg kk
set_option maxHeartbeats 4000000 in
set_option maxRecDepth 100000 in
/-- StreamEnds$Config.copyFrom: it ends, and the heap stays typed -/
theorem z_X1_copyFrom (l : Launch) (D : va_G) (cI cS : ClassId) (τ : Nat → Option Nat) (ρ : Nat → Nat → Nat) (hW : WF τ ρ) (H : Heap) (hT : TH D cI cS τ ρ H) (a0 : Nat) (a1 : Nat) (ha0 : τ a0 = some 1) (ha1 : τ a1 = some 1) : MV l D cI cS τ ρ yX1_copyFrom cX1_copyFrom 2 none 0 0 H [.ref a0, .ref a1] (fun (u : Heap) => True) (AT τ [1]) := by
  refine MV.of (by decide) (Nat.le_of_ble_eq_true rfl) ?_
  intro p e s m args below meth c E hml hr hlk hs ls hl
  have hx := E.1
  have hb := E.2.1
  have hown := E.2.2.1
  have hts := E.2.2.2.1
  have hS : SS (AT τ [1]) H H [] := SS.rf
  have hl : lv_has ls 2 [(0, .ref a0), (1, .ref a1)] := hl
  refine lv_aload_n hx hb dX1_copyFrom_0 rfl (lv_at hl 0 rfl) ?_
  refine lv_aload_n hx hb dX1_copyFrom_1 rfl (lv_at hl 1 rfl) ?_
  refine gf_X1_14 E hT ha1 dX1_copyFrom_2 ?_
  refine lv_topi (fun x_1 ex_1 => ?_)
  refine pf_X1_14 E hT hS ha0 ⟨_, ha0, by decide⟩ dX1_copyFrom_5 (fun H_2 locs_2 hT_2 hU_2 hS_2 => ?_)
  refine lv_aload_n hx hb dX1_copyFrom_8 rfl (lv_at hl 0 rfl) ?_
  refine lv_aload_n hx hb dX1_copyFrom_9 rfl (lv_at hl 1 rfl) ?_
  refine gf_X1_18 E hT_2 ha1 dX1_copyFrom_10 ?_
  refine lv_topi (fun x_3 ex_3 => ?_)
  refine pf_X1_18 E hT_2 hS_2 ha0 ⟨_, ha0, by decide⟩ dX1_copyFrom_13 (fun H_4 locs_4 hT_4 hU_4 hS_4 => ?_)
  refine lv_aload_n hx hb dX1_copyFrom_16 rfl (lv_at hl 0 rfl) ?_
  refine lv_aload_n hx hb dX1_copyFrom_17 rfl (lv_at hl 1 rfl) ?_
  refine gf_X1_21 E hT_4 ha1 dX1_copyFrom_18 ?_
  refine lv_topi (fun x_5 ex_5 => ?_)
  refine pf_X1_21 E hT_4 hS_4 ha0 ⟨_, ha0, by decide⟩ dX1_copyFrom_21 (fun H_6 locs_6 hT_6 hU_6 hS_6 => ?_)
  refine lv_aload_n hx hb dX1_copyFrom_24 rfl (lv_at hl 0 rfl) ?_
  refine lv_aload_n hx hb dX1_copyFrom_25 rfl (lv_at hl 1 rfl) ?_
  refine gf_X1_24 E hT_6 ha1 dX1_copyFrom_26 ?_
  refine lv_topi (fun x_7 ex_7 => ?_)
  refine pf_X1_24 E hT_6 hS_6 ha0 ⟨_, ha0, by decide⟩ dX1_copyFrom_29 (fun H_8 locs_8 hT_8 hU_8 hS_8 => ?_)
  refine lv_aload_n hx hb dX1_copyFrom_32 rfl (lv_at hl 0 rfl) ?_
  refine lv_aload_n hx hb dX1_copyFrom_33 rfl (lv_at hl 1 rfl) ?_
  refine gf_X1_27 E hT_8 ha1 dX1_copyFrom_34 ?_
  refine lv_topi (fun x_9 ex_9 => ?_)
  refine pf_X1_27 E hT_8 hS_8 ha0 ⟨_, ha0, by decide⟩ dX1_copyFrom_37 (fun H_10 locs_10 hT_10 hU_10 hS_10 => ?_)
  exact th_vret E hr hlk hs hT_10 hS_10 trivial dX1_copyFrom_40
set_option maxHeartbeats 4000000 in
set_option maxRecDepth 100000 in
/-- StreamEnds$Config.hasRoom: it ends, and the heap stays typed -/
theorem z_X1_hasRoom (l : Launch) (D : va_G) (cI cS : ClassId) (τ : Nat → Option Nat) (ρ : Nat → Nat → Nat) (hW : WF τ ρ) (H : Heap) (hT : TH D cI cS τ ρ H) (a0 : Nat) (ha0 : τ a0 = some 1) : MI l D cI cS τ ρ yX1_hasRoom cX1_hasRoom 1 (some .boolean) 0 0 H [.ref a0] (fun (r : Int32) (u : Heap) => r = 0 ∨ r = 1) (AT τ []) := by
  refine MI.of (by decide) (Nat.le_of_ble_eq_true rfl) ?_
  intro p e s m args below meth c E hml hr hlk hs ls hl
  have hx := E.1
  have hb := E.2.1
  have hown := E.2.2.1
  have hts := E.2.2.2.1
  have hS : SS (AT τ []) H H [] := SS.rf
  have hl : lv_has ls 1 [(0, .ref a0)] := hl
  refine lv_aload_n hx hb dX1_hasRoom_0 rfl (lv_at hl 0 rfl) ?_
  refine gf_X1_18 E hT ha0 dX1_hasRoom_1 ?_
  refine lv_topi (fun x_1 ex_1 => ?_)
  refine lv_iconst (v := 2) hx hb dX1_hasRoom_4 (by decide) ?_
  refine lv_aload_n hx hb dX1_hasRoom_5 rfl (lv_at hl 0 rfl) ?_
  refine gf_X1_14 E hT ha0 dX1_hasRoom_6 ?_
  refine lv_topi (fun x_2 ex_2 => ?_)
  refine lv_imul hx hb dX1_hasRoom_9 ?_
  refine lv_topi (fun x_3 ex_3 => ?_)
  refine lv_icmp_lt (tgt := 17) hx hb dX1_hasRoom_10 (by decide) (fun c_4 => ?_) (fun c_4 => ?_)
  · have f_4 : x_1.toInt < x_3.toInt := r_lt rfl rfl c_4
    refine lv_iconst (v := 0) hx hb dX1_hasRoom_17 (by decide) ?_
    exact th_zret E hr hlk hs (Or.inl rfl) hT hS (Or.inl rfl) dX1_hasRoom_18
  · have f_4 : x_3.toInt ≤ x_1.toInt := r_nlt rfl rfl c_4
    refine lv_iconst (v := 1) hx hb dX1_hasRoom_13 (by decide) ?_
    refine lv_goto (tgt := 18) hx hb dX1_hasRoom_14 (by decide) ?_
    exact th_zret E hr hlk hs (Or.inr rfl) hT hS (Or.inr rfl) dX1_hasRoom_18
set_option maxHeartbeats 4000000 in
set_option maxRecDepth 100000 in
/-- StreamEnds$Config.number: it ends, and the heap stays typed -/
theorem z_X1_number (l : Launch) (D : va_G) (cI cS : ClassId) (τ : Nat → Option Nat) (ρ : Nat → Nat → Nat) (hW : WF τ ρ) (H : Heap) (hT : TH D cI cS τ ρ H) (a0 : Nat) (x0 : Int32) (x1 : Int32) (ha0 : τ a0 = some 1) : MI l D cI cS τ ρ yX1_number cX1_number 3 (some .int) 0 0 H [.ref a0, .int x0, .int x1] (fun (r : Int32) (u : Heap) => True) (AT τ []) := by
  refine MI.of (by decide) (Nat.le_of_ble_eq_true rfl) ?_
  intro p e s m args below meth c E hml hr hlk hs ls hl
  have hx := E.1
  have hb := E.2.1
  have hown := E.2.2.1
  have hts := E.2.2.2.1
  have hS : SS (AT τ []) H H [] := SS.rf
  have hl : lv_has ls 3 [(0, .ref a0), (1, .int x0), (2, .int x1)] := hl
  refine lv_iload_n hx hb dX1_number_0 rfl (lv_at hl 1 rfl) ?_
  refine lv_if_ne (tgt := 11) hx hb dX1_number_1 (by decide) (fun c_1 => ?_) (fun c_1 => ?_)
  · have f_1 : ¬ x0.toInt = 0 := r_ne rfl (by decide) c_1
    have nz_x0 : ¬ x0 = 0 := c_1
    refine lv_aload_n hx hb dX1_number_11 rfl (lv_at hl 0 rfl) ?_
    refine gf_X1_24 E hT ha0 dX1_number_12 ?_
    refine lv_topi (fun x_2 ex_2 => ?_)
    refine lv_iload_n hx hb dX1_number_15 rfl (lv_at hl 2 rfl) ?_
    refine lv_iadd hx hb dX1_number_16 ?_
    refine lv_topi (fun x_3 ex_3 => ?_)
    refine lv_sipush (v := 255) hx hb dX1_number_17 (by decide) ?_
    refine lv_iand hx hb dX1_number_20 ?_
    refine lv_topi (fun x_4 ex_4 => ?_)
    exact th_iret E hr hlk hs hT hS trivial dX1_number_21
  · have f_1 : x0.toInt = 0 := r_eq rfl (by decide) c_1
    refine lv_aload_n hx hb dX1_number_4 rfl (lv_at hl 0 rfl) ?_
    refine gf_X1_21 E hT ha0 dX1_number_5 ?_
    refine lv_topi (fun x_5 ex_5 => ?_)
    refine lv_goto (tgt := 15) hx hb dX1_number_8 (by decide) ?_
    refine lv_iload_n hx hb dX1_number_15 rfl (lv_at hl 2 rfl) ?_
    refine lv_iadd hx hb dX1_number_16 ?_
    refine lv_topi (fun x_6 ex_6 => ?_)
    refine lv_sipush (v := 255) hx hb dX1_number_17 (by decide) ?_
    refine lv_iand hx hb dX1_number_20 ?_
    refine lv_topi (fun x_7 ex_7 => ?_)
    exact th_iret E hr hlk hs hT hS trivial dX1_number_21
set_option maxHeartbeats 4000000 in
set_option maxRecDepth 100000 in
/-- StreamEnds$Config.place: it ends, and the heap stays typed -/
theorem z_X1_place (l : Launch) (D : va_G) (cI cS : ClassId) (τ : Nat → Option Nat) (ρ : Nat → Nat → Nat) (hW : WF τ ρ) (H : Heap) (hT : TH D cI cS τ ρ H) (a0 : Nat) (x0 : Int32) (x1 : Int32) (x2 : Int32) (ha0 : τ a0 = some 1) : MI l D cI cS τ ρ yX1_place cX1_place 5 (some .int) 1 22 H [.ref a0, .int x0, .int x1, .int x2] (fun (r : Int32) (u : Heap) => True) (AT τ []) := by
  refine MI.of (by decide) (Nat.le_of_ble_eq_true rfl) ?_
  intro p e s m args below meth c E hml hr hlk hs ls hl
  have hx := E.1
  have hb := E.2.1
  have hown := E.2.2.1
  have hts := E.2.2.2.1
  have hS : SS (AT τ []) H H [] := SS.rf
  have hl : lv_has ls 5 [(0, .ref a0), (1, .int x0), (2, .int x1), (3, .int x2)] := hl
  refine lv_iload_n hx hb dX1_place_0 rfl (lv_at hl 2 rfl) ?_
  refine lv_aload_n hx hb dX1_place_1 rfl (lv_at hl 0 rfl) ?_
  refine lv_iload_n hx hb dX1_place_2 rfl (lv_at hl 1 rfl) ?_
  refine lv_iload_n hx hb dX1_place_3 rfl (lv_at hl 3 rfl) ?_
  refine th_Vi (As := [.int x0, .int x2]) (rest := [.int x1]) E hml hl.1 (z_X1_number l D cI cS τ ρ hW H hT a0 x0 x2 ha0) lk_X1_54 yd_X1_number hT ha0 rfl (by decide) hS (AT.sub (by decide)) ⟨by decide, by decide⟩ (Nat.le_of_ble_eq_true rfl) ⟨by decide, by decide⟩ rfl dX1_place_4 (fun r_1 H_1 locs_1 p_1 hT_1 hk_1 hS_1 => ?_)
  refine lv_isub hx hb dX1_place_7 ?_
  refine lv_topi (fun x_2 ex_2 => ?_)
  refine lv_sipush (v := 255) hx hb dX1_place_8 (by decide) ?_
  refine lv_iand hx hb dX1_place_11 ?_
  refine lv_topi (fun x_3 ex_3 => ?_)
  refine lv_istore (lv' := [(4, .int x_3), (0, .ref a0), (1, .int x0), (2, .int x1), (3, .int x2)]) hx hb dX1_place_12 hl (by decide) rfl (fun ls hl => ?_)
  refine lv_iload hx hb dX1_place_14 (lv_at hl 0 rfl) ?_
  refine lv_sipush (v := 128) hx hb dX1_place_16 (by decide) ?_
  refine lv_icmp_ge (tgt := 29) hx hb dX1_place_19 (by decide) (fun c_4 => ?_) (fun c_4 => ?_)
  · have f_4 : 128 ≤ x_3.toInt := r_le (by decide) rfl c_4
    refine lv_iload_n hx hb dX1_place_29 rfl (lv_at hl 4 rfl) ?_
    refine lv_iload hx hb dX1_place_30 (lv_at hl 0 rfl) ?_
    refine lv_iadd hx hb dX1_place_32 ?_
    refine lv_topi (fun x_5 ex_5 => ?_)
    refine lv_sipush (v := 256) hx hb dX1_place_33 (by decide) ?_
    refine lv_isub hx hb dX1_place_36 ?_
    refine lv_topi (fun x_6 ex_6 => ?_)
    exact th_iret E hr hlk hs hT_1 hS_1 trivial dX1_place_37
  · have f_4 : x_3.toInt < 128 := r_nle (by decide) rfl c_4
    refine lv_iload_n hx hb dX1_place_22 rfl (lv_at hl 4 rfl) ?_
    refine lv_iload hx hb dX1_place_23 (lv_at hl 0 rfl) ?_
    refine lv_iadd hx hb dX1_place_25 ?_
    refine lv_topi (fun x_7 ex_7 => ?_)
    refine lv_goto (tgt := 37) hx hb dX1_place_26 (by decide) ?_
    exact th_iret E hr hlk hs hT_1 hS_1 trivial dX1_place_37
set_option maxHeartbeats 4000000 in
set_option maxRecDepth 100000 in
/-- StreamEnds$Config.setDefaults: it ends, and the heap stays typed -/
theorem z_X1_setDefaults (l : Launch) (D : va_G) (cI cS : ClassId) (τ : Nat → Option Nat) (ρ : Nat → Nat → Nat) (hW : WF τ ρ) (H : Heap) (hT : TH D cI cS τ ρ H) (a0 : Nat) (ha0 : τ a0 = some 1) : MV l D cI cS τ ρ yX1_setDefaults cX1_setDefaults 1 none 0 0 H [.ref a0] (fun (u : Heap) => True) (AT τ [1]) := by
  refine MV.of (by decide) (Nat.le_of_ble_eq_true rfl) ?_
  intro p e s m args below meth c E hml hr hlk hs ls hl
  have hx := E.1
  have hb := E.2.1
  have hown := E.2.2.1
  have hts := E.2.2.2.1
  have hS : SS (AT τ [1]) H H [] := SS.rf
  have hl : lv_has ls 1 [(0, .ref a0)] := hl
  refine lv_aload_n hx hb dX1_setDefaults_0 rfl (lv_at hl 0 rfl) ?_
  refine lv_iconst (v := 4) hx hb dX1_setDefaults_1 (by decide) ?_
  refine pf_X1_14 E hT hS ha0 ⟨_, ha0, by decide⟩ dX1_setDefaults_2 (fun H_1 locs_1 hT_1 hU_1 hS_1 => ?_)
  refine lv_aload_n hx hb dX1_setDefaults_5 rfl (lv_at hl 0 rfl) ?_
  refine lv_bipush (v := 16) hx hb dX1_setDefaults_6 (by decide) ?_
  refine pf_X1_18 E hT_1 hS_1 ha0 ⟨_, ha0, by decide⟩ dX1_setDefaults_8 (fun H_2 locs_2 hT_2 hU_2 hS_2 => ?_)
  refine lv_aload_n hx hb dX1_setDefaults_11 rfl (lv_at hl 0 rfl) ?_
  refine lv_iconst (v := 0) hx hb dX1_setDefaults_12 (by decide) ?_
  refine pf_X1_21 E hT_2 hS_2 ha0 ⟨_, ha0, by decide⟩ dX1_setDefaults_13 (fun H_3 locs_3 hT_3 hU_3 hS_3 => ?_)
  refine lv_aload_n hx hb dX1_setDefaults_16 rfl (lv_at hl 0 rfl) ?_
  refine lv_iconst (v := 0) hx hb dX1_setDefaults_17 (by decide) ?_
  refine pf_X1_24 E hT_3 hS_3 ha0 ⟨_, ha0, by decide⟩ dX1_setDefaults_18 (fun H_4 locs_4 hT_4 hU_4 hS_4 => ?_)
  refine lv_aload_n hx hb dX1_setDefaults_21 rfl (lv_at hl 0 rfl) ?_
  refine lv_iconst (v := 5) hx hb dX1_setDefaults_22 (by decide) ?_
  refine pf_X1_27 E hT_4 hS_4 ha0 ⟨_, ha0, by decide⟩ dX1_setDefaults_23 (fun H_5 locs_5 hT_5 hU_5 hS_5 => ?_)
  exact th_vret E hr hlk hs hT_5 hS_5 trivial dX1_setDefaults_26
set_option maxHeartbeats 4000000 in
set_option maxRecDepth 100000 in
/-- StreamEnds$Text.at: it ends, and the heap stays typed -/
theorem z_X9_at (l : Launch) (D : va_G) (cI cS : ClassId) (τ : Nat → Option Nat) (ρ : Nat → Nat → Nat) (hW : WF τ ρ) (H : Heap) (hT : TH D cI cS τ ρ H) (a0 : Nat) (x0 : Int32) (ha0 : τ a0 = some 9) : MI l D cI cS τ ρ yX9_at cX9_at 2 (some .int) 0 0 H [.ref a0, .int x0] (fun (r : Int32) (u : Heap) => True) (AT τ []) := by
  refine MI.of (by decide) (Nat.le_of_ble_eq_true rfl) ?_
  intro p e s m args below meth c E hml hr hlk hs ls hl
  have hx := E.1
  have hb := E.2.1
  have hown := E.2.2.1
  have hts := E.2.2.2.1
  have hS : SS (AT τ []) H H [] := SS.rf
  have hl : lv_has ls 2 [(0, .ref a0), (1, .int x0)] := hl
  refine lv_iload_n hx hb dX9_at_0 rfl (lv_at hl 1 rfl) ?_
  refine lv_if_lt (tgt := 28) hx hb dX9_at_1 (by decide) (fun c_1 => ?_) (fun c_1 => ?_)
  · have f_1 : x0.toInt < 0 := r_lt rfl (by decide) c_1
    refine lv_bipush (v := (-4)) hx hb dX9_at_28 (by decide) ?_
    exact th_iret E hr hlk hs hT hS trivial dX9_at_30
  · have f_1 : 0 ≤ x0.toInt := r_nlt rfl (by decide) c_1
    refine lv_iload_n hx hb dX9_at_4 rfl (lv_at hl 1 rfl) ?_
    refine lv_aload_n hx hb dX9_at_5 rfl (lv_at hl 0 rfl) ?_
    refine gf_X9_15 E hT ha0 dX9_at_6 ?_
    refine lv_topi (fun x_2 ex_2 => ?_)
    refine lv_icmp_ge (tgt := 28) hx hb dX9_at_9 (by decide) (fun c_3 => ?_) (fun c_3 => ?_)
    · have f_3 : x_2.toInt ≤ x0.toInt := r_le rfl rfl c_3
      refine lv_bipush (v := (-4)) hx hb dX9_at_28 (by decide) ?_
      exact th_iret E hr hlk hs hT hS trivial dX9_at_30
    · have f_3 : x0.toInt < x_2.toInt := r_nle rfl rfl c_3
      refine lv_iload_n hx hb dX9_at_12 rfl (lv_at hl 1 rfl) ?_
      refine lv_sipush (v := 200) hx hb dX9_at_13 (by decide) ?_
      refine lv_icmp_ge (tgt := 28) hx hb dX9_at_16 (by decide) (fun c_4 => ?_) (fun c_4 => ?_)
      · have f_4 : 200 ≤ x0.toInt := r_le (by decide) rfl c_4
        refine lv_bipush (v := (-4)) hx hb dX9_at_28 (by decide) ?_
        exact th_iret E hr hlk hs hT hS trivial dX9_at_30
      · have f_4 : x0.toInt < 200 := r_nle (by decide) rfl c_4
        refine lv_aload_n hx hb dX9_at_19 rfl (lv_at hl 0 rfl) ?_
        refine gf_X9_9 E hT hW ha0 dX9_at_20 (fun h_5 => ?_)
        refine lv_iload_n hx hb dX9_at_23 rfl (lv_at hl 1 rfl) ?_
        refine th_iald E hT h_5 (by decide) (vp_in_iff.mpr ⟨by omega, by omega⟩) dX9_at_24 ?_
        refine lv_topi (fun x_6 ex_6 => ?_)
        refine lv_goto (tgt := 30) hx hb dX9_at_25 (by decide) ?_
        exact th_iret E hr hlk hs hT hS trivial dX9_at_30
set_option maxHeartbeats 4000000 in
set_option maxRecDepth 100000 in
/-- StreamEnds$Text.isDigit: it ends, and the heap stays typed -/
theorem z_X9_isDigit (l : Launch) (D : va_G) (cI cS : ClassId) (τ : Nat → Option Nat) (ρ : Nat → Nat → Nat) (hW : WF τ ρ) (H : Heap) (hT : TH D cI cS τ ρ H) (a0 : Nat) (x0 : Int32) (ha0 : τ a0 = some 9) : MI l D cI cS τ ρ yX9_isDigit cX9_isDigit 3 (some .boolean) 1 21 H [.ref a0, .int x0] (fun (r : Int32) (u : Heap) => r = 0 ∨ r = 1) (AT τ []) := by
  refine MI.of (by decide) (Nat.le_of_ble_eq_true rfl) ?_
  intro p e s m args below meth c E hml hr hlk hs ls hl
  have hx := E.1
  have hb := E.2.1
  have hown := E.2.2.1
  have hts := E.2.2.2.1
  have hS : SS (AT τ []) H H [] := SS.rf
  have hl : lv_has ls 3 [(0, .ref a0), (1, .int x0)] := hl
  refine lv_aload_n hx hb dX9_isDigit_0 rfl (lv_at hl 0 rfl) ?_
  refine lv_iload_n hx hb dX9_isDigit_1 rfl (lv_at hl 1 rfl) ?_
  refine th_Vi (As := [.int x0]) (rest := []) E hml hl.1 (z_X9_at l D cI cS τ ρ hW H hT a0 x0 ha0) lk_X9_19 yd_X9_at hT ha0 rfl (by decide) hS (AT.sub (by decide)) ⟨by decide, by decide⟩ (Nat.le_of_ble_eq_true rfl) ⟨by decide, by decide⟩ rfl dX9_isDigit_2 (fun r_1 H_1 locs_1 p_1 hT_1 hk_1 hS_1 => ?_)
  refine lv_istore_n (lv' := [(2, .int r_1), (0, .ref a0), (1, .int x0)]) hx hb dX9_isDigit_5 rfl hl (by decide) rfl (fun ls hl => ?_)
  refine lv_iload_n hx hb dX9_isDigit_6 rfl (lv_at hl 0 rfl) ?_
  refine lv_bipush (v := 48) hx hb dX9_isDigit_7 (by decide) ?_
  refine lv_icmp_lt (tgt := 22) hx hb dX9_isDigit_9 (by decide) (fun c_2 => ?_) (fun c_2 => ?_)
  · have f_2 : r_1.toInt < 48 := r_lt rfl (by decide) c_2
    refine lv_iconst (v := 0) hx hb dX9_isDigit_22 (by decide) ?_
    exact th_zret E hr hlk hs (Or.inl rfl) hT_1 hS_1 (Or.inl rfl) dX9_isDigit_23
  · have f_2 : 48 ≤ r_1.toInt := r_nlt rfl (by decide) c_2
    refine lv_iload_n hx hb dX9_isDigit_12 rfl (lv_at hl 0 rfl) ?_
    refine lv_bipush (v := 57) hx hb dX9_isDigit_13 (by decide) ?_
    refine lv_icmp_gt (tgt := 22) hx hb dX9_isDigit_15 (by decide) (fun c_3 => ?_) (fun c_3 => ?_)
    · have f_3 : 57 < r_1.toInt := r_lt (by decide) rfl c_3
      refine lv_iconst (v := 0) hx hb dX9_isDigit_22 (by decide) ?_
      exact th_zret E hr hlk hs (Or.inl rfl) hT_1 hS_1 (Or.inl rfl) dX9_isDigit_23
    · have f_3 : r_1.toInt ≤ 57 := r_nlt (by decide) rfl c_3
      refine lv_iconst (v := 1) hx hb dX9_isDigit_18 (by decide) ?_
      refine lv_goto (tgt := 23) hx hb dX9_isDigit_19 (by decide) ?_
      exact th_zret E hr hlk hs (Or.inr rfl) hT_1 hS_1 (Or.inr rfl) dX9_isDigit_23
set_option maxHeartbeats 4000000 in
set_option maxRecDepth 100000 in
/-- StreamEnds$Text.digitsEnd: it ends, and the heap stays typed -/
theorem z_X9_digitsEnd (l : Launch) (D : va_G) (cI cS : ClassId) (τ : Nat → Option Nat) (ρ : Nat → Nat → Nat) (hW : WF τ ρ) (H : Heap) (hT : TH D cI cS τ ρ H) (a0 : Nat) (x0 : Int32) (ha0 : τ a0 = some 9) : MI l D cI cS τ ρ yX9_digitsEnd cX9_digitsEnd 3 (some .int) 2 43 H [.ref a0, .int x0] (fun (r : Int32) (u : Heap) => True) (AT τ []) := by
  refine MI.of (by decide) (Nat.le_of_ble_eq_true rfl) ?_
  intro p e s m args below meth c E hml hr hlk hs ls hl
  have hx := E.1
  have hb := E.2.1
  have hown := E.2.2.1
  have hts := E.2.2.2.1
  have hS : SS (AT τ []) H H [] := SS.rf
  have hl : lv_has ls 3 [(0, .ref a0), (1, .int x0)] := hl
  have L_2 : ∀ (n : Nat) (H_c2 : Heap) (lc_c2 : List Loc) (ls : Array Slot) (y2_2 : Int32), TH D cI cS τ ρ H_c2 → SS (AT τ []) H H_c2 lc_c2 → lv_has ls 3 [(0, .ref a0), (1, .int x0), (2, .int y2_2)] → ((x0 + 3).toInt - y2_2.toInt).toNat < n → W p l e (rmO 2 43) s m args below meth c H_c2 lc_c2 0 0 (MQ below (va_Qi (fun (r : Int32) (u : Heap) => True) (Bt D cI cS τ ρ H) (AT τ [])) args s 0 0 (AT τ [])) (F0 m 2 ls []) := by
    intro n
    induction n with
    | zero => intro H_c2 lc_c2 ls y2_2 hT_c2 hS_c2 hl hm; exact absurd hm (Nat.not_lt_zero _)
    | succ n ih_2 =>
      intro H_c2 lc_c2 ls y2_2 hT_c2 hS_c2 hl hm_2
      refine lv_iload_n hx hb dX9_digitsEnd_2 rfl (lv_at hl 2 rfl) ?_
      refine lv_iload_n hx hb dX9_digitsEnd_3 rfl (lv_at hl 1 rfl) ?_
      refine lv_iconst (v := 3) hx hb dX9_digitsEnd_4 (by decide) ?_
      refine lv_iadd hx hb dX9_digitsEnd_5 ?_
      refine lv_icmp_ge (tgt := 23) hx hb dX9_digitsEnd_6 (by decide) (fun c_1 => ?_) (fun c_1 => ?_)
      · have f_1 : (x0 + 3).toInt ≤ y2_2.toInt := r_le rfl rfl c_1
        refine lv_iload_n hx hb dX9_digitsEnd_23 rfl (lv_at hl 2 rfl) ?_
        exact th_iret E hr hlk hs hT_c2 hS_c2 trivial dX9_digitsEnd_24
      · have f_1 : y2_2.toInt < (x0 + 3).toInt := r_nle rfl rfl c_1
        refine lv_aload_n hx hb dX9_digitsEnd_9 rfl (lv_at hl 0 rfl) ?_
        refine lv_iload_n hx hb dX9_digitsEnd_10 rfl (lv_at hl 2 rfl) ?_
        refine th_Vi (As := [.int y2_2]) (rest := []) E hml hl.1 (z_X9_isDigit l D cI cS τ ρ hW H_c2 hT_c2 a0 y2_2 ha0) lk_X9_23 yd_X9_isDigit hT_c2 ha0 rfl (by decide) hS_c2 (AT.sub (by decide)) ⟨by decide, by decide⟩ (Nat.le_of_ble_eq_true rfl) ⟨by decide, by decide⟩ rfl dX9_digitsEnd_11 (fun r_2 H_2 locs_2 p_2 hT_2 hk_2 hS_2 => ?_)
        have z_2 := b_iv p_2
        refine lv_if_eq (tgt := 23) hx hb dX9_digitsEnd_14 (by decide) (fun c_3 => ?_) (fun c_3 => ?_)
        · have f_3 : r_2.toInt = 0 := r_eq rfl (by decide) c_3
          refine lv_iload_n hx hb dX9_digitsEnd_23 rfl (lv_at hl 2 rfl) ?_
          exact th_iret E hr hlk hs hT_2 hS_2 trivial dX9_digitsEnd_24
        · have f_3 : ¬ r_2.toInt = 0 := r_ne rfl (by decide) c_3
          have nz_r_2 : ¬ r_2 = 0 := c_3
          obtain ⟨x_4, ex_4⟩ : ∃ y : Int32, y2_2 + 1 = y := ⟨_, rfl⟩
          have q_x_4 : x_4.toInt = y2_2.toInt + 1 := i_add (k := 1) (by decide) ex_4 (by have := i_min y2_2; omega) (by have := i_max y2_2; have := i_max (x0 + 3); omega)
          refine lv_iinc (v := x_4) (lv' := [(2, .int x_4), (0, .ref a0), (1, .int x0)]) hx hb dX9_digitsEnd_17 hl (k := 2) rfl (by rw [← ex_4]; rfl) (by decide) rfl (fun ls hl => ?_)
          refine lv_goto (tgt := 2) hx hb dX9_digitsEnd_20 (by decide) ?_
          exact ih_2 H_2 locs_2 _ x_4 hT_2 hS_2 (lv_sub hl [1, 2, 0] rfl) (by omega)
  refine lv_iload_n hx hb dX9_digitsEnd_0 rfl (lv_at hl 1 rfl) ?_
  refine lv_istore_n (lv' := [(2, .int x0), (0, .ref a0), (1, .int x0)]) hx hb dX9_digitsEnd_1 rfl hl (by decide) rfl (fun ls hl => ?_)
  exact L_2 _ H [] _ x0 hT hS (lv_sub hl [1, 2, 0] rfl) (Nat.lt_succ_self _)
set_option maxHeartbeats 4000000 in
set_option maxRecDepth 100000 in
/-- StreamEnds$Text.number: it ends, and the heap stays typed -/
theorem z_X9_number (l : Launch) (D : va_G) (cI cS : ClassId) (τ : Nat → Option Nat) (ρ : Nat → Nat → Nat) (hW : WF τ ρ) (H : Heap) (hT : TH D cI cS τ ρ H) (a0 : Nat) (x0 : Int32) (x1 : Int32) (ha0 : τ a0 = some 9) : MI l D cI cS τ ρ yX9_number cX9_number 5 (some .int) 1 21 H [.ref a0, .int x0, .int x1] (fun (r : Int32) (u : Heap) => True) (AT τ []) := by
  refine MI.of (by decide) (Nat.le_of_ble_eq_true rfl) ?_
  intro p e s m args below meth c E hml hr hlk hs ls hl
  have hx := E.1
  have hb := E.2.1
  have hown := E.2.2.1
  have hts := E.2.2.2.1
  have hS : SS (AT τ []) H H [] := SS.rf
  have hl : lv_has ls 5 [(0, .ref a0), (1, .int x0), (2, .int x1)] := hl
  have L_15 : ∀ (n : Nat) (H_c15 : Heap) (lc_c15 : List Loc) (ls : Array Slot) (y15_3 : Int32) (y15_4 : Int32), TH D cI cS τ ρ H_c15 → SS (AT τ []) H H_c15 lc_c15 → lv_has ls 5 [(0, .ref a0), (1, .int x0), (2, .int x1), (3, .int y15_3), (4, .int y15_4)] → (x1.toInt - y15_4.toInt).toNat < n → W p l e (rmO 1 21) s m args below meth c H_c15 lc_c15 0 0 (MQ below (va_Qi (fun (r : Int32) (u : Heap) => True) (Bt D cI cS τ ρ H) (AT τ [])) args s 0 0 (AT τ [])) (F0 m 15 ls []) := by
    intro n
    induction n with
    | zero => intro H_c15 lc_c15 ls y15_3 y15_4 hT_c15 hS_c15 hl hm; exact absurd hm (Nat.not_lt_zero _)
    | succ n ih_15 =>
      intro H_c15 lc_c15 ls y15_3 y15_4 hT_c15 hS_c15 hl hm_15
      refine lv_iload hx hb dX9_number_15 (lv_at hl 4 rfl) ?_
      refine lv_iload_n hx hb dX9_number_17 rfl (lv_at hl 2 rfl) ?_
      refine lv_icmp_ge (tgt := 42) hx hb dX9_number_18 (by decide) (fun c_1 => ?_) (fun c_1 => ?_)
      · have f_1 : x1.toInt ≤ y15_4.toInt := r_le rfl rfl c_1
        refine lv_iload_n hx hb dX9_number_42 rfl (lv_at hl 3 rfl) ?_
        exact th_iret E hr hlk hs hT_c15 hS_c15 trivial dX9_number_43
      · have f_1 : y15_4.toInt < x1.toInt := r_nle rfl rfl c_1
        refine lv_bipush (v := 10) hx hb dX9_number_21 (by decide) ?_
        refine lv_iload_n hx hb dX9_number_23 rfl (lv_at hl 3 rfl) ?_
        refine lv_imul hx hb dX9_number_24 ?_
        refine lv_topi (fun x_2 ex_2 => ?_)
        refine lv_aload_n hx hb dX9_number_25 rfl (lv_at hl 0 rfl) ?_
        refine lv_iload hx hb dX9_number_26 (lv_at hl 4 rfl) ?_
        refine th_Vi (As := [.int y15_4]) (rest := [.int x_2]) E hml hl.1 (z_X9_at l D cI cS τ ρ hW H_c15 hT_c15 a0 y15_4 ha0) lk_X9_19 yd_X9_at hT_c15 ha0 rfl (by decide) hS_c15 (AT.sub (by decide)) ⟨by decide, by decide⟩ (Nat.le_of_ble_eq_true rfl) ⟨by decide, by decide⟩ rfl dX9_number_28 (fun r_3 H_3 locs_3 p_3 hT_3 hk_3 hS_3 => ?_)
        refine lv_iadd hx hb dX9_number_31 ?_
        refine lv_topi (fun x_4 ex_4 => ?_)
        refine lv_bipush (v := 48) hx hb dX9_number_32 (by decide) ?_
        refine lv_isub hx hb dX9_number_34 ?_
        refine lv_topi (fun x_5 ex_5 => ?_)
        refine lv_istore_n (lv' := [(3, .int x_5), (0, .ref a0), (1, .int x0), (2, .int x1), (4, .int y15_4)]) hx hb dX9_number_35 rfl hl (by decide) rfl (fun ls hl => ?_)
        obtain ⟨x_6, ex_6⟩ : ∃ y : Int32, y15_4 + 1 = y := ⟨_, rfl⟩
        have q_x_6 : x_6.toInt = y15_4.toInt + 1 := i_add (k := 1) (by decide) ex_6 (by have := i_min y15_4; omega) (by have := i_max y15_4; have := i_max x1; omega)
        refine lv_iinc (v := x_6) (lv' := [(4, .int x_6), (3, .int x_5), (0, .ref a0), (1, .int x0), (2, .int x1)]) hx hb dX9_number_36 hl (k := 4) rfl (by rw [← ex_6]; rfl) (by decide) rfl (fun ls hl => ?_)
        refine lv_goto (tgt := 15) hx hb dX9_number_39 (by decide) ?_
        exact ih_15 H_3 locs_3 _ x_5 x_6 hT_3 hS_3 (lv_sub hl [2, 3, 4, 1, 0] rfl) (by omega)
  have J_11 : ∀ (H_c11 : Heap) (lc_c11 : List Loc) (ls : Array Slot) (z11_0 : Int32), TH D cI cS τ ρ H_c11 → SS (AT τ []) H H_c11 lc_c11 → lv_has ls 5 [(0, .ref a0), (1, .int x0), (2, .int x1)] → -4 ≤ z11_0.toInt → z11_0.toInt ≤ 0 → W p l e (rmO 1 21) s m args below meth c H_c11 lc_c11 0 0 (MQ below (va_Qi (fun (r : Int32) (u : Heap) => True) (Bt D cI cS τ ρ H) (AT τ [])) args s 0 0 (AT τ [])) (F0 m 11 ls [.int z11_0]) := by
    intro H_c11 lc_c11 ls z11_0 hT_c11 hS_c11 hl lz11_0 uz11_0
    refine lv_istore_n (lv' := [(3, .int z11_0), (0, .ref a0), (1, .int x0), (2, .int x1)]) hx hb dX9_number_11 rfl hl (by decide) rfl (fun ls hl => ?_)
    refine lv_iload_n hx hb dX9_number_12 rfl (lv_at hl 2 rfl) ?_
    refine lv_istore (lv' := [(4, .int x0), (3, .int z11_0), (0, .ref a0), (1, .int x0), (2, .int x1)]) hx hb dX9_number_13 hl (by decide) rfl (fun ls hl => ?_)
    exact L_15 _ H_c11 lc_c11 _ z11_0 x0 hT_c11 hS_c11 (lv_sub hl [2, 3, 4, 1, 0] rfl) (Nat.lt_succ_self _)
  refine lv_iload_n hx hb dX9_number_0 rfl (lv_at hl 1 rfl) ?_
  refine lv_iload_n hx hb dX9_number_1 rfl (lv_at hl 2 rfl) ?_
  refine lv_icmp_ge (tgt := 9) hx hb dX9_number_2 (by decide) (fun c_7 => ?_) (fun c_7 => ?_)
  · have f_7 : x1.toInt ≤ x0.toInt := r_le rfl rfl c_7
    refine lv_bipush (v := (-4)) hx hb dX9_number_9 (by decide) ?_
    exact J_11 H [] _ (-4) hT hS hl (by decide) (by decide)
  · have f_7 : x0.toInt < x1.toInt := r_nle rfl rfl c_7
    refine lv_iconst (v := 0) hx hb dX9_number_5 (by decide) ?_
    refine lv_goto (tgt := 11) hx hb dX9_number_6 (by decide) ?_
    exact J_11 H [] _ 0 hT hS hl (by decide) (by decide)
set_option maxHeartbeats 4000000 in
set_option maxRecDepth 100000 in
/-- StreamEnds$Config.set: it ends, and the heap stays typed -/
theorem z_X1_set (l : Launch) (D : va_G) (cI cS : ClassId) (τ : Nat → Option Nat) (ρ : Nat → Nat → Nat) (hW : WF τ ρ) (H : Heap) (hT : TH D cI cS τ ρ H) (a0 : Nat) (x0 : Int32) (x1 : Int32) (x2 : Int32) (ha0 : τ a0 = some 1) : MI l D cI cS τ ρ yX1_set cX1_set 5 (some .boolean) 0 0 H [.ref a0, .int x0, .int x1, .int x2] (fun (r : Int32) (u : Heap) => r = 0 ∨ r = 1) (AT τ [1]) := by
  refine MI.of (by decide) (Nat.le_of_ble_eq_true rfl) ?_
  intro p e s m args below meth c E hml hr hlk hs ls hl
  have hx := E.1
  have hb := E.2.1
  have hown := E.2.2.1
  have hts := E.2.2.2.1
  have hS : SS (AT τ [1]) H H [] := SS.rf
  have hl : lv_has ls 5 [(0, .ref a0), (1, .int x0), (2, .int x1), (3, .int x2)] := hl
  have J_153 : ∀ (H_c153 : Heap) (lc_c153 : List Loc) (ls : Array Slot), TH D cI cS τ ρ H_c153 → SS (AT τ [1]) H H_c153 lc_c153 → lv_has ls 5 [(0, .ref a0), (1, .int x0), (2, .int x1), (3, .int x2)] → W p l e (rmO 0 0) s m args below meth c H_c153 lc_c153 0 0 (MQ below (va_Qi (fun (r : Int32) (u : Heap) => r = 0 ∨ r = 1) (Bt D cI cS τ ρ H) (AT τ [1])) args s 0 0 (AT τ [1])) (F0 m 153 ls []) := by
    intro H_c153 lc_c153 ls hT_c153 hS_c153 hl
    refine lv_iconst (v := 0) hx hb dX1_set_153 (by decide) ?_
    refine lv_istore (lv' := [(4, .int 0), (0, .ref a0), (1, .int x0), (2, .int x1), (3, .int x2)]) hx hb dX1_set_154 hl (by decide) rfl (fun ls hl => ?_)
    refine lv_aload_n hx hb dX1_set_156 rfl (lv_at hl 1 rfl) ?_
    refine lv_iload_n hx hb dX1_set_157 rfl (lv_at hl 3 rfl) ?_
    refine pf_X1_27 E hT_c153 hS_c153 ha0 ⟨_, ha0, by decide⟩ dX1_set_158 (fun H_1 locs_1 hT_1 hU_1 hS_1 => ?_)
    refine lv_goto (tgt := 167) hx hb dX1_set_161 (by decide) ?_
    refine lv_iload hx hb dX1_set_167 (lv_at hl 0 rfl) ?_
    exact th_zret E hr hlk hs (Or.inl rfl) hT_1 hS_1 (Or.inl rfl) dX1_set_169
  have J_123 : ∀ (H_c123 : Heap) (lc_c123 : List Loc) (ls : Array Slot) (z123_0 : Int32), TH D cI cS τ ρ H_c123 → SS (AT τ [1]) H H_c123 lc_c123 → lv_has ls 5 [(0, .ref a0), (1, .int x0), (2, .int x1), (3, .int x2)] → z123_0 = 0 ∨ z123_0 = 1 → W p l e (rmO 0 0) s m args below meth c H_c123 lc_c123 0 0 (MQ below (va_Qi (fun (r : Int32) (u : Heap) => r = 0 ∨ r = 1) (Bt D cI cS τ ρ H) (AT τ [1])) args s 0 0 (AT τ [1])) (F0 m 123 ls [.int z123_0]) := by
    intro H_c123 lc_c123 ls z123_0 hT_c123 hS_c123 hl bz123_0
    have z_z123_0 := b_iv bz123_0
    refine lv_istore (lv' := [(4, .int z123_0), (0, .ref a0), (1, .int x0), (2, .int x1), (3, .int x2)]) hx hb dX1_set_123 hl (by decide) rfl (fun ls hl => ?_)
    refine lv_aload_n hx hb dX1_set_125 rfl (lv_at hl 1 rfl) ?_
    refine lv_iload_n hx hb dX1_set_126 rfl (lv_at hl 3 rfl) ?_
    refine pf_X1_21 E hT_c123 hS_c123 ha0 ⟨_, ha0, by decide⟩ dX1_set_127 (fun H_2 locs_2 hT_2 hU_2 hS_2 => ?_)
    refine lv_aload_n hx hb dX1_set_130 rfl (lv_at hl 1 rfl) ?_
    refine lv_iload_n hx hb dX1_set_131 rfl (lv_at hl 4 rfl) ?_
    refine pf_X1_24 E hT_2 hS_2 ha0 ⟨_, ha0, by decide⟩ dX1_set_132 (fun H_3 locs_3 hT_3 hU_3 hS_3 => ?_)
    refine lv_goto (tgt := 167) hx hb dX1_set_135 (by decide) ?_
    refine lv_iload hx hb dX1_set_167 (lv_at hl 0 rfl) ?_
    exact th_zret E hr hlk hs bz123_0 hT_3 hS_3 bz123_0 dX1_set_169
  have J_122 : ∀ (H_c122 : Heap) (lc_c122 : List Loc) (ls : Array Slot), TH D cI cS τ ρ H_c122 → SS (AT τ [1]) H H_c122 lc_c122 → lv_has ls 5 [(0, .ref a0), (1, .int x0), (2, .int x1), (3, .int x2)] → W p l e (rmO 0 0) s m args below meth c H_c122 lc_c122 0 0 (MQ below (va_Qi (fun (r : Int32) (u : Heap) => r = 0 ∨ r = 1) (Bt D cI cS τ ρ H) (AT τ [1])) args s 0 0 (AT τ [1])) (F0 m 122 ls []) := by
    intro H_c122 lc_c122 ls hT_c122 hS_c122 hl
    refine lv_iconst (v := 0) hx hb dX1_set_122 (by decide) ?_
    exact J_123 H_c122 lc_c122 _ 0 hT_c122 hS_c122 hl (Or.inl rfl)
  have J_85 : ∀ (H_c85 : Heap) (lc_c85 : List Loc) (ls : Array Slot), TH D cI cS τ ρ H_c85 → SS (AT τ [1]) H H_c85 lc_c85 → lv_has ls 5 [(0, .ref a0), (1, .int x0), (2, .int x1), (3, .int x2)] → W p l e (rmO 0 0) s m args below meth c H_c85 lc_c85 0 0 (MQ below (va_Qi (fun (r : Int32) (u : Heap) => r = 0 ∨ r = 1) (Bt D cI cS τ ρ H) (AT τ [1])) args s 0 0 (AT τ [1])) (F0 m 85 ls []) := by
    intro H_c85 lc_c85 ls hT_c85 hS_c85 hl
    refine lv_iconst (v := 0) hx hb dX1_set_85 (by decide) ?_
    refine lv_istore (lv' := [(4, .int 0), (0, .ref a0), (1, .int x0), (2, .int x1), (3, .int x2)]) hx hb dX1_set_86 hl (by decide) rfl (fun ls hl => ?_)
    refine lv_aload_n hx hb dX1_set_88 rfl (lv_at hl 1 rfl) ?_
    refine lv_iload_n hx hb dX1_set_89 rfl (lv_at hl 3 rfl) ?_
    refine pf_X1_18 E hT_c85 hS_c85 ha0 ⟨_, ha0, by decide⟩ dX1_set_90 (fun H_4 locs_4 hT_4 hU_4 hS_4 => ?_)
    refine lv_goto (tgt := 167) hx hb dX1_set_93 (by decide) ?_
    refine lv_iload hx hb dX1_set_167 (lv_at hl 0 rfl) ?_
    exact th_zret E hr hlk hs (Or.inl rfl) hT_4 hS_4 (Or.inl rfl) dX1_set_169
  have J_59 : ∀ (H_c59 : Heap) (lc_c59 : List Loc) (ls : Array Slot), TH D cI cS τ ρ H_c59 → SS (AT τ [1]) H H_c59 lc_c59 → lv_has ls 5 [(0, .ref a0), (1, .int x0), (2, .int x1), (3, .int x2)] → W p l e (rmO 0 0) s m args below meth c H_c59 lc_c59 0 0 (MQ below (va_Qi (fun (r : Int32) (u : Heap) => r = 0 ∨ r = 1) (Bt D cI cS τ ρ H) (AT τ [1])) args s 0 0 (AT τ [1])) (F0 m 59 ls []) := by
    intro H_c59 lc_c59 ls hT_c59 hS_c59 hl
    refine lv_iconst (v := 0) hx hb dX1_set_59 (by decide) ?_
    refine lv_istore (lv' := [(4, .int 0), (0, .ref a0), (1, .int x0), (2, .int x1), (3, .int x2)]) hx hb dX1_set_60 hl (by decide) rfl (fun ls hl => ?_)
    refine lv_aload_n hx hb dX1_set_62 rfl (lv_at hl 1 rfl) ?_
    refine lv_iload_n hx hb dX1_set_63 rfl (lv_at hl 3 rfl) ?_
    refine pf_X1_14 E hT_c59 hS_c59 ha0 ⟨_, ha0, by decide⟩ dX1_set_64 (fun H_5 locs_5 hT_5 hU_5 hS_5 => ?_)
    refine lv_goto (tgt := 167) hx hb dX1_set_67 (by decide) ?_
    refine lv_iload hx hb dX1_set_167 (lv_at hl 0 rfl) ?_
    exact th_zret E hr hlk hs (Or.inl rfl) hT_5 hS_5 (Or.inl rfl) dX1_set_169
  refine lv_iload_n hx hb dX1_set_0 rfl (lv_at hl 1 rfl) ?_
  by_cases k6_98 : x0 = 98
  · refine th_topi k6_98 ?_
    refine lv_lookup (tgt := 70) hx hb dX1_set_1 (by decide) rfl (by decide) ?_
    refine lv_iload_n hx hb dX1_set_70 rfl (lv_at hl 2 rfl) ?_
    refine lv_iconst (v := 2) hx hb dX1_set_71 (by decide) ?_
    refine lv_icmp_lt (tgt := 85) hx hb dX1_set_72 (by decide) (fun c_7 => ?_) (fun c_7 => ?_)
    · have f_7 : x1.toInt < 2 := r_lt rfl (by decide) c_7
      exact J_85 H [] _ hT hS hl
    · have f_7 : 2 ≤ x1.toInt := r_nlt rfl (by decide) c_7
      refine lv_iload_n hx hb dX1_set_75 rfl (lv_at hl 2 rfl) ?_
      refine lv_bipush (v := 32) hx hb dX1_set_76 (by decide) ?_
      refine lv_icmp_gt (tgt := 85) hx hb dX1_set_78 (by decide) (fun c_8 => ?_) (fun c_8 => ?_)
      · have f_8 : 32 < x1.toInt := r_lt (by decide) rfl c_8
        exact J_85 H [] _ hT hS hl
      · have f_8 : x1.toInt ≤ 32 := r_nlt (by decide) rfl c_8
        refine lv_iconst (v := 1) hx hb dX1_set_81 (by decide) ?_
        refine lv_goto (tgt := 86) hx hb dX1_set_82 (by decide) ?_
        refine lv_istore (lv' := [(4, .int 1), (0, .ref a0), (1, .int x0), (2, .int x1), (3, .int x2)]) hx hb dX1_set_86 hl (by decide) rfl (fun ls hl => ?_)
        refine lv_aload_n hx hb dX1_set_88 rfl (lv_at hl 1 rfl) ?_
        refine lv_iload_n hx hb dX1_set_89 rfl (lv_at hl 3 rfl) ?_
        refine pf_X1_18 E hT hS ha0 ⟨_, ha0, by decide⟩ dX1_set_90 (fun H_9 locs_9 hT_9 hU_9 hS_9 => ?_)
        refine lv_goto (tgt := 167) hx hb dX1_set_93 (by decide) ?_
        refine lv_iload hx hb dX1_set_167 (lv_at hl 0 rfl) ?_
        exact th_zret E hr hlk hs (Or.inr rfl) hT_9 hS_9 (Or.inr rfl) dX1_set_169
  by_cases k6_102 : x0 = 102
  · refine th_topi k6_102 ?_
    refine lv_lookup (tgt := 96) hx hb dX1_set_1 (by decide) rfl (by decide) ?_
    refine lv_iload_n hx hb dX1_set_96 rfl (lv_at hl 2 rfl) ?_
    refine lv_if_lt (tgt := 122) hx hb dX1_set_97 (by decide) (fun c_10 => ?_) (fun c_10 => ?_)
    · have f_10 : x1.toInt < 0 := r_lt rfl (by decide) c_10
      exact J_122 H [] _ hT hS hl
    · have f_10 : 0 ≤ x1.toInt := r_nlt rfl (by decide) c_10
      refine lv_iload_n hx hb dX1_set_100 rfl (lv_at hl 2 rfl) ?_
      refine lv_sipush (v := 255) hx hb dX1_set_101 (by decide) ?_
      refine lv_icmp_gt (tgt := 122) hx hb dX1_set_104 (by decide) (fun c_11 => ?_) (fun c_11 => ?_)
      · have f_11 : 255 < x1.toInt := r_lt (by decide) rfl c_11
        exact J_122 H [] _ hT hS hl
      · have f_11 : x1.toInt ≤ 255 := r_nlt (by decide) rfl c_11
        refine lv_iload_n hx hb dX1_set_107 rfl (lv_at hl 3 rfl) ?_
        refine lv_if_lt (tgt := 122) hx hb dX1_set_108 (by decide) (fun c_12 => ?_) (fun c_12 => ?_)
        · have f_12 : x2.toInt < 0 := r_lt rfl (by decide) c_12
          exact J_122 H [] _ hT hS hl
        · have f_12 : 0 ≤ x2.toInt := r_nlt rfl (by decide) c_12
          refine lv_iload_n hx hb dX1_set_111 rfl (lv_at hl 3 rfl) ?_
          refine lv_sipush (v := 255) hx hb dX1_set_112 (by decide) ?_
          refine lv_icmp_gt (tgt := 122) hx hb dX1_set_115 (by decide) (fun c_13 => ?_) (fun c_13 => ?_)
          · have f_13 : 255 < x2.toInt := r_lt (by decide) rfl c_13
            exact J_122 H [] _ hT hS hl
          · have f_13 : x2.toInt ≤ 255 := r_nlt (by decide) rfl c_13
            refine lv_iconst (v := 1) hx hb dX1_set_118 (by decide) ?_
            refine lv_goto (tgt := 123) hx hb dX1_set_119 (by decide) ?_
            exact J_123 H [] _ 1 hT hS hl (Or.inr rfl)
  by_cases k6_108 : x0 = 108
  · refine th_topi k6_108 ?_
    refine lv_lookup (tgt := 138) hx hb dX1_set_1 (by decide) rfl (by decide) ?_
    refine lv_iload_n hx hb dX1_set_138 rfl (lv_at hl 2 rfl) ?_
    refine lv_iconst (v := 1) hx hb dX1_set_139 (by decide) ?_
    refine lv_icmp_lt (tgt := 153) hx hb dX1_set_140 (by decide) (fun c_14 => ?_) (fun c_14 => ?_)
    · have f_14 : x1.toInt < 1 := r_lt rfl (by decide) c_14
      exact J_153 H [] _ hT hS hl
    · have f_14 : 1 ≤ x1.toInt := r_nlt rfl (by decide) c_14
      refine lv_iload_n hx hb dX1_set_143 rfl (lv_at hl 2 rfl) ?_
      refine lv_bipush (v := 20) hx hb dX1_set_144 (by decide) ?_
      refine lv_icmp_gt (tgt := 153) hx hb dX1_set_146 (by decide) (fun c_15 => ?_) (fun c_15 => ?_)
      · have f_15 : 20 < x1.toInt := r_lt (by decide) rfl c_15
        exact J_153 H [] _ hT hS hl
      · have f_15 : x1.toInt ≤ 20 := r_nlt (by decide) rfl c_15
        refine lv_iconst (v := 1) hx hb dX1_set_149 (by decide) ?_
        refine lv_goto (tgt := 154) hx hb dX1_set_150 (by decide) ?_
        refine lv_istore (lv' := [(4, .int 1), (0, .ref a0), (1, .int x0), (2, .int x1), (3, .int x2)]) hx hb dX1_set_154 hl (by decide) rfl (fun ls hl => ?_)
        refine lv_aload_n hx hb dX1_set_156 rfl (lv_at hl 1 rfl) ?_
        refine lv_iload_n hx hb dX1_set_157 rfl (lv_at hl 3 rfl) ?_
        refine pf_X1_27 E hT hS ha0 ⟨_, ha0, by decide⟩ dX1_set_158 (fun H_16 locs_16 hT_16 hU_16 hS_16 => ?_)
        refine lv_goto (tgt := 167) hx hb dX1_set_161 (by decide) ?_
        refine lv_iload hx hb dX1_set_167 (lv_at hl 0 rfl) ?_
        exact th_zret E hr hlk hs (Or.inr rfl) hT_16 hS_16 (Or.inr rfl) dX1_set_169
  by_cases k6_112 : x0 = 112
  · refine th_topi k6_112 ?_
    refine lv_lookup (tgt := 44) hx hb dX1_set_1 (by decide) rfl (by decide) ?_
    refine lv_iload_n hx hb dX1_set_44 rfl (lv_at hl 2 rfl) ?_
    refine lv_iconst (v := 1) hx hb dX1_set_45 (by decide) ?_
    refine lv_icmp_lt (tgt := 59) hx hb dX1_set_46 (by decide) (fun c_17 => ?_) (fun c_17 => ?_)
    · have f_17 : x1.toInt < 1 := r_lt rfl (by decide) c_17
      exact J_59 H [] _ hT hS hl
    · have f_17 : 1 ≤ x1.toInt := r_nlt rfl (by decide) c_17
      refine lv_iload_n hx hb dX1_set_49 rfl (lv_at hl 2 rfl) ?_
      refine lv_bipush (v := 8) hx hb dX1_set_50 (by decide) ?_
      refine lv_icmp_gt (tgt := 59) hx hb dX1_set_52 (by decide) (fun c_18 => ?_) (fun c_18 => ?_)
      · have f_18 : 8 < x1.toInt := r_lt (by decide) rfl c_18
        exact J_59 H [] _ hT hS hl
      · have f_18 : x1.toInt ≤ 8 := r_nlt (by decide) rfl c_18
        refine lv_iconst (v := 1) hx hb dX1_set_55 (by decide) ?_
        refine lv_goto (tgt := 60) hx hb dX1_set_56 (by decide) ?_
        refine lv_istore (lv' := [(4, .int 1), (0, .ref a0), (1, .int x0), (2, .int x1), (3, .int x2)]) hx hb dX1_set_60 hl (by decide) rfl (fun ls hl => ?_)
        refine lv_aload_n hx hb dX1_set_62 rfl (lv_at hl 1 rfl) ?_
        refine lv_iload_n hx hb dX1_set_63 rfl (lv_at hl 3 rfl) ?_
        refine pf_X1_14 E hT hS ha0 ⟨_, ha0, by decide⟩ dX1_set_64 (fun H_19 locs_19 hT_19 hU_19 hS_19 => ?_)
        refine lv_goto (tgt := 167) hx hb dX1_set_67 (by decide) ?_
        refine lv_iload hx hb dX1_set_167 (lv_at hl 0 rfl) ?_
        exact th_zret E hr hlk hs (Or.inr rfl) hT_19 hS_19 (Or.inr rfl) dX1_set_169
  have n6_98 := i_ne k6_98 (k := 98) (by decide)
  have n6_102 := i_ne k6_102 (k := 102) (by decide)
  have n6_108 := i_ne k6_108 (k := 108) (by decide)
  have n6_112 := i_ne k6_112 (k := 112) (by decide)
  refine lv_lookup (tgt := 164) hx hb dX1_set_1 (off := 163) (by decide) (by show Op.lookupswitch.offset [(98, 69), (102, 95), (108, 137), (112, 43)] _ _ = _; rw [lv_osw k6_98 (by decide), lv_osw k6_102 (by decide), lv_osw k6_108 (by decide), lv_osw k6_112 (by decide)]; rfl) (by decide) ?_
  refine lv_iconst (v := 0) hx hb dX1_set_164 (by decide) ?_
  refine lv_istore (lv' := [(4, .int 0), (0, .ref a0), (1, .int x0), (2, .int x1), (3, .int x2)]) hx hb dX1_set_165 hl (by decide) rfl (fun ls hl => ?_)
  refine lv_iload hx hb dX1_set_167 (lv_at hl 0 rfl) ?_
  exact th_zret E hr hlk hs (Or.inl rfl) hT hS (Or.inl rfl) dX1_set_169
set_option maxHeartbeats 4000000 in
set_option maxRecDepth 100000 in
/-- StreamEnds$Config.readItem: it ends, and the heap stays typed -/
theorem z_X1_readItem (l : Launch) (D : va_G) (cI cS : ClassId) (τ : Nat → Option Nat) (ρ : Nat → Nat → Nat) (hW : WF τ ρ) (H : Heap) (hT : TH D cI cS τ ρ H) (a0 : Nat) (a1 : Nat) (x0 : Int32) (ha0 : τ a0 = some 1) (ha1 : τ a1 = some 9) : MI l D cI cS τ ρ yX1_readItem cX1_readItem 8 (some .int) 3 65 H [.ref a0, .ref a1, .int x0] (fun (r : Int32) (u : Heap) => True) (AT τ [1]) := by
  refine MI.of (by decide) (Nat.le_of_ble_eq_true rfl) ?_
  intro p e s m args below meth c E hml hr hlk hs ls hl
  have hx := E.1
  have hb := E.2.1
  have hown := E.2.2.1
  have hts := E.2.2.2.1
  have hS : SS (AT τ [1]) H H [] := SS.rf
  have hl : lv_has ls 8 [(0, .ref a0), (1, .ref a1), (2, .int x0)] := hl
  have J_71 : ∀ (H_c71 : Heap) (lc_c71 : List Loc) (ls : Array Slot) (y71_3 : Int32) (y71_4 : Int32) (y71_5 : Int32) (y71_6 : Int32), TH D cI cS τ ρ H_c71 → SS (AT τ [1]) H H_c71 lc_c71 → lv_has ls 8 [(0, .ref a0), (1, .ref a1), (2, .int x0), (3, .int y71_3), (4, .int y71_4), (5, .int y71_5), (6, .int y71_6)] → W p l e (rmO 3 65) s m args below meth c H_c71 lc_c71 0 0 (MQ below (va_Qi (fun (r : Int32) (u : Heap) => True) (Bt D cI cS τ ρ H) (AT τ [1])) args s 0 0 (AT τ [1])) (F0 m 71 ls []) := by
    intro H_c71 lc_c71 ls y71_3 y71_4 y71_5 y71_6 hT_c71 hS_c71 hl
    refine lv_aload_n hx hb dX1_readItem_71 rfl (lv_at hl 1 rfl) ?_
    refine lv_iload hx hb dX1_readItem_72 (lv_at hl 4 rfl) ?_
    refine th_Vi (As := [.int y71_4]) (rest := []) E hml hl.1 (z_X9_at l D cI cS τ ρ hW H_c71 hT_c71 a1 y71_4 ha1) lk_X1_39 yd_X9_at hT_c71 ha1 rfl (by decide) hS_c71 (AT.sub (by decide)) ⟨by decide, by decide⟩ (Nat.le_of_ble_eq_true rfl) ⟨by decide, by decide⟩ rfl dX1_readItem_74 (fun r_1 H_1 locs_1 p_1 hT_1 hk_1 hS_1 => ?_)
    refine lv_bipush (v := 59) hx hb dX1_readItem_77 (by decide) ?_
    refine lv_icmp_ne (tgt := 101) hx hb dX1_readItem_79 (by decide) (fun c_2 => ?_) (fun c_2 => ?_)
    · have f_2 : ¬ r_1.toInt = 59 := r_ne rfl (by decide) c_2
      refine lv_bipush (v := (-4)) hx hb dX1_readItem_101 (by decide) ?_
      exact th_iret E hr hlk hs hT_1 hS_1 trivial dX1_readItem_103
    · have f_2 : r_1.toInt = 59 := r_eq rfl (by decide) c_2
      refine lv_aload_n hx hb dX1_readItem_82 rfl (lv_at hl 0 rfl) ?_
      refine lv_iload_n hx hb dX1_readItem_83 rfl (lv_at hl 3 rfl) ?_
      refine lv_iload hx hb dX1_readItem_84 (lv_at hl 5 rfl) ?_
      refine lv_iload hx hb dX1_readItem_86 (lv_at hl 6 rfl) ?_
      refine th_Vi (As := [.int y71_3, .int y71_5, .int y71_6]) (rest := []) E hml hl.1 (z_X1_set l D cI cS τ ρ hW H_1 hT_1 a0 y71_3 y71_5 y71_6 ha0) lk_X1_50 yd_X1_set hT_1 ha0 rfl (by decide) hS_1 (AT.sub (by decide)) ⟨by decide, by decide⟩ (Nat.le_of_ble_eq_true rfl) ⟨by decide, by decide⟩ rfl dX1_readItem_88 (fun r_3 H_3 locs_3 p_3 hT_3 hk_3 hS_3 => ?_)
      have z_3 := b_iv p_3
      refine lv_if_eq (tgt := 101) hx hb dX1_readItem_91 (by decide) (fun c_4 => ?_) (fun c_4 => ?_)
      · have f_4 : r_3.toInt = 0 := r_eq rfl (by decide) c_4
        refine lv_bipush (v := (-4)) hx hb dX1_readItem_101 (by decide) ?_
        exact th_iret E hr hlk hs hT_3 hS_3 trivial dX1_readItem_103
      · have f_4 : ¬ r_3.toInt = 0 := r_ne rfl (by decide) c_4
        have nz_r_3 : ¬ r_3 = 0 := c_4
        refine lv_iload hx hb dX1_readItem_94 (lv_at hl 4 rfl) ?_
        refine lv_iconst (v := 1) hx hb dX1_readItem_96 (by decide) ?_
        refine lv_iadd hx hb dX1_readItem_97 ?_
        refine lv_topi (fun x_5 ex_5 => ?_)
        refine lv_goto (tgt := 103) hx hb dX1_readItem_98 (by decide) ?_
        exact th_iret E hr hlk hs hT_3 hS_3 trivial dX1_readItem_103
  refine lv_aload_n hx hb dX1_readItem_0 rfl (lv_at hl 1 rfl) ?_
  refine lv_iload_n hx hb dX1_readItem_1 rfl (lv_at hl 2 rfl) ?_
  refine th_Vi (As := [.int x0]) (rest := []) E hml hl.1 (z_X9_at l D cI cS τ ρ hW H hT a1 x0 ha1) lk_X1_39 yd_X9_at hT ha1 rfl (by decide) hS (AT.sub (by decide)) ⟨by decide, by decide⟩ (Nat.le_of_ble_eq_true rfl) ⟨by decide, by decide⟩ rfl dX1_readItem_2 (fun r_6 H_6 locs_6 p_6 hT_6 hk_6 hS_6 => ?_)
  refine lv_istore_n (lv' := [(3, .int r_6), (0, .ref a0), (1, .ref a1), (2, .int x0)]) hx hb dX1_readItem_5 rfl hl (by decide) rfl (fun ls hl => ?_)
  refine lv_aload_n hx hb dX1_readItem_6 rfl (lv_at hl 2 rfl) ?_
  refine lv_iload_n hx hb dX1_readItem_7 rfl (lv_at hl 3 rfl) ?_
  refine lv_iconst (v := 1) hx hb dX1_readItem_8 (by decide) ?_
  refine lv_iadd hx hb dX1_readItem_9 ?_
  refine lv_topi (fun x_7 ex_7 => ?_)
  refine th_Vi (As := [.int x_7]) (rest := []) E hml hl.1 (z_X9_digitsEnd l D cI cS τ ρ hW H_6 hT_6 a1 x_7 ha1) lk_X1_43 yd_X9_digitsEnd hT_6 ha1 rfl (by decide) hS_6 (AT.sub (by decide)) ⟨by decide, by decide⟩ (Nat.le_of_ble_eq_true rfl) ⟨by decide, by decide⟩ rfl dX1_readItem_10 (fun r_8 H_8 locs_8 p_8 hT_8 hk_8 hS_8 => ?_)
  refine lv_istore (lv' := [(4, .int r_8), (3, .int r_6), (0, .ref a0), (1, .ref a1), (2, .int x0)]) hx hb dX1_readItem_13 hl (by decide) rfl (fun ls hl => ?_)
  refine lv_aload_n hx hb dX1_readItem_15 rfl (lv_at hl 3 rfl) ?_
  refine lv_iload_n hx hb dX1_readItem_16 rfl (lv_at hl 4 rfl) ?_
  refine lv_iconst (v := 1) hx hb dX1_readItem_17 (by decide) ?_
  refine lv_iadd hx hb dX1_readItem_18 ?_
  refine lv_topi (fun x_9 ex_9 => ?_)
  refine lv_iload hx hb dX1_readItem_19 (lv_at hl 0 rfl) ?_
  refine th_Vi (As := [.int x_9, .int r_8]) (rest := []) E hml hl.1 (z_X9_number l D cI cS τ ρ hW H_8 hT_8 a1 x_9 r_8 ha1) lk_X1_46 yd_X9_number hT_8 ha1 rfl (by decide) hS_8 (AT.sub (by decide)) ⟨by decide, by decide⟩ (Nat.le_of_ble_eq_true rfl) ⟨by decide, by decide⟩ rfl dX1_readItem_21 (fun r_10 H_10 locs_10 p_10 hT_10 hk_10 hS_10 => ?_)
  refine lv_istore (lv' := [(5, .int r_10), (4, .int r_8), (3, .int r_6), (0, .ref a0), (1, .ref a1), (2, .int x0)]) hx hb dX1_readItem_24 hl (by decide) rfl (fun ls hl => ?_)
  refine lv_bipush (v := (-4)) hx hb dX1_readItem_26 (by decide) ?_
  refine lv_istore (lv' := [(6, .int (-4)), (5, .int r_10), (4, .int r_8), (3, .int r_6), (0, .ref a0), (1, .ref a1), (2, .int x0)]) hx hb dX1_readItem_28 hl (by decide) rfl (fun ls hl => ?_)
  refine lv_iload_n hx hb dX1_readItem_30 rfl (lv_at hl 3 rfl) ?_
  refine lv_bipush (v := 102) hx hb dX1_readItem_31 (by decide) ?_
  refine lv_icmp_ne (tgt := 71) hx hb dX1_readItem_33 (by decide) (fun c_11 => ?_) (fun c_11 => ?_)
  · have f_11 : ¬ r_6.toInt = 102 := r_ne rfl (by decide) c_11
    exact J_71 H_10 locs_10 _ r_6 r_8 r_10 (-4) hT_10 hS_10 (lv_sub hl [4, 5, 6, 3, 2, 1, 0] rfl)
  · have f_11 : r_6.toInt = 102 := r_eq rfl (by decide) c_11
    refine lv_aload_n hx hb dX1_readItem_36 rfl (lv_at hl 5 rfl) ?_
    refine lv_iload hx hb dX1_readItem_37 (lv_at hl 2 rfl) ?_
    refine th_Vi (As := [.int r_8]) (rest := []) E hml hl.1 (z_X9_at l D cI cS τ ρ hW H_10 hT_10 a1 r_8 ha1) lk_X1_39 yd_X9_at hT_10 ha1 rfl (by decide) hS_10 (AT.sub (by decide)) ⟨by decide, by decide⟩ (Nat.le_of_ble_eq_true rfl) ⟨by decide, by decide⟩ rfl dX1_readItem_39 (fun r_12 H_12 locs_12 p_12 hT_12 hk_12 hS_12 => ?_)
    refine lv_bipush (v := 44) hx hb dX1_readItem_42 (by decide) ?_
    refine lv_icmp_ne (tgt := 71) hx hb dX1_readItem_44 (by decide) (fun c_13 => ?_) (fun c_13 => ?_)
    · have f_13 : ¬ r_12.toInt = 44 := r_ne rfl (by decide) c_13
      exact J_71 H_12 locs_12 _ r_6 r_8 r_10 (-4) hT_12 hS_12 (lv_sub hl [4, 5, 6, 3, 2, 1, 0] rfl)
    · have f_13 : r_12.toInt = 44 := r_eq rfl (by decide) c_13
      refine lv_iload hx hb dX1_readItem_47 (lv_at hl 2 rfl) ?_
      refine lv_iconst (v := 1) hx hb dX1_readItem_49 (by decide) ?_
      refine lv_iadd hx hb dX1_readItem_50 ?_
      refine lv_topi (fun x_14 ex_14 => ?_)
      refine lv_istore (lv' := [(7, .int x_14), (6, .int (-4)), (5, .int r_10), (4, .int r_8), (3, .int r_6), (0, .ref a0), (1, .ref a1), (2, .int x0)]) hx hb dX1_readItem_51 hl (by decide) rfl (fun ls hl => ?_)
      refine lv_aload_n hx hb dX1_readItem_53 rfl (lv_at hl 6 rfl) ?_
      refine lv_iload hx hb dX1_readItem_54 (lv_at hl 0 rfl) ?_
      refine th_Vi (As := [.int x_14]) (rest := []) E hml hl.1 (z_X9_digitsEnd l D cI cS τ ρ hW H_12 hT_12 a1 x_14 ha1) lk_X1_43 yd_X9_digitsEnd hT_12 ha1 rfl (by decide) hS_12 (AT.sub (by decide)) ⟨by decide, by decide⟩ (Nat.le_of_ble_eq_true rfl) ⟨by decide, by decide⟩ rfl dX1_readItem_56 (fun r_15 H_15 locs_15 p_15 hT_15 hk_15 hS_15 => ?_)
      refine lv_istore (lv' := [(4, .int r_15), (7, .int x_14), (6, .int (-4)), (5, .int r_10), (3, .int r_6), (0, .ref a0), (1, .ref a1), (2, .int x0)]) hx hb dX1_readItem_59 hl (by decide) rfl (fun ls hl => ?_)
      refine lv_aload_n hx hb dX1_readItem_61 rfl (lv_at hl 6 rfl) ?_
      refine lv_iload hx hb dX1_readItem_62 (lv_at hl 1 rfl) ?_
      refine lv_iload hx hb dX1_readItem_64 (lv_at hl 0 rfl) ?_
      refine th_Vi (As := [.int x_14, .int r_15]) (rest := []) E hml hl.1 (z_X9_number l D cI cS τ ρ hW H_15 hT_15 a1 x_14 r_15 ha1) lk_X1_46 yd_X9_number hT_15 ha1 rfl (by decide) hS_15 (AT.sub (by decide)) ⟨by decide, by decide⟩ (Nat.le_of_ble_eq_true rfl) ⟨by decide, by decide⟩ rfl dX1_readItem_66 (fun r_16 H_16 locs_16 p_16 hT_16 hk_16 hS_16 => ?_)
      refine lv_istore (lv' := [(6, .int r_16), (4, .int r_15), (7, .int x_14), (5, .int r_10), (3, .int r_6), (0, .ref a0), (1, .ref a1), (2, .int x0)]) hx hb dX1_readItem_69 hl (by decide) rfl (fun ls hl => ?_)
      exact J_71 H_16 locs_16 _ r_6 r_15 r_10 r_16 hT_16 hS_16 (lv_sub hl [5, 6, 7, 4, 1, 3, 0] rfl)
set_option maxHeartbeats 4000000 in
set_option maxRecDepth 100000 in
/-- StreamEnds$Config.read: it ends, and the heap stays typed -/
theorem z_X1_read (l : Launch) (D : va_G) (cI cS : ClassId) (τ : Nat → Option Nat) (ρ : Nat → Nat → Nat) (hW : WF τ ρ) (H : Heap) (hT : TH D cI cS τ ρ H) (a0 : Nat) (a1 : Nat) (ha0 : τ a0 = some 1) (ha1 : τ a1 = some 9) : MI l D cI cS τ ρ yX1_read cX1_read 4 (some .int) 4 92 H [.ref a0, .ref a1] (fun (r : Int32) (u : Heap) => True) (AT τ [1]) := by
  refine MI.of (by decide) (Nat.le_of_ble_eq_true rfl) ?_
  intro p e s m args below meth c E hml hr hlk hs ls hl
  have hx := E.1
  have hb := E.2.1
  have hown := E.2.2.1
  have hts := E.2.2.2.1
  have hS : SS (AT τ [1]) H H [] := SS.rf
  have hl : lv_has ls 4 [(0, .ref a0), (1, .ref a1)] := hl
  have L_6 : ∀ (n : Nat) (H_c6 : Heap) (lc_c6 : List Loc) (ls : Array Slot) (y6_2 : Int32) (g6_0 : Int32), TH D cI cS τ ρ H_c6 → SS (AT τ [1]) H H_c6 lc_c6 → lv_has ls 4 [(0, .ref a0), (1, .ref a1), (2, .int y6_2)] → 0 ≤ y6_2.toInt → fi D 9 1 H_c6 a1 = g6_0 → (g6_0.toInt - y6_2.toInt).toNat < n → W p l e (rmO 4 92) s m args below meth c H_c6 lc_c6 0 0 (MQ below (va_Qi (fun (r : Int32) (u : Heap) => True) (Bt D cI cS τ ρ H) (AT τ [1])) args s 0 0 (AT τ [1])) (F0 m 6 ls []) := by
    intro n
    induction n with
    | zero => intro H_c6 lc_c6 ls y6_2 g6_0 hT_c6 hS_c6 hl ly6_2 hg6_0 hm; exact absurd hm (Nat.not_lt_zero _)
    | succ n ih_6 =>
      intro H_c6 lc_c6 ls y6_2 g6_0 hT_c6 hS_c6 hl ly6_2 hg6_0 hm_6
      refine lv_iload_n hx hb dX1_read_6 rfl (lv_at hl 2 rfl) ?_
      refine lv_aload_n hx hb dX1_read_7 rfl (lv_at hl 1 rfl) ?_
      refine gf_X1_30 E hT_c6 ha1 dX1_read_8 ?_
      refine th_topi (y := g6_0) hg6_0 ?_
      refine lv_icmp_ge (tgt := 33) hx hb dX1_read_11 (by decide) (fun c_1 => ?_) (fun c_1 => ?_)
      · have f_1 : g6_0.toInt ≤ y6_2.toInt := r_le rfl rfl c_1
        refine lv_bipush (v := (-4)) hx hb dX1_read_33 (by decide) ?_
        exact th_iret E hr hlk hs hT_c6 hS_c6 trivial dX1_read_35
      · have f_1 : y6_2.toInt < g6_0.toInt := r_nle rfl rfl c_1
        refine lv_aload_n hx hb dX1_read_14 rfl (lv_at hl 0 rfl) ?_
        refine lv_aload_n hx hb dX1_read_15 rfl (lv_at hl 1 rfl) ?_
        refine lv_iload_n hx hb dX1_read_16 rfl (lv_at hl 2 rfl) ?_
        refine th_Vi (As := [.ref a1, .int y6_2]) (rest := []) E hml hl.1 (z_X1_readItem l D cI cS τ ρ hW H_c6 hT_c6 a0 a1 y6_2 ha0 ha1) lk_X1_35 yd_X1_readItem hT_c6 ha0 rfl (by decide) hS_c6 (AT.sub (by decide)) ⟨by decide, by decide⟩ (Nat.le_of_ble_eq_true rfl) ⟨by decide, by decide⟩ rfl dX1_read_17 (fun r_2 H_2 locs_2 p_2 hT_2 hk_2 hS_2 => ?_)
        refine lv_istore_n (lv' := [(3, .int r_2), (0, .ref a0), (1, .ref a1), (2, .int y6_2)]) hx hb dX1_read_20 rfl hl (by decide) rfl (fun ls hl => ?_)
        refine lv_iload_n hx hb dX1_read_21 rfl (lv_at hl 0 rfl) ?_
        refine lv_iload_n hx hb dX1_read_22 rfl (lv_at hl 3 rfl) ?_
        refine lv_icmp_gt (tgt := 28) hx hb dX1_read_23 (by decide) (fun c_3 => ?_) (fun c_3 => ?_)
        · have f_3 : y6_2.toInt < r_2.toInt := r_lt rfl rfl c_3
          refine lv_iload_n hx hb dX1_read_28 rfl (lv_at hl 0 rfl) ?_
          refine lv_istore_n (lv' := [(2, .int r_2), (3, .int r_2), (0, .ref a0), (1, .ref a1)]) hx hb dX1_read_29 rfl hl (by decide) rfl (fun ls hl => ?_)
          refine lv_goto (tgt := 6) hx hb dX1_read_30 (by decide) ?_
          exact ih_6 H_2 locs_2 _ r_2 g6_0 hT_2 hS_2 (lv_sub hl [2, 3, 0] rfl) (by omega) (Eq.trans (fi_q (hk_2 _ (AT.out ha1 (by decide)))) hg6_0) (by omega)
        · have f_3 : r_2.toInt ≤ y6_2.toInt := r_nlt rfl rfl c_3
          refine lv_iload_n hx hb dX1_read_26 rfl (lv_at hl 3 rfl) ?_
          exact th_iret E hr hlk hs hT_2 hS_2 trivial dX1_read_27
  refine lv_aload_n hx hb dX1_read_0 rfl (lv_at hl 0 rfl) ?_
  refine th_Vv (As := []) (rest := []) E hml hl.1 (z_X1_setDefaults l D cI cS τ ρ hW H hT a0 ha0) lk_X1_9 yd_X1_setDefaults hT ha0 rfl (by decide) hS (AT.sub (by decide)) ⟨by decide, by decide⟩ (Nat.le_of_ble_eq_true rfl) ⟨by decide, by decide⟩ rfl dX1_read_1 (fun H_4 locs_4 p_4 hT_4 hk_4 hS_4 => ?_)
  refine lv_iconst (v := 0) hx hb dX1_read_4 (by decide) ?_
  refine lv_istore_n (lv' := [(2, .int 0), (0, .ref a0), (1, .ref a1)]) hx hb dX1_read_5 rfl hl (by decide) rfl (fun ls hl => ?_)
  exact L_6 _ H_4 locs_4 _ 0 (fi D 9 1 H a1) hT_4 hS_4 (lv_sub hl [1, 2, 0] rfl) (by decide) (fi_q (hk_4 _ (AT.out ha1 (by decide)))) (Nat.lt_succ_self _)
set_option maxHeartbeats 4000000 in
set_option maxRecDepth 100000 in
/-- StreamEnds$Endpoint.mayTransmit: it ends, and the heap stays typed -/
theorem z_X2_mayTransmit (l : Launch) (D : va_G) (cI cS : ClassId) (τ : Nat → Option Nat) (ρ : Nat → Nat → Nat) (hW : WF τ ρ) (H : Heap) (hT : TH D cI cS τ ρ H) (a0 : Nat) (ha0 : τ a0 = some 2) : MI l D cI cS τ ρ yX2_mayTransmit cX2_mayTransmit 1 (some .boolean) 0 0 H [.ref a0] (fun (r : Int32) (u : Heap) => r = 0 ∨ r = 1) (AT τ []) := by
  refine MI.of (by decide) (Nat.le_of_ble_eq_true rfl) ?_
  intro p e s m args below meth c E hml hr hlk hs ls hl
  have hx := E.1
  have hb := E.2.1
  have hown := E.2.2.1
  have hts := E.2.2.2.1
  have hS : SS (AT τ []) H H [] := SS.rf
  have hl : lv_has ls 1 [(0, .ref a0)] := hl
  refine lv_aload_n hx hb dX2_mayTransmit_0 rfl (lv_at hl 0 rfl) ?_
  refine gf_X2_63 E hT ha0 dX2_mayTransmit_1 ?_
  refine lv_topi (fun x_1 ex_1 => ?_)
  refine lv_iconst (v := 4) hx hb dX2_mayTransmit_4 (by decide) ?_
  refine lv_icmp_eq (tgt := 17) hx hb dX2_mayTransmit_5 (by decide) (fun c_2 => ?_) (fun c_2 => ?_)
  · have f_2 : x_1.toInt = 4 := r_eq rfl (by decide) c_2
    refine lv_iconst (v := 1) hx hb dX2_mayTransmit_17 (by decide) ?_
    refine lv_goto (tgt := 22) hx hb dX2_mayTransmit_18 (by decide) ?_
    exact th_zret E hr hlk hs (Or.inr rfl) hT hS (Or.inr rfl) dX2_mayTransmit_22
  · have f_2 : ¬ x_1.toInt = 4 := r_ne rfl (by decide) c_2
    refine lv_aload_n hx hb dX2_mayTransmit_8 rfl (lv_at hl 0 rfl) ?_
    refine gf_X2_63 E hT ha0 dX2_mayTransmit_9 ?_
    refine th_topi (y := x_1) ex_1.symm ?_
    refine lv_bipush (v := 7) hx hb dX2_mayTransmit_12 (by decide) ?_
    refine lv_icmp_ne (tgt := 21) hx hb dX2_mayTransmit_14 (by decide) (fun c_3 => ?_) (fun c_3 => ?_)
    · have f_3 : ¬ x_1.toInt = 7 := r_ne rfl (by decide) c_3
      refine lv_iconst (v := 0) hx hb dX2_mayTransmit_21 (by decide) ?_
      exact th_zret E hr hlk hs (Or.inl rfl) hT hS (Or.inl rfl) dX2_mayTransmit_22
    · have f_3 : x_1.toInt = 7 := r_eq rfl (by decide) c_3
      refine lv_iconst (v := 1) hx hb dX2_mayTransmit_17 (by decide) ?_
      refine lv_goto (tgt := 22) hx hb dX2_mayTransmit_18 (by decide) ?_
      exact th_zret E hr hlk hs (Or.inr rfl) hT hS (Or.inr rfl) dX2_mayTransmit_22
set_option maxHeartbeats 4000000 in
set_option maxRecDepth 100000 in
/-- StreamEnds$Outgoing.unsent: it ends, and the heap stays typed -/
theorem z_X5_unsent (l : Launch) (D : va_G) (cI cS : ClassId) (τ : Nat → Option Nat) (ρ : Nat → Nat → Nat) (hW : WF τ ρ) (H : Heap) (hT : TH D cI cS τ ρ H) (a0 : Nat) (ha0 : τ a0 = some 5) : MI l D cI cS τ ρ yX5_unsent cX5_unsent 1 (some .int) 1 15 H [.ref a0] (fun (r : Int32) (u : Heap) => True) (AT τ []) := by
  refine MI.of (by decide) (Nat.le_of_ble_eq_true rfl) ?_
  intro p e s m args below meth c E hml hr hlk hs ls hl
  have hx := E.1
  have hb := E.2.1
  have hown := E.2.2.1
  have hts := E.2.2.2.1
  have hS : SS (AT τ []) H H [] := SS.rf
  have hl : lv_has ls 1 [(0, .ref a0)] := hl
  refine lv_iconst (v := 0) hx hb dX5_unsent_0 (by decide) ?_
  refine lv_aload_n hx hb dX5_unsent_1 rfl (lv_at hl 0 rfl) ?_
  refine gf_X5_25 E hT ha0 dX5_unsent_2 ?_
  refine lv_topi (fun x_1 ex_1 => ?_)
  refine lv_iconst (v := 1) hx hb dX5_unsent_5 (by decide) ?_
  refine lv_iadd hx hb dX5_unsent_6 ?_
  refine lv_topi (fun x_2 ex_2 => ?_)
  refine lv_iconst (v := 1) hx hb dX5_unsent_7 (by decide) ?_
  refine lv_aload_n hx hb dX5_unsent_8 rfl (lv_at hl 0 rfl) ?_
  refine gf_X5_19 E hT ha0 dX5_unsent_9 ?_
  refine lv_topi (fun x_3 ex_3 => ?_)
  refine mm_X5_45 E hml hl.1 (by decide) (Nat.le_of_ble_eq_true rfl) ⟨by decide, by decide⟩ dX5_unsent_12 ?_
  refine lv_topi (fun x_4 ex_4 => ?_)
  have q_4 := i_maxq (x := (1 : Int32)) (y := x_3) (a := 1) (b := x_3.toInt) (by decide) rfl ex_4
  refine lv_isub hx hb dX5_unsent_15 ?_
  refine lv_topi (fun x_5 ex_5 => ?_)
  refine mm_X5_45 E hml hl.1 (by decide) (Nat.le_of_ble_eq_true rfl) ⟨by decide, by decide⟩ dX5_unsent_16 ?_
  refine lv_topi (fun x_6 ex_6 => ?_)
  have q_6 := i_maxq (x := (0 : Int32)) (y := x_5) (a := 0) (b := x_5.toInt) (by decide) rfl ex_6
  exact th_iret E hr hlk hs hT hS trivial dX5_unsent_19
set_option maxHeartbeats 4000000 in
set_option maxRecDepth 100000 in
/-- StreamEnds$Endpoint.isStalled: it ends, and the heap stays typed -/
theorem z_X2_isStalled (l : Launch) (D : va_G) (cI cS : ClassId) (τ : Nat → Option Nat) (ρ : Nat → Nat → Nat) (hW : WF τ ρ) (H : Heap) (hT : TH D cI cS τ ρ H) (a0 : Nat) (ha0 : τ a0 = some 2) : MI l D cI cS τ ρ yX2_isStalled cX2_isStalled 1 (some .boolean) 2 35 H [.ref a0] (fun (r : Int32) (u : Heap) => r = 0 ∨ r = 1) (AT τ []) := by
  refine MI.of (by decide) (Nat.le_of_ble_eq_true rfl) ?_
  intro p e s m args below meth c E hml hr hlk hs ls hl
  have hx := E.1
  have hb := E.2.1
  have hown := E.2.2.1
  have hts := E.2.2.2.1
  have hS : SS (AT τ []) H H [] := SS.rf
  have hl : lv_has ls 1 [(0, .ref a0)] := hl
  refine lv_aload_n hx hb dX2_isStalled_0 rfl (lv_at hl 0 rfl) ?_
  refine th_Vi (As := []) (rest := []) E hml hl.1 (z_X2_mayTransmit l D cI cS τ ρ hW H hT a0 ha0) lk_X2_82 yd_X2_mayTransmit hT ha0 rfl (by decide) hS (AT.sub (by decide)) ⟨by decide, by decide⟩ (Nat.le_of_ble_eq_true rfl) ⟨by decide, by decide⟩ rfl dX2_isStalled_1 (fun r_1 H_1 locs_1 p_1 hT_1 hk_1 hS_1 => ?_)
  have z_1 := b_iv p_1
  refine lv_if_eq (tgt := 48) hx hb dX2_isStalled_4 (by decide) (fun c_2 => ?_) (fun c_2 => ?_)
  · have f_2 : r_1.toInt = 0 := r_eq rfl (by decide) c_2
    refine lv_iconst (v := 0) hx hb dX2_isStalled_48 (by decide) ?_
    exact th_zret E hr hlk hs (Or.inl rfl) hT_1 hS_1 (Or.inl rfl) dX2_isStalled_49
  · have f_2 : ¬ r_1.toInt = 0 := r_ne rfl (by decide) c_2
    have nz_r_1 : ¬ r_1 = 0 := c_2
    refine lv_aload_n hx hb dX2_isStalled_7 rfl (lv_at hl 0 rfl) ?_
    refine gf_X2_12 E hT_1 hW ha0 dX2_isStalled_8 (fun h_3 => ?_)
    refine gf_X2_90 E hT_1 h_3 dX2_isStalled_11 ?_
    refine th_topi (y := fi D 5 0 H (ρ a0 4)) (fi_q (hk_1 _ (AT.out h_3 (by decide)))) ?_
    refine lv_topi (fun x_4 ex_4 => ?_)
    refine lv_aload_n hx hb dX2_isStalled_14 rfl (lv_at hl 0 rfl) ?_
    refine gf_X2_12 E hT_1 hW ha0 dX2_isStalled_15 (fun h_5 => ?_)
    refine gf_X2_93 E hT_1 h_5 dX2_isStalled_18 ?_
    refine th_topi (y := fi D 5 1 H (ρ a0 4)) (fi_q (hk_1 _ (AT.out h_5 (by decide)))) ?_
    refine lv_topi (fun x_6 ex_6 => ?_)
    refine lv_icmp_ne (tgt := 48) hx hb dX2_isStalled_21 (by decide) (fun c_7 => ?_) (fun c_7 => ?_)
    · have f_7 : ¬ x_4.toInt = x_6.toInt := r_ne rfl rfl c_7
      refine lv_iconst (v := 0) hx hb dX2_isStalled_48 (by decide) ?_
      exact th_zret E hr hlk hs (Or.inl rfl) hT_1 hS_1 (Or.inl rfl) dX2_isStalled_49
    · have f_7 : x_4.toInt = x_6.toInt := r_eq rfl rfl c_7
      refine lv_aload_n hx hb dX2_isStalled_24 rfl (lv_at hl 0 rfl) ?_
      refine gf_X2_12 E hT_1 hW ha0 dX2_isStalled_25 (fun h_8 => ?_)
      refine th_Vi (As := []) (rest := []) E hml hl.1 (z_X5_unsent l D cI cS τ ρ hW H_1 hT_1 (ρ a0 4) h_8) lk_X2_96 yd_X5_unsent hT_1 h_8 rfl (by decide) hS_1 (AT.sub (by decide)) ⟨by decide, by decide⟩ (Nat.le_of_ble_eq_true rfl) ⟨by decide, by decide⟩ rfl dX2_isStalled_28 (fun r_9 H_9 locs_9 p_9 hT_9 hk_9 hS_9 => ?_)
      refine lv_if_gt (tgt := 44) hx hb dX2_isStalled_31 (by decide) (fun c_10 => ?_) (fun c_10 => ?_)
      · have f_10 : 0 < r_9.toInt := r_lt (by decide) rfl c_10
        refine lv_iconst (v := 1) hx hb dX2_isStalled_44 (by decide) ?_
        refine lv_goto (tgt := 49) hx hb dX2_isStalled_45 (by decide) ?_
        exact th_zret E hr hlk hs (Or.inr rfl) hT_9 hS_9 (Or.inr rfl) dX2_isStalled_49
      · have f_10 : r_9.toInt ≤ 0 := r_nlt (by decide) rfl c_10
        refine lv_aload_n hx hb dX2_isStalled_34 rfl (lv_at hl 0 rfl) ?_
        refine gf_X2_12 E hT_9 hW ha0 dX2_isStalled_35 (fun h_11 => ?_)
        refine gf_X2_86 E hT_9 h_11 dX2_isStalled_38 ?_
        refine th_topi (y := fi D 5 5 H (ρ a0 4)) (Eq.trans (fi_q (hk_9 _ (AT.out h_11 (by decide)))) (fi_q (hk_1 _ (AT.out h_11 (by decide))))) ?_
        refine lv_topi (fun x_12 ex_12 => ?_)
        have bx_12 : x_12 = 0 ∨ x_12 = 1 := by rw [ex_12]; exact (TH.vb hT h_11 (by decide) (by decide) rfl).2
        have z_12 := b_iv bx_12
        refine lv_if_eq (tgt := 48) hx hb dX2_isStalled_41 (by decide) (fun c_13 => ?_) (fun c_13 => ?_)
        · have f_13 : x_12.toInt = 0 := r_eq rfl (by decide) c_13
          refine lv_iconst (v := 0) hx hb dX2_isStalled_48 (by decide) ?_
          exact th_zret E hr hlk hs (Or.inl rfl) hT_9 hS_9 (Or.inl rfl) dX2_isStalled_49
        · have f_13 : ¬ x_12.toInt = 0 := r_ne rfl (by decide) c_13
          have nz_x_12 : ¬ x_12 = 0 := c_13
          refine lv_iconst (v := 1) hx hb dX2_isStalled_44 (by decide) ?_
          refine lv_goto (tgt := 49) hx hb dX2_isStalled_45 (by decide) ?_
          exact th_zret E hr hlk hs (Or.inr rfl) hT_9 hS_9 (Or.inr rfl) dX2_isStalled_49
set_option maxHeartbeats 4000000 in
set_option maxRecDepth 100000 in
/-- StreamEnds$Endpoint.adjustTimer: it ends, and the heap stays typed -/
theorem z_X2_adjustTimer (l : Launch) (D : va_G) (cI cS : ClassId) (τ : Nat → Option Nat) (ρ : Nat → Nat → Nat) (hW : WF τ ρ) (H : Heap) (hT : TH D cI cS τ ρ H) (a0 : Nat) (ha0 : τ a0 = some 2) : MV l D cI cS τ ρ yX2_adjustTimer cX2_adjustTimer 1 none 3 55 H [.ref a0] (fun (u : Heap) => True) (AT τ [2]) := by
  refine MV.of (by decide) (Nat.le_of_ble_eq_true rfl) ?_
  intro p e s m args below meth c E hml hr hlk hs ls hl
  have hx := E.1
  have hb := E.2.1
  have hown := E.2.2.1
  have hts := E.2.2.2.1
  have hS : SS (AT τ [2]) H H [] := SS.rf
  have hl : lv_has ls 1 [(0, .ref a0)] := hl
  have J_47 : ∀ (H_c47 : Heap) (lc_c47 : List Loc) (ls : Array Slot), TH D cI cS τ ρ H_c47 → SS (AT τ [2]) H H_c47 lc_c47 → lv_has ls 1 [(0, .ref a0)] → W p l e (rmO 3 55) s m args below meth c H_c47 lc_c47 0 0 (MQ below (va_Qv (fun (u : Heap) => True) (Bt D cI cS τ ρ H) (AT τ [2])) args s 0 0 (AT τ [2])) (F0 m 47 ls []) := by
    intro H_c47 lc_c47 ls hT_c47 hS_c47 hl
    refine lv_aload_n hx hb dX2_adjustTimer_47 rfl (lv_at hl 0 rfl) ?_
    refine gf_X2_66 E hT_c47 ha0 dX2_adjustTimer_48 ?_
    refine lv_topi (fun x_1 ex_1 => ?_)
    refine lv_if_ne (tgt := 65) hx hb dX2_adjustTimer_51 (by decide) (fun c_2 => ?_) (fun c_2 => ?_)
    · have f_2 : ¬ x_1.toInt = 0 := r_ne rfl (by decide) c_2
      have nz_x_1 : ¬ x_1 = 0 := c_2
      exact th_vret E hr hlk hs hT_c47 hS_c47 trivial dX2_adjustTimer_65
    · have f_2 : x_1.toInt = 0 := r_eq rfl (by decide) c_2
      refine lv_aload_n hx hb dX2_adjustTimer_54 rfl (lv_at hl 0 rfl) ?_
      refine lv_aload_n hx hb dX2_adjustTimer_55 rfl (lv_at hl 0 rfl) ?_
      refine gf_X2_28 E hT_c47 hW ha0 dX2_adjustTimer_56 (fun h_3 => ?_)
      refine gf_X2_106 E hT_c47 h_3 dX2_adjustTimer_59 ?_
      refine lv_topi (fun x_4 ex_4 => ?_)
      refine pf_X2_66 E hT_c47 hS_c47 ha0 ⟨_, ha0, by decide⟩ dX2_adjustTimer_62 (fun H_5 locs_5 hT_5 hU_5 hS_5 => ?_)
      exact th_vret E hr hlk hs hT_5 hS_5 trivial dX2_adjustTimer_65
  refine lv_aload_n hx hb dX2_adjustTimer_0 rfl (lv_at hl 0 rfl) ?_
  refine gf_X2_63 E hT ha0 dX2_adjustTimer_1 ?_
  refine lv_topi (fun x_6 ex_6 => ?_)
  refine lv_if_eq (tgt := 39) hx hb dX2_adjustTimer_4 (by decide) (fun c_7 => ?_) (fun c_7 => ?_)
  · have f_7 : x_6.toInt = 0 := r_eq rfl (by decide) c_7
    refine lv_aload_n hx hb dX2_adjustTimer_39 rfl (lv_at hl 0 rfl) ?_
    refine lv_iconst (v := 0) hx hb dX2_adjustTimer_40 (by decide) ?_
    refine pf_X2_66 E hT hS ha0 ⟨_, ha0, by decide⟩ dX2_adjustTimer_41 (fun H_8 locs_8 hT_8 hU_8 hS_8 => ?_)
    refine lv_goto (tgt := 65) hx hb dX2_adjustTimer_44 (by decide) ?_
    exact th_vret E hr hlk hs hT_8 hS_8 trivial dX2_adjustTimer_65
  · have f_7 : ¬ x_6.toInt = 0 := r_ne rfl (by decide) c_7
    have nz_x_6 : ¬ x_6 = 0 := c_7
    refine lv_aload_n hx hb dX2_adjustTimer_7 rfl (lv_at hl 0 rfl) ?_
    refine gf_X2_63 E hT ha0 dX2_adjustTimer_8 ?_
    refine th_topi (y := x_6) ex_6.symm ?_
    refine lv_iconst (v := 1) hx hb dX2_adjustTimer_11 (by decide) ?_
    refine lv_icmp_eq (tgt := 39) hx hb dX2_adjustTimer_12 (by decide) (fun c_9 => ?_) (fun c_9 => ?_)
    · have f_9 : x_6.toInt = 1 := r_eq rfl (by decide) c_9
      refine lv_aload_n hx hb dX2_adjustTimer_39 rfl (lv_at hl 0 rfl) ?_
      refine lv_iconst (v := 0) hx hb dX2_adjustTimer_40 (by decide) ?_
      refine pf_X2_66 E hT hS ha0 ⟨_, ha0, by decide⟩ dX2_adjustTimer_41 (fun H_10 locs_10 hT_10 hU_10 hS_10 => ?_)
      refine lv_goto (tgt := 65) hx hb dX2_adjustTimer_44 (by decide) ?_
      exact th_vret E hr hlk hs hT_10 hS_10 trivial dX2_adjustTimer_65
    · have f_9 : ¬ x_6.toInt = 1 := r_ne rfl (by decide) c_9
      refine lv_aload_n hx hb dX2_adjustTimer_15 rfl (lv_at hl 0 rfl) ?_
      refine gf_X2_12 E hT hW ha0 dX2_adjustTimer_16 (fun h_11 => ?_)
      refine gf_X2_90 E hT h_11 dX2_adjustTimer_19 ?_
      refine lv_topi (fun x_12 ex_12 => ?_)
      refine lv_aload_n hx hb dX2_adjustTimer_22 rfl (lv_at hl 0 rfl) ?_
      refine gf_X2_12 E hT hW ha0 dX2_adjustTimer_23 (fun h_13 => ?_)
      refine gf_X2_93 E hT h_13 dX2_adjustTimer_26 ?_
      refine lv_topi (fun x_14 ex_14 => ?_)
      refine lv_icmp_lt (tgt := 47) hx hb dX2_adjustTimer_29 (by decide) (fun c_15 => ?_) (fun c_15 => ?_)
      · have f_15 : x_12.toInt < x_14.toInt := r_lt rfl rfl c_15
        exact J_47 H [] _ hT hS hl
      · have f_15 : x_14.toInt ≤ x_12.toInt := r_nlt rfl rfl c_15
        refine lv_aload_n hx hb dX2_adjustTimer_32 rfl (lv_at hl 0 rfl) ?_
        refine th_Vi (As := []) (rest := []) E hml hl.1 (z_X2_isStalled l D cI cS τ ρ hW H hT a0 ha0) lk_X2_103 yd_X2_isStalled hT ha0 rfl (by decide) hS (AT.sub (by decide)) ⟨by decide, by decide⟩ (Nat.le_of_ble_eq_true rfl) ⟨by decide, by decide⟩ rfl dX2_adjustTimer_33 (fun r_16 H_16 locs_16 p_16 hT_16 hk_16 hS_16 => ?_)
        have z_16 := b_iv p_16
        refine lv_if_ne (tgt := 47) hx hb dX2_adjustTimer_36 (by decide) (fun c_17 => ?_) (fun c_17 => ?_)
        · have f_17 : ¬ r_16.toInt = 0 := r_ne rfl (by decide) c_17
          have nz_r_16 : ¬ r_16 = 0 := c_17
          exact J_47 H_16 locs_16 _ hT_16 hS_16 hl
        · have f_17 : r_16.toInt = 0 := r_eq rfl (by decide) c_17
          refine lv_aload_n hx hb dX2_adjustTimer_39 rfl (lv_at hl 0 rfl) ?_
          refine lv_iconst (v := 0) hx hb dX2_adjustTimer_40 (by decide) ?_
          refine pf_X2_66 E hT_16 hS_16 ha0 ⟨_, ha0, by decide⟩ dX2_adjustTimer_41 (fun H_18 locs_18 hT_18 hU_18 hS_18 => ?_)
          refine lv_goto (tgt := 65) hx hb dX2_adjustTimer_44 (by decide) ?_
          exact th_vret E hr hlk hs hT_18 hS_18 trivial dX2_adjustTimer_65
set_option maxHeartbeats 4000000 in
set_option maxRecDepth 100000 in
/-- StreamEnds$Endpoint.close: it ends, and the heap stays typed -/
theorem z_X2_close (l : Launch) (D : va_G) (cI cS : ClassId) (τ : Nat → Option Nat) (ρ : Nat → Nat → Nat) (hW : WF τ ρ) (H : Heap) (hT : TH D cI cS τ ρ H) (a0 : Nat) (ha0 : τ a0 = some 2) : MV l D cI cS τ ρ yX2_close cX2_close 1 none 0 0 H [.ref a0] (fun (u : Heap) => True) (AT τ [2]) := by
  refine MV.of (by decide) (Nat.le_of_ble_eq_true rfl) ?_
  intro p e s m args below meth c E hml hr hlk hs ls hl
  have hx := E.1
  have hb := E.2.1
  have hown := E.2.2.1
  have hts := E.2.2.2.1
  have hS : SS (AT τ [2]) H H [] := SS.rf
  have hl : lv_has ls 1 [(0, .ref a0)] := hl
  refine lv_aload_n hx hb dX2_close_0 rfl (lv_at hl 0 rfl) ?_
  refine lv_iconst (v := 0) hx hb dX2_close_1 (by decide) ?_
  refine pf_X2_63 E hT hS ha0 ⟨_, ha0, by decide⟩ dX2_close_2 (fun H_1 locs_1 hT_1 hU_1 hS_1 => ?_)
  refine lv_aload_n hx hb dX2_close_5 rfl (lv_at hl 0 rfl) ?_
  refine lv_iconst (v := 0) hx hb dX2_close_6 (by decide) ?_
  refine pf_X2_66 E hT_1 hS_1 ha0 ⟨_, ha0, by decide⟩ dX2_close_7 (fun H_2 locs_2 hT_2 hU_2 hS_2 => ?_)
  refine lv_aload_n hx hb dX2_close_10 rfl (lv_at hl 0 rfl) ?_
  refine lv_iconst (v := 0) hx hb dX2_close_11 (by decide) ?_
  refine pf_X2_69 E hT_2 hS_2 ha0 ⟨_, ha0, by decide⟩ dX2_close_12 (fun H_3 locs_3 hT_3 hU_3 hS_3 => ?_)
  exact th_vret E hr hlk hs hT_3 hS_3 trivial dX2_close_15
set_option maxHeartbeats 4000000 in
set_option maxRecDepth 100000 in
/-- StreamEnds$Outgoing.copyFrom: it ends, and the heap stays typed -/
theorem z_X5_copyFrom (l : Launch) (D : va_G) (cI cS : ClassId) (τ : Nat → Option Nat) (ρ : Nat → Nat → Nat) (hW : WF τ ρ) (H : Heap) (hT : TH D cI cS τ ρ H) (a0 : Nat) (a1 : Nat) (ha0 : τ a0 = some 5) (ha1 : τ a1 = some 5) : MV l D cI cS τ ρ yX5_copyFrom cX5_copyFrom 2 none 1 40 H [.ref a0, .ref a1] (fun (u : Heap) => True) (AT τ [5, 164]) := by
  refine MV.of (by decide) (Nat.le_of_ble_eq_true rfl) ?_
  intro p e s m args below meth c E hml hr hlk hs ls hl
  have hx := E.1
  have hb := E.2.1
  have hown := E.2.2.1
  have hts := E.2.2.2.1
  have hS : SS (AT τ [5, 164]) H H [] := SS.rf
  have hl : lv_has ls 2 [(0, .ref a0), (1, .ref a1)] := hl
  refine lv_aload_n hx hb dX5_copyFrom_0 rfl (lv_at hl 0 rfl) ?_
  refine lv_aload_n hx hb dX5_copyFrom_1 rfl (lv_at hl 1 rfl) ?_
  refine gf_X5_15 E hT ha1 dX5_copyFrom_2 ?_
  refine lv_topi (fun x_1 ex_1 => ?_)
  refine pf_X5_15 E hT hS ha0 ⟨_, ha0, by decide⟩ dX5_copyFrom_5 (fun H_2 locs_2 hT_2 hU_2 hS_2 => ?_)
  refine lv_aload_n hx hb dX5_copyFrom_8 rfl (lv_at hl 0 rfl) ?_
  refine lv_aload_n hx hb dX5_copyFrom_9 rfl (lv_at hl 1 rfl) ?_
  refine gf_X5_19 E hT_2 ha1 dX5_copyFrom_10 ?_
  refine lv_topi (fun x_3 ex_3 => ?_)
  refine pf_X5_19 E hT_2 hS_2 ha0 ⟨_, ha0, by decide⟩ dX5_copyFrom_13 (fun H_4 locs_4 hT_4 hU_4 hS_4 => ?_)
  refine lv_aload_n hx hb dX5_copyFrom_16 rfl (lv_at hl 0 rfl) ?_
  refine lv_aload_n hx hb dX5_copyFrom_17 rfl (lv_at hl 1 rfl) ?_
  refine gf_X5_22 E hT_4 ha1 dX5_copyFrom_18 ?_
  refine lv_topi (fun x_5 ex_5 => ?_)
  refine pf_X5_22 E hT_4 hS_4 ha0 ⟨_, ha0, by decide⟩ dX5_copyFrom_21 (fun H_6 locs_6 hT_6 hU_6 hS_6 => ?_)
  refine lv_aload_n hx hb dX5_copyFrom_24 rfl (lv_at hl 0 rfl) ?_
  refine lv_aload_n hx hb dX5_copyFrom_25 rfl (lv_at hl 1 rfl) ?_
  refine gf_X5_25 E hT_6 ha1 dX5_copyFrom_26 ?_
  refine lv_topi (fun x_7 ex_7 => ?_)
  refine pf_X5_25 E hT_6 hS_6 ha0 ⟨_, ha0, by decide⟩ dX5_copyFrom_29 (fun H_8 locs_8 hT_8 hU_8 hS_8 => ?_)
  refine lv_aload_n hx hb dX5_copyFrom_32 rfl (lv_at hl 0 rfl) ?_
  refine lv_aload_n hx hb dX5_copyFrom_33 rfl (lv_at hl 1 rfl) ?_
  refine gf_X5_28 E hT_8 ha1 dX5_copyFrom_34 ?_
  refine lv_topi (fun x_9 ex_9 => ?_)
  refine pf_X5_28 E hT_8 hS_8 ha0 ⟨_, ha0, by decide⟩ dX5_copyFrom_37 (fun H_10 locs_10 hT_10 hU_10 hS_10 => ?_)
  refine lv_aload_n hx hb dX5_copyFrom_40 rfl (lv_at hl 0 rfl) ?_
  refine lv_aload_n hx hb dX5_copyFrom_41 rfl (lv_at hl 1 rfl) ?_
  refine gf_X5_31 E hT_10 ha1 dX5_copyFrom_42 ?_
  refine lv_topi (fun x_11 ex_11 => ?_)
  have bx_11 : x_11 = 0 ∨ x_11 = 1 := by rw [ex_11]; exact (TH.vb hT_10 ha1 (by decide) (by decide) rfl).2
  have z_11 := b_iv bx_11
  refine pf_X5_31 E hT_10 hS_10 ha0 ⟨_, ha0, by decide⟩ bx_11 dX5_copyFrom_45 (fun H_12 locs_12 hT_12 hU_12 hS_12 => ?_)
  refine lv_aload_n hx hb dX5_copyFrom_48 rfl (lv_at hl 0 rfl) ?_
  refine lv_aload_n hx hb dX5_copyFrom_49 rfl (lv_at hl 1 rfl) ?_
  refine gf_X5_35 E hT_12 ha1 dX5_copyFrom_50 ?_
  refine lv_topl (fun x_13 ex_13 => ?_)
  refine pf_X5_35 E hT_12 hS_12 ha0 ⟨_, ha0, by decide⟩ dX5_copyFrom_53 (fun H_14 locs_14 hT_14 hU_14 hS_14 => ?_)
  refine lv_aload_n hx hb dX5_copyFrom_56 rfl (lv_at hl 1 rfl) ?_
  refine gf_X5_9 E hT_14 hW ha1 dX5_copyFrom_57 (fun h_15 => ?_)
  refine lv_iconst (v := 0) hx hb dX5_copyFrom_60 (by decide) ?_
  refine lv_aload_n hx hb dX5_copyFrom_61 rfl (lv_at hl 0 rfl) ?_
  refine gf_X5_9 E hT_14 hW ha0 dX5_copyFrom_62 (fun h_16 => ?_)
  refine lv_iconst (v := 0) hx hb dX5_copyFrom_65 (by decide) ?_
  refine lv_bipush (v := 64) hx hb dX5_copyFrom_66 (by decide) ?_
  refine cp_X5_39 (t := 164) (a0 := (ρ a1 7)) (a := (ρ a0 7)) (sp := 0) (dp := 0) (n := 64) (rest := []) E hml hl.1 hT_14 hS_14 h_15 h_16 ⟨_, h_16, by decide⟩ (by decide) (by decide) (by decide) (by decide) (by decide) (by decide) (by decide) (Nat.le_of_ble_eq_true rfl) dX5_copyFrom_68 (fun H_17 locs_17 hT_17 hk_17 hS_17 => ?_)
  exact th_vret E hr hlk hs hT_17 hS_17 trivial dX5_copyFrom_71
set_option maxHeartbeats 4000000 in
set_option maxRecDepth 100000 in
/-- StreamEnds$Incoming.copyFrom: it ends, and the heap stays typed -/
theorem z_X3_copyFrom (l : Launch) (D : va_G) (cI cS : ClassId) (τ : Nat → Option Nat) (ρ : Nat → Nat → Nat) (hW : WF τ ρ) (H : Heap) (hT : TH D cI cS τ ρ H) (a0 : Nat) (a1 : Nat) (ha0 : τ a0 = some 3) (ha1 : τ a1 = some 3) : MV l D cI cS τ ρ yX3_copyFrom cX3_copyFrom 2 none 1 40 H [.ref a0, .ref a1] (fun (u : Heap) => True) (AT τ [3, 164]) := by
  refine MV.of (by decide) (Nat.le_of_ble_eq_true rfl) ?_
  intro p e s m args below meth c E hml hr hlk hs ls hl
  have hx := E.1
  have hb := E.2.1
  have hown := E.2.2.1
  have hts := E.2.2.2.1
  have hS : SS (AT τ [3, 164]) H H [] := SS.rf
  have hl : lv_has ls 2 [(0, .ref a0), (1, .ref a1)] := hl
  refine lv_aload_n hx hb dX3_copyFrom_0 rfl (lv_at hl 0 rfl) ?_
  refine lv_aload_n hx hb dX3_copyFrom_1 rfl (lv_at hl 1 rfl) ?_
  refine gf_X3_15 E hT ha1 dX3_copyFrom_2 ?_
  refine lv_topi (fun x_1 ex_1 => ?_)
  refine pf_X3_15 E hT hS ha0 ⟨_, ha0, by decide⟩ dX3_copyFrom_5 (fun H_2 locs_2 hT_2 hU_2 hS_2 => ?_)
  refine lv_aload_n hx hb dX3_copyFrom_8 rfl (lv_at hl 0 rfl) ?_
  refine lv_aload_n hx hb dX3_copyFrom_9 rfl (lv_at hl 1 rfl) ?_
  refine gf_X3_19 E hT_2 ha1 dX3_copyFrom_10 ?_
  refine lv_topi (fun x_3 ex_3 => ?_)
  refine pf_X3_19 E hT_2 hS_2 ha0 ⟨_, ha0, by decide⟩ dX3_copyFrom_13 (fun H_4 locs_4 hT_4 hU_4 hS_4 => ?_)
  refine lv_aload_n hx hb dX3_copyFrom_16 rfl (lv_at hl 0 rfl) ?_
  refine lv_aload_n hx hb dX3_copyFrom_17 rfl (lv_at hl 1 rfl) ?_
  refine gf_X3_22 E hT_4 ha1 dX3_copyFrom_18 ?_
  refine lv_topi (fun x_5 ex_5 => ?_)
  refine pf_X3_22 E hT_4 hS_4 ha0 ⟨_, ha0, by decide⟩ dX3_copyFrom_21 (fun H_6 locs_6 hT_6 hU_6 hS_6 => ?_)
  refine lv_aload_n hx hb dX3_copyFrom_24 rfl (lv_at hl 0 rfl) ?_
  refine lv_aload_n hx hb dX3_copyFrom_25 rfl (lv_at hl 1 rfl) ?_
  refine gf_X3_25 E hT_6 ha1 dX3_copyFrom_26 ?_
  refine lv_topi (fun x_7 ex_7 => ?_)
  refine pf_X3_25 E hT_6 hS_6 ha0 ⟨_, ha0, by decide⟩ dX3_copyFrom_29 (fun H_8 locs_8 hT_8 hU_8 hS_8 => ?_)
  refine lv_aload_n hx hb dX3_copyFrom_32 rfl (lv_at hl 0 rfl) ?_
  refine lv_aload_n hx hb dX3_copyFrom_33 rfl (lv_at hl 1 rfl) ?_
  refine gf_X3_28 E hT_8 ha1 dX3_copyFrom_34 ?_
  refine lv_topi (fun x_9 ex_9 => ?_)
  refine pf_X3_28 E hT_8 hS_8 ha0 ⟨_, ha0, by decide⟩ dX3_copyFrom_37 (fun H_10 locs_10 hT_10 hU_10 hS_10 => ?_)
  refine lv_aload_n hx hb dX3_copyFrom_40 rfl (lv_at hl 0 rfl) ?_
  refine lv_aload_n hx hb dX3_copyFrom_41 rfl (lv_at hl 1 rfl) ?_
  refine gf_X3_31 E hT_10 ha1 dX3_copyFrom_42 ?_
  refine lv_topl (fun x_11 ex_11 => ?_)
  refine pf_X3_31 E hT_10 hS_10 ha0 ⟨_, ha0, by decide⟩ dX3_copyFrom_45 (fun H_12 locs_12 hT_12 hU_12 hS_12 => ?_)
  refine lv_aload_n hx hb dX3_copyFrom_48 rfl (lv_at hl 1 rfl) ?_
  refine gf_X3_9 E hT_12 hW ha1 dX3_copyFrom_49 (fun h_13 => ?_)
  refine lv_iconst (v := 0) hx hb dX3_copyFrom_52 (by decide) ?_
  refine lv_aload_n hx hb dX3_copyFrom_53 rfl (lv_at hl 0 rfl) ?_
  refine gf_X3_9 E hT_12 hW ha0 dX3_copyFrom_54 (fun h_14 => ?_)
  refine lv_iconst (v := 0) hx hb dX3_copyFrom_57 (by decide) ?_
  refine lv_bipush (v := 64) hx hb dX3_copyFrom_58 (by decide) ?_
  refine cp_X3_35 (t := 164) (a0 := (ρ a1 6)) (a := (ρ a0 6)) (sp := 0) (dp := 0) (n := 64) (rest := []) E hml hl.1 hT_12 hS_12 h_13 h_14 ⟨_, h_14, by decide⟩ (by decide) (by decide) (by decide) (by decide) (by decide) (by decide) (by decide) (Nat.le_of_ble_eq_true rfl) dX3_copyFrom_60 (fun H_15 locs_15 hT_15 hk_15 hS_15 => ?_)
  exact th_vret E hr hlk hs hT_15 hS_15 trivial dX3_copyFrom_63
set_option maxHeartbeats 4000000 in
set_option maxRecDepth 100000 in
/-- StreamEnds$RoundTrips.copyFrom: it ends, and the heap stays typed -/
theorem z_X7_copyFrom (l : Launch) (D : va_G) (cI cS : ClassId) (τ : Nat → Option Nat) (ρ : Nat → Nat → Nat) (hW : WF τ ρ) (H : Heap) (hT : TH D cI cS τ ρ H) (a0 : Nat) (a1 : Nat) (ha0 : τ a0 = some 7) (ha1 : τ a1 = some 7) : MV l D cI cS τ ρ yX7_copyFrom cX7_copyFrom 2 none 1 40 H [.ref a0, .ref a1] (fun (u : Heap) => True) (AT τ [7, 106]) := by
  refine MV.of (by decide) (Nat.le_of_ble_eq_true rfl) ?_
  intro p e s m args below meth c E hml hr hlk hs ls hl
  have hx := E.1
  have hb := E.2.1
  have hown := E.2.2.1
  have hts := E.2.2.2.1
  have hS : SS (AT τ [7, 106]) H H [] := SS.rf
  have hl : lv_has ls 2 [(0, .ref a0), (1, .ref a1)] := hl
  refine lv_aload_n hx hb dX7_copyFrom_0 rfl (lv_at hl 0 rfl) ?_
  refine lv_aload_n hx hb dX7_copyFrom_1 rfl (lv_at hl 1 rfl) ?_
  refine gf_X7_15 E hT ha1 dX7_copyFrom_2 ?_
  refine lv_topi (fun x_1 ex_1 => ?_)
  refine pf_X7_15 E hT hS ha0 ⟨_, ha0, by decide⟩ dX7_copyFrom_5 (fun H_2 locs_2 hT_2 hU_2 hS_2 => ?_)
  refine lv_aload_n hx hb dX7_copyFrom_8 rfl (lv_at hl 0 rfl) ?_
  refine lv_aload_n hx hb dX7_copyFrom_9 rfl (lv_at hl 1 rfl) ?_
  refine gf_X7_19 E hT_2 ha1 dX7_copyFrom_10 ?_
  refine lv_topi (fun x_3 ex_3 => ?_)
  refine pf_X7_19 E hT_2 hS_2 ha0 ⟨_, ha0, by decide⟩ dX7_copyFrom_13 (fun H_4 locs_4 hT_4 hU_4 hS_4 => ?_)
  refine lv_aload_n hx hb dX7_copyFrom_16 rfl (lv_at hl 0 rfl) ?_
  refine lv_aload_n hx hb dX7_copyFrom_17 rfl (lv_at hl 1 rfl) ?_
  refine gf_X7_22 E hT_4 ha1 dX7_copyFrom_18 ?_
  refine lv_topi (fun x_5 ex_5 => ?_)
  refine pf_X7_22 E hT_4 hS_4 ha0 ⟨_, ha0, by decide⟩ dX7_copyFrom_21 (fun H_6 locs_6 hT_6 hU_6 hS_6 => ?_)
  refine lv_aload_n hx hb dX7_copyFrom_24 rfl (lv_at hl 0 rfl) ?_
  refine lv_aload_n hx hb dX7_copyFrom_25 rfl (lv_at hl 1 rfl) ?_
  refine gf_X7_25 E hT_6 ha1 dX7_copyFrom_26 ?_
  refine lv_topi (fun x_7 ex_7 => ?_)
  refine pf_X7_25 E hT_6 hS_6 ha0 ⟨_, ha0, by decide⟩ dX7_copyFrom_29 (fun H_8 locs_8 hT_8 hU_8 hS_8 => ?_)
  refine lv_aload_n hx hb dX7_copyFrom_32 rfl (lv_at hl 0 rfl) ?_
  refine lv_aload_n hx hb dX7_copyFrom_33 rfl (lv_at hl 1 rfl) ?_
  refine gf_X7_28 E hT_8 ha1 dX7_copyFrom_34 ?_
  refine lv_topi (fun x_9 ex_9 => ?_)
  refine pf_X7_28 E hT_8 hS_8 ha0 ⟨_, ha0, by decide⟩ dX7_copyFrom_37 (fun H_10 locs_10 hT_10 hU_10 hS_10 => ?_)
  refine lv_aload_n hx hb dX7_copyFrom_40 rfl (lv_at hl 0 rfl) ?_
  refine lv_aload_n hx hb dX7_copyFrom_41 rfl (lv_at hl 1 rfl) ?_
  refine gf_X7_31 E hT_10 ha1 dX7_copyFrom_42 ?_
  refine lv_topi (fun x_11 ex_11 => ?_)
  refine pf_X7_31 E hT_10 hS_10 ha0 ⟨_, ha0, by decide⟩ dX7_copyFrom_45 (fun H_12 locs_12 hT_12 hU_12 hS_12 => ?_)
  refine lv_aload_n hx hb dX7_copyFrom_48 rfl (lv_at hl 1 rfl) ?_
  refine gf_X7_9 E hT_12 hW ha1 dX7_copyFrom_49 (fun h_13 => ?_)
  refine lv_iconst (v := 0) hx hb dX7_copyFrom_52 (by decide) ?_
  refine lv_aload_n hx hb dX7_copyFrom_53 rfl (lv_at hl 0 rfl) ?_
  refine gf_X7_9 E hT_12 hW ha0 dX7_copyFrom_54 (fun h_14 => ?_)
  refine lv_iconst (v := 0) hx hb dX7_copyFrom_57 (by decide) ?_
  refine lv_bipush (v := 6) hx hb dX7_copyFrom_58 (by decide) ?_
  refine cp_X7_34 (t := 106) (a0 := (ρ a1 6)) (a := (ρ a0 6)) (sp := 0) (dp := 0) (n := 6) (rest := []) E hml hl.1 hT_12 hS_12 h_13 h_14 ⟨_, h_14, by decide⟩ (by decide) (by decide) (by decide) (by decide) (by decide) (by decide) (by decide) (Nat.le_of_ble_eq_true rfl) dX7_copyFrom_60 (fun H_15 locs_15 hT_15 hk_15 hS_15 => ?_)
  exact th_vret E hr hlk hs hT_15 hS_15 trivial dX7_copyFrom_63
set_option maxHeartbeats 4000000 in
set_option maxRecDepth 100000 in
/-- StreamEnds$Endpoint.copyFrom: it ends, and the heap stays typed -/
theorem z_X2_copyFrom (l : Launch) (D : va_G) (cI cS : ClassId) (τ : Nat → Option Nat) (ρ : Nat → Nat → Nat) (hW : WF τ ρ) (H : Heap) (hT : TH D cI cS τ ρ H) (a0 : Nat) (a1 : Nat) (ha0 : τ a0 = some 2) (ha1 : τ a1 = some 2) : MV l D cI cS τ ρ yX2_copyFrom cX2_copyFrom 2 none 2 61 H [.ref a0, .ref a1] (fun (u : Heap) => True) (AT τ [2, 3, 5, 7, 106, 164]) := by
  refine MV.of (by decide) (Nat.le_of_ble_eq_true rfl) ?_
  intro p e s m args below meth c E hml hr hlk hs ls hl
  have hx := E.1
  have hb := E.2.1
  have hown := E.2.2.1
  have hts := E.2.2.2.1
  have hS : SS (AT τ [2, 3, 5, 7, 106, 164]) H H [] := SS.rf
  have hl : lv_has ls 2 [(0, .ref a0), (1, .ref a1)] := hl
  refine lv_aload_n hx hb dX2_copyFrom_0 rfl (lv_at hl 0 rfl) ?_
  refine lv_aload_n hx hb dX2_copyFrom_1 rfl (lv_at hl 1 rfl) ?_
  refine gf_X2_63 E hT ha1 dX2_copyFrom_2 ?_
  refine lv_topi (fun x_1 ex_1 => ?_)
  refine pf_X2_63 E hT hS ha0 ⟨_, ha0, by decide⟩ dX2_copyFrom_5 (fun H_2 locs_2 hT_2 hU_2 hS_2 => ?_)
  refine lv_aload_n hx hb dX2_copyFrom_8 rfl (lv_at hl 0 rfl) ?_
  refine lv_aload_n hx hb dX2_copyFrom_9 rfl (lv_at hl 1 rfl) ?_
  refine gf_X2_66 E hT_2 ha1 dX2_copyFrom_10 ?_
  refine lv_topi (fun x_3 ex_3 => ?_)
  refine pf_X2_66 E hT_2 hS_2 ha0 ⟨_, ha0, by decide⟩ dX2_copyFrom_13 (fun H_4 locs_4 hT_4 hU_4 hS_4 => ?_)
  refine lv_aload_n hx hb dX2_copyFrom_16 rfl (lv_at hl 0 rfl) ?_
  refine lv_aload_n hx hb dX2_copyFrom_17 rfl (lv_at hl 1 rfl) ?_
  refine gf_X2_69 E hT_4 ha1 dX2_copyFrom_18 ?_
  refine lv_topi (fun x_5 ex_5 => ?_)
  refine pf_X2_69 E hT_4 hS_4 ha0 ⟨_, ha0, by decide⟩ dX2_copyFrom_21 (fun H_6 locs_6 hT_6 hU_6 hS_6 => ?_)
  refine lv_aload_n hx hb dX2_copyFrom_24 rfl (lv_at hl 0 rfl) ?_
  refine gf_X2_12 E hT_6 hW ha0 dX2_copyFrom_25 (fun h_7 => ?_)
  refine lv_aload_n hx hb dX2_copyFrom_28 rfl (lv_at hl 1 rfl) ?_
  refine gf_X2_12 E hT_6 hW ha1 dX2_copyFrom_29 (fun h_8 => ?_)
  refine th_Vv (As := [.ref (ρ a1 4)]) (rest := []) E hml hl.1 (z_X5_copyFrom l D cI cS τ ρ hW H_6 hT_6 (ρ a0 4) (ρ a1 4) h_7 h_8) lk_X2_72 yd_X5_copyFrom hT_6 h_7 rfl (by decide) hS_6 (AT.sub (by decide)) ⟨by decide, by decide⟩ (Nat.le_of_ble_eq_true rfl) ⟨by decide, by decide⟩ rfl dX2_copyFrom_32 (fun H_9 locs_9 p_9 hT_9 hk_9 hS_9 => ?_)
  refine lv_aload_n hx hb dX2_copyFrom_35 rfl (lv_at hl 0 rfl) ?_
  refine gf_X2_21 E hT_9 hW ha0 dX2_copyFrom_36 (fun h_10 => ?_)
  refine lv_aload_n hx hb dX2_copyFrom_39 rfl (lv_at hl 1 rfl) ?_
  refine gf_X2_21 E hT_9 hW ha1 dX2_copyFrom_40 (fun h_11 => ?_)
  refine th_Vv (As := [.ref (ρ a1 5)]) (rest := []) E hml hl.1 (z_X3_copyFrom l D cI cS τ ρ hW H_9 hT_9 (ρ a0 5) (ρ a1 5) h_10 h_11) lk_X2_76 yd_X3_copyFrom hT_9 h_10 rfl (by decide) hS_9 (AT.sub (by decide)) ⟨by decide, by decide⟩ (Nat.le_of_ble_eq_true rfl) ⟨by decide, by decide⟩ rfl dX2_copyFrom_43 (fun H_12 locs_12 p_12 hT_12 hk_12 hS_12 => ?_)
  refine lv_aload_n hx hb dX2_copyFrom_46 rfl (lv_at hl 0 rfl) ?_
  refine gf_X2_28 E hT_12 hW ha0 dX2_copyFrom_47 (fun h_13 => ?_)
  refine lv_aload_n hx hb dX2_copyFrom_50 rfl (lv_at hl 1 rfl) ?_
  refine gf_X2_28 E hT_12 hW ha1 dX2_copyFrom_51 (fun h_14 => ?_)
  refine th_Vv (As := [.ref (ρ a1 6)]) (rest := []) E hml hl.1 (z_X7_copyFrom l D cI cS τ ρ hW H_12 hT_12 (ρ a0 6) (ρ a1 6) h_13 h_14) lk_X2_79 yd_X7_copyFrom hT_12 h_13 rfl (by decide) hS_12 (AT.sub (by decide)) ⟨by decide, by decide⟩ (Nat.le_of_ble_eq_true rfl) ⟨by decide, by decide⟩ rfl dX2_copyFrom_54 (fun H_15 locs_15 p_15 hT_15 hk_15 hS_15 => ?_)
  exact th_vret E hr hlk hs hT_15 hS_15 trivial dX2_copyFrom_57
set_option maxHeartbeats 4000000 in
set_option maxRecDepth 100000 in
/-- StreamEnds$Wire.draft: it ends, and the heap stays typed -/
theorem z_X10_draft (l : Launch) (D : va_G) (cI cS : ClassId) (τ : Nat → Option Nat) (ρ : Nat → Nat → Nat) (hW : WF τ ρ) (H : Heap) (hT : TH D cI cS τ ρ H) (a0 : Nat) (ha0 : τ a0 = some 10) : MR l D cI cS τ ρ yX10_draft cX10_draft 1 (some (.object "StreamEnds$Segment")) 0 0 H [.ref a0] (fun (r : Nat) (u : Heap) => τ r = some 8) (AT τ []) := by
  refine MR.of (by decide) (Nat.le_of_ble_eq_true rfl) ?_
  intro p e s m args below meth c E hml hr hlk hs ls hl
  have hx := E.1
  have hb := E.2.1
  have hown := E.2.2.1
  have hts := E.2.2.2.1
  have hS : SS (AT τ []) H H [] := SS.rf
  have hl : lv_has ls 1 [(0, .ref a0)] := hl
  refine lv_aload_n hx hb dX10_draft_0 rfl (lv_at hl 0 rfl) ?_
  refine gf_X10_22 E hT ha0 dX10_draft_1 ?_
  refine lv_topi (fun x_1 ex_1 => ?_)
  have e_1 : x_1.toInt = (fi D 10 2 H a0).toInt := congrArg Int32.toInt ex_1
  refine lv_if_lt (tgt := 28) hx hb dX10_draft_4 (by decide) (fun c_2 => ?_) (fun c_2 => ?_)
  · have f_2 : x_1.toInt < 0 := r_lt rfl (by decide) c_2
    refine lv_aload_n hx hb dX10_draft_28 rfl (lv_at hl 0 rfl) ?_
    refine gf_X10_18 E hT ha0 dX10_draft_29 (fun h_3 => ?_)
    exact th_aret E hr hlk hs hT hS h_3 dX10_draft_32
  · have f_2 : 0 ≤ x_1.toInt := r_nlt rfl (by decide) c_2
    refine lv_aload_n hx hb dX10_draft_7 rfl (lv_at hl 0 rfl) ?_
    refine gf_X10_22 E hT ha0 dX10_draft_8 ?_
    refine th_topi (y := x_1) ex_1.symm ?_
    refine lv_bipush (v := 20) hx hb dX10_draft_11 (by decide) ?_
    refine lv_icmp_gt (tgt := 28) hx hb dX10_draft_13 (by decide) (fun c_4 => ?_) (fun c_4 => ?_)
    · have f_4 : 20 < x_1.toInt := r_lt (by decide) rfl c_4
      refine lv_aload_n hx hb dX10_draft_28 rfl (lv_at hl 0 rfl) ?_
      refine gf_X10_18 E hT ha0 dX10_draft_29 (fun h_5 => ?_)
      exact th_aret E hr hlk hs hT hS h_5 dX10_draft_32
    · have f_4 : x_1.toInt ≤ 20 := r_nlt (by decide) rfl c_4
      refine lv_aload_n hx hb dX10_draft_16 rfl (lv_at hl 0 rfl) ?_
      refine gf_X10_11 E hT hW ha0 dX10_draft_17 (fun h_6 => ?_)
      refine lv_aload_n hx hb dX10_draft_20 rfl (lv_at hl 0 rfl) ?_
      refine gf_X10_22 E hT ha0 dX10_draft_21 ?_
      refine th_topi (y := x_1) ex_1.symm ?_
      refine th_aald E hT h_6 (vp_in_iff.mpr ⟨by omega, by omega⟩) dX10_draft_24 (fun h_7 => ?_)
      refine lv_goto (tgt := 32) hx hb dX10_draft_25 (by decide) ?_
      exact th_aret E hr hlk hs hT hS h_7 dX10_draft_32
set_option maxHeartbeats 4000000 in
set_option maxRecDepth 100000 in
/-- StreamEnds$Segment.begin: it ends, and the heap stays typed -/
theorem z_X8_begin (l : Launch) (D : va_G) (cI cS : ClassId) (τ : Nat → Option Nat) (ρ : Nat → Nat → Nat) (hW : WF τ ρ) (H : Heap) (hT : TH D cI cS τ ρ H) (a0 : Nat) (x0 : Int32) (x1 : Int32) (x2 : Int32) (ha0 : τ a0 = some 8) : MV l D cI cS τ ρ yX8_begin cX8_begin 4 none 0 0 H [.ref a0, .int x0, .int x1, .int x2] (fun (u : Heap) => True) (AT τ [8]) := by
  refine MV.of (by decide) (Nat.le_of_ble_eq_true rfl) ?_
  intro p e s m args below meth c E hml hr hlk hs ls hl
  have hx := E.1
  have hb := E.2.1
  have hown := E.2.2.1
  have hts := E.2.2.2.1
  have hS : SS (AT τ [8]) H H [] := SS.rf
  have hl : lv_has ls 4 [(0, .ref a0), (1, .int x0), (2, .int x1), (3, .int x2)] := hl
  refine lv_aload_n hx hb dX8_begin_0 rfl (lv_at hl 0 rfl) ?_
  refine lv_iload_n hx hb dX8_begin_1 rfl (lv_at hl 1 rfl) ?_
  refine pf_X8_18 E hT hS ha0 ⟨_, ha0, by decide⟩ dX8_begin_2 (fun H_1 locs_1 hT_1 hU_1 hS_1 => ?_)
  refine lv_aload_n hx hb dX8_begin_5 rfl (lv_at hl 0 rfl) ?_
  refine lv_iload_n hx hb dX8_begin_6 rfl (lv_at hl 2 rfl) ?_
  refine pf_X8_22 E hT_1 hS_1 ha0 ⟨_, ha0, by decide⟩ dX8_begin_7 (fun H_2 locs_2 hT_2 hU_2 hS_2 => ?_)
  refine lv_aload_n hx hb dX8_begin_10 rfl (lv_at hl 0 rfl) ?_
  refine lv_iload_n hx hb dX8_begin_11 rfl (lv_at hl 3 rfl) ?_
  refine pf_X8_25 E hT_2 hS_2 ha0 ⟨_, ha0, by decide⟩ dX8_begin_12 (fun H_3 locs_3 hT_3 hU_3 hS_3 => ?_)
  refine lv_aload_n hx hb dX8_begin_15 rfl (lv_at hl 0 rfl) ?_
  refine lv_bipush (v := (-4)) hx hb dX8_begin_16 (by decide) ?_
  refine pf_X8_28 E hT_3 hS_3 ha0 ⟨_, ha0, by decide⟩ dX8_begin_18 (fun H_4 locs_4 hT_4 hU_4 hS_4 => ?_)
  refine lv_aload_n hx hb dX8_begin_21 rfl (lv_at hl 0 rfl) ?_
  refine lv_bipush (v := (-4)) hx hb dX8_begin_22 (by decide) ?_
  refine pf_X8_31 E hT_4 hS_4 ha0 ⟨_, ha0, by decide⟩ dX8_begin_24 (fun H_5 locs_5 hT_5 hU_5 hS_5 => ?_)
  refine lv_aload_n hx hb dX8_begin_27 rfl (lv_at hl 0 rfl) ?_
  refine lv_bipush (v := (-4)) hx hb dX8_begin_28 (by decide) ?_
  refine pf_X8_34 E hT_5 hS_5 ha0 ⟨_, ha0, by decide⟩ dX8_begin_30 (fun H_6 locs_6 hT_6 hU_6 hS_6 => ?_)
  refine lv_aload_n hx hb dX8_begin_33 rfl (lv_at hl 0 rfl) ?_
  refine lv_iconst (v := 0) hx hb dX8_begin_34 (by decide) ?_
  refine pf_X8_37 E hT_6 hS_6 ha0 ⟨_, ha0, by decide⟩ dX8_begin_35 (fun H_7 locs_7 hT_7 hU_7 hS_7 => ?_)
  refine lv_aload_n hx hb dX8_begin_38 rfl (lv_at hl 0 rfl) ?_
  refine lv_iconst (v := 0) hx hb dX8_begin_39 (by decide) ?_
  refine pf_X8_40 E hT_7 hS_7 ha0 ⟨_, ha0, by decide⟩ dX8_begin_40 (fun H_8 locs_8 hT_8 hU_8 hS_8 => ?_)
  exact th_vret E hr hlk hs hT_8 hS_8 trivial dX8_begin_43
set_option maxHeartbeats 4000000 in
set_option maxRecDepth 100000 in
/-- StreamEnds$Segment.has: it ends, and the heap stays typed -/
theorem z_X8_has (l : Launch) (D : va_G) (cI cS : ClassId) (τ : Nat → Option Nat) (ρ : Nat → Nat → Nat) (hW : WF τ ρ) (H : Heap) (hT : TH D cI cS τ ρ H) (a0 : Nat) (x0 : Int32) (ha0 : τ a0 = some 8) : MI l D cI cS τ ρ yX8_has cX8_has 2 (some .boolean) 0 0 H [.ref a0, .int x0] (fun (r : Int32) (u : Heap) => r = 0 ∨ r = 1) (AT τ []) := by
  refine MI.of (by decide) (Nat.le_of_ble_eq_true rfl) ?_
  intro p e s m args below meth c E hml hr hlk hs ls hl
  have hx := E.1
  have hb := E.2.1
  have hown := E.2.2.1
  have hts := E.2.2.2.1
  have hS : SS (AT τ []) H H [] := SS.rf
  have hl : lv_has ls 2 [(0, .ref a0), (1, .int x0)] := hl
  refine lv_aload_n hx hb dX8_has_0 rfl (lv_at hl 0 rfl) ?_
  refine gf_X8_22 E hT ha0 dX8_has_1 ?_
  refine lv_topi (fun x_1 ex_1 => ?_)
  refine lv_iload_n hx hb dX8_has_4 rfl (lv_at hl 1 rfl) ?_
  refine lv_iand hx hb dX8_has_5 ?_
  refine lv_topi (fun x_2 ex_2 => ?_)
  refine lv_if_eq (tgt := 13) hx hb dX8_has_6 (by decide) (fun c_3 => ?_) (fun c_3 => ?_)
  · have f_3 : x_2.toInt = 0 := r_eq rfl (by decide) c_3
    refine lv_iconst (v := 0) hx hb dX8_has_13 (by decide) ?_
    exact th_zret E hr hlk hs (Or.inl rfl) hT hS (Or.inl rfl) dX8_has_14
  · have f_3 : ¬ x_2.toInt = 0 := r_ne rfl (by decide) c_3
    have nz_x_2 : ¬ x_2 = 0 := c_3
    refine lv_iconst (v := 1) hx hb dX8_has_9 (by decide) ?_
    refine lv_goto (tgt := 14) hx hb dX8_has_10 (by decide) ?_
    exact th_zret E hr hlk hs (Or.inr rfl) hT hS (Or.inr rfl) dX8_has_14
set_option maxHeartbeats 4000000 in
set_option maxRecDepth 100000 in
/-- StreamEnds$Incoming.window: it ends, and the heap stays typed -/
theorem z_X3_window (l : Launch) (D : va_G) (cI cS : ClassId) (τ : Nat → Option Nat) (ρ : Nat → Nat → Nat) (hW : WF τ ρ) (H : Heap) (hT : TH D cI cS τ ρ H) (a0 : Nat) (ha0 : τ a0 = some 3) : MI l D cI cS τ ρ yX3_window cX3_window 1 (some .int) 0 0 H [.ref a0] (fun (r : Int32) (u : Heap) => True) (AT τ []) := by
  refine MI.of (by decide) (Nat.le_of_ble_eq_true rfl) ?_
  intro p e s m args below meth c E hml hr hlk hs ls hl
  have hx := E.1
  have hb := E.2.1
  have hown := E.2.2.1
  have hts := E.2.2.2.1
  have hS : SS (AT τ []) H H [] := SS.rf
  have hl : lv_has ls 1 [(0, .ref a0)] := hl
  refine lv_aload_n hx hb dX3_window_0 rfl (lv_at hl 0 rfl) ?_
  refine gf_X3_22 E hT ha0 dX3_window_1 ?_
  refine lv_topi (fun x_1 ex_1 => ?_)
  refine lv_aload_n hx hb dX3_window_4 rfl (lv_at hl 0 rfl) ?_
  refine gf_X3_15 E hT ha0 dX3_window_5 ?_
  refine lv_topi (fun x_2 ex_2 => ?_)
  refine lv_isub hx hb dX3_window_8 ?_
  refine lv_topi (fun x_3 ex_3 => ?_)
  exact th_iret E hr hlk hs hT hS trivial dX3_window_9
set_option maxHeartbeats 4000000 in
set_option maxRecDepth 100000 in
/-- StreamEnds$Incoming.nextHeld: it ends, and the heap stays typed -/
theorem z_X3_nextHeld (l : Launch) (D : va_G) (cI cS : ClassId) (τ : Nat → Option Nat) (ρ : Nat → Nat → Nat) (hW : WF τ ρ) (H : Heap) (hT : TH D cI cS τ ρ H) (a0 : Nat) (x0 : Int32) (ha0 : τ a0 = some 3) : MI l D cI cS τ ρ yX3_nextHeld cX3_nextHeld 3 (some .int) 0 0 H [.ref a0, .int x0] (fun (r : Int32) (u : Heap) => True) (AT τ []) := by
  refine MI.of (by decide) (Nat.le_of_ble_eq_true rfl) ?_
  intro p e s m args below meth c E hml hr hlk hs ls hl
  have hx := E.1
  have hb := E.2.1
  have hown := E.2.2.1
  have hts := E.2.2.2.1
  have hS : SS (AT τ []) H H [] := SS.rf
  have hl : lv_has ls 3 [(0, .ref a0), (1, .int x0)] := hl
  have L_2 : ∀ (n : Nat) (H_c2 : Heap) (lc_c2 : List Loc) (ls : Array Slot) (y2_2 : Int32) (g2_0 : Int32), TH D cI cS τ ρ H_c2 → SS (AT τ []) H H_c2 lc_c2 → lv_has ls 3 [(0, .ref a0), (1, .int x0), (2, .int y2_2)] → fi D 3 2 H_c2 a0 = g2_0 → (g2_0.toInt - y2_2.toInt).toNat < n → W p l e (rmO 0 0) s m args below meth c H_c2 lc_c2 0 0 (MQ below (va_Qi (fun (r : Int32) (u : Heap) => True) (Bt D cI cS τ ρ H) (AT τ [])) args s 0 0 (AT τ [])) (F0 m 2 ls []) := by
    intro n
    induction n with
    | zero => intro H_c2 lc_c2 ls y2_2 g2_0 hT_c2 hS_c2 hl hg2_0 hm; exact absurd hm (Nat.not_lt_zero _)
    | succ n ih_2 =>
      intro H_c2 lc_c2 ls y2_2 g2_0 hT_c2 hS_c2 hl hg2_0 hm_2
      refine lv_iload_n hx hb dX3_nextHeld_2 rfl (lv_at hl 2 rfl) ?_
      refine lv_aload_n hx hb dX3_nextHeld_3 rfl (lv_at hl 0 rfl) ?_
      refine gf_X3_22 E hT_c2 ha0 dX3_nextHeld_4 ?_
      refine th_topi (y := g2_0) hg2_0 ?_
      refine lv_icmp_ge (tgt := 29) hx hb dX3_nextHeld_7 (by decide) (fun c_1 => ?_) (fun c_1 => ?_)
      · have f_1 : g2_0.toInt ≤ y2_2.toInt := r_le rfl rfl c_1
        refine lv_iload_n hx hb dX3_nextHeld_29 rfl (lv_at hl 2 rfl) ?_
        exact th_iret E hr hlk hs hT_c2 hS_c2 trivial dX3_nextHeld_30
      · have f_1 : y2_2.toInt < g2_0.toInt := r_nle rfl rfl c_1
        refine lv_aload_n hx hb dX3_nextHeld_10 rfl (lv_at hl 0 rfl) ?_
        refine gf_X3_31 E hT_c2 ha0 dX3_nextHeld_11 ?_
        refine lv_topl (fun x_2 ex_2 => ?_)
        refine lv_iload_n hx hb dX3_nextHeld_14 rfl (lv_at hl 2 rfl) ?_
        obtain ⟨x_3, ex_3⟩ : ∃ y : Int64, (x_2.toUInt64 >>> (y2_2.toInt64.toUInt64 &&& Int64.toUInt64 63)).toInt64 = y := ⟨_, rfl⟩
        refine lv_lushr (v := x_3) hx hb dX3_nextHeld_15 ex_3 ?_
        refine lv_lconst (v := 1) hx hb dX3_nextHeld_16 (by decide) ?_
        refine lv_land hx hb dX3_nextHeld_17 ?_
        refine lv_topl (fun x_4 ex_4 => ?_)
        refine lv_lconst (v := 0) hx hb dX3_nextHeld_18 (by decide) ?_
        refine W.lcmp hx hb dX3_nextHeld_19 ?_
        refine lv_topi (fun x_5 ex_5 => ?_)
        refine lv_if_ne (tgt := 29) hx hb dX3_nextHeld_20 (by decide) (fun c_6 => ?_) (fun c_6 => ?_)
        · have f_6 : ¬ x_5.toInt = 0 := r_ne rfl (by decide) c_6
          have nz_x_5 : ¬ x_5 = 0 := c_6
          refine lv_iload_n hx hb dX3_nextHeld_29 rfl (lv_at hl 2 rfl) ?_
          exact th_iret E hr hlk hs hT_c2 hS_c2 trivial dX3_nextHeld_30
        · have f_6 : x_5.toInt = 0 := r_eq rfl (by decide) c_6
          obtain ⟨x_7, ex_7⟩ : ∃ y : Int32, y2_2 + 1 = y := ⟨_, rfl⟩
          have q_x_7 : x_7.toInt = y2_2.toInt + 1 := i_add (k := 1) (by decide) ex_7 (by have := i_min y2_2; omega) (by have := i_max y2_2; have := i_max g2_0; omega)
          refine lv_iinc (v := x_7) (lv' := [(2, .int x_7), (0, .ref a0), (1, .int x0)]) hx hb dX3_nextHeld_23 hl (k := 2) rfl (by rw [← ex_7]; rfl) (by decide) rfl (fun ls hl => ?_)
          refine lv_goto (tgt := 2) hx hb dX3_nextHeld_26 (by decide) ?_
          exact ih_2 H_c2 lc_c2 _ x_7 g2_0 hT_c2 hS_c2 (lv_sub hl [1, 2, 0] rfl) hg2_0 (by omega)
  refine lv_iload_n hx hb dX3_nextHeld_0 rfl (lv_at hl 1 rfl) ?_
  refine lv_istore_n (lv' := [(2, .int x0), (0, .ref a0), (1, .int x0)]) hx hb dX3_nextHeld_1 rfl hl (by decide) rfl (fun ls hl => ?_)
  exact L_2 _ H [] _ x0 (fi D 3 2 H a0) hT hS (lv_sub hl [1, 2, 0] rfl) rfl (Nat.lt_succ_self _)
set_option maxHeartbeats 4000000 in
set_option maxRecDepth 100000 in
/-- StreamEnds$Incoming.nextGap: it ends, and the heap stays typed -/
theorem z_X3_nextGap (l : Launch) (D : va_G) (cI cS : ClassId) (τ : Nat → Option Nat) (ρ : Nat → Nat → Nat) (hW : WF τ ρ) (H : Heap) (hT : TH D cI cS τ ρ H) (a0 : Nat) (x0 : Int32) (ha0 : τ a0 = some 3) : MI l D cI cS τ ρ yX3_nextGap cX3_nextGap 3 (some .int) 0 0 H [.ref a0, .int x0] (fun (r : Int32) (u : Heap) => True) (AT τ []) := by
  refine MI.of (by decide) (Nat.le_of_ble_eq_true rfl) ?_
  intro p e s m args below meth c E hml hr hlk hs ls hl
  have hx := E.1
  have hb := E.2.1
  have hown := E.2.2.1
  have hts := E.2.2.2.1
  have hS : SS (AT τ []) H H [] := SS.rf
  have hl : lv_has ls 3 [(0, .ref a0), (1, .int x0)] := hl
  have L_2 : ∀ (n : Nat) (H_c2 : Heap) (lc_c2 : List Loc) (ls : Array Slot) (y2_2 : Int32) (g2_0 : Int32), TH D cI cS τ ρ H_c2 → SS (AT τ []) H H_c2 lc_c2 → lv_has ls 3 [(0, .ref a0), (1, .int x0), (2, .int y2_2)] → fi D 3 2 H_c2 a0 = g2_0 → (g2_0.toInt - y2_2.toInt).toNat < n → W p l e (rmO 0 0) s m args below meth c H_c2 lc_c2 0 0 (MQ below (va_Qi (fun (r : Int32) (u : Heap) => True) (Bt D cI cS τ ρ H) (AT τ [])) args s 0 0 (AT τ [])) (F0 m 2 ls []) := by
    intro n
    induction n with
    | zero => intro H_c2 lc_c2 ls y2_2 g2_0 hT_c2 hS_c2 hl hg2_0 hm; exact absurd hm (Nat.not_lt_zero _)
    | succ n ih_2 =>
      intro H_c2 lc_c2 ls y2_2 g2_0 hT_c2 hS_c2 hl hg2_0 hm_2
      refine lv_iload_n hx hb dX3_nextGap_2 rfl (lv_at hl 2 rfl) ?_
      refine lv_aload_n hx hb dX3_nextGap_3 rfl (lv_at hl 0 rfl) ?_
      refine gf_X3_22 E hT_c2 ha0 dX3_nextGap_4 ?_
      refine th_topi (y := g2_0) hg2_0 ?_
      refine lv_icmp_ge (tgt := 29) hx hb dX3_nextGap_7 (by decide) (fun c_1 => ?_) (fun c_1 => ?_)
      · have f_1 : g2_0.toInt ≤ y2_2.toInt := r_le rfl rfl c_1
        refine lv_iload_n hx hb dX3_nextGap_29 rfl (lv_at hl 2 rfl) ?_
        exact th_iret E hr hlk hs hT_c2 hS_c2 trivial dX3_nextGap_30
      · have f_1 : y2_2.toInt < g2_0.toInt := r_nle rfl rfl c_1
        refine lv_aload_n hx hb dX3_nextGap_10 rfl (lv_at hl 0 rfl) ?_
        refine gf_X3_31 E hT_c2 ha0 dX3_nextGap_11 ?_
        refine lv_topl (fun x_2 ex_2 => ?_)
        refine lv_iload_n hx hb dX3_nextGap_14 rfl (lv_at hl 2 rfl) ?_
        obtain ⟨x_3, ex_3⟩ : ∃ y : Int64, (x_2.toUInt64 >>> (y2_2.toInt64.toUInt64 &&& Int64.toUInt64 63)).toInt64 = y := ⟨_, rfl⟩
        refine lv_lushr (v := x_3) hx hb dX3_nextGap_15 ex_3 ?_
        refine lv_lconst (v := 1) hx hb dX3_nextGap_16 (by decide) ?_
        refine lv_land hx hb dX3_nextGap_17 ?_
        refine lv_topl (fun x_4 ex_4 => ?_)
        refine lv_lconst (v := 0) hx hb dX3_nextGap_18 (by decide) ?_
        refine W.lcmp hx hb dX3_nextGap_19 ?_
        refine lv_topi (fun x_5 ex_5 => ?_)
        refine lv_if_eq (tgt := 29) hx hb dX3_nextGap_20 (by decide) (fun c_6 => ?_) (fun c_6 => ?_)
        · have f_6 : x_5.toInt = 0 := r_eq rfl (by decide) c_6
          refine lv_iload_n hx hb dX3_nextGap_29 rfl (lv_at hl 2 rfl) ?_
          exact th_iret E hr hlk hs hT_c2 hS_c2 trivial dX3_nextGap_30
        · have f_6 : ¬ x_5.toInt = 0 := r_ne rfl (by decide) c_6
          have nz_x_5 : ¬ x_5 = 0 := c_6
          obtain ⟨x_7, ex_7⟩ : ∃ y : Int32, y2_2 + 1 = y := ⟨_, rfl⟩
          have q_x_7 : x_7.toInt = y2_2.toInt + 1 := i_add (k := 1) (by decide) ex_7 (by have := i_min y2_2; omega) (by have := i_max y2_2; have := i_max g2_0; omega)
          refine lv_iinc (v := x_7) (lv' := [(2, .int x_7), (0, .ref a0), (1, .int x0)]) hx hb dX3_nextGap_23 hl (k := 2) rfl (by rw [← ex_7]; rfl) (by decide) rfl (fun ls hl => ?_)
          refine lv_goto (tgt := 2) hx hb dX3_nextGap_26 (by decide) ?_
          exact ih_2 H_c2 lc_c2 _ x_7 g2_0 hT_c2 hS_c2 (lv_sub hl [1, 2, 0] rfl) hg2_0 (by omega)
  refine lv_iload_n hx hb dX3_nextGap_0 rfl (lv_at hl 1 rfl) ?_
  refine lv_istore_n (lv' := [(2, .int x0), (0, .ref a0), (1, .int x0)]) hx hb dX3_nextGap_1 rfl hl (by decide) rfl (fun ls hl => ?_)
  exact L_2 _ H [] _ x0 (fi D 3 2 H a0) hT hS (lv_sub hl [1, 2, 0] rfl) rfl (Nat.lt_succ_self _)
set_option maxHeartbeats 4000000 in
set_option maxRecDepth 100000 in
/-- StreamEnds$Segment.addRange: it ends, and the heap stays typed -/
theorem z_X8_addRange (l : Launch) (D : va_G) (cI cS : ClassId) (τ : Nat → Option Nat) (ρ : Nat → Nat → Nat) (hW : WF τ ρ) (H : Heap) (hT : TH D cI cS τ ρ H) (a0 : Nat) (x0 : Int32) (x1 : Int32) (ha0 : τ a0 = some 8) : MV l D cI cS τ ρ yX8_addRange cX8_addRange 3 none 0 0 H [.ref a0, .int x0, .int x1] (fun (u : Heap) => True) (AT τ [8, 104]) := by
  refine MV.of (by decide) (Nat.le_of_ble_eq_true rfl) ?_
  intro p e s m args below meth c E hml hr hlk hs ls hl
  have hx := E.1
  have hb := E.2.1
  have hown := E.2.2.1
  have hts := E.2.2.2.1
  have hS : SS (AT τ [8, 104]) H H [] := SS.rf
  have hl : lv_has ls 3 [(0, .ref a0), (1, .int x0), (2, .int x1)] := hl
  refine lv_aload_n hx hb dX8_addRange_0 rfl (lv_at hl 0 rfl) ?_
  refine gf_X8_40 E hT ha0 dX8_addRange_1 ?_
  refine lv_topi (fun x_1 ex_1 => ?_)
  refine lv_if_lt (tgt := 51) hx hb dX8_addRange_4 (by decide) (fun c_2 => ?_) (fun c_2 => ?_)
  · have f_2 : x_1.toInt < 0 := r_lt rfl (by decide) c_2
    exact th_vret E hr hlk hs hT hS trivial dX8_addRange_51
  · have f_2 : 0 ≤ x_1.toInt := r_nlt rfl (by decide) c_2
    refine lv_aload_n hx hb dX8_addRange_7 rfl (lv_at hl 0 rfl) ?_
    refine gf_X8_40 E hT ha0 dX8_addRange_8 ?_
    refine th_topi (y := x_1) ex_1.symm ?_
    refine lv_iconst (v := 2) hx hb dX8_addRange_11 (by decide) ?_
    refine lv_icmp_ge (tgt := 51) hx hb dX8_addRange_12 (by decide) (fun c_3 => ?_) (fun c_3 => ?_)
    · have f_3 : 2 ≤ x_1.toInt := r_le (by decide) rfl c_3
      exact th_vret E hr hlk hs hT hS trivial dX8_addRange_51
    · have f_3 : x_1.toInt < 2 := r_nle (by decide) rfl c_3
      refine lv_aload_n hx hb dX8_addRange_15 rfl (lv_at hl 0 rfl) ?_
      refine gf_X8_15 E hT hW ha0 dX8_addRange_16 (fun h_4 => ?_)
      refine lv_iconst (v := 2) hx hb dX8_addRange_19 (by decide) ?_
      refine lv_aload_n hx hb dX8_addRange_20 rfl (lv_at hl 0 rfl) ?_
      refine gf_X8_40 E hT ha0 dX8_addRange_21 ?_
      refine th_topi (y := x_1) ex_1.symm ?_
      refine lv_imul hx hb dX8_addRange_24 ?_
      refine lv_topi (fun x_5 ex_5 => ?_)
      have q_5 : x_5.toInt = 2 * x_1.toInt := i_ml (by decide) rfl ex_5 (by omega) (by omega)
      refine lv_iload_n hx hb dX8_addRange_25 rfl (lv_at hl 1 rfl) ?_
      refine th_iast E hT hS h_4 ⟨_, h_4, by decide⟩ (by decide) (vp_in_iff.mpr ⟨by omega, by omega⟩) dX8_addRange_26 (fun H_6 locs_6 hT_6 hU_6 hS_6 => ?_)
      refine lv_aload_n hx hb dX8_addRange_27 rfl (lv_at hl 0 rfl) ?_
      refine gf_X8_15 E hT_6 hW ha0 dX8_addRange_28 (fun h_7 => ?_)
      refine lv_iconst (v := 2) hx hb dX8_addRange_31 (by decide) ?_
      refine lv_aload_n hx hb dX8_addRange_32 rfl (lv_at hl 0 rfl) ?_
      refine gf_X8_40 E hT_6 ha0 dX8_addRange_33 ?_
      refine th_topi (y := x_1) (Eq.trans (fi_q (hU_6.2 _ (th_ne ha0 h_4 (by decide)))) ex_1.symm) ?_
      refine lv_imul hx hb dX8_addRange_36 ?_
      refine lv_topi (fun x_8 ex_8 => ?_)
      have q_8 : x_8.toInt = 2 * x_1.toInt := i_ml (by decide) rfl ex_8 (by omega) (by omega)
      refine lv_iconst (v := 1) hx hb dX8_addRange_37 (by decide) ?_
      refine lv_iadd hx hb dX8_addRange_38 ?_
      refine lv_topi (fun x_9 ex_9 => ?_)
      have q_9 : x_9.toInt = x_8.toInt + 1 := i_pl rfl (by decide) ex_9 (by omega) (by omega)
      refine lv_iload_n hx hb dX8_addRange_39 rfl (lv_at hl 2 rfl) ?_
      refine th_iast E hT_6 hS_6 h_7 ⟨_, h_7, by decide⟩ (by decide) (vp_in_iff.mpr ⟨by omega, by omega⟩) dX8_addRange_40 (fun H_10 locs_10 hT_10 hU_10 hS_10 => ?_)
      refine lv_aload_n hx hb dX8_addRange_41 rfl (lv_at hl 0 rfl) ?_
      refine lv_dup hx hb dX8_addRange_42 rfl ?_
      refine gf_X8_40 E hT_10 ha0 dX8_addRange_43 ?_
      refine th_topi (y := x_1) (Eq.trans (fi_q (hU_10.2 _ (th_ne ha0 h_7 (by decide)))) (Eq.trans (fi_q (hU_6.2 _ (th_ne ha0 h_4 (by decide)))) ex_1.symm)) ?_
      refine lv_iconst (v := 1) hx hb dX8_addRange_46 (by decide) ?_
      refine lv_iadd hx hb dX8_addRange_47 ?_
      refine lv_topi (fun x_11 ex_11 => ?_)
      have q_11 : x_11.toInt = x_1.toInt + 1 := i_pl rfl (by decide) ex_11 (by omega) (by omega)
      refine pf_X8_40 E hT_10 hS_10 ha0 ⟨_, ha0, by decide⟩ dX8_addRange_48 (fun H_12 locs_12 hT_12 hU_12 hS_12 => ?_)
      exact th_vret E hr hlk hs hT_12 hS_12 trivial dX8_addRange_51
set_option maxHeartbeats 4000000 in
set_option maxRecDepth 100000 in
/-- StreamEnds$Endpoint.draft: it ends, and the heap stays typed -/
theorem z_X2_draft (l : Launch) (D : va_G) (cI cS : ClassId) (τ : Nat → Option Nat) (ρ : Nat → Nat → Nat) (hW : WF τ ρ) (H : Heap) (hT : TH D cI cS τ ρ H) (a0 : Nat) (x0 : Int32) (x1 : Int32) (ha0 : τ a0 = some 2) : MR l D cI cS τ ρ yX2_draft cX2_draft 7 (some (.object "StreamEnds$Segment")) 1 23 H [.ref a0, .int x0, .int x1] (fun (r : Nat) (u : Heap) => τ r = some 8) (AT τ [8, 104]) := by
  refine MR.of (by decide) (Nat.le_of_ble_eq_true rfl) ?_
  intro p e s m args below meth c E hml hr hlk hs ls hl
  have hx := E.1
  have hb := E.2.1
  have hown := E.2.2.1
  have hts := E.2.2.2.1
  have hS : SS (AT τ [8, 104]) H H [] := SS.rf
  have hl : lv_has ls 7 [(0, .ref a0), (1, .int x0), (2, .int x1)] := hl
  have L_93 : ∀ (n : Nat) (H_c93 : Heap) (lc_c93 : List Loc) (ls : Array Slot) (y93_3 : Nat) (y93_4 : Int32) (y93_5 : Int32), TH D cI cS τ ρ H_c93 → SS (AT τ [8, 104]) H H_c93 lc_c93 → lv_has ls 7 [(0, .ref a0), (1, .int x0), (2, .int x1), (3, .ref y93_3), (4, .int y93_4), (5, .int y93_5)] → τ y93_3 = some 8 → 0 ≤ y93_5.toInt → (2 - y93_5.toInt).toNat < n → W p l e (rmO 1 23) s m args below meth c H_c93 lc_c93 0 0 (MQ below (va_Qr (fun _ : Heap => True) (fun u a t => Bt D cI cS τ ρ H u t ∧ (fun (r : Nat) (u : Heap) => τ r = some 8) a u) (AT τ [8, 104])) args s 0 0 (AT τ [8, 104])) (F0 m 93 ls []) := by
    intro n
    induction n with
    | zero => intro H_c93 lc_c93 ls y93_3 y93_4 y93_5 hT_c93 hS_c93 hl ty93_3 ly93_5 hm; exact absurd hm (Nat.not_lt_zero _)
    | succ n ih_93 =>
      intro H_c93 lc_c93 ls y93_3 y93_4 y93_5 hT_c93 hS_c93 hl ty93_3 ly93_5 hm_93
      refine lv_iload hx hb dX2_draft_93 (lv_at hl 5 rfl) ?_
      refine lv_iconst (v := 2) hx hb dX2_draft_95 (by decide) ?_
      refine lv_icmp_ge (tgt := 173) hx hb dX2_draft_96 (by decide) (fun c_1 => ?_) (fun c_1 => ?_)
      · have f_1 : 2 ≤ y93_5.toInt := r_le (by decide) rfl c_1
        refine lv_aload_n hx hb dX2_draft_173 rfl (lv_at hl 3 rfl) ?_
        exact th_aret E hr hlk hs hT_c93 hS_c93 ty93_3 dX2_draft_174
      · have f_1 : y93_5.toInt < 2 := r_nle (by decide) rfl c_1
        refine lv_iload hx hb dX2_draft_99 (lv_at hl 4 rfl) ?_
        refine lv_aload_n hx hb dX2_draft_101 rfl (lv_at hl 0 rfl) ?_
        refine gf_X2_21 E hT_c93 hW ha0 dX2_draft_102 (fun h_2 => ?_)
        refine gf_X2_144 E hT_c93 h_2 dX2_draft_105 ?_
        refine lv_topi (fun x_3 ex_3 => ?_)
        refine lv_icmp_ge (tgt := 173) hx hb dX2_draft_108 (by decide) (fun c_4 => ?_) (fun c_4 => ?_)
        · have f_4 : x_3.toInt ≤ y93_4.toInt := r_le rfl rfl c_4
          refine lv_aload_n hx hb dX2_draft_173 rfl (lv_at hl 3 rfl) ?_
          exact th_aret E hr hlk hs hT_c93 hS_c93 ty93_3 dX2_draft_174
        · have f_4 : y93_4.toInt < x_3.toInt := r_nle rfl rfl c_4
          refine lv_aload_n hx hb dX2_draft_111 rfl (lv_at hl 0 rfl) ?_
          refine gf_X2_21 E hT_c93 hW ha0 dX2_draft_112 (fun h_5 => ?_)
          refine lv_iload hx hb dX2_draft_115 (lv_at hl 4 rfl) ?_
          refine th_Vi (As := [.int y93_4]) (rest := []) E hml hl.1 (z_X3_nextGap l D cI cS τ ρ hW H_c93 hT_c93 (ρ a0 5) y93_4 h_5) lk_X2_147 yd_X3_nextGap hT_c93 h_5 rfl (by decide) hS_c93 (AT.sub (by decide)) ⟨by decide, by decide⟩ (Nat.le_of_ble_eq_true rfl) ⟨by decide, by decide⟩ rfl dX2_draft_117 (fun r_6 H_6 locs_6 p_6 hT_6 hk_6 hS_6 => ?_)
          refine lv_istore (lv' := [(6, .int r_6), (0, .ref a0), (1, .int x0), (2, .int x1), (3, .ref y93_3), (4, .int y93_4), (5, .int y93_5)]) hx hb dX2_draft_120 hl (by decide) rfl (fun ls hl => ?_)
          refine lv_aload_n hx hb dX2_draft_122 rfl (lv_at hl 4 rfl) ?_
          refine lv_aload_n hx hb dX2_draft_123 rfl (lv_at hl 1 rfl) ?_
          refine gf_X2_36 E hT_6 hW ha0 dX2_draft_124 (fun h_7 => ?_)
          refine lv_iconst (v := 1) hx hb dX2_draft_127 (by decide) ?_
          refine lv_aload_n hx hb dX2_draft_128 rfl (lv_at hl 1 rfl) ?_
          refine gf_X2_32 E hT_6 ha0 dX2_draft_129 ?_
          refine th_topi (y := fi D 2 0 H_c93 a0) (fi_q (hk_6 _ (AT.out ha0 (by decide)))) ?_
          refine lv_topi (fun x_8 ex_8 => ?_)
          refine lv_isub hx hb dX2_draft_132 ?_
          refine lv_topi (fun x_9 ex_9 => ?_)
          refine lv_iload hx hb dX2_draft_133 (lv_at hl 5 rfl) ?_
          refine th_Vi (As := [.int x_9, .int y93_4]) (rest := [.ref y93_3]) E hml hl.1 (z_X1_number l D cI cS τ ρ hW H_6 hT_6 (ρ a0 1) x_9 y93_4 h_7) lk_X2_115 yd_X1_number hT_6 h_7 rfl (by decide) hS_6 (AT.sub (by decide)) ⟨by decide, by decide⟩ (Nat.le_of_ble_eq_true rfl) ⟨by decide, by decide⟩ rfl dX2_draft_135 (fun r_10 H_10 locs_10 p_10 hT_10 hk_10 hS_10 => ?_)
          refine lv_aload_n hx hb dX2_draft_138 rfl (lv_at hl 1 rfl) ?_
          refine gf_X2_36 E hT_10 hW ha0 dX2_draft_139 (fun h_11 => ?_)
          refine lv_iconst (v := 1) hx hb dX2_draft_142 (by decide) ?_
          refine lv_aload_n hx hb dX2_draft_143 rfl (lv_at hl 1 rfl) ?_
          refine gf_X2_32 E hT_10 ha0 dX2_draft_144 ?_
          refine th_topi (y := x_8) (Eq.trans (fi_q (hk_10 _ (AT.out ha0 (by decide)))) ((fi_q (hk_6 _ (AT.out ha0 (by decide)))).trans ex_8.symm)) ?_
          refine lv_isub hx hb dX2_draft_147 ?_
          refine lv_topi (fun x_12 ex_12 => ?_)
          refine lv_iload hx hb dX2_draft_148 (lv_at hl 0 rfl) ?_
          refine th_Vi (As := [.int x_12, .int r_6]) (rest := [.int r_10, .ref y93_3]) E hml hl.1 (z_X1_number l D cI cS τ ρ hW H_10 hT_10 (ρ a0 1) x_12 r_6 h_11) lk_X2_115 yd_X1_number hT_10 h_11 rfl (by decide) hS_10 (AT.sub (by decide)) ⟨by decide, by decide⟩ (Nat.le_of_ble_eq_true rfl) ⟨by decide, by decide⟩ rfl dX2_draft_150 (fun r_13 H_13 locs_13 p_13 hT_13 hk_13 hS_13 => ?_)
          refine th_Vv (As := [.int r_10, .int r_13]) (rest := []) E hml hl.1 (z_X8_addRange l D cI cS τ ρ hW H_13 hT_13 y93_3 r_10 r_13 ty93_3) lk_X2_150 yd_X8_addRange hT_13 ty93_3 rfl (by decide) hS_13 (AT.sub (by decide)) ⟨by decide, by decide⟩ (Nat.le_of_ble_eq_true rfl) ⟨by decide, by decide⟩ rfl dX2_draft_153 (fun H_14 locs_14 p_14 hT_14 hk_14 hS_14 => ?_)
          refine lv_aload_n hx hb dX2_draft_156 rfl (lv_at hl 1 rfl) ?_
          refine gf_X2_21 E hT_14 hW ha0 dX2_draft_157 (fun h_15 => ?_)
          refine lv_iload hx hb dX2_draft_160 (lv_at hl 0 rfl) ?_
          refine th_Vi (As := [.int r_6]) (rest := []) E hml hl.1 (z_X3_nextHeld l D cI cS τ ρ hW H_14 hT_14 (ρ a0 5) r_6 h_15) lk_X2_140 yd_X3_nextHeld hT_14 h_15 rfl (by decide) hS_14 (AT.sub (by decide)) ⟨by decide, by decide⟩ (Nat.le_of_ble_eq_true rfl) ⟨by decide, by decide⟩ rfl dX2_draft_162 (fun r_16 H_16 locs_16 p_16 hT_16 hk_16 hS_16 => ?_)
          refine lv_istore (lv' := [(4, .int r_16), (6, .int r_6), (0, .ref a0), (1, .int x0), (2, .int x1), (3, .ref y93_3), (5, .int y93_5)]) hx hb dX2_draft_165 hl (by decide) rfl (fun ls hl => ?_)
          obtain ⟨x_17, ex_17⟩ : ∃ y : Int32, y93_5 + 1 = y := ⟨_, rfl⟩
          have q_x_17 : x_17.toInt = y93_5.toInt + 1 := i_add (k := 1) (by decide) ex_17 (by have := i_min y93_5; omega) (by have := i_max y93_5; omega)
          refine lv_iinc (v := x_17) (lv' := [(5, .int x_17), (4, .int r_16), (6, .int r_6), (0, .ref a0), (1, .int x0), (2, .int x1), (3, .ref y93_3)]) hx hb dX2_draft_167 hl (k := 6) rfl (by rw [← ex_17]; rfl) (by decide) rfl (fun ls hl => ?_)
          refine lv_goto (tgt := 93) hx hb dX2_draft_170 (by decide) ?_
          exact ih_93 H_16 locs_16 _ y93_3 r_16 x_17 hT_16 hS_16 (lv_sub hl [3, 4, 5, 6, 1, 0] rfl) ty93_3 (by omega) (by omega)
  refine lv_aload_n hx hb dX2_draft_0 rfl (lv_at hl 0 rfl) ?_
  refine gf_X2_40 E hT hW ha0 dX2_draft_1 (fun h_18 => ?_)
  refine th_Vr (As := []) (rest := []) E hml hl.1 (z_X10_draft l D cI cS τ ρ hW H hT (ρ a0 2) h_18) lk_X2_109 yd_X10_draft hT h_18 rfl (by decide) hS (AT.sub (by decide)) ⟨by decide, by decide⟩ (Nat.le_of_ble_eq_true rfl) ⟨by decide, by decide⟩ rfl dX2_draft_4 (fun r_19 H_19 locs_19 p_19 hT_19 hk_19 hS_19 => ?_)
  refine lv_astore_n (lv' := [(3, .ref r_19), (0, .ref a0), (1, .int x0), (2, .int x1)]) hx hb dX2_draft_7 rfl hl (by decide) rfl (fun ls hl => ?_)
  refine lv_aload_n hx hb dX2_draft_8 rfl (lv_at hl 0 rfl) ?_
  refine lv_aload_n hx hb dX2_draft_9 rfl (lv_at hl 1 rfl) ?_
  refine gf_X2_32 E hT_19 ha0 dX2_draft_10 ?_
  refine th_topi (y := fi D 2 0 H a0) (fi_q (hk_19 _ (AT.out ha0 (by decide)))) ?_
  refine lv_topi (fun x_20 ex_20 => ?_)
  refine lv_iload_n hx hb dX2_draft_13 rfl (lv_at hl 2 rfl) ?_
  refine lv_aload_n hx hb dX2_draft_14 rfl (lv_at hl 1 rfl) ?_
  refine gf_X2_36 E hT_19 hW ha0 dX2_draft_15 (fun h_21 => ?_)
  refine lv_aload_n hx hb dX2_draft_18 rfl (lv_at hl 1 rfl) ?_
  refine gf_X2_32 E hT_19 ha0 dX2_draft_19 ?_
  refine th_topi (y := x_20) ((fi_q (hk_19 _ (AT.out ha0 (by decide)))).trans ex_20.symm) ?_
  refine lv_iload_n hx hb dX2_draft_22 rfl (lv_at hl 3 rfl) ?_
  refine th_Vi (As := [.int x_20, .int x1]) (rest := [.int x0, .int x_20, .ref r_19]) E hml hl.1 (z_X1_number l D cI cS τ ρ hW H_19 hT_19 (ρ a0 1) x_20 x1 h_21) lk_X2_115 yd_X1_number hT_19 h_21 rfl (by decide) hS_19 (AT.sub (by decide)) ⟨by decide, by decide⟩ (Nat.le_of_ble_eq_true rfl) ⟨by decide, by decide⟩ rfl dX2_draft_23 (fun r_22 H_22 locs_22 p_22 hT_22 hk_22 hS_22 => ?_)
  refine th_Vv (As := [.int x_20, .int x0, .int r_22]) (rest := []) E hml hl.1 (z_X8_begin l D cI cS τ ρ hW H_22 hT_22 r_19 x_20 x0 r_22 p_19) lk_X2_119 yd_X8_begin hT_22 p_19 rfl (by decide) hS_22 (AT.sub (by decide)) ⟨by decide, by decide⟩ (Nat.le_of_ble_eq_true rfl) ⟨by decide, by decide⟩ rfl dX2_draft_26 (fun H_23 locs_23 p_23 hT_23 hk_23 hS_23 => ?_)
  refine lv_aload_n hx hb dX2_draft_29 rfl (lv_at hl 0 rfl) ?_
  refine lv_iconst (v := 4) hx hb dX2_draft_30 (by decide) ?_
  refine th_Vi (As := [.int 4]) (rest := []) E hml hl.1 (z_X8_has l D cI cS τ ρ hW H_23 hT_23 r_19 4 p_19) lk_X2_125 yd_X8_has hT_23 p_19 rfl (by decide) hS_23 (AT.sub (by decide)) ⟨by decide, by decide⟩ (Nat.le_of_ble_eq_true rfl) ⟨by decide, by decide⟩ rfl dX2_draft_31 (fun r_24 H_24 locs_24 p_24 hT_24 hk_24 hS_24 => ?_)
  have z_24 := b_iv p_24
  refine lv_if_eq (tgt := 173) hx hb dX2_draft_34 (by decide) (fun c_25 => ?_) (fun c_25 => ?_)
  · have f_25 : r_24.toInt = 0 := r_eq rfl (by decide) c_25
    refine lv_aload_n hx hb dX2_draft_173 rfl (lv_at hl 0 rfl) ?_
    exact th_aret E hr hlk hs hT_24 hS_24 p_19 dX2_draft_174
  · have f_25 : ¬ r_24.toInt = 0 := r_ne rfl (by decide) c_25
    have nz_r_24 : ¬ r_24 = 0 := c_25
    refine lv_aload_n hx hb dX2_draft_37 rfl (lv_at hl 0 rfl) ?_
    refine lv_aload_n hx hb dX2_draft_38 rfl (lv_at hl 1 rfl) ?_
    refine gf_X2_36 E hT_24 hW ha0 dX2_draft_39 (fun h_26 => ?_)
    refine lv_iconst (v := 1) hx hb dX2_draft_42 (by decide) ?_
    refine lv_aload_n hx hb dX2_draft_43 rfl (lv_at hl 1 rfl) ?_
    refine gf_X2_32 E hT_24 ha0 dX2_draft_44 ?_
    refine th_topi (y := x_20) (Eq.trans (fi_q (hk_24 _ (AT.out ha0 (by decide)))) (Eq.trans (fi_q (hk_23 _ (AT.out ha0 (by decide)))) (Eq.trans (fi_q (hk_22 _ (AT.out ha0 (by decide)))) ((fi_q (hk_19 _ (AT.out ha0 (by decide)))).trans ex_20.symm)))) ?_
    refine lv_isub hx hb dX2_draft_47 ?_
    refine lv_topi (fun x_27 ex_27 => ?_)
    refine lv_aload_n hx hb dX2_draft_48 rfl (lv_at hl 1 rfl) ?_
    refine gf_X2_21 E hT_24 hW ha0 dX2_draft_49 (fun h_28 => ?_)
    refine gf_X2_129 E hT_24 h_28 dX2_draft_52 ?_
    refine th_topi (y := fi D 3 0 H (ρ a0 5)) (Eq.trans (fi_q (hk_24 _ (AT.out h_28 (by decide)))) (Eq.trans (fi_q (hk_23 _ (AT.out h_28 (by decide)))) (Eq.trans (fi_q (hk_22 _ (AT.out h_28 (by decide)))) (fi_q (hk_19 _ (AT.out h_28 (by decide))))))) ?_
    refine lv_topi (fun x_29 ex_29 => ?_)
    refine th_Vi (As := [.int x_27, .int x_29]) (rest := [.ref r_19]) E hml hl.1 (z_X1_number l D cI cS τ ρ hW H_24 hT_24 (ρ a0 1) x_27 x_29 h_26) lk_X2_115 yd_X1_number hT_24 h_26 rfl (by decide) hS_24 (AT.sub (by decide)) ⟨by decide, by decide⟩ (Nat.le_of_ble_eq_true rfl) ⟨by decide, by decide⟩ rfl dX2_draft_55 (fun r_30 H_30 locs_30 p_30 hT_30 hk_30 hS_30 => ?_)
    refine pf_X2_132 E hT_30 hS_30 p_19 ⟨_, p_19, by decide⟩ dX2_draft_58 (fun H_31 locs_31 hT_31 hU_31 hS_31 => ?_)
    refine lv_aload_n hx hb dX2_draft_61 rfl (lv_at hl 0 rfl) ?_
    refine lv_aload_n hx hb dX2_draft_62 rfl (lv_at hl 1 rfl) ?_
    refine gf_X2_21 E hT_31 hW ha0 dX2_draft_63 (fun h_32 => ?_)
    refine th_Vi (As := []) (rest := [.ref r_19]) E hml hl.1 (z_X3_window l D cI cS τ ρ hW H_31 hT_31 (ρ a0 5) h_32) lk_X2_135 yd_X3_window hT_31 h_32 rfl (by decide) hS_31 (AT.sub (by decide)) ⟨by decide, by decide⟩ (Nat.le_of_ble_eq_true rfl) ⟨by decide, by decide⟩ rfl dX2_draft_66 (fun r_33 H_33 locs_33 p_33 hT_33 hk_33 hS_33 => ?_)
    refine pf_X2_138 E hT_33 hS_33 p_19 ⟨_, p_19, by decide⟩ dX2_draft_69 (fun H_34 locs_34 hT_34 hU_34 hS_34 => ?_)
    refine lv_aload_n hx hb dX2_draft_72 rfl (lv_at hl 1 rfl) ?_
    refine gf_X2_21 E hT_34 hW ha0 dX2_draft_73 (fun h_35 => ?_)
    refine lv_aload_n hx hb dX2_draft_76 rfl (lv_at hl 1 rfl) ?_
    refine gf_X2_21 E hT_34 hW ha0 dX2_draft_77 (fun h_36 => ?_)
    refine gf_X2_129 E hT_34 h_36 dX2_draft_80 ?_
    refine th_topi (y := x_29) (Eq.trans (fi_q (hU_34.2.2 _ (th_ne h_36 p_19 (by decide)))) (Eq.trans (fi_q (hk_33 _ (AT.out h_36 (by decide)))) (Eq.trans (fi_q (hU_31.2.2 _ (th_ne h_36 p_19 (by decide)))) (Eq.trans (fi_q (hk_30 _ (AT.out h_36 (by decide)))) ((Eq.trans (fi_q (hk_24 _ (AT.out h_28 (by decide)))) (Eq.trans (fi_q (hk_23 _ (AT.out h_28 (by decide)))) (Eq.trans (fi_q (hk_22 _ (AT.out h_28 (by decide)))) (fi_q (hk_19 _ (AT.out h_28 (by decide))))))).trans ex_29.symm))))) ?_
    refine lv_iconst (v := 1) hx hb dX2_draft_83 (by decide) ?_
    refine lv_iadd hx hb dX2_draft_84 ?_
    refine lv_topi (fun x_37 ex_37 => ?_)
    refine th_Vi (As := [.int x_37]) (rest := []) E hml hl.1 (z_X3_nextHeld l D cI cS τ ρ hW H_34 hT_34 (ρ a0 5) x_37 h_35) lk_X2_140 yd_X3_nextHeld hT_34 h_35 rfl (by decide) hS_34 (AT.sub (by decide)) ⟨by decide, by decide⟩ (Nat.le_of_ble_eq_true rfl) ⟨by decide, by decide⟩ rfl dX2_draft_85 (fun r_38 H_38 locs_38 p_38 hT_38 hk_38 hS_38 => ?_)
    refine lv_istore (lv' := [(4, .int r_38), (3, .ref r_19), (0, .ref a0), (1, .int x0), (2, .int x1)]) hx hb dX2_draft_88 hl (by decide) rfl (fun ls hl => ?_)
    refine lv_iconst (v := 0) hx hb dX2_draft_90 (by decide) ?_
    refine lv_istore (lv' := [(5, .int 0), (4, .int r_38), (3, .ref r_19), (0, .ref a0), (1, .int x0), (2, .int x1)]) hx hb dX2_draft_91 hl (by decide) rfl (fun ls hl => ?_)
    exact L_93 _ H_38 locs_38 _ r_19 r_38 0 hT_38 hS_38 (lv_sub hl [3, 4, 5, 2, 1, 0] rfl) p_19 (by decide) (Nat.lt_succ_self _)
set_option maxHeartbeats 4000000 in
set_option maxRecDepth 100000 in
/-- StreamEnds$Wire.sendDraft: it ends, and the heap stays typed -/
theorem z_X10_sendDraft (l : Launch) (D : va_G) (cI cS : ClassId) (τ : Nat → Option Nat) (ρ : Nat → Nat → Nat) (hW : WF τ ρ) (H : Heap) (hT : TH D cI cS τ ρ H) (a0 : Nat) (ha0 : τ a0 = some 10) : MV l D cI cS τ ρ yX10_sendDraft cX10_sendDraft 1 none 0 0 H [.ref a0] (fun (u : Heap) => True) (AT τ [10]) := by
  refine MV.of (by decide) (Nat.le_of_ble_eq_true rfl) ?_
  intro p e s m args below meth c E hml hr hlk hs ls hl
  have hx := E.1
  have hb := E.2.1
  have hown := E.2.2.1
  have hts := E.2.2.2.1
  have hS : SS (AT τ [10]) H H [] := SS.rf
  have hl : lv_has ls 1 [(0, .ref a0)] := hl
  refine lv_aload_n hx hb dX10_sendDraft_0 rfl (lv_at hl 0 rfl) ?_
  refine lv_dup hx hb dX10_sendDraft_1 rfl ?_
  refine gf_X10_26 E hT ha0 dX10_sendDraft_2 ?_
  refine lv_topi (fun x_1 ex_1 => ?_)
  refine lv_iconst (v := 1) hx hb dX10_sendDraft_5 (by decide) ?_
  refine lv_iadd hx hb dX10_sendDraft_6 ?_
  refine lv_topi (fun x_2 ex_2 => ?_)
  refine pf_X10_26 E hT hS ha0 ⟨_, ha0, by decide⟩ dX10_sendDraft_7 (fun H_3 locs_3 hT_3 hU_3 hS_3 => ?_)
  refine lv_aload_n hx hb dX10_sendDraft_10 rfl (lv_at hl 0 rfl) ?_
  refine gf_X10_22 E hT_3 ha0 dX10_sendDraft_11 ?_
  refine th_topi (y := fi D 10 2 H a0) (PU.io hU_3 (j := 2) (by decide) (by decide)) ?_
  refine lv_topi (fun x_4 ex_4 => ?_)
  refine lv_bipush (v := 20) hx hb dX10_sendDraft_14 (by decide) ?_
  refine lv_icmp_ge (tgt := 32) hx hb dX10_sendDraft_16 (by decide) (fun c_5 => ?_) (fun c_5 => ?_)
  · have f_5 : 20 ≤ x_4.toInt := r_le (by decide) rfl c_5
    refine lv_aload_n hx hb dX10_sendDraft_32 rfl (lv_at hl 0 rfl) ?_
    refine lv_dup hx hb dX10_sendDraft_33 rfl ?_
    refine gf_X10_29 E hT_3 ha0 dX10_sendDraft_34 ?_
    refine th_topi (y := fi D 10 4 H a0) (PU.io hU_3 (j := 4) (by decide) (by decide)) ?_
    refine lv_topi (fun x_6 ex_6 => ?_)
    refine lv_iconst (v := 1) hx hb dX10_sendDraft_37 (by decide) ?_
    refine lv_iadd hx hb dX10_sendDraft_38 ?_
    refine lv_topi (fun x_7 ex_7 => ?_)
    refine pf_X10_29 E hT_3 hS_3 ha0 ⟨_, ha0, by decide⟩ dX10_sendDraft_39 (fun H_8 locs_8 hT_8 hU_8 hS_8 => ?_)
    exact th_vret E hr hlk hs hT_8 hS_8 trivial dX10_sendDraft_42
  · have f_5 : x_4.toInt < 20 := r_nle (by decide) rfl c_5
    refine lv_aload_n hx hb dX10_sendDraft_19 rfl (lv_at hl 0 rfl) ?_
    refine lv_dup hx hb dX10_sendDraft_20 rfl ?_
    refine gf_X10_22 E hT_3 ha0 dX10_sendDraft_21 ?_
    refine th_topi (y := x_4) ((PU.io hU_3 (j := 2) (by decide) (by decide)).trans ex_4.symm) ?_
    refine lv_iconst (v := 1) hx hb dX10_sendDraft_24 (by decide) ?_
    refine lv_iadd hx hb dX10_sendDraft_25 ?_
    refine lv_topi (fun x_9 ex_9 => ?_)
    have q_x_9 : x_9.toInt = x_4.toInt + 1 := i_add (k := 1) (by decide) ex_9.symm (by have := i_min x_4; omega) (by have := i_max x_4; omega)
    refine pf_X10_22 E hT_3 hS_3 ha0 ⟨_, ha0, by decide⟩ dX10_sendDraft_26 (fun H_10 locs_10 hT_10 hU_10 hS_10 => ?_)
    refine lv_goto (tgt := 42) hx hb dX10_sendDraft_29 (by decide) ?_
    exact th_vret E hr hlk hs hT_10 hS_10 trivial dX10_sendDraft_42
set_option maxHeartbeats 4000000 in
set_option maxRecDepth 100000 in
/-- StreamEnds$Outgoing.sendable: it ends, and the heap stays typed -/
theorem z_X5_sendable (l : Launch) (D : va_G) (cI cS : ClassId) (τ : Nat → Option Nat) (ρ : Nat → Nat → Nat) (hW : WF τ ρ) (H : Heap) (hT : TH D cI cS τ ρ H) (a0 : Nat) (x0 : Int32) (ha0 : τ a0 = some 5) : MI l D cI cS τ ρ yX5_sendable cX5_sendable 2 (some .int) 2 35 H [.ref a0, .int x0] (fun (r : Int32) (u : Heap) => True) (AT τ []) := by
  refine MI.of (by decide) (Nat.le_of_ble_eq_true rfl) ?_
  intro p e s m args below meth c E hml hr hlk hs ls hl
  have hx := E.1
  have hb := E.2.1
  have hown := E.2.2.1
  have hts := E.2.2.2.1
  have hS : SS (AT τ []) H H [] := SS.rf
  have hl : lv_has ls 2 [(0, .ref a0), (1, .int x0)] := hl
  refine lv_iload_n hx hb dX5_sendable_0 rfl (lv_at hl 1 rfl) ?_
  refine lv_aload_n hx hb dX5_sendable_1 rfl (lv_at hl 0 rfl) ?_
  refine th_Vi (As := []) (rest := [.int x0]) E hml hl.1 (z_X5_unsent l D cI cS τ ρ hW H hT a0 ha0) lk_X5_51 yd_X5_unsent hT ha0 rfl (by decide) hS (AT.sub (by decide)) ⟨by decide, by decide⟩ (Nat.le_of_ble_eq_true rfl) ⟨by decide, by decide⟩ rfl dX5_sendable_2 (fun r_1 H_1 locs_1 p_1 hT_1 hk_1 hS_1 => ?_)
  refine lv_aload_n hx hb dX5_sendable_5 rfl (lv_at hl 0 rfl) ?_
  refine gf_X5_22 E hT_1 ha0 dX5_sendable_6 ?_
  refine th_topi (y := fi D 5 2 H a0) (fi_q (hk_1 _ (AT.out ha0 (by decide)))) ?_
  refine lv_topi (fun x_2 ex_2 => ?_)
  refine lv_aload_n hx hb dX5_sendable_9 rfl (lv_at hl 0 rfl) ?_
  refine gf_X5_19 E hT_1 ha0 dX5_sendable_10 ?_
  refine th_topi (y := fi D 5 1 H a0) (fi_q (hk_1 _ (AT.out ha0 (by decide)))) ?_
  refine lv_topi (fun x_3 ex_3 => ?_)
  refine lv_isub hx hb dX5_sendable_13 ?_
  refine lv_topi (fun x_4 ex_4 => ?_)
  refine mm_X5_55 E hml hl.1 (by decide) (Nat.le_of_ble_eq_true rfl) ⟨by decide, by decide⟩ dX5_sendable_14 ?_
  refine lv_topi (fun x_5 ex_5 => ?_)
  have q_5 := i_minq (x := r_1) (y := x_4) (a := r_1.toInt) (b := x_4.toInt) rfl rfl ex_5
  refine mm_X5_55 E hml hl.1 (by decide) (Nat.le_of_ble_eq_true rfl) ⟨by decide, by decide⟩ dX5_sendable_17 ?_
  refine lv_topi (fun x_6 ex_6 => ?_)
  have q_6 := i_minq (x := x0) (y := x_5) (a := x0.toInt) (b := x_5.toInt) rfl rfl ex_6
  exact th_iret E hr hlk hs hT_1 hS_1 trivial dX5_sendable_20
set_option maxHeartbeats 4000000 in
set_option maxRecDepth 100000 in
/-- StreamEnds$Outgoing.byteAt: it ends, and the heap stays typed -/
theorem z_X5_byteAt (l : Launch) (D : va_G) (cI cS : ClassId) (τ : Nat → Option Nat) (ρ : Nat → Nat → Nat) (hW : WF τ ρ) (H : Heap) (hT : TH D cI cS τ ρ H) (a0 : Nat) (x0 : Int32) (ha0 : τ a0 = some 5) : MI l D cI cS τ ρ yX5_byteAt cX5_byteAt 2 (some .int) 0 0 H [.ref a0, .int x0] (fun (r : Int32) (u : Heap) => True) (AT τ []) := by
  refine MI.of (by decide) (Nat.le_of_ble_eq_true rfl) ?_
  intro p e s m args below meth c E hml hr hlk hs ls hl
  have hx := E.1
  have hb := E.2.1
  have hown := E.2.2.1
  have hts := E.2.2.2.1
  have hS : SS (AT τ []) H H [] := SS.rf
  have hl : lv_has ls 2 [(0, .ref a0), (1, .int x0)] := hl
  refine lv_aload_n hx hb dX5_byteAt_0 rfl (lv_at hl 0 rfl) ?_
  refine gf_X5_9 E hT hW ha0 dX5_byteAt_1 (fun h_1 => ?_)
  refine lv_iload_n hx hb dX5_byteAt_4 rfl (lv_at hl 1 rfl) ?_
  refine lv_bipush (v := 63) hx hb dX5_byteAt_5 (by decide) ?_
  refine lv_iand hx hb dX5_byteAt_7 ?_
  refine lv_topi (fun x_2 ex_2 => ?_)
  have m_2 : 0 ≤ x_2.toInt ∧ x_2.toInt ≤ 63 := by rw [ex_2]; exact i_mask
  refine th_iald E hT h_1 (by decide) (vp_in_iff.mpr ⟨by omega, by omega⟩) dX5_byteAt_8 ?_
  refine lv_topi (fun x_3 ex_3 => ?_)
  exact th_iret E hr hlk hs hT hS trivial dX5_byteAt_9
set_option maxHeartbeats 4000000 in
set_option maxRecDepth 100000 in
/-- StreamEnds$Segment.addByte: it ends, and the heap stays typed -/
theorem z_X8_addByte (l : Launch) (D : va_G) (cI cS : ClassId) (τ : Nat → Option Nat) (ρ : Nat → Nat → Nat) (hW : WF τ ρ) (H : Heap) (hT : TH D cI cS τ ρ H) (a0 : Nat) (x0 : Int32) (ha0 : τ a0 = some 8) : MV l D cI cS τ ρ yX8_addByte cX8_addByte 2 none 0 0 H [.ref a0, .int x0] (fun (u : Heap) => True) (AT τ [8, 108]) := by
  refine MV.of (by decide) (Nat.le_of_ble_eq_true rfl) ?_
  intro p e s m args below meth c E hml hr hlk hs ls hl
  have hx := E.1
  have hb := E.2.1
  have hown := E.2.2.1
  have hts := E.2.2.2.1
  have hS : SS (AT τ [8, 108]) H H [] := SS.rf
  have hl : lv_has ls 2 [(0, .ref a0), (1, .int x0)] := hl
  refine lv_aload_n hx hb dX8_addByte_0 rfl (lv_at hl 0 rfl) ?_
  refine gf_X8_37 E hT ha0 dX8_addByte_1 ?_
  refine lv_topi (fun x_1 ex_1 => ?_)
  refine lv_if_lt (tgt := 36) hx hb dX8_addByte_4 (by decide) (fun c_2 => ?_) (fun c_2 => ?_)
  · have f_2 : x_1.toInt < 0 := r_lt rfl (by decide) c_2
    exact th_vret E hr hlk hs hT hS trivial dX8_addByte_36
  · have f_2 : 0 ≤ x_1.toInt := r_nlt rfl (by decide) c_2
    refine lv_aload_n hx hb dX8_addByte_7 rfl (lv_at hl 0 rfl) ?_
    refine gf_X8_37 E hT ha0 dX8_addByte_8 ?_
    refine th_topi (y := x_1) ex_1.symm ?_
    refine lv_bipush (v := 8) hx hb dX8_addByte_11 (by decide) ?_
    refine lv_icmp_ge (tgt := 36) hx hb dX8_addByte_13 (by decide) (fun c_3 => ?_) (fun c_3 => ?_)
    · have f_3 : 8 ≤ x_1.toInt := r_le (by decide) rfl c_3
      exact th_vret E hr hlk hs hT hS trivial dX8_addByte_36
    · have f_3 : x_1.toInt < 8 := r_nle (by decide) rfl c_3
      refine lv_aload_n hx hb dX8_addByte_16 rfl (lv_at hl 0 rfl) ?_
      refine gf_X8_9 E hT hW ha0 dX8_addByte_17 (fun h_4 => ?_)
      refine lv_aload_n hx hb dX8_addByte_20 rfl (lv_at hl 0 rfl) ?_
      refine gf_X8_37 E hT ha0 dX8_addByte_21 ?_
      refine th_topi (y := x_1) ex_1.symm ?_
      refine lv_iload_n hx hb dX8_addByte_24 rfl (lv_at hl 1 rfl) ?_
      refine th_iast E hT hS h_4 ⟨_, h_4, by decide⟩ (by decide) (vp_in_iff.mpr ⟨by omega, by omega⟩) dX8_addByte_25 (fun H_5 locs_5 hT_5 hU_5 hS_5 => ?_)
      refine lv_aload_n hx hb dX8_addByte_26 rfl (lv_at hl 0 rfl) ?_
      refine lv_dup hx hb dX8_addByte_27 rfl ?_
      refine gf_X8_37 E hT_5 ha0 dX8_addByte_28 ?_
      refine th_topi (y := x_1) (Eq.trans (fi_q (hU_5.2 _ (th_ne ha0 h_4 (by decide)))) ex_1.symm) ?_
      refine lv_iconst (v := 1) hx hb dX8_addByte_31 (by decide) ?_
      refine lv_iadd hx hb dX8_addByte_32 ?_
      refine lv_topi (fun x_6 ex_6 => ?_)
      have q_6 : x_6.toInt = x_1.toInt + 1 := i_pl rfl (by decide) ex_6 (by omega) (by omega)
      refine pf_X8_37 E hT_5 hS_5 ha0 ⟨_, ha0, by decide⟩ dX8_addByte_33 (fun H_7 locs_7 hT_7 hU_7 hS_7 => ?_)
      exact th_vret E hr hlk hs hT_7 hS_7 trivial dX8_addByte_36
set_option maxHeartbeats 4000000 in
set_option maxRecDepth 100000 in
/-- StreamEnds$Segment.length: it ends, and the heap stays typed -/
theorem z_X8_length (l : Launch) (D : va_G) (cI cS : ClassId) (τ : Nat → Option Nat) (ρ : Nat → Nat → Nat) (hW : WF τ ρ) (H : Heap) (hT : TH D cI cS τ ρ H) (a0 : Nat) (ha0 : τ a0 = some 8) : MI l D cI cS τ ρ yX8_length cX8_length 1 (some .int) 1 21 H [.ref a0] (fun (r : Int32) (u : Heap) => True) (AT τ []) := by
  refine MI.of (by decide) (Nat.le_of_ble_eq_true rfl) ?_
  intro p e s m args below meth c E hml hr hlk hs ls hl
  have hx := E.1
  have hb := E.2.1
  have hown := E.2.2.1
  have hts := E.2.2.2.1
  have hS : SS (AT τ []) H H [] := SS.rf
  have hl : lv_has ls 1 [(0, .ref a0)] := hl
  have J_17 : ∀ (H_c17 : Heap) (lc_c17 : List Loc) (ls : Array Slot) (z17_0 : Int32) (z17_1 : Int32), TH D cI cS τ ρ H_c17 → SS (AT τ []) H H_c17 lc_c17 → lv_has ls 1 [(0, .ref a0)] → z17_1 = 0 ∨ z17_1 = 1 → W p l e (rmO 1 21) s m args below meth c H_c17 lc_c17 0 0 (MQ below (va_Qi (fun (r : Int32) (u : Heap) => True) (Bt D cI cS τ ρ H) (AT τ [])) args s 0 0 (AT τ [])) (F0 m 17 ls [.int z17_1, .int z17_0]) := by
    intro H_c17 lc_c17 ls z17_0 z17_1 hT_c17 hS_c17 hl bz17_1
    have z_z17_1 := b_iv bz17_1
    refine lv_iadd hx hb dX8_length_17 ?_
    refine lv_topi (fun x_1 ex_1 => ?_)
    refine lv_aload_n hx hb dX8_length_18 rfl (lv_at hl 0 rfl) ?_
    refine lv_iconst (v := 2) hx hb dX8_length_19 (by decide) ?_
    refine th_Vi (As := [.int 2]) (rest := [.int x_1]) E hml hl.1 (z_X8_has l D cI cS τ ρ hW H_c17 hT_c17 a0 2 ha0) lk_X8_49 yd_X8_has hT_c17 ha0 rfl (by decide) hS_c17 (AT.sub (by decide)) ⟨by decide, by decide⟩ (Nat.le_of_ble_eq_true rfl) ⟨by decide, by decide⟩ rfl dX8_length_20 (fun r_2 H_2 locs_2 p_2 hT_2 hk_2 hS_2 => ?_)
    have z_2 := b_iv p_2
    refine lv_if_eq (tgt := 30) hx hb dX8_length_23 (by decide) (fun c_3 => ?_) (fun c_3 => ?_)
    · have f_3 : r_2.toInt = 0 := r_eq rfl (by decide) c_3
      refine lv_iconst (v := 0) hx hb dX8_length_30 (by decide) ?_
      refine lv_iadd hx hb dX8_length_31 ?_
      refine lv_topi (fun x_4 ex_4 => ?_)
      have q_x_4 : x_4.toInt = x_1.toInt + 0 := i_add (k := 0) (by decide) ex_4.symm (by have := i_min x_1; omega) (by have := i_max x_1; omega)
      exact th_iret E hr hlk hs hT_2 hS_2 trivial dX8_length_32
    · have f_3 : ¬ r_2.toInt = 0 := r_ne rfl (by decide) c_3
      have nz_r_2 : ¬ r_2 = 0 := c_3
      refine lv_iconst (v := 1) hx hb dX8_length_26 (by decide) ?_
      refine lv_goto (tgt := 31) hx hb dX8_length_27 (by decide) ?_
      refine lv_iadd hx hb dX8_length_31 ?_
      refine lv_topi (fun x_5 ex_5 => ?_)
      exact th_iret E hr hlk hs hT_2 hS_2 trivial dX8_length_32
  refine lv_aload_n hx hb dX8_length_0 rfl (lv_at hl 0 rfl) ?_
  refine gf_X8_37 E hT ha0 dX8_length_1 ?_
  refine lv_topi (fun x_6 ex_6 => ?_)
  refine lv_aload_n hx hb dX8_length_4 rfl (lv_at hl 0 rfl) ?_
  refine lv_iconst (v := 1) hx hb dX8_length_5 (by decide) ?_
  refine th_Vi (As := [.int 1]) (rest := [.int x_6]) E hml hl.1 (z_X8_has l D cI cS τ ρ hW H hT a0 1 ha0) lk_X8_49 yd_X8_has hT ha0 rfl (by decide) hS (AT.sub (by decide)) ⟨by decide, by decide⟩ (Nat.le_of_ble_eq_true rfl) ⟨by decide, by decide⟩ rfl dX8_length_6 (fun r_7 H_7 locs_7 p_7 hT_7 hk_7 hS_7 => ?_)
  have z_7 := b_iv p_7
  refine lv_if_eq (tgt := 16) hx hb dX8_length_9 (by decide) (fun c_8 => ?_) (fun c_8 => ?_)
  · have f_8 : r_7.toInt = 0 := r_eq rfl (by decide) c_8
    refine lv_iconst (v := 0) hx hb dX8_length_16 (by decide) ?_
    exact J_17 H_7 locs_7 _ x_6 0 hT_7 hS_7 hl (Or.inl rfl)
  · have f_8 : ¬ r_7.toInt = 0 := r_ne rfl (by decide) c_8
    have nz_r_7 : ¬ r_7 = 0 := c_8
    refine lv_iconst (v := 1) hx hb dX8_length_12 (by decide) ?_
    refine lv_goto (tgt := 17) hx hb dX8_length_13 (by decide) ?_
    exact J_17 H_7 locs_7 _ x_6 1 hT_7 hS_7 hl (Or.inr rfl)
set_option maxHeartbeats 4000000 in
set_option maxRecDepth 100000 in
/-- StreamEnds$RoundTrips.startTiming: it ends, and the heap stays typed -/
theorem z_X7_startTiming (l : Launch) (D : va_G) (cI cS : ClassId) (τ : Nat → Option Nat) (ρ : Nat → Nat → Nat) (hW : WF τ ρ) (H : Heap) (hT : TH D cI cS τ ρ H) (a0 : Nat) (x0 : Int32) (x1 : Int32) (ha0 : τ a0 = some 7) : MV l D cI cS τ ρ yX7_startTiming cX7_startTiming 3 none 0 0 H [.ref a0, .int x0, .int x1] (fun (u : Heap) => True) (AT τ [7]) := by
  refine MV.of (by decide) (Nat.le_of_ble_eq_true rfl) ?_
  intro p e s m args below meth c E hml hr hlk hs ls hl
  have hx := E.1
  have hb := E.2.1
  have hown := E.2.2.1
  have hts := E.2.2.2.1
  have hS : SS (AT τ [7]) H H [] := SS.rf
  have hl : lv_has ls 3 [(0, .ref a0), (1, .int x0), (2, .int x1)] := hl
  refine lv_aload_n hx hb dX7_startTiming_0 rfl (lv_at hl 0 rfl) ?_
  refine gf_X7_25 E hT ha0 dX7_startTiming_1 ?_
  refine lv_topi (fun x_1 ex_1 => ?_)
  refine lv_bipush (v := (-4)) hx hb dX7_startTiming_4 (by decide) ?_
  refine lv_icmp_ne (tgt := 19) hx hb dX7_startTiming_6 (by decide) (fun c_2 => ?_) (fun c_2 => ?_)
  · have f_2 : ¬ x_1.toInt = -4 := r_ne rfl (by decide) c_2
    exact th_vret E hr hlk hs hT hS trivial dX7_startTiming_19
  · have f_2 : x_1.toInt = -4 := r_eq rfl (by decide) c_2
    refine lv_aload_n hx hb dX7_startTiming_9 rfl (lv_at hl 0 rfl) ?_
    refine lv_iload_n hx hb dX7_startTiming_10 rfl (lv_at hl 1 rfl) ?_
    refine pf_X7_25 E hT hS ha0 ⟨_, ha0, by decide⟩ dX7_startTiming_11 (fun H_3 locs_3 hT_3 hU_3 hS_3 => ?_)
    refine lv_aload_n hx hb dX7_startTiming_14 rfl (lv_at hl 0 rfl) ?_
    refine lv_iload_n hx hb dX7_startTiming_15 rfl (lv_at hl 2 rfl) ?_
    refine pf_X7_28 E hT_3 hS_3 ha0 ⟨_, ha0, by decide⟩ dX7_startTiming_16 (fun H_4 locs_4 hT_4 hU_4 hS_4 => ?_)
    exact th_vret E hr hlk hs hT_4 hS_4 trivial dX7_startTiming_19
set_option maxHeartbeats 4000000 in
set_option maxRecDepth 100000 in
/-- StreamEnds$Endpoint.sendData: it ends, and the heap stays typed -/
theorem z_X2_sendData (l : Launch) (D : va_G) (cI cS : ClassId) (τ : Nat → Option Nat) (ρ : Nat → Nat → Nat) (hW : WF τ ρ) (H : Heap) (hT : TH D cI cS τ ρ H) (a0 : Nat) (x0 : Int32) (x1 : Int32) (x2 : Int32) (ha0 : τ a0 = some 2) (bb_x2 : x2 = 0 ∨ x2 = 1) : MV l D cI cS τ ρ yX2_sendData cX2_sendData 6 none 2 49 H [.ref a0, .int x0, .int x1, .int x2] (fun (u : Heap) => True) (AT τ [5, 7, 8, 10, 104, 108]) := by
  refine MV.of (by decide) (Nat.le_of_ble_eq_true rfl) ?_
  intro p e s m args below meth c E hml hr hlk hs ls hl
  have hx := E.1
  have hb := E.2.1
  have hown := E.2.2.1
  have hts := E.2.2.2.1
  have hS : SS (AT τ [5, 7, 8, 10, 104, 108]) H H [] := SS.rf
  have hl : lv_has ls 6 [(0, .ref a0), (1, .int x0), (2, .int x1), (3, .int x2)] := hl
  have z_x2 := b_iv bb_x2
  have J_82 : ∀ (H_c82 : Heap) (lc_c82 : List Loc) (ls : Array Slot) (y82_4 : Nat) (y82_5 : Int32), TH D cI cS τ ρ H_c82 → SS (AT τ [5, 7, 8, 10, 104, 108]) H H_c82 lc_c82 → lv_has ls 6 [(0, .ref a0), (1, .int x0), (2, .int x1), (3, .int x2), (4, .ref y82_4), (5, .int y82_5)] → x2 = 0 ∨ x2 = 1 → τ y82_4 = some 8 → 0 ≤ y82_5.toInt → W p l e (rmO 2 49) s m args below meth c H_c82 lc_c82 0 0 (MQ below (va_Qv (fun (u : Heap) => True) (Bt D cI cS τ ρ H) (AT τ [5, 7, 8, 10, 104, 108])) args s 0 0 (AT τ [5, 7, 8, 10, 104, 108])) (F0 m 82 ls []) := by
    intro H_c82 lc_c82 ls y82_4 y82_5 hT_c82 hS_c82 hl by82_3 ty82_4 ly82_5
    have z_y82_3 := b_iv by82_3
    refine lv_aload_n hx hb dX2_sendData_82 rfl (lv_at hl 0 rfl) ?_
    refine gf_X2_40 E hT_c82 hW ha0 dX2_sendData_83 (fun h_1 => ?_)
    refine th_Vv (As := []) (rest := []) E hml hl.1 (z_X10_sendDraft l D cI cS τ ρ hW H_c82 hT_c82 (ρ a0 2) h_1) lk_X2_168 yd_X10_sendDraft hT_c82 h_1 rfl (by decide) hS_c82 (AT.sub (by decide)) ⟨by decide, by decide⟩ (Nat.le_of_ble_eq_true rfl) ⟨by decide, by decide⟩ rfl dX2_sendData_86 (fun H_2 locs_2 p_2 hT_2 hk_2 hS_2 => ?_)
    refine lv_aload hx hb dX2_sendData_89 (lv_at hl 4 rfl) ?_
    refine th_Vi (As := []) (rest := []) E hml hl.1 (z_X8_length l D cI cS τ ρ hW H_2 hT_2 y82_4 ty82_4) lk_X2_176 yd_X8_length hT_2 ty82_4 rfl (by decide) hS_2 (AT.sub (by decide)) ⟨by decide, by decide⟩ (Nat.le_of_ble_eq_true rfl) ⟨by decide, by decide⟩ rfl dX2_sendData_91 (fun r_3 H_3 locs_3 p_3 hT_3 hk_3 hS_3 => ?_)
    refine lv_istore (lv' := [(5, .int r_3), (0, .ref a0), (1, .int x0), (2, .int x1), (3, .int x2), (4, .ref y82_4)]) hx hb dX2_sendData_94 hl (by decide) rfl (fun ls hl => ?_)
    refine lv_iload_n hx hb dX2_sendData_96 rfl (lv_at hl 2 rfl) ?_
    refine lv_aload_n hx hb dX2_sendData_97 rfl (lv_at hl 1 rfl) ?_
    refine gf_X2_12 E hT_3 hW ha0 dX2_sendData_98 (fun h_4 => ?_)
    refine gf_X2_93 E hT_3 h_4 dX2_sendData_101 ?_
    refine th_topi (y := fi D 5 1 H_c82 (ρ a0 4)) (Eq.trans (fi_q (hk_3 _ (AT.out h_4 (by decide)))) (fi_q (hk_2 _ (AT.out h_4 (by decide))))) ?_
    refine lv_topi (fun x_5 ex_5 => ?_)
    refine lv_icmp_ne (tgt := 146) hx hb dX2_sendData_104 (by decide) (fun c_6 => ?_) (fun c_6 => ?_)
    · have f_6 : ¬ x0.toInt = x_5.toInt := r_ne rfl rfl c_6
      exact th_vret E hr hlk hs hT_3 hS_3 trivial dX2_sendData_146
    · have f_6 : x0.toInt = x_5.toInt := r_eq rfl rfl c_6
      refine lv_iload hx hb dX2_sendData_107 (lv_at hl 0 rfl) ?_
      refine lv_if_le (tgt := 146) hx hb dX2_sendData_109 (by decide) (fun c_7 => ?_) (fun c_7 => ?_)
      · have f_7 : r_3.toInt ≤ 0 := r_le rfl (by decide) c_7
        exact th_vret E hr hlk hs hT_3 hS_3 trivial dX2_sendData_146
      · have f_7 : 0 < r_3.toInt := r_nle rfl (by decide) c_7
        refine lv_aload_n hx hb dX2_sendData_112 rfl (lv_at hl 1 rfl) ?_
        refine gf_X2_28 E hT_3 hW ha0 dX2_sendData_113 (fun h_8 => ?_)
        refine lv_iload_n hx hb dX2_sendData_116 rfl (lv_at hl 2 rfl) ?_
        refine lv_iload hx hb dX2_sendData_117 (lv_at hl 0 rfl) ?_
        refine lv_iadd hx hb dX2_sendData_119 ?_
        refine lv_topi (fun x_9 ex_9 => ?_)
        refine lv_iconst (v := 1) hx hb dX2_sendData_120 (by decide) ?_
        refine lv_isub hx hb dX2_sendData_121 ?_
        refine lv_topi (fun x_10 ex_10 => ?_)
        refine lv_aload_n hx hb dX2_sendData_122 rfl (lv_at hl 1 rfl) ?_
        refine gf_X2_44 E hT_3 hW ha0 dX2_sendData_123 (fun h_11 => ?_)
        refine gf_X2_157 E hT_3 h_11 dX2_sendData_126 ?_
        refine th_topi (y := fi D 0 0 H_c82 (ρ a0 3)) (Eq.trans (fi_q (hk_3 _ (AT.out h_11 (by decide)))) (fi_q (hk_2 _ (AT.out h_11 (by decide))))) ?_
        refine lv_topi (fun x_12 ex_12 => ?_)
        refine th_Vv (As := [.int x_10, .int x_12]) (rest := []) E hml hl.1 (z_X7_startTiming l D cI cS τ ρ hW H_3 hT_3 (ρ a0 6) x_10 x_12 h_8) lk_X2_162 yd_X7_startTiming hT_3 h_8 rfl (by decide) hS_3 (AT.sub (by decide)) ⟨by decide, by decide⟩ (Nat.le_of_ble_eq_true rfl) ⟨by decide, by decide⟩ rfl dX2_sendData_129 (fun H_13 locs_13 p_13 hT_13 hk_13 hS_13 => ?_)
        refine lv_aload_n hx hb dX2_sendData_132 rfl (lv_at hl 1 rfl) ?_
        refine gf_X2_12 E hT_13 hW ha0 dX2_sendData_133 (fun h_14 => ?_)
        refine lv_dup hx hb dX2_sendData_136 rfl ?_
        refine gf_X2_93 E hT_13 h_14 dX2_sendData_137 ?_
        refine th_topi (y := x_5) (Eq.trans (fi_q (hk_13 _ (AT.out h_14 (by decide)))) ((Eq.trans (fi_q (hk_3 _ (AT.out h_4 (by decide)))) (fi_q (hk_2 _ (AT.out h_4 (by decide))))).trans ex_5.symm)) ?_
        refine lv_iload hx hb dX2_sendData_140 (lv_at hl 0 rfl) ?_
        refine lv_iadd hx hb dX2_sendData_142 ?_
        refine lv_topi (fun x_15 ex_15 => ?_)
        refine pf_X2_93 E hT_13 hS_13 h_14 ⟨_, h_14, by decide⟩ dX2_sendData_143 (fun H_16 locs_16 hT_16 hU_16 hS_16 => ?_)
        exact th_vret E hr hlk hs hT_16 hS_16 trivial dX2_sendData_146
  have L_20 : ∀ (n : Nat) (H_c20 : Heap) (lc_c20 : List Loc) (ls : Array Slot) (y20_4 : Nat) (y20_5 : Int32), TH D cI cS τ ρ H_c20 → SS (AT τ [5, 7, 8, 10, 104, 108]) H H_c20 lc_c20 → lv_has ls 6 [(0, .ref a0), (1, .int x0), (2, .int x1), (3, .int x2), (4, .ref y20_4), (5, .int y20_5)] → x2 = 0 ∨ x2 = 1 → τ y20_4 = some 8 → 0 ≤ y20_5.toInt → (x1.toInt - y20_5.toInt).toNat < n → W p l e (rmO 2 49) s m args below meth c H_c20 lc_c20 0 0 (MQ below (va_Qv (fun (u : Heap) => True) (Bt D cI cS τ ρ H) (AT τ [5, 7, 8, 10, 104, 108])) args s 0 0 (AT τ [5, 7, 8, 10, 104, 108])) (F0 m 20 ls []) := by
    intro n
    induction n with
    | zero => intro H_c20 lc_c20 ls y20_4 y20_5 hT_c20 hS_c20 hl by20_3 ty20_4 ly20_5 hm; exact absurd hm (Nat.not_lt_zero _)
    | succ n ih_20 =>
      intro H_c20 lc_c20 ls y20_4 y20_5 hT_c20 hS_c20 hl by20_3 ty20_4 ly20_5 hm_20
      have z_y20_3 := b_iv by20_3
      refine lv_iload hx hb dX2_sendData_20 (lv_at hl 5 rfl) ?_
      refine lv_iload_n hx hb dX2_sendData_22 rfl (lv_at hl 2 rfl) ?_
      refine lv_icmp_ge (tgt := 48) hx hb dX2_sendData_23 (by decide) (fun c_17 => ?_) (fun c_17 => ?_)
      · have f_17 : x1.toInt ≤ y20_5.toInt := r_le rfl rfl c_17
        refine lv_iload_n hx hb dX2_sendData_48 rfl (lv_at hl 1 rfl) ?_
        refine lv_aload_n hx hb dX2_sendData_49 rfl (lv_at hl 0 rfl) ?_
        refine gf_X2_12 E hT_c20 hW ha0 dX2_sendData_50 (fun h_18 => ?_)
        refine gf_X2_185 E hT_c20 h_18 dX2_sendData_53 ?_
        refine lv_topi (fun x_19 ex_19 => ?_)
        refine lv_icmp_ge (tgt := 82) hx hb dX2_sendData_56 (by decide) (fun c_20 => ?_) (fun c_20 => ?_)
        · have f_20 : x_19.toInt ≤ x0.toInt := r_le rfl rfl c_20
          exact J_82 H_c20 lc_c20 _ y20_4 y20_5 hT_c20 hS_c20 hl by20_3 ty20_4 (by omega)
        · have f_20 : x0.toInt < x_19.toInt := r_nle rfl rfl c_20
          refine lv_aload hx hb dX2_sendData_59 (lv_at hl 4 rfl) ?_
          refine lv_aload_n hx hb dX2_sendData_61 rfl (lv_at hl 0 rfl) ?_
          refine gf_X2_36 E hT_c20 hW ha0 dX2_sendData_62 (fun h_21 => ?_)
          refine lv_aload_n hx hb dX2_sendData_65 rfl (lv_at hl 0 rfl) ?_
          refine gf_X2_32 E hT_c20 ha0 dX2_sendData_66 ?_
          refine lv_topi (fun x_22 ex_22 => ?_)
          refine lv_aload_n hx hb dX2_sendData_69 rfl (lv_at hl 0 rfl) ?_
          refine gf_X2_12 E hT_c20 hW ha0 dX2_sendData_70 (fun h_23 => ?_)
          refine gf_X2_185 E hT_c20 h_23 dX2_sendData_73 ?_
          refine th_topi (y := x_19) ex_19.symm ?_
          refine th_Vi (As := [.int x_22, .int x_19]) (rest := [.ref y20_4]) E hml hl.1 (z_X1_number l D cI cS τ ρ hW H_c20 hT_c20 (ρ a0 1) x_22 x_19 h_21) lk_X2_115 yd_X1_number hT_c20 h_21 rfl (by decide) hS_c20 (AT.sub (by decide)) ⟨by decide, by decide⟩ (Nat.le_of_ble_eq_true rfl) ⟨by decide, by decide⟩ rfl dX2_sendData_76 (fun r_24 H_24 locs_24 p_24 hT_24 hk_24 hS_24 => ?_)
          refine pf_X2_188 E hT_24 hS_24 ty20_4 ⟨_, ty20_4, by decide⟩ dX2_sendData_79 (fun H_25 locs_25 hT_25 hU_25 hS_25 => ?_)
          exact J_82 H_25 locs_25 _ y20_4 y20_5 hT_25 hS_25 hl by20_3 ty20_4 (by omega)
      · have f_17 : y20_5.toInt < x1.toInt := r_nle rfl rfl c_17
        refine lv_aload hx hb dX2_sendData_26 (lv_at hl 4 rfl) ?_
        refine lv_aload_n hx hb dX2_sendData_28 rfl (lv_at hl 0 rfl) ?_
        refine gf_X2_12 E hT_c20 hW ha0 dX2_sendData_29 (fun h_26 => ?_)
        refine lv_iload_n hx hb dX2_sendData_32 rfl (lv_at hl 1 rfl) ?_
        refine lv_iload hx hb dX2_sendData_33 (lv_at hl 5 rfl) ?_
        refine lv_iadd hx hb dX2_sendData_35 ?_
        refine lv_topi (fun x_27 ex_27 => ?_)
        refine th_Vi (As := [.int x_27]) (rest := [.ref y20_4]) E hml hl.1 (z_X5_byteAt l D cI cS τ ρ hW H_c20 hT_c20 (ρ a0 4) x_27 h_26) lk_X2_179 yd_X5_byteAt hT_c20 h_26 rfl (by decide) hS_c20 (AT.sub (by decide)) ⟨by decide, by decide⟩ (Nat.le_of_ble_eq_true rfl) ⟨by decide, by decide⟩ rfl dX2_sendData_36 (fun r_28 H_28 locs_28 p_28 hT_28 hk_28 hS_28 => ?_)
        refine th_Vv (As := [.int r_28]) (rest := []) E hml hl.1 (z_X8_addByte l D cI cS τ ρ hW H_28 hT_28 y20_4 r_28 ty20_4) lk_X2_182 yd_X8_addByte hT_28 ty20_4 rfl (by decide) hS_28 (AT.sub (by decide)) ⟨by decide, by decide⟩ (Nat.le_of_ble_eq_true rfl) ⟨by decide, by decide⟩ rfl dX2_sendData_39 (fun H_29 locs_29 p_29 hT_29 hk_29 hS_29 => ?_)
        obtain ⟨x_30, ex_30⟩ : ∃ y : Int32, y20_5 + 1 = y := ⟨_, rfl⟩
        have q_x_30 : x_30.toInt = y20_5.toInt + 1 := i_add (k := 1) (by decide) ex_30 (by have := i_min y20_5; omega) (by have := i_max y20_5; have := i_max x1; omega)
        refine lv_iinc (v := x_30) (lv' := [(5, .int x_30), (0, .ref a0), (1, .int x0), (2, .int x1), (3, .int x2), (4, .ref y20_4)]) hx hb dX2_sendData_42 hl (k := 5) rfl (by rw [← ex_30]; rfl) (by decide) rfl (fun ls hl => ?_)
        refine lv_goto (tgt := 20) hx hb dX2_sendData_45 (by decide) ?_
        exact ih_20 H_29 locs_29 _ y20_4 x_30 hT_29 hS_29 (lv_sub hl [1, 2, 3, 4, 5, 0] rfl) by20_3 ty20_4 (by omega) (by omega)
  have J_11 : ∀ (H_c11 : Heap) (lc_c11 : List Loc) (ls : Array Slot) (z11_1 : Int32), TH D cI cS τ ρ H_c11 → SS (AT τ [5, 7, 8, 10, 104, 108]) H H_c11 lc_c11 → lv_has ls 6 [(0, .ref a0), (1, .int x0), (2, .int x1), (3, .int x2)] → x2 = 0 ∨ x2 = 1 → 4 ≤ z11_1.toInt → z11_1.toInt ≤ 6 → W p l e (rmO 2 49) s m args below meth c H_c11 lc_c11 0 0 (MQ below (va_Qv (fun (u : Heap) => True) (Bt D cI cS τ ρ H) (AT τ [5, 7, 8, 10, 104, 108])) args s 0 0 (AT τ [5, 7, 8, 10, 104, 108])) (F0 m 11 ls [.int z11_1, .ref a0]) := by
    intro H_c11 lc_c11 ls z11_1 hT_c11 hS_c11 hl by11_3 lz11_1 uz11_1
    have z_y11_3 := b_iv by11_3
    refine lv_iload_n hx hb dX2_sendData_11 rfl (lv_at hl 1 rfl) ?_
    refine th_Vr (As := [.int z11_1, .int x0]) (rest := []) E hml hl.1 (z_X2_draft l D cI cS τ ρ hW H_c11 hT_c11 a0 z11_1 x0 ha0) lk_X2_165 yd_X2_draft hT_c11 ha0 rfl (by decide) hS_c11 (AT.sub (by decide)) ⟨by decide, by decide⟩ (Nat.le_of_ble_eq_true rfl) ⟨by decide, by decide⟩ rfl dX2_sendData_12 (fun r_31 H_31 locs_31 p_31 hT_31 hk_31 hS_31 => ?_)
    refine lv_astore (lv' := [(4, .ref r_31), (0, .ref a0), (1, .int x0), (2, .int x1), (3, .int x2)]) hx hb dX2_sendData_15 hl (by decide) rfl (fun ls hl => ?_)
    refine lv_iconst (v := 0) hx hb dX2_sendData_17 (by decide) ?_
    refine lv_istore (lv' := [(5, .int 0), (4, .ref r_31), (0, .ref a0), (1, .int x0), (2, .int x1), (3, .int x2)]) hx hb dX2_sendData_18 hl (by decide) rfl (fun ls hl => ?_)
    exact L_20 _ H_31 locs_31 _ r_31 0 hT_31 hS_31 (lv_sub hl [2, 3, 4, 5, 1, 0] rfl) by11_3 p_31 (by decide) (Nat.lt_succ_self _)
  refine lv_aload_n hx hb dX2_sendData_0 rfl (lv_at hl 0 rfl) ?_
  refine lv_iload_n hx hb dX2_sendData_1 rfl (lv_at hl 3 rfl) ?_
  refine lv_if_eq (tgt := 10) hx hb dX2_sendData_2 (by decide) (fun c_32 => ?_) (fun c_32 => ?_)
  · have f_32 : x2.toInt = 0 := r_eq rfl (by decide) c_32
    refine lv_iconst (v := 4) hx hb dX2_sendData_10 (by decide) ?_
    exact J_11 H [] _ 4 hT hS hl bb_x2 (by decide) (by decide)
  · have f_32 : ¬ x2.toInt = 0 := r_ne rfl (by decide) c_32
    have nz_x2 : ¬ x2 = 0 := c_32
    refine lv_bipush (v := 6) hx hb dX2_sendData_5 (by decide) ?_
    refine lv_goto (tgt := 11) hx hb dX2_sendData_7 (by decide) ?_
    exact J_11 H [] _ 6 hT hS hl bb_x2 (by decide) (by decide)
set_option maxHeartbeats 4000000 in
set_option maxRecDepth 100000 in
/-- StreamEnds$Outgoing.isMarked: it ends, and the heap stays typed -/
theorem z_X5_isMarked (l : Launch) (D : va_G) (cI cS : ClassId) (τ : Nat → Option Nat) (ρ : Nat → Nat → Nat) (hW : WF τ ρ) (H : Heap) (hT : TH D cI cS τ ρ H) (a0 : Nat) (x0 : Int32) (ha0 : τ a0 = some 5) : MI l D cI cS τ ρ yX5_isMarked cX5_isMarked 2 (some .boolean) 0 0 H [.ref a0, .int x0] (fun (r : Int32) (u : Heap) => r = 0 ∨ r = 1) (AT τ []) := by
  refine MI.of (by decide) (Nat.le_of_ble_eq_true rfl) ?_
  intro p e s m args below meth c E hml hr hlk hs ls hl
  have hx := E.1
  have hb := E.2.1
  have hown := E.2.2.1
  have hts := E.2.2.2.1
  have hS : SS (AT τ []) H H [] := SS.rf
  have hl : lv_has ls 2 [(0, .ref a0), (1, .int x0)] := hl
  refine lv_iload_n hx hb dX5_isMarked_0 rfl (lv_at hl 1 rfl) ?_
  refine lv_aload_n hx hb dX5_isMarked_1 rfl (lv_at hl 0 rfl) ?_
  refine gf_X5_15 E hT ha0 dX5_isMarked_2 ?_
  refine lv_topi (fun x_1 ex_1 => ?_)
  refine lv_icmp_lt (tgt := 33) hx hb dX5_isMarked_5 (by decide) (fun c_2 => ?_) (fun c_2 => ?_)
  · have f_2 : x0.toInt < x_1.toInt := r_lt rfl rfl c_2
    refine lv_iconst (v := 0) hx hb dX5_isMarked_33 (by decide) ?_
    exact th_zret E hr hlk hs (Or.inl rfl) hT hS (Or.inl rfl) dX5_isMarked_34
  · have f_2 : x_1.toInt ≤ x0.toInt := r_nlt rfl rfl c_2
    refine lv_iload_n hx hb dX5_isMarked_8 rfl (lv_at hl 1 rfl) ?_
    refine lv_aload_n hx hb dX5_isMarked_9 rfl (lv_at hl 0 rfl) ?_
    refine gf_X5_19 E hT ha0 dX5_isMarked_10 ?_
    refine lv_topi (fun x_3 ex_3 => ?_)
    refine lv_icmp_ge (tgt := 33) hx hb dX5_isMarked_13 (by decide) (fun c_4 => ?_) (fun c_4 => ?_)
    · have f_4 : x_3.toInt ≤ x0.toInt := r_le rfl rfl c_4
      refine lv_iconst (v := 0) hx hb dX5_isMarked_33 (by decide) ?_
      exact th_zret E hr hlk hs (Or.inl rfl) hT hS (Or.inl rfl) dX5_isMarked_34
    · have f_4 : x0.toInt < x_3.toInt := r_nle rfl rfl c_4
      refine lv_aload_n hx hb dX5_isMarked_16 rfl (lv_at hl 0 rfl) ?_
      refine gf_X5_35 E hT ha0 dX5_isMarked_17 ?_
      refine lv_topl (fun x_5 ex_5 => ?_)
      refine lv_iload_n hx hb dX5_isMarked_20 rfl (lv_at hl 1 rfl) ?_
      obtain ⟨x_6, ex_6⟩ : ∃ y : Int64, (x_5.toUInt64 >>> (x0.toInt64.toUInt64 &&& Int64.toUInt64 63)).toInt64 = y := ⟨_, rfl⟩
      refine lv_lushr (v := x_6) hx hb dX5_isMarked_21 ex_6 ?_
      refine lv_lconst (v := 1) hx hb dX5_isMarked_22 (by decide) ?_
      refine lv_land hx hb dX5_isMarked_23 ?_
      refine lv_topl (fun x_7 ex_7 => ?_)
      refine lv_lconst (v := 0) hx hb dX5_isMarked_24 (by decide) ?_
      refine W.lcmp hx hb dX5_isMarked_25 ?_
      refine lv_topi (fun x_8 ex_8 => ?_)
      refine lv_if_eq (tgt := 33) hx hb dX5_isMarked_26 (by decide) (fun c_9 => ?_) (fun c_9 => ?_)
      · have f_9 : x_8.toInt = 0 := r_eq rfl (by decide) c_9
        refine lv_iconst (v := 0) hx hb dX5_isMarked_33 (by decide) ?_
        exact th_zret E hr hlk hs (Or.inl rfl) hT hS (Or.inl rfl) dX5_isMarked_34
      · have f_9 : ¬ x_8.toInt = 0 := r_ne rfl (by decide) c_9
        have nz_x_8 : ¬ x_8 = 0 := c_9
        refine lv_iconst (v := 1) hx hb dX5_isMarked_29 (by decide) ?_
        refine lv_goto (tgt := 34) hx hb dX5_isMarked_30 (by decide) ?_
        exact th_zret E hr hlk hs (Or.inr rfl) hT hS (Or.inr rfl) dX5_isMarked_34
set_option maxHeartbeats 4000000 in
set_option maxRecDepth 100000 in
/-- StreamEnds$Outgoing.firstUnmarked: it ends, and the heap stays typed -/
theorem z_X5_firstUnmarked (l : Launch) (D : va_G) (cI cS : ClassId) (τ : Nat → Option Nat) (ρ : Nat → Nat → Nat) (hW : WF τ ρ) (H : Heap) (hT : TH D cI cS τ ρ H) (a0 : Nat) (ha0 : τ a0 = some 5) : MI l D cI cS τ ρ yX5_firstUnmarked cX5_firstUnmarked 2 (some .int) 1 21 H [.ref a0] (fun (r : Int32) (u : Heap) => True) (AT τ []) := by
  refine MI.of (by decide) (Nat.le_of_ble_eq_true rfl) ?_
  intro p e s m args below meth c E hml hr hlk hs ls hl
  have hx := E.1
  have hb := E.2.1
  have hown := E.2.2.1
  have hts := E.2.2.2.1
  have hS : SS (AT τ []) H H [] := SS.rf
  have hl : lv_has ls 2 [(0, .ref a0)] := hl
  have L_5 : ∀ (n : Nat) (H_c5 : Heap) (lc_c5 : List Loc) (ls : Array Slot) (y5_1 : Int32) (g5_0 : Int32), TH D cI cS τ ρ H_c5 → SS (AT τ []) H H_c5 lc_c5 → lv_has ls 2 [(0, .ref a0), (1, .int y5_1)] → fi D 5 1 H_c5 a0 = g5_0 → (g5_0.toInt - y5_1.toInt).toNat < n → W p l e (rmO 1 21) s m args below meth c H_c5 lc_c5 0 0 (MQ below (va_Qi (fun (r : Int32) (u : Heap) => True) (Bt D cI cS τ ρ H) (AT τ [])) args s 0 0 (AT τ [])) (F0 m 5 ls []) := by
    intro n
    induction n with
    | zero => intro H_c5 lc_c5 ls y5_1 g5_0 hT_c5 hS_c5 hl hg5_0 hm; exact absurd hm (Nat.not_lt_zero _)
    | succ n ih_5 =>
      intro H_c5 lc_c5 ls y5_1 g5_0 hT_c5 hS_c5 hl hg5_0 hm_5
      refine lv_iload_n hx hb dX5_firstUnmarked_5 rfl (lv_at hl 1 rfl) ?_
      refine lv_aload_n hx hb dX5_firstUnmarked_6 rfl (lv_at hl 0 rfl) ?_
      refine gf_X5_19 E hT_c5 ha0 dX5_firstUnmarked_7 ?_
      refine th_topi (y := g5_0) hg5_0 ?_
      refine lv_icmp_ge (tgt := 27) hx hb dX5_firstUnmarked_10 (by decide) (fun c_1 => ?_) (fun c_1 => ?_)
      · have f_1 : g5_0.toInt ≤ y5_1.toInt := r_le rfl rfl c_1
        refine lv_iload_n hx hb dX5_firstUnmarked_27 rfl (lv_at hl 1 rfl) ?_
        exact th_iret E hr hlk hs hT_c5 hS_c5 trivial dX5_firstUnmarked_28
      · have f_1 : y5_1.toInt < g5_0.toInt := r_nle rfl rfl c_1
        refine lv_aload_n hx hb dX5_firstUnmarked_13 rfl (lv_at hl 0 rfl) ?_
        refine lv_iload_n hx hb dX5_firstUnmarked_14 rfl (lv_at hl 1 rfl) ?_
        refine th_Vi (As := [.int y5_1]) (rest := []) E hml hl.1 (z_X5_isMarked l D cI cS τ ρ hW H_c5 hT_c5 a0 y5_1 ha0) lk_X5_63 yd_X5_isMarked hT_c5 ha0 rfl (by decide) hS_c5 (AT.sub (by decide)) ⟨by decide, by decide⟩ (Nat.le_of_ble_eq_true rfl) ⟨by decide, by decide⟩ rfl dX5_firstUnmarked_15 (fun r_2 H_2 locs_2 p_2 hT_2 hk_2 hS_2 => ?_)
        have z_2 := b_iv p_2
        refine lv_if_eq (tgt := 27) hx hb dX5_firstUnmarked_18 (by decide) (fun c_3 => ?_) (fun c_3 => ?_)
        · have f_3 : r_2.toInt = 0 := r_eq rfl (by decide) c_3
          refine lv_iload_n hx hb dX5_firstUnmarked_27 rfl (lv_at hl 1 rfl) ?_
          exact th_iret E hr hlk hs hT_2 hS_2 trivial dX5_firstUnmarked_28
        · have f_3 : ¬ r_2.toInt = 0 := r_ne rfl (by decide) c_3
          have nz_r_2 : ¬ r_2 = 0 := c_3
          obtain ⟨x_4, ex_4⟩ : ∃ y : Int32, y5_1 + 1 = y := ⟨_, rfl⟩
          have q_x_4 : x_4.toInt = y5_1.toInt + 1 := i_add (k := 1) (by decide) ex_4 (by have := i_min y5_1; omega) (by have := i_max y5_1; have := i_max g5_0; omega)
          refine lv_iinc (v := x_4) (lv' := [(1, .int x_4), (0, .ref a0)]) hx hb dX5_firstUnmarked_21 hl (k := 1) rfl (by rw [← ex_4]; rfl) (by decide) rfl (fun ls hl => ?_)
          refine lv_goto (tgt := 5) hx hb dX5_firstUnmarked_24 (by decide) ?_
          exact ih_5 H_2 locs_2 _ x_4 g5_0 hT_2 hS_2 (lv_sub hl [1, 0] rfl) (Eq.trans (fi_q (hk_2 _ (AT.out ha0 (by decide)))) hg5_0) (by omega)
  refine lv_aload_n hx hb dX5_firstUnmarked_0 rfl (lv_at hl 0 rfl) ?_
  refine gf_X5_15 E hT ha0 dX5_firstUnmarked_1 ?_
  refine lv_topi (fun x_5 ex_5 => ?_)
  refine lv_istore_n (lv' := [(1, .int x_5), (0, .ref a0)]) hx hb dX5_firstUnmarked_4 rfl hl (by decide) rfl (fun ls hl => ?_)
  exact L_5 _ H [] _ x_5 (fi D 5 1 H a0) hT hS (lv_sub hl [1, 0] rfl) rfl (Nat.lt_succ_self _)
set_option maxHeartbeats 4000000 in
set_option maxRecDepth 100000 in
/-- StreamEnds$Outgoing.resendable: it ends, and the heap stays typed -/
theorem z_X5_resendable (l : Launch) (D : va_G) (cI cS : ClassId) (τ : Nat → Option Nat) (ρ : Nat → Nat → Nat) (hW : WF τ ρ) (H : Heap) (hT : TH D cI cS τ ρ H) (a0 : Nat) (x0 : Int32) (x1 : Int32) (ha0 : τ a0 = some 5) : MI l D cI cS τ ρ yX5_resendable cX5_resendable 4 (some .int) 1 21 H [.ref a0, .int x0, .int x1] (fun (r : Int32) (u : Heap) => True) (AT τ []) := by
  refine MI.of (by decide) (Nat.le_of_ble_eq_true rfl) ?_
  intro p e s m args below meth c E hml hr hlk hs ls hl
  have hx := E.1
  have hb := E.2.1
  have hown := E.2.2.1
  have hts := E.2.2.2.1
  have hS : SS (AT τ []) H H [] := SS.rf
  have hl : lv_has ls 4 [(0, .ref a0), (1, .int x0), (2, .int x1)] := hl
  have L_2 : ∀ (n : Nat) (H_c2 : Heap) (lc_c2 : List Loc) (ls : Array Slot) (y2_3 : Int32), TH D cI cS τ ρ H_c2 → SS (AT τ []) H H_c2 lc_c2 → lv_has ls 4 [(0, .ref a0), (1, .int x0), (2, .int x1), (3, .int y2_3)] → 0 ≤ y2_3.toInt → (x1.toInt - y2_3.toInt).toNat < n → W p l e (rmO 1 21) s m args below meth c H_c2 lc_c2 0 0 (MQ below (va_Qi (fun (r : Int32) (u : Heap) => True) (Bt D cI cS τ ρ H) (AT τ [])) args s 0 0 (AT τ [])) (F0 m 2 ls []) := by
    intro n
    induction n with
    | zero => intro H_c2 lc_c2 ls y2_3 hT_c2 hS_c2 hl ly2_3 hm; exact absurd hm (Nat.not_lt_zero _)
    | succ n ih_2 =>
      intro H_c2 lc_c2 ls y2_3 hT_c2 hS_c2 hl ly2_3 hm_2
      refine lv_iload_n hx hb dX5_resendable_2 rfl (lv_at hl 3 rfl) ?_
      refine lv_iload_n hx hb dX5_resendable_3 rfl (lv_at hl 2 rfl) ?_
      refine lv_icmp_ge (tgt := 43) hx hb dX5_resendable_4 (by decide) (fun c_1 => ?_) (fun c_1 => ?_)
      · have f_1 : x1.toInt ≤ y2_3.toInt := r_le rfl rfl c_1
        refine lv_iload_n hx hb dX5_resendable_43 rfl (lv_at hl 3 rfl) ?_
        exact th_iret E hr hlk hs hT_c2 hS_c2 trivial dX5_resendable_44
      · have f_1 : y2_3.toInt < x1.toInt := r_nle rfl rfl c_1
        refine lv_iload_n hx hb dX5_resendable_7 rfl (lv_at hl 1 rfl) ?_
        refine lv_iload_n hx hb dX5_resendable_8 rfl (lv_at hl 3 rfl) ?_
        refine lv_iadd hx hb dX5_resendable_9 ?_
        refine lv_topi (fun x_2 ex_2 => ?_)
        refine lv_aload_n hx hb dX5_resendable_10 rfl (lv_at hl 0 rfl) ?_
        refine gf_X5_19 E hT_c2 ha0 dX5_resendable_11 ?_
        refine lv_topi (fun x_3 ex_3 => ?_)
        refine lv_icmp_ge (tgt := 43) hx hb dX5_resendable_14 (by decide) (fun c_4 => ?_) (fun c_4 => ?_)
        · have f_4 : x_3.toInt ≤ x_2.toInt := r_le rfl rfl c_4
          refine lv_iload_n hx hb dX5_resendable_43 rfl (lv_at hl 3 rfl) ?_
          exact th_iret E hr hlk hs hT_c2 hS_c2 trivial dX5_resendable_44
        · have f_4 : x_2.toInt < x_3.toInt := r_nle rfl rfl c_4
          refine lv_iload_n hx hb dX5_resendable_17 rfl (lv_at hl 1 rfl) ?_
          refine lv_iload_n hx hb dX5_resendable_18 rfl (lv_at hl 3 rfl) ?_
          refine lv_iadd hx hb dX5_resendable_19 ?_
          refine lv_topi (fun x_5 ex_5 => ?_)
          refine lv_aload_n hx hb dX5_resendable_20 rfl (lv_at hl 0 rfl) ?_
          refine gf_X5_25 E hT_c2 ha0 dX5_resendable_21 ?_
          refine lv_topi (fun x_6 ex_6 => ?_)
          refine lv_icmp_gt (tgt := 43) hx hb dX5_resendable_24 (by decide) (fun c_7 => ?_) (fun c_7 => ?_)
          · have f_7 : x_6.toInt < x_5.toInt := r_lt rfl rfl c_7
            refine lv_iload_n hx hb dX5_resendable_43 rfl (lv_at hl 3 rfl) ?_
            exact th_iret E hr hlk hs hT_c2 hS_c2 trivial dX5_resendable_44
          · have f_7 : x_5.toInt ≤ x_6.toInt := r_nlt rfl rfl c_7
            refine lv_aload_n hx hb dX5_resendable_27 rfl (lv_at hl 0 rfl) ?_
            refine lv_iload_n hx hb dX5_resendable_28 rfl (lv_at hl 1 rfl) ?_
            refine lv_iload_n hx hb dX5_resendable_29 rfl (lv_at hl 3 rfl) ?_
            refine lv_iadd hx hb dX5_resendable_30 ?_
            refine lv_topi (fun x_8 ex_8 => ?_)
            refine th_Vi (As := [.int x_8]) (rest := []) E hml hl.1 (z_X5_isMarked l D cI cS τ ρ hW H_c2 hT_c2 a0 x_8 ha0) lk_X5_63 yd_X5_isMarked hT_c2 ha0 rfl (by decide) hS_c2 (AT.sub (by decide)) ⟨by decide, by decide⟩ (Nat.le_of_ble_eq_true rfl) ⟨by decide, by decide⟩ rfl dX5_resendable_31 (fun r_9 H_9 locs_9 p_9 hT_9 hk_9 hS_9 => ?_)
            have z_9 := b_iv p_9
            refine lv_if_ne (tgt := 43) hx hb dX5_resendable_34 (by decide) (fun c_10 => ?_) (fun c_10 => ?_)
            · have f_10 : ¬ r_9.toInt = 0 := r_ne rfl (by decide) c_10
              have nz_r_9 : ¬ r_9 = 0 := c_10
              refine lv_iload_n hx hb dX5_resendable_43 rfl (lv_at hl 3 rfl) ?_
              exact th_iret E hr hlk hs hT_9 hS_9 trivial dX5_resendable_44
            · have f_10 : r_9.toInt = 0 := r_eq rfl (by decide) c_10
              obtain ⟨x_11, ex_11⟩ : ∃ y : Int32, y2_3 + 1 = y := ⟨_, rfl⟩
              have q_x_11 : x_11.toInt = y2_3.toInt + 1 := i_add (k := 1) (by decide) ex_11 (by have := i_min y2_3; omega) (by have := i_max y2_3; have := i_max x1; omega)
              refine lv_iinc (v := x_11) (lv' := [(3, .int x_11), (0, .ref a0), (1, .int x0), (2, .int x1)]) hx hb dX5_resendable_37 hl (k := 3) rfl (by rw [← ex_11]; rfl) (by decide) rfl (fun ls hl => ?_)
              refine lv_goto (tgt := 2) hx hb dX5_resendable_40 (by decide) ?_
              exact ih_2 H_9 locs_9 _ x_11 hT_9 hS_9 (lv_sub hl [1, 2, 3, 0] rfl) (by omega) (by omega)
  refine lv_iconst (v := 0) hx hb dX5_resendable_0 (by decide) ?_
  refine lv_istore_n (lv' := [(3, .int 0), (0, .ref a0), (1, .int x0), (2, .int x1)]) hx hb dX5_resendable_1 rfl hl (by decide) rfl (fun ls hl => ?_)
  exact L_2 _ H [] _ 0 hT hS (lv_sub hl [1, 2, 3, 0] rfl) (by decide) (Nat.lt_succ_self _)
set_option maxHeartbeats 4000000 in
set_option maxRecDepth 100000 in
/-- StreamEnds$Outgoing.finPlace: it ends, and the heap stays typed -/
theorem z_X5_finPlace (l : Launch) (D : va_G) (cI cS : ClassId) (τ : Nat → Option Nat) (ρ : Nat → Nat → Nat) (hW : WF τ ρ) (H : Heap) (hT : TH D cI cS τ ρ H) (a0 : Nat) (ha0 : τ a0 = some 5) : MI l D cI cS τ ρ yX5_finPlace cX5_finPlace 1 (some .int) 0 0 H [.ref a0] (fun (r : Int32) (u : Heap) => True) (AT τ []) := by
  refine MI.of (by decide) (Nat.le_of_ble_eq_true rfl) ?_
  intro p e s m args below meth c E hml hr hlk hs ls hl
  have hx := E.1
  have hb := E.2.1
  have hown := E.2.2.1
  have hts := E.2.2.2.1
  have hS : SS (AT τ []) H H [] := SS.rf
  have hl : lv_has ls 1 [(0, .ref a0)] := hl
  refine lv_aload_n hx hb dX5_finPlace_0 rfl (lv_at hl 0 rfl) ?_
  refine gf_X5_25 E hT ha0 dX5_finPlace_1 ?_
  refine lv_topi (fun x_1 ex_1 => ?_)
  refine lv_iconst (v := 1) hx hb dX5_finPlace_4 (by decide) ?_
  refine lv_iadd hx hb dX5_finPlace_5 ?_
  refine lv_topi (fun x_2 ex_2 => ?_)
  exact th_iret E hr hlk hs hT hS trivial dX5_finPlace_6
set_option maxHeartbeats 4000000 in
set_option maxRecDepth 100000 in
/-- StreamEnds$Outgoing.isFinSent: it ends, and the heap stays typed -/
theorem z_X5_isFinSent (l : Launch) (D : va_G) (cI cS : ClassId) (τ : Nat → Option Nat) (ρ : Nat → Nat → Nat) (hW : WF τ ρ) (H : Heap) (hT : TH D cI cS τ ρ H) (a0 : Nat) (ha0 : τ a0 = some 5) : MI l D cI cS τ ρ yX5_isFinSent cX5_isFinSent 1 (some .boolean) 1 20 H [.ref a0] (fun (r : Int32) (u : Heap) => r = 0 ∨ r = 1) (AT τ []) := by
  refine MI.of (by decide) (Nat.le_of_ble_eq_true rfl) ?_
  intro p e s m args below meth c E hml hr hlk hs ls hl
  have hx := E.1
  have hb := E.2.1
  have hown := E.2.2.1
  have hts := E.2.2.2.1
  have hS : SS (AT τ []) H H [] := SS.rf
  have hl : lv_has ls 1 [(0, .ref a0)] := hl
  refine lv_aload_n hx hb dX5_isFinSent_0 rfl (lv_at hl 0 rfl) ?_
  refine gf_X5_19 E hT ha0 dX5_isFinSent_1 ?_
  refine lv_topi (fun x_1 ex_1 => ?_)
  refine lv_aload_n hx hb dX5_isFinSent_4 rfl (lv_at hl 0 rfl) ?_
  refine th_Vi (As := []) (rest := [.int x_1]) E hml hl.1 (z_X5_finPlace l D cI cS τ ρ hW H hT a0 ha0) lk_X5_58 yd_X5_finPlace hT ha0 rfl (by decide) hS (AT.sub (by decide)) ⟨by decide, by decide⟩ (Nat.le_of_ble_eq_true rfl) ⟨by decide, by decide⟩ rfl dX5_isFinSent_5 (fun r_2 H_2 locs_2 p_2 hT_2 hk_2 hS_2 => ?_)
  refine lv_icmp_le (tgt := 15) hx hb dX5_isFinSent_8 (by decide) (fun c_3 => ?_) (fun c_3 => ?_)
  · have f_3 : x_1.toInt ≤ r_2.toInt := r_le rfl rfl c_3
    refine lv_iconst (v := 0) hx hb dX5_isFinSent_15 (by decide) ?_
    exact th_zret E hr hlk hs (Or.inl rfl) hT_2 hS_2 (Or.inl rfl) dX5_isFinSent_16
  · have f_3 : r_2.toInt < x_1.toInt := r_nle rfl rfl c_3
    refine lv_iconst (v := 1) hx hb dX5_isFinSent_11 (by decide) ?_
    refine lv_goto (tgt := 16) hx hb dX5_isFinSent_12 (by decide) ?_
    exact th_zret E hr hlk hs (Or.inr rfl) hT_2 hS_2 (Or.inr rfl) dX5_isFinSent_16
set_option maxHeartbeats 4000000 in
set_option maxRecDepth 100000 in
/-- StreamEnds$Endpoint.sendSyn: it ends, and the heap stays typed -/
theorem z_X2_sendSyn (l : Launch) (D : va_G) (cI cS : ClassId) (τ : Nat → Option Nat) (ρ : Nat → Nat → Nat) (hW : WF τ ρ) (H : Heap) (hT : TH D cI cS τ ρ H) (a0 : Nat) (ha0 : τ a0 = some 2) : MV l D cI cS τ ρ yX2_sendSyn cX2_sendSyn 1 none 2 49 H [.ref a0] (fun (u : Heap) => True) (AT τ [5, 8, 10, 104]) := by
  refine MV.of (by decide) (Nat.le_of_ble_eq_true rfl) ?_
  intro p e s m args below meth c E hml hr hlk hs ls hl
  have hx := E.1
  have hb := E.2.1
  have hown := E.2.2.1
  have hts := E.2.2.2.1
  have hS : SS (AT τ [5, 8, 10, 104]) H H [] := SS.rf
  have hl : lv_has ls 1 [(0, .ref a0)] := hl
  have J_14 : ∀ (H_c14 : Heap) (lc_c14 : List Loc) (ls : Array Slot) (z14_1 : Int32), TH D cI cS τ ρ H_c14 → SS (AT τ [5, 8, 10, 104]) H H_c14 lc_c14 → lv_has ls 1 [(0, .ref a0)] → 1 ≤ z14_1.toInt → z14_1.toInt ≤ 5 → W p l e (rmO 2 49) s m args below meth c H_c14 lc_c14 0 0 (MQ below (va_Qv (fun (u : Heap) => True) (Bt D cI cS τ ρ H) (AT τ [5, 8, 10, 104])) args s 0 0 (AT τ [5, 8, 10, 104])) (F0 m 14 ls [.int z14_1, .ref a0]) := by
    intro H_c14 lc_c14 ls z14_1 hT_c14 hS_c14 hl lz14_1 uz14_1
    refine lv_iconst (v := 0) hx hb dX2_sendSyn_14 (by decide) ?_
    refine th_Vr (As := [.int z14_1, .int 0]) (rest := []) E hml hl.1 (z_X2_draft l D cI cS τ ρ hW H_c14 hT_c14 a0 z14_1 0 ha0) lk_X2_165 yd_X2_draft hT_c14 ha0 rfl (by decide) hS_c14 (AT.sub (by decide)) ⟨by decide, by decide⟩ (Nat.le_of_ble_eq_true rfl) ⟨by decide, by decide⟩ rfl dX2_sendSyn_15 (fun r_1 H_1 locs_1 p_1 hT_1 hk_1 hS_1 => ?_)
    refine lv_pop hx hb dX2_sendSyn_18 rfl ?_
    refine lv_aload_n hx hb dX2_sendSyn_19 rfl (lv_at hl 0 rfl) ?_
    refine gf_X2_40 E hT_1 hW ha0 dX2_sendSyn_20 (fun h_2 => ?_)
    refine th_Vv (As := []) (rest := []) E hml hl.1 (z_X10_sendDraft l D cI cS τ ρ hW H_1 hT_1 (ρ a0 2) h_2) lk_X2_168 yd_X10_sendDraft hT_1 h_2 rfl (by decide) hS_1 (AT.sub (by decide)) ⟨by decide, by decide⟩ (Nat.le_of_ble_eq_true rfl) ⟨by decide, by decide⟩ rfl dX2_sendSyn_23 (fun H_3 locs_3 p_3 hT_3 hk_3 hS_3 => ?_)
    refine lv_aload_n hx hb dX2_sendSyn_26 rfl (lv_at hl 0 rfl) ?_
    refine gf_X2_12 E hT_3 hW ha0 dX2_sendSyn_27 (fun h_4 => ?_)
    refine lv_iconst (v := 1) hx hb dX2_sendSyn_30 (by decide) ?_
    refine pf_X2_93 E hT_3 hS_3 h_4 ⟨_, h_4, by decide⟩ dX2_sendSyn_31 (fun H_5 locs_5 hT_5 hU_5 hS_5 => ?_)
    exact th_vret E hr hlk hs hT_5 hS_5 trivial dX2_sendSyn_34
  refine lv_aload_n hx hb dX2_sendSyn_0 rfl (lv_at hl 0 rfl) ?_
  refine lv_aload_n hx hb dX2_sendSyn_1 rfl (lv_at hl 0 rfl) ?_
  refine gf_X2_63 E hT ha0 dX2_sendSyn_2 ?_
  refine lv_topi (fun x_6 ex_6 => ?_)
  refine lv_iconst (v := 2) hx hb dX2_sendSyn_5 (by decide) ?_
  refine lv_icmp_ne (tgt := 13) hx hb dX2_sendSyn_6 (by decide) (fun c_7 => ?_) (fun c_7 => ?_)
  · have f_7 : ¬ x_6.toInt = 2 := r_ne rfl (by decide) c_7
    refine lv_iconst (v := 5) hx hb dX2_sendSyn_13 (by decide) ?_
    exact J_14 H [] _ 5 hT hS hl (by decide) (by decide)
  · have f_7 : x_6.toInt = 2 := r_eq rfl (by decide) c_7
    refine lv_iconst (v := 1) hx hb dX2_sendSyn_9 (by decide) ?_
    refine lv_goto (tgt := 14) hx hb dX2_sendSyn_10 (by decide) ?_
    exact J_14 H [] _ 1 hT hS hl (by decide) (by decide)
set_option maxHeartbeats 4000000 in
set_option maxRecDepth 100000 in
/-- StreamEnds$Endpoint.retransmit: it ends, and the heap stays typed -/
theorem z_X2_retransmit (l : Launch) (D : va_G) (cI cS : ClassId) (τ : Nat → Option Nat) (ρ : Nat → Nat → Nat) (hW : WF τ ρ) (H : Heap) (hT : TH D cI cS τ ρ H) (a0 : Nat) (ha0 : τ a0 = some 2) : MV l D cI cS τ ρ yX2_retransmit cX2_retransmit 4 none 3 74 H [.ref a0] (fun (u : Heap) => True) (AT τ [5, 7, 8, 10, 104, 108]) := by
  refine MV.of (by decide) (Nat.le_of_ble_eq_true rfl) ?_
  intro p e s m args below meth c E hml hr hlk hs ls hl
  have hx := E.1
  have hb := E.2.1
  have hown := E.2.2.1
  have hts := E.2.2.2.1
  have hS : SS (AT τ [5, 7, 8, 10, 104, 108]) H H [] := SS.rf
  have hl : lv_has ls 4 [(0, .ref a0)] := hl
  have J_111 : ∀ (H_c111 : Heap) (lc_c111 : List Loc) (ls : Array Slot) (y111_1 : Int32) (y111_2 : Int32) (y111_3 : Int32) (z111_1 : Int32) (z111_2 : Int32) (z111_3 : Int32), TH D cI cS τ ρ H_c111 → SS (AT τ [5, 7, 8, 10, 104, 108]) H H_c111 lc_c111 → lv_has ls 4 [(0, .ref a0), (1, .int y111_1), (2, .int y111_2), (3, .int y111_3)] → z111_3 = 0 ∨ z111_3 = 1 → W p l e (rmO 3 74) s m args below meth c H_c111 lc_c111 0 0 (MQ below (va_Qv (fun (u : Heap) => True) (Bt D cI cS τ ρ H) (AT τ [5, 7, 8, 10, 104, 108])) args s 0 0 (AT τ [5, 7, 8, 10, 104, 108])) (F0 m 111 ls [.int z111_3, .int z111_2, .int z111_1, .ref a0]) := by
    intro H_c111 lc_c111 ls y111_1 y111_2 y111_3 z111_1 z111_2 z111_3 hT_c111 hS_c111 hl bz111_3
    have z_z111_3 := b_iv bz111_3
    refine th_Vv (As := [.int z111_1, .int z111_2, .int z111_3]) (rest := []) E hml hl.1 (z_X2_sendData l D cI cS τ ρ hW H_c111 hT_c111 a0 z111_1 z111_2 z111_3 ha0 bz111_3) lk_X2_198 yd_X2_sendData hT_c111 ha0 rfl (by decide) hS_c111 (AT.sub (by decide)) ⟨by decide, by decide⟩ (Nat.le_of_ble_eq_true rfl) ⟨by decide, by decide⟩ rfl dX2_retransmit_111 (fun H_1 locs_1 p_1 hT_1 hk_1 hS_1 => ?_)
    exact th_vret E hr hlk hs hT_1 hS_1 trivial dX2_retransmit_114
  have J_110 : ∀ (H_c110 : Heap) (lc_c110 : List Loc) (ls : Array Slot) (y110_1 : Int32) (y110_2 : Int32) (y110_3 : Int32) (z110_1 : Int32) (z110_2 : Int32), TH D cI cS τ ρ H_c110 → SS (AT τ [5, 7, 8, 10, 104, 108]) H H_c110 lc_c110 → lv_has ls 4 [(0, .ref a0), (1, .int y110_1), (2, .int y110_2), (3, .int y110_3)] → W p l e (rmO 3 74) s m args below meth c H_c110 lc_c110 0 0 (MQ below (va_Qv (fun (u : Heap) => True) (Bt D cI cS τ ρ H) (AT τ [5, 7, 8, 10, 104, 108])) args s 0 0 (AT τ [5, 7, 8, 10, 104, 108])) (F0 m 110 ls [.int z110_2, .int z110_1, .ref a0]) := by
    intro H_c110 lc_c110 ls y110_1 y110_2 y110_3 z110_1 z110_2 hT_c110 hS_c110 hl
    refine lv_iconst (v := 0) hx hb dX2_retransmit_110 (by decide) ?_
    exact J_111 H_c110 lc_c110 _ y110_1 y110_2 y110_3 z110_1 z110_2 0 hT_c110 hS_c110 hl (Or.inl rfl)
  refine lv_aload_n hx hb dX2_retransmit_0 rfl (lv_at hl 0 rfl) ?_
  refine gf_X2_12 E hT hW ha0 dX2_retransmit_1 (fun h_2 => ?_)
  refine th_Vi (As := []) (rest := []) E hml hl.1 (z_X5_firstUnmarked l D cI cS τ ρ hW H hT (ρ a0 4) h_2) lk_X2_226 yd_X5_firstUnmarked hT h_2 rfl (by decide) hS (AT.sub (by decide)) ⟨by decide, by decide⟩ (Nat.le_of_ble_eq_true rfl) ⟨by decide, by decide⟩ rfl dX2_retransmit_4 (fun r_3 H_3 locs_3 p_3 hT_3 hk_3 hS_3 => ?_)
  refine lv_istore_n (lv' := [(1, .int r_3), (0, .ref a0)]) hx hb dX2_retransmit_7 rfl hl (by decide) rfl (fun ls hl => ?_)
  refine lv_iload_n hx hb dX2_retransmit_8 rfl (lv_at hl 0 rfl) ?_
  refine lv_aload_n hx hb dX2_retransmit_9 rfl (lv_at hl 1 rfl) ?_
  refine gf_X2_12 E hT_3 hW ha0 dX2_retransmit_10 (fun h_4 => ?_)
  refine gf_X2_93 E hT_3 h_4 dX2_retransmit_13 ?_
  refine th_topi (y := fi D 5 1 H (ρ a0 4)) (fi_q (hk_3 _ (AT.out h_4 (by decide)))) ?_
  refine lv_topi (fun x_5 ex_5 => ?_)
  refine lv_icmp_lt (tgt := 20) hx hb dX2_retransmit_16 (by decide) (fun c_6 => ?_) (fun c_6 => ?_)
  · have f_6 : r_3.toInt < x_5.toInt := r_lt rfl rfl c_6
    refine lv_aload_n hx hb dX2_retransmit_20 rfl (lv_at hl 1 rfl) ?_
    refine gf_X2_28 E hT_3 hW ha0 dX2_retransmit_21 (fun h_7 => ?_)
    refine lv_bipush (v := (-4)) hx hb dX2_retransmit_24 (by decide) ?_
    refine pf_X2_229 E hT_3 hS_3 h_7 ⟨_, h_7, by decide⟩ dX2_retransmit_26 (fun H_8 locs_8 hT_8 hU_8 hS_8 => ?_)
    refine lv_aload_n hx hb dX2_retransmit_29 rfl (lv_at hl 1 rfl) ?_
    refine gf_X2_40 E hT_8 hW ha0 dX2_retransmit_30 (fun h_9 => ?_)
    refine lv_dup hx hb dX2_retransmit_33 rfl ?_
    refine gf_X2_232 E hT_8 h_9 dX2_retransmit_34 ?_
    refine th_topi (y := fi D 10 5 H (ρ a0 2)) (Eq.trans (fi_q (hU_8.2.2 _ (th_ne h_9 h_7 (by decide)))) (fi_q (hk_3 _ (AT.out h_9 (by decide))))) ?_
    refine lv_topi (fun x_10 ex_10 => ?_)
    refine lv_iconst (v := 1) hx hb dX2_retransmit_37 (by decide) ?_
    refine lv_iadd hx hb dX2_retransmit_38 ?_
    refine lv_topi (fun x_11 ex_11 => ?_)
    refine pf_X2_232 E hT_8 hS_8 h_9 ⟨_, h_9, by decide⟩ dX2_retransmit_39 (fun H_12 locs_12 hT_12 hU_12 hS_12 => ?_)
    refine lv_iload_n hx hb dX2_retransmit_42 rfl (lv_at hl 0 rfl) ?_
    refine lv_if_ne (tgt := 51) hx hb dX2_retransmit_43 (by decide) (fun c_13 => ?_) (fun c_13 => ?_)
    · have f_13 : ¬ r_3.toInt = 0 := r_ne rfl (by decide) c_13
      have nz_r_3 : ¬ r_3 = 0 := c_13
      refine lv_aload_n hx hb dX2_retransmit_51 rfl (lv_at hl 1 rfl) ?_
      refine gf_X2_12 E hT_12 hW ha0 dX2_retransmit_52 (fun h_14 => ?_)
      refine lv_iload_n hx hb dX2_retransmit_55 rfl (lv_at hl 0 rfl) ?_
      refine lv_aload_n hx hb dX2_retransmit_56 rfl (lv_at hl 1 rfl) ?_
      refine gf_X2_36 E hT_12 hW ha0 dX2_retransmit_57 (fun h_15 => ?_)
      refine gf_X2_189 E hT_12 h_15 dX2_retransmit_60 ?_
      refine th_topi (y := fi D 1 0 H (ρ a0 1)) (Eq.trans (fi_q (hU_12.2.2 _ (th_ne h_15 h_9 (by decide)))) (Eq.trans (fi_q (hU_8.2.2 _ (th_ne h_15 h_7 (by decide)))) (fi_q (hk_3 _ (AT.out h_15 (by decide)))))) ?_
      refine lv_topi (fun x_16 ex_16 => ?_)
      refine th_Vi (As := [.int r_3, .int x_16]) (rest := []) E hml hl.1 (z_X5_resendable l D cI cS τ ρ hW H_12 hT_12 (ρ a0 4) r_3 x_16 h_14) lk_X2_235 yd_X5_resendable hT_12 h_14 rfl (by decide) hS_12 (AT.sub (by decide)) ⟨by decide, by decide⟩ (Nat.le_of_ble_eq_true rfl) ⟨by decide, by decide⟩ rfl dX2_retransmit_63 (fun r_17 H_17 locs_17 p_17 hT_17 hk_17 hS_17 => ?_)
      refine lv_istore_n (lv' := [(2, .int r_17), (1, .int r_3), (0, .ref a0)]) hx hb dX2_retransmit_66 rfl hl (by decide) rfl (fun ls hl => ?_)
      refine lv_iload_n hx hb dX2_retransmit_67 rfl (lv_at hl 1 rfl) ?_
      refine lv_iload_n hx hb dX2_retransmit_68 rfl (lv_at hl 0 rfl) ?_
      refine lv_iadd hx hb dX2_retransmit_69 ?_
      refine lv_topi (fun x_18 ex_18 => ?_)
      refine lv_istore_n (lv' := [(3, .int x_18), (2, .int r_17), (1, .int r_3), (0, .ref a0)]) hx hb dX2_retransmit_70 rfl hl (by decide) rfl (fun ls hl => ?_)
      refine lv_aload_n hx hb dX2_retransmit_71 rfl (lv_at hl 3 rfl) ?_
      refine lv_iload_n hx hb dX2_retransmit_72 rfl (lv_at hl 2 rfl) ?_
      refine lv_iload_n hx hb dX2_retransmit_73 rfl (lv_at hl 1 rfl) ?_
      refine lv_aload_n hx hb dX2_retransmit_74 rfl (lv_at hl 3 rfl) ?_
      refine gf_X2_12 E hT_17 hW ha0 dX2_retransmit_75 (fun h_19 => ?_)
      refine th_Vi (As := []) (rest := [.int r_17, .int r_3, .ref a0]) E hml hl.1 (z_X5_isFinSent l D cI cS τ ρ hW H_17 hT_17 (ρ a0 4) h_19) lk_X2_202 yd_X5_isFinSent hT_17 h_19 rfl (by decide) hS_17 (AT.sub (by decide)) ⟨by decide, by decide⟩ (Nat.le_of_ble_eq_true rfl) ⟨by decide, by decide⟩ rfl dX2_retransmit_78 (fun r_20 H_20 locs_20 p_20 hT_20 hk_20 hS_20 => ?_)
      have z_20 := b_iv p_20
      refine lv_if_eq (tgt := 110) hx hb dX2_retransmit_81 (by decide) (fun c_21 => ?_) (fun c_21 => ?_)
      · have f_21 : r_20.toInt = 0 := r_eq rfl (by decide) c_21
        exact J_110 H_20 locs_20 _ r_3 r_17 x_18 r_3 r_17 hT_20 hS_20 (lv_sub hl [3, 2, 1, 0] rfl)
      · have f_21 : ¬ r_20.toInt = 0 := r_ne rfl (by decide) c_21
        have nz_r_20 : ¬ r_20 = 0 := c_21
        refine lv_iload_n hx hb dX2_retransmit_84 rfl (lv_at hl 0 rfl) ?_
        refine lv_aload_n hx hb dX2_retransmit_85 rfl (lv_at hl 3 rfl) ?_
        refine gf_X2_12 E hT_20 hW ha0 dX2_retransmit_86 (fun h_22 => ?_)
        refine th_Vi (As := []) (rest := [.int x_18, .int r_17, .int r_3, .ref a0]) E hml hl.1 (z_X5_finPlace l D cI cS τ ρ hW H_20 hT_20 (ρ a0 4) h_22) lk_X2_238 yd_X5_finPlace hT_20 h_22 rfl (by decide) hS_20 (AT.sub (by decide)) ⟨by decide, by decide⟩ (Nat.le_of_ble_eq_true rfl) ⟨by decide, by decide⟩ rfl dX2_retransmit_89 (fun r_23 H_23 locs_23 p_23 hT_23 hk_23 hS_23 => ?_)
        refine lv_icmp_ne (tgt := 110) hx hb dX2_retransmit_92 (by decide) (fun c_24 => ?_) (fun c_24 => ?_)
        · have f_24 : ¬ x_18.toInt = r_23.toInt := r_ne rfl rfl c_24
          exact J_110 H_23 locs_23 _ r_3 r_17 x_18 r_3 r_17 hT_23 hS_23 (lv_sub hl [3, 2, 1, 0] rfl)
        · have f_24 : x_18.toInt = r_23.toInt := r_eq rfl rfl c_24
          refine lv_aload_n hx hb dX2_retransmit_95 rfl (lv_at hl 3 rfl) ?_
          refine gf_X2_12 E hT_23 hW ha0 dX2_retransmit_96 (fun h_25 => ?_)
          refine lv_iload_n hx hb dX2_retransmit_99 rfl (lv_at hl 0 rfl) ?_
          refine th_Vi (As := [.int x_18]) (rest := [.int r_17, .int r_3, .ref a0]) E hml hl.1 (z_X5_isMarked l D cI cS τ ρ hW H_23 hT_23 (ρ a0 4) x_18 h_25) lk_X2_241 yd_X5_isMarked hT_23 h_25 rfl (by decide) hS_23 (AT.sub (by decide)) ⟨by decide, by decide⟩ (Nat.le_of_ble_eq_true rfl) ⟨by decide, by decide⟩ rfl dX2_retransmit_100 (fun r_26 H_26 locs_26 p_26 hT_26 hk_26 hS_26 => ?_)
          have z_26 := b_iv p_26
          refine lv_if_ne (tgt := 110) hx hb dX2_retransmit_103 (by decide) (fun c_27 => ?_) (fun c_27 => ?_)
          · have f_27 : ¬ r_26.toInt = 0 := r_ne rfl (by decide) c_27
            have nz_r_26 : ¬ r_26 = 0 := c_27
            exact J_110 H_26 locs_26 _ r_3 r_17 x_18 r_3 r_17 hT_26 hS_26 (lv_sub hl [3, 2, 1, 0] rfl)
          · have f_27 : r_26.toInt = 0 := r_eq rfl (by decide) c_27
            refine lv_iconst (v := 1) hx hb dX2_retransmit_106 (by decide) ?_
            refine lv_goto (tgt := 111) hx hb dX2_retransmit_107 (by decide) ?_
            exact J_111 H_26 locs_26 _ r_3 r_17 x_18 r_3 r_17 1 hT_26 hS_26 (lv_sub hl [3, 2, 1, 0] rfl) (Or.inr rfl)
    · have f_13 : r_3.toInt = 0 := r_eq rfl (by decide) c_13
      refine lv_aload_n hx hb dX2_retransmit_46 rfl (lv_at hl 1 rfl) ?_
      refine th_Vv (As := []) (rest := []) E hml hl.1 (z_X2_sendSyn l D cI cS τ ρ hW H_12 hT_12 a0 ha0) lk_X2_154 yd_X2_sendSyn hT_12 ha0 rfl (by decide) hS_12 (AT.sub (by decide)) ⟨by decide, by decide⟩ (Nat.le_of_ble_eq_true rfl) ⟨by decide, by decide⟩ rfl dX2_retransmit_47 (fun H_28 locs_28 p_28 hT_28 hk_28 hS_28 => ?_)
      exact th_vret E hr hlk hs hT_28 hS_28 trivial dX2_retransmit_50
  · have f_6 : x_5.toInt ≤ r_3.toInt := r_nlt rfl rfl c_6
    exact th_vret E hr hlk hs hT_3 hS_3 trivial dX2_retransmit_19
set_option maxHeartbeats 4000000 in
set_option maxRecDepth 100000 in
/-- StreamEnds$RoundTrips.doubleTimeout: it ends, and the heap stays typed -/
theorem z_X7_doubleTimeout (l : Launch) (D : va_G) (cI cS : ClassId) (τ : Nat → Option Nat) (ρ : Nat → Nat → Nat) (hW : WF τ ρ) (H : Heap) (hT : TH D cI cS τ ρ H) (a0 : Nat) (ha0 : τ a0 = some 7) : MV l D cI cS τ ρ yX7_doubleTimeout cX7_doubleTimeout 1 none 1 14 H [.ref a0] (fun (u : Heap) => True) (AT τ [7]) := by
  refine MV.of (by decide) (Nat.le_of_ble_eq_true rfl) ?_
  intro p e s m args below meth c E hml hr hlk hs ls hl
  have hx := E.1
  have hb := E.2.1
  have hown := E.2.2.1
  have hts := E.2.2.2.1
  have hS : SS (AT τ [7]) H H [] := SS.rf
  have hl : lv_has ls 1 [(0, .ref a0)] := hl
  refine lv_aload_n hx hb dX7_doubleTimeout_0 rfl (lv_at hl 0 rfl) ?_
  refine lv_bipush (v := 64) hx hb dX7_doubleTimeout_1 (by decide) ?_
  refine lv_iconst (v := 2) hx hb dX7_doubleTimeout_3 (by decide) ?_
  refine lv_aload_n hx hb dX7_doubleTimeout_4 rfl (lv_at hl 0 rfl) ?_
  refine gf_X7_15 E hT ha0 dX7_doubleTimeout_5 ?_
  refine lv_topi (fun x_1 ex_1 => ?_)
  refine lv_imul hx hb dX7_doubleTimeout_8 ?_
  refine lv_topi (fun x_2 ex_2 => ?_)
  refine mm_X7_54 E hml hl.1 (by decide) (Nat.le_of_ble_eq_true rfl) ⟨by decide, by decide⟩ dX7_doubleTimeout_9 ?_
  refine lv_topi (fun x_3 ex_3 => ?_)
  have q_3 := i_minq (x := (64 : Int32)) (y := x_2) (a := 64) (b := x_2.toInt) (by decide) rfl ex_3
  refine pf_X7_15 E hT hS ha0 ⟨_, ha0, by decide⟩ dX7_doubleTimeout_12 (fun H_4 locs_4 hT_4 hU_4 hS_4 => ?_)
  exact th_vret E hr hlk hs hT_4 hS_4 trivial dX7_doubleTimeout_15
set_option maxHeartbeats 4000000 in
set_option maxRecDepth 100000 in
/-- StreamEnds$Endpoint.expire: it ends, and the heap stays typed -/
theorem z_X2_expire (l : Launch) (D : va_G) (cI cS : ClassId) (τ : Nat → Option Nat) (ρ : Nat → Nat → Nat) (hW : WF τ ρ) (H : Heap) (hT : TH D cI cS τ ρ H) (a0 : Nat) (ha0 : τ a0 = some 2) : MV l D cI cS τ ρ yX2_expire cX2_expire 1 none 4 97 H [.ref a0] (fun (u : Heap) => True) (AT τ [2, 5, 7, 8, 10, 104, 108]) := by
  refine MV.of (by decide) (Nat.le_of_ble_eq_true rfl) ?_
  intro p e s m args below meth c E hml hr hlk hs ls hl
  have hx := E.1
  have hb := E.2.1
  have hown := E.2.2.1
  have hts := E.2.2.2.1
  have hS : SS (AT τ [2, 5, 7, 8, 10, 104, 108]) H H [] := SS.rf
  have hl : lv_has ls 1 [(0, .ref a0)] := hl
  have J_92 : ∀ (H_c92 : Heap) (lc_c92 : List Loc) (ls : Array Slot), TH D cI cS τ ρ H_c92 → SS (AT τ [2, 5, 7, 8, 10, 104, 108]) H H_c92 lc_c92 → lv_has ls 1 [(0, .ref a0)] → W p l e (rmO 4 97) s m args below meth c H_c92 lc_c92 0 0 (MQ below (va_Qv (fun (u : Heap) => True) (Bt D cI cS τ ρ H) (AT τ [2, 5, 7, 8, 10, 104, 108])) args s 0 0 (AT τ [2, 5, 7, 8, 10, 104, 108])) (F0 m 92 ls []) := by
    intro H_c92 lc_c92 ls hT_c92 hS_c92 hl
    refine lv_aload_n hx hb dX2_expire_92 rfl (lv_at hl 0 rfl) ?_
    refine gf_X2_28 E hT_c92 hW ha0 dX2_expire_93 (fun h_1 => ?_)
    refine th_Vv (As := []) (rest := []) E hml hl.1 (z_X7_doubleTimeout l D cI cS τ ρ hW H_c92 hT_c92 (ρ a0 6) h_1) lk_X2_220 yd_X7_doubleTimeout hT_c92 h_1 rfl (by decide) hS_c92 (AT.sub (by decide)) ⟨by decide, by decide⟩ (Nat.le_of_ble_eq_true rfl) ⟨by decide, by decide⟩ rfl dX2_expire_96 (fun H_2 locs_2 p_2 hT_2 hk_2 hS_2 => ?_)
    refine lv_aload_n hx hb dX2_expire_99 rfl (lv_at hl 0 rfl) ?_
    refine th_Vv (As := []) (rest := []) E hml hl.1 (z_X2_adjustTimer l D cI cS τ ρ hW H_2 hT_2 a0 ha0) lk_X2_223 yd_X2_adjustTimer hT_2 ha0 rfl (by decide) hS_2 (AT.sub (by decide)) ⟨by decide, by decide⟩ (Nat.le_of_ble_eq_true rfl) ⟨by decide, by decide⟩ rfl dX2_expire_100 (fun H_3 locs_3 p_3 hT_3 hk_3 hS_3 => ?_)
    exact th_vret E hr hlk hs hT_3 hS_3 trivial dX2_expire_103
  refine lv_aload_n hx hb dX2_expire_0 rfl (lv_at hl 0 rfl) ?_
  refine gf_X2_12 E hT hW ha0 dX2_expire_1 (fun h_4 => ?_)
  refine gf_X2_90 E hT h_4 dX2_expire_4 ?_
  refine lv_topi (fun x_5 ex_5 => ?_)
  refine lv_aload_n hx hb dX2_expire_7 rfl (lv_at hl 0 rfl) ?_
  refine gf_X2_12 E hT hW ha0 dX2_expire_8 (fun h_6 => ?_)
  refine gf_X2_93 E hT h_6 dX2_expire_11 ?_
  refine lv_topi (fun x_7 ex_7 => ?_)
  refine lv_icmp_ge (tgt := 24) hx hb dX2_expire_14 (by decide) (fun c_8 => ?_) (fun c_8 => ?_)
  · have f_8 : x_7.toInt ≤ x_5.toInt := r_le rfl rfl c_8
    refine lv_aload_n hx hb dX2_expire_24 rfl (lv_at hl 0 rfl) ?_
    refine gf_X2_12 E hT hW ha0 dX2_expire_25 (fun h_9 => ?_)
    refine gf_X2_93 E hT h_9 dX2_expire_28 ?_
    refine th_topi (y := x_7) ex_7.symm ?_
    refine lv_aload_n hx hb dX2_expire_31 rfl (lv_at hl 0 rfl) ?_
    refine gf_X2_12 E hT hW ha0 dX2_expire_32 (fun h_10 => ?_)
    refine gf_X2_195 E hT h_10 dX2_expire_35 ?_
    refine lv_topi (fun x_11 ex_11 => ?_)
    refine lv_icmp_ge (tgt := 70) hx hb dX2_expire_38 (by decide) (fun c_12 => ?_) (fun c_12 => ?_)
    · have f_12 : x_11.toInt ≤ x_7.toInt := r_le rfl rfl c_12
      refine lv_aload_n hx hb dX2_expire_70 rfl (lv_at hl 0 rfl) ?_
      refine lv_iconst (v := 4) hx hb dX2_expire_71 (by decide) ?_
      refine lv_aload_n hx hb dX2_expire_72 rfl (lv_at hl 0 rfl) ?_
      refine gf_X2_12 E hT hW ha0 dX2_expire_73 (fun h_13 => ?_)
      refine gf_X2_93 E hT h_13 dX2_expire_76 ?_
      refine th_topi (y := x_7) ex_7.symm ?_
      refine lv_iconst (v := 1) hx hb dX2_expire_79 (by decide) ?_
      refine lv_isub hx hb dX2_expire_80 ?_
      refine lv_topi (fun x_14 ex_14 => ?_)
      refine th_Vr (As := [.int 4, .int x_14]) (rest := []) E hml hl.1 (z_X2_draft l D cI cS τ ρ hW H hT a0 4 x_14 ha0) lk_X2_165 yd_X2_draft hT ha0 rfl (by decide) hS (AT.sub (by decide)) ⟨by decide, by decide⟩ (Nat.le_of_ble_eq_true rfl) ⟨by decide, by decide⟩ rfl dX2_expire_81 (fun r_15 H_15 locs_15 p_15 hT_15 hk_15 hS_15 => ?_)
      refine lv_pop hx hb dX2_expire_84 rfl ?_
      refine lv_aload_n hx hb dX2_expire_85 rfl (lv_at hl 0 rfl) ?_
      refine gf_X2_40 E hT_15 hW ha0 dX2_expire_86 (fun h_16 => ?_)
      refine th_Vv (As := []) (rest := []) E hml hl.1 (z_X10_sendDraft l D cI cS τ ρ hW H_15 hT_15 (ρ a0 2) h_16) lk_X2_168 yd_X10_sendDraft hT_15 h_16 rfl (by decide) hS_15 (AT.sub (by decide)) ⟨by decide, by decide⟩ (Nat.le_of_ble_eq_true rfl) ⟨by decide, by decide⟩ rfl dX2_expire_89 (fun H_17 locs_17 p_17 hT_17 hk_17 hS_17 => ?_)
      exact J_92 H_17 locs_17 _ hT_17 hS_17 hl
    · have f_12 : x_7.toInt < x_11.toInt := r_nle rfl rfl c_12
      refine lv_aload_n hx hb dX2_expire_41 rfl (lv_at hl 0 rfl) ?_
      refine lv_aload_n hx hb dX2_expire_42 rfl (lv_at hl 0 rfl) ?_
      refine gf_X2_12 E hT hW ha0 dX2_expire_43 (fun h_18 => ?_)
      refine gf_X2_93 E hT h_18 dX2_expire_46 ?_
      refine th_topi (y := x_7) ex_7.symm ?_
      refine lv_aload_n hx hb dX2_expire_49 rfl (lv_at hl 0 rfl) ?_
      refine gf_X2_12 E hT hW ha0 dX2_expire_50 (fun h_19 => ?_)
      refine lv_aload_n hx hb dX2_expire_53 rfl (lv_at hl 0 rfl) ?_
      refine gf_X2_36 E hT hW ha0 dX2_expire_54 (fun h_20 => ?_)
      refine gf_X2_189 E hT h_20 dX2_expire_57 ?_
      refine lv_topi (fun x_21 ex_21 => ?_)
      refine th_Vi (As := [.int x_21]) (rest := [.int x_7, .ref a0]) E hml hl.1 (z_X5_sendable l D cI cS τ ρ hW H hT (ρ a0 4) x_21 h_19) lk_X2_192 yd_X5_sendable hT h_19 rfl (by decide) hS (AT.sub (by decide)) ⟨by decide, by decide⟩ (Nat.le_of_ble_eq_true rfl) ⟨by decide, by decide⟩ rfl dX2_expire_60 (fun r_22 H_22 locs_22 p_22 hT_22 hk_22 hS_22 => ?_)
      refine lv_iconst (v := 0) hx hb dX2_expire_63 (by decide) ?_
      refine th_Vv (As := [.int x_7, .int r_22, .int 0]) (rest := []) E hml hl.1 (z_X2_sendData l D cI cS τ ρ hW H_22 hT_22 a0 x_7 r_22 0 ha0 (Or.inl rfl)) lk_X2_198 yd_X2_sendData hT_22 ha0 rfl (by decide) hS_22 (AT.sub (by decide)) ⟨by decide, by decide⟩ (Nat.le_of_ble_eq_true rfl) ⟨by decide, by decide⟩ rfl dX2_expire_64 (fun H_23 locs_23 p_23 hT_23 hk_23 hS_23 => ?_)
      refine lv_goto (tgt := 92) hx hb dX2_expire_67 (by decide) ?_
      exact J_92 H_23 locs_23 _ hT_23 hS_23 hl
  · have f_8 : x_5.toInt < x_7.toInt := r_nle rfl rfl c_8
    refine lv_aload_n hx hb dX2_expire_17 rfl (lv_at hl 0 rfl) ?_
    refine th_Vv (As := []) (rest := []) E hml hl.1 (z_X2_retransmit l D cI cS τ ρ hW H hT a0 ha0) lk_X2_217 yd_X2_retransmit hT ha0 rfl (by decide) hS (AT.sub (by decide)) ⟨by decide, by decide⟩ (Nat.le_of_ble_eq_true rfl) ⟨by decide, by decide⟩ rfl dX2_expire_18 (fun H_24 locs_24 p_24 hT_24 hk_24 hS_24 => ?_)
    refine lv_goto (tgt := 92) hx hb dX2_expire_21 (by decide) ?_
    exact J_92 H_24 locs_24 _ hT_24 hS_24 hl
set_option maxHeartbeats 4000000 in
set_option maxRecDepth 100000 in
/-- StreamEnds$Endpoint.isBusy: it ends, and the heap stays typed -/
theorem z_X2_isBusy (l : Launch) (D : va_G) (cI cS : ClassId) (τ : Nat → Option Nat) (ρ : Nat → Nat → Nat) (hW : WF τ ρ) (H : Heap) (hT : TH D cI cS τ ρ H) (a0 : Nat) (ha0 : τ a0 = some 2) : MI l D cI cS τ ρ yX2_isBusy cX2_isBusy 1 (some .boolean) 0 0 H [.ref a0] (fun (r : Int32) (u : Heap) => r = 0 ∨ r = 1) (AT τ []) := by
  refine MI.of (by decide) (Nat.le_of_ble_eq_true rfl) ?_
  intro p e s m args below meth c E hml hr hlk hs ls hl
  have hx := E.1
  have hb := E.2.1
  have hown := E.2.2.1
  have hts := E.2.2.2.1
  have hS : SS (AT τ []) H H [] := SS.rf
  have hl : lv_has ls 1 [(0, .ref a0)] := hl
  refine lv_aload_n hx hb dX2_isBusy_0 rfl (lv_at hl 0 rfl) ?_
  refine gf_X2_66 E hT ha0 dX2_isBusy_1 ?_
  refine lv_topi (fun x_1 ex_1 => ?_)
  refine lv_if_ne (tgt := 16) hx hb dX2_isBusy_4 (by decide) (fun c_2 => ?_) (fun c_2 => ?_)
  · have f_2 : ¬ x_1.toInt = 0 := r_ne rfl (by decide) c_2
    have nz_x_1 : ¬ x_1 = 0 := c_2
    refine lv_iconst (v := 1) hx hb dX2_isBusy_16 (by decide) ?_
    refine lv_goto (tgt := 21) hx hb dX2_isBusy_17 (by decide) ?_
    exact th_zret E hr hlk hs (Or.inr rfl) hT hS (Or.inr rfl) dX2_isBusy_21
  · have f_2 : x_1.toInt = 0 := r_eq rfl (by decide) c_2
    refine lv_aload_n hx hb dX2_isBusy_7 rfl (lv_at hl 0 rfl) ?_
    refine gf_X2_63 E hT ha0 dX2_isBusy_8 ?_
    refine lv_topi (fun x_3 ex_3 => ?_)
    refine lv_bipush (v := 10) hx hb dX2_isBusy_11 (by decide) ?_
    refine lv_icmp_ne (tgt := 20) hx hb dX2_isBusy_13 (by decide) (fun c_4 => ?_) (fun c_4 => ?_)
    · have f_4 : ¬ x_3.toInt = 10 := r_ne rfl (by decide) c_4
      refine lv_iconst (v := 0) hx hb dX2_isBusy_20 (by decide) ?_
      exact th_zret E hr hlk hs (Or.inl rfl) hT hS (Or.inl rfl) dX2_isBusy_21
    · have f_4 : x_3.toInt = 10 := r_eq rfl (by decide) c_4
      refine lv_iconst (v := 1) hx hb dX2_isBusy_16 (by decide) ?_
      refine lv_goto (tgt := 21) hx hb dX2_isBusy_17 (by decide) ?_
      exact th_zret E hr hlk hs (Or.inr rfl) hT hS (Or.inr rfl) dX2_isBusy_21
set_option maxHeartbeats 4000000 in
set_option maxRecDepth 100000 in
/-- StreamEnds$Endpoint.isReceiving: it ends, and the heap stays typed -/
theorem z_X2_isReceiving (l : Launch) (D : va_G) (cI cS : ClassId) (τ : Nat → Option Nat) (ρ : Nat → Nat → Nat) (hW : WF τ ρ) (H : Heap) (hT : TH D cI cS τ ρ H) (a0 : Nat) (ha0 : τ a0 = some 2) : MI l D cI cS τ ρ yX2_isReceiving cX2_isReceiving 1 (some .boolean) 0 0 H [.ref a0] (fun (r : Int32) (u : Heap) => r = 0 ∨ r = 1) (AT τ []) := by
  refine MI.of (by decide) (Nat.le_of_ble_eq_true rfl) ?_
  intro p e s m args below meth c E hml hr hlk hs ls hl
  have hx := E.1
  have hb := E.2.1
  have hown := E.2.2.1
  have hts := E.2.2.2.1
  have hS : SS (AT τ []) H H [] := SS.rf
  have hl : lv_has ls 1 [(0, .ref a0)] := hl
  refine lv_aload_n hx hb dX2_isReceiving_0 rfl (lv_at hl 0 rfl) ?_
  refine gf_X2_63 E hT ha0 dX2_isReceiving_1 ?_
  refine lv_topi (fun x_1 ex_1 => ?_)
  refine lv_iconst (v := 4) hx hb dX2_isReceiving_4 (by decide) ?_
  refine lv_icmp_eq (tgt := 25) hx hb dX2_isReceiving_5 (by decide) (fun c_2 => ?_) (fun c_2 => ?_)
  · have f_2 : x_1.toInt = 4 := r_eq rfl (by decide) c_2
    refine lv_iconst (v := 1) hx hb dX2_isReceiving_25 (by decide) ?_
    refine lv_goto (tgt := 30) hx hb dX2_isReceiving_26 (by decide) ?_
    exact th_zret E hr hlk hs (Or.inr rfl) hT hS (Or.inr rfl) dX2_isReceiving_30
  · have f_2 : ¬ x_1.toInt = 4 := r_ne rfl (by decide) c_2
    refine lv_aload_n hx hb dX2_isReceiving_8 rfl (lv_at hl 0 rfl) ?_
    refine gf_X2_63 E hT ha0 dX2_isReceiving_9 ?_
    refine th_topi (y := x_1) ex_1.symm ?_
    refine lv_iconst (v := 5) hx hb dX2_isReceiving_12 (by decide) ?_
    refine lv_icmp_eq (tgt := 25) hx hb dX2_isReceiving_13 (by decide) (fun c_3 => ?_) (fun c_3 => ?_)
    · have f_3 : x_1.toInt = 5 := r_eq rfl (by decide) c_3
      refine lv_iconst (v := 1) hx hb dX2_isReceiving_25 (by decide) ?_
      refine lv_goto (tgt := 30) hx hb dX2_isReceiving_26 (by decide) ?_
      exact th_zret E hr hlk hs (Or.inr rfl) hT hS (Or.inr rfl) dX2_isReceiving_30
    · have f_3 : ¬ x_1.toInt = 5 := r_ne rfl (by decide) c_3
      refine lv_aload_n hx hb dX2_isReceiving_16 rfl (lv_at hl 0 rfl) ?_
      refine gf_X2_63 E hT ha0 dX2_isReceiving_17 ?_
      refine th_topi (y := x_1) ex_1.symm ?_
      refine lv_bipush (v := 6) hx hb dX2_isReceiving_20 (by decide) ?_
      refine lv_icmp_ne (tgt := 29) hx hb dX2_isReceiving_22 (by decide) (fun c_4 => ?_) (fun c_4 => ?_)
      · have f_4 : ¬ x_1.toInt = 6 := r_ne rfl (by decide) c_4
        refine lv_iconst (v := 0) hx hb dX2_isReceiving_29 (by decide) ?_
        exact th_zret E hr hlk hs (Or.inl rfl) hT hS (Or.inl rfl) dX2_isReceiving_30
      · have f_4 : x_1.toInt = 6 := r_eq rfl (by decide) c_4
        refine lv_iconst (v := 1) hx hb dX2_isReceiving_25 (by decide) ?_
        refine lv_goto (tgt := 30) hx hb dX2_isReceiving_26 (by decide) ?_
        exact th_zret E hr hlk hs (Or.inr rfl) hT hS (Or.inr rfl) dX2_isReceiving_30
set_option maxHeartbeats 4000000 in
set_option maxRecDepth 100000 in
/-- StreamEnds$Endpoint.maySay: it ends, and the heap stays typed -/
theorem z_X2_maySay (l : Launch) (D : va_G) (cI cS : ClassId) (τ : Nat → Option Nat) (ρ : Nat → Nat → Nat) (hW : WF τ ρ) (H : Heap) (hT : TH D cI cS τ ρ H) (a0 : Nat) (ha0 : τ a0 = some 2) : MI l D cI cS τ ρ yX2_maySay cX2_maySay 1 (some .boolean) 1 20 H [.ref a0] (fun (r : Int32) (u : Heap) => r = 0 ∨ r = 1) (AT τ []) := by
  refine MI.of (by decide) (Nat.le_of_ble_eq_true rfl) ?_
  intro p e s m args below meth c E hml hr hlk hs ls hl
  have hx := E.1
  have hb := E.2.1
  have hown := E.2.2.1
  have hts := E.2.2.2.1
  have hS : SS (AT τ []) H H [] := SS.rf
  have hl : lv_has ls 1 [(0, .ref a0)] := hl
  have J_23 : ∀ (H_c23 : Heap) (lc_c23 : List Loc) (ls : Array Slot), TH D cI cS τ ρ H_c23 → SS (AT τ []) H H_c23 lc_c23 → lv_has ls 1 [(0, .ref a0)] → W p l e (rmO 1 20) s m args below meth c H_c23 lc_c23 0 0 (MQ below (va_Qi (fun (r : Int32) (u : Heap) => r = 0 ∨ r = 1) (Bt D cI cS τ ρ H) (AT τ [])) args s 0 0 (AT τ [])) (F0 m 23 ls []) := by
    intro H_c23 lc_c23 ls hT_c23 hS_c23 hl
    refine lv_aload_n hx hb dX2_maySay_23 rfl (lv_at hl 0 rfl) ?_
    refine gf_X2_12 E hT_c23 hW ha0 dX2_maySay_24 (fun h_1 => ?_)
    refine gf_X2_86 E hT_c23 h_1 dX2_maySay_27 ?_
    refine lv_topi (fun x_2 ex_2 => ?_)
    have bx_2 : x_2 = 0 ∨ x_2 = 1 := by rw [ex_2]; exact (TH.vb hT_c23 h_1 (by decide) (by decide) rfl).2
    have z_2 := b_iv bx_2
    refine lv_if_ne (tgt := 37) hx hb dX2_maySay_30 (by decide) (fun c_3 => ?_) (fun c_3 => ?_)
    · have f_3 : ¬ x_2.toInt = 0 := r_ne rfl (by decide) c_3
      have nz_x_2 : ¬ x_2 = 0 := c_3
      refine lv_iconst (v := 0) hx hb dX2_maySay_37 (by decide) ?_
      exact th_zret E hr hlk hs (Or.inl rfl) hT_c23 hS_c23 (Or.inl rfl) dX2_maySay_38
    · have f_3 : x_2.toInt = 0 := r_eq rfl (by decide) c_3
      refine lv_iconst (v := 1) hx hb dX2_maySay_33 (by decide) ?_
      refine lv_goto (tgt := 38) hx hb dX2_maySay_34 (by decide) ?_
      exact th_zret E hr hlk hs (Or.inr rfl) hT_c23 hS_c23 (Or.inr rfl) dX2_maySay_38
  refine lv_aload_n hx hb dX2_maySay_0 rfl (lv_at hl 0 rfl) ?_
  refine gf_X2_63 E hT ha0 dX2_maySay_1 ?_
  refine lv_topi (fun x_4 ex_4 => ?_)
  refine lv_iconst (v := 2) hx hb dX2_maySay_4 (by decide) ?_
  refine lv_icmp_eq (tgt := 23) hx hb dX2_maySay_5 (by decide) (fun c_5 => ?_) (fun c_5 => ?_)
  · have f_5 : x_4.toInt = 2 := r_eq rfl (by decide) c_5
    exact J_23 H [] _ hT hS hl
  · have f_5 : ¬ x_4.toInt = 2 := r_ne rfl (by decide) c_5
    refine lv_aload_n hx hb dX2_maySay_8 rfl (lv_at hl 0 rfl) ?_
    refine gf_X2_63 E hT ha0 dX2_maySay_9 ?_
    refine th_topi (y := x_4) ex_4.symm ?_
    refine lv_iconst (v := 3) hx hb dX2_maySay_12 (by decide) ?_
    refine lv_icmp_eq (tgt := 23) hx hb dX2_maySay_13 (by decide) (fun c_6 => ?_) (fun c_6 => ?_)
    · have f_6 : x_4.toInt = 3 := r_eq rfl (by decide) c_6
      exact J_23 H [] _ hT hS hl
    · have f_6 : ¬ x_4.toInt = 3 := r_ne rfl (by decide) c_6
      refine lv_aload_n hx hb dX2_maySay_16 rfl (lv_at hl 0 rfl) ?_
      refine th_Vi (As := []) (rest := []) E hml hl.1 (z_X2_mayTransmit l D cI cS τ ρ hW H hT a0 ha0) lk_X2_82 yd_X2_mayTransmit hT ha0 rfl (by decide) hS (AT.sub (by decide)) ⟨by decide, by decide⟩ (Nat.le_of_ble_eq_true rfl) ⟨by decide, by decide⟩ rfl dX2_maySay_17 (fun r_7 H_7 locs_7 p_7 hT_7 hk_7 hS_7 => ?_)
      have z_7 := b_iv p_7
      refine lv_if_eq (tgt := 37) hx hb dX2_maySay_20 (by decide) (fun c_8 => ?_) (fun c_8 => ?_)
      · have f_8 : r_7.toInt = 0 := r_eq rfl (by decide) c_8
        refine lv_iconst (v := 0) hx hb dX2_maySay_37 (by decide) ?_
        exact th_zret E hr hlk hs (Or.inl rfl) hT_7 hS_7 (Or.inl rfl) dX2_maySay_38
      · have f_8 : ¬ r_7.toInt = 0 := r_ne rfl (by decide) c_8
        have nz_r_7 : ¬ r_7 = 0 := c_8
        exact J_23 H_7 locs_7 _ hT_7 hS_7 hl
set_option maxHeartbeats 4000000 in
set_option maxRecDepth 100000 in
/-- StreamEnds$Endpoint.sendAck: it ends, and the heap stays typed -/
theorem z_X2_sendAck (l : Launch) (D : va_G) (cI cS : ClassId) (τ : Nat → Option Nat) (ρ : Nat → Nat → Nat) (hW : WF τ ρ) (H : Heap) (hT : TH D cI cS τ ρ H) (a0 : Nat) (ha0 : τ a0 = some 2) : MV l D cI cS τ ρ yX2_sendAck cX2_sendAck 1 none 2 49 H [.ref a0] (fun (u : Heap) => True) (AT τ [8, 10, 104]) := by
  refine MV.of (by decide) (Nat.le_of_ble_eq_true rfl) ?_
  intro p e s m args below meth c E hml hr hlk hs ls hl
  have hx := E.1
  have hb := E.2.1
  have hown := E.2.2.1
  have hts := E.2.2.2.1
  have hS : SS (AT τ [8, 10, 104]) H H [] := SS.rf
  have hl : lv_has ls 1 [(0, .ref a0)] := hl
  refine lv_aload_n hx hb dX2_sendAck_0 rfl (lv_at hl 0 rfl) ?_
  refine lv_iconst (v := 4) hx hb dX2_sendAck_1 (by decide) ?_
  refine lv_aload_n hx hb dX2_sendAck_2 rfl (lv_at hl 0 rfl) ?_
  refine gf_X2_12 E hT hW ha0 dX2_sendAck_3 (fun h_1 => ?_)
  refine gf_X2_93 E hT h_1 dX2_sendAck_6 ?_
  refine lv_topi (fun x_2 ex_2 => ?_)
  refine th_Vr (As := [.int 4, .int x_2]) (rest := []) E hml hl.1 (z_X2_draft l D cI cS τ ρ hW H hT a0 4 x_2 ha0) lk_X2_165 yd_X2_draft hT ha0 rfl (by decide) hS (AT.sub (by decide)) ⟨by decide, by decide⟩ (Nat.le_of_ble_eq_true rfl) ⟨by decide, by decide⟩ rfl dX2_sendAck_9 (fun r_3 H_3 locs_3 p_3 hT_3 hk_3 hS_3 => ?_)
  refine lv_pop hx hb dX2_sendAck_12 rfl ?_
  refine lv_aload_n hx hb dX2_sendAck_13 rfl (lv_at hl 0 rfl) ?_
  refine gf_X2_40 E hT_3 hW ha0 dX2_sendAck_14 (fun h_4 => ?_)
  refine th_Vv (As := []) (rest := []) E hml hl.1 (z_X10_sendDraft l D cI cS τ ρ hW H_3 hT_3 (ρ a0 2) h_4) lk_X2_168 yd_X10_sendDraft hT_3 h_4 rfl (by decide) hS_3 (AT.sub (by decide)) ⟨by decide, by decide⟩ (Nat.le_of_ble_eq_true rfl) ⟨by decide, by decide⟩ rfl dX2_sendAck_17 (fun H_5 locs_5 p_5 hT_5 hk_5 hS_5 => ?_)
  exact th_vret E hr hlk hs hT_5 hS_5 trivial dX2_sendAck_20
set_option maxHeartbeats 4000000 in
set_option maxRecDepth 100000 in
/-- StreamEnds$Endpoint.sendFirstSyn: it ends, and the heap stays typed -/
theorem z_X2_sendFirstSyn (l : Launch) (D : va_G) (cI cS : ClassId) (τ : Nat → Option Nat) (ρ : Nat → Nat → Nat) (hW : WF τ ρ) (H : Heap) (hT : TH D cI cS τ ρ H) (a0 : Nat) (ha0 : τ a0 = some 2) : MV l D cI cS τ ρ yX2_sendFirstSyn cX2_sendFirstSyn 1 none 3 69 H [.ref a0] (fun (u : Heap) => True) (AT τ [5, 7, 8, 10, 104]) := by
  refine MV.of (by decide) (Nat.le_of_ble_eq_true rfl) ?_
  intro p e s m args below meth c E hml hr hlk hs ls hl
  have hx := E.1
  have hb := E.2.1
  have hown := E.2.2.1
  have hts := E.2.2.2.1
  have hS : SS (AT τ [5, 7, 8, 10, 104]) H H [] := SS.rf
  have hl : lv_has ls 1 [(0, .ref a0)] := hl
  refine lv_aload_n hx hb dX2_sendFirstSyn_0 rfl (lv_at hl 0 rfl) ?_
  refine th_Vv (As := []) (rest := []) E hml hl.1 (z_X2_sendSyn l D cI cS τ ρ hW H hT a0 ha0) lk_X2_154 yd_X2_sendSyn hT ha0 rfl (by decide) hS (AT.sub (by decide)) ⟨by decide, by decide⟩ (Nat.le_of_ble_eq_true rfl) ⟨by decide, by decide⟩ rfl dX2_sendFirstSyn_1 (fun H_1 locs_1 p_1 hT_1 hk_1 hS_1 => ?_)
  refine lv_aload_n hx hb dX2_sendFirstSyn_4 rfl (lv_at hl 0 rfl) ?_
  refine gf_X2_28 E hT_1 hW ha0 dX2_sendFirstSyn_5 (fun h_2 => ?_)
  refine lv_iconst (v := 0) hx hb dX2_sendFirstSyn_8 (by decide) ?_
  refine lv_aload_n hx hb dX2_sendFirstSyn_9 rfl (lv_at hl 0 rfl) ?_
  refine gf_X2_44 E hT_1 hW ha0 dX2_sendFirstSyn_10 (fun h_3 => ?_)
  refine gf_X2_157 E hT_1 h_3 dX2_sendFirstSyn_13 ?_
  refine th_topi (y := fi D 0 0 H (ρ a0 3)) (fi_q (hk_1 _ (AT.out h_3 (by decide)))) ?_
  refine lv_topi (fun x_4 ex_4 => ?_)
  refine th_Vv (As := [.int 0, .int x_4]) (rest := []) E hml hl.1 (z_X7_startTiming l D cI cS τ ρ hW H_1 hT_1 (ρ a0 6) 0 x_4 h_2) lk_X2_162 yd_X7_startTiming hT_1 h_2 rfl (by decide) hS_1 (AT.sub (by decide)) ⟨by decide, by decide⟩ (Nat.le_of_ble_eq_true rfl) ⟨by decide, by decide⟩ rfl dX2_sendFirstSyn_16 (fun H_5 locs_5 p_5 hT_5 hk_5 hS_5 => ?_)
  exact th_vret E hr hlk hs hT_5 hS_5 trivial dX2_sendFirstSyn_19
set_option maxHeartbeats 4000000 in
set_option maxRecDepth 100000 in
/-- StreamEnds$Endpoint.sendReset: it ends, and the heap stays typed -/
theorem z_X2_sendReset (l : Launch) (D : va_G) (cI cS : ClassId) (τ : Nat → Option Nat) (ρ : Nat → Nat → Nat) (hW : WF τ ρ) (H : Heap) (hT : TH D cI cS τ ρ H) (a0 : Nat) (x0 : Int32) (ha0 : τ a0 = some 2) : MV l D cI cS τ ρ yX2_sendReset cX2_sendReset 2 none 1 23 H [.ref a0, .int x0] (fun (u : Heap) => True) (AT τ [8, 10]) := by
  refine MV.of (by decide) (Nat.le_of_ble_eq_true rfl) ?_
  intro p e s m args below meth c E hml hr hlk hs ls hl
  have hx := E.1
  have hb := E.2.1
  have hown := E.2.2.1
  have hts := E.2.2.2.1
  have hS : SS (AT τ [8, 10]) H H [] := SS.rf
  have hl : lv_has ls 2 [(0, .ref a0), (1, .int x0)] := hl
  refine lv_aload_n hx hb dX2_sendReset_0 rfl (lv_at hl 0 rfl) ?_
  refine gf_X2_40 E hT hW ha0 dX2_sendReset_1 (fun h_1 => ?_)
  refine th_Vr (As := []) (rest := []) E hml hl.1 (z_X10_draft l D cI cS τ ρ hW H hT (ρ a0 2) h_1) lk_X2_109 yd_X10_draft hT h_1 rfl (by decide) hS (AT.sub (by decide)) ⟨by decide, by decide⟩ (Nat.le_of_ble_eq_true rfl) ⟨by decide, by decide⟩ rfl dX2_sendReset_4 (fun r_2 H_2 locs_2 p_2 hT_2 hk_2 hS_2 => ?_)
  refine lv_aload_n hx hb dX2_sendReset_7 rfl (lv_at hl 0 rfl) ?_
  refine gf_X2_32 E hT_2 ha0 dX2_sendReset_8 ?_
  refine th_topi (y := fi D 2 0 H a0) (fi_q (hk_2 _ (AT.out ha0 (by decide)))) ?_
  refine lv_topi (fun x_3 ex_3 => ?_)
  refine lv_bipush (v := 8) hx hb dX2_sendReset_11 (by decide) ?_
  refine lv_iload_n hx hb dX2_sendReset_13 rfl (lv_at hl 1 rfl) ?_
  refine th_Vv (As := [.int x_3, .int 8, .int x0]) (rest := []) E hml hl.1 (z_X8_begin l D cI cS τ ρ hW H_2 hT_2 r_2 x_3 8 x0 p_2) lk_X2_119 yd_X8_begin hT_2 p_2 rfl (by decide) hS_2 (AT.sub (by decide)) ⟨by decide, by decide⟩ (Nat.le_of_ble_eq_true rfl) ⟨by decide, by decide⟩ rfl dX2_sendReset_14 (fun H_4 locs_4 p_4 hT_4 hk_4 hS_4 => ?_)
  refine lv_aload_n hx hb dX2_sendReset_17 rfl (lv_at hl 0 rfl) ?_
  refine gf_X2_40 E hT_4 hW ha0 dX2_sendReset_18 (fun h_5 => ?_)
  refine th_Vv (As := []) (rest := []) E hml hl.1 (z_X10_sendDraft l D cI cS τ ρ hW H_4 hT_4 (ρ a0 2) h_5) lk_X2_168 yd_X10_sendDraft hT_4 h_5 rfl (by decide) hS_4 (AT.sub (by decide)) ⟨by decide, by decide⟩ (Nat.le_of_ble_eq_true rfl) ⟨by decide, by decide⟩ rfl dX2_sendReset_21 (fun H_6 locs_6 p_6 hT_6 hk_6 hS_6 => ?_)
  exact th_vret E hr hlk hs hT_6 hS_6 trivial dX2_sendReset_24
set_option maxHeartbeats 4000000 in
set_option maxRecDepth 100000 in
/-- StreamEnds$Endpoint.sendResetFor: it ends, and the heap stays typed -/
theorem z_X2_sendResetFor (l : Launch) (D : va_G) (cI cS : ClassId) (τ : Nat → Option Nat) (ρ : Nat → Nat → Nat) (hW : WF τ ρ) (H : Heap) (hT : TH D cI cS τ ρ H) (a0 : Nat) (a1 : Nat) (ha0 : τ a0 = some 2) (ha1 : τ a1 = some 8) : MV l D cI cS τ ρ yX2_sendResetFor cX2_sendResetFor 3 none 2 44 H [.ref a0, .ref a1] (fun (u : Heap) => True) (AT τ [8, 10]) := by
  refine MV.of (by decide) (Nat.le_of_ble_eq_true rfl) ?_
  intro p e s m args below meth c E hml hr hlk hs ls hl
  have hx := E.1
  have hb := E.2.1
  have hown := E.2.2.1
  have hts := E.2.2.2.1
  have hS : SS (AT τ [8, 10]) H H [] := SS.rf
  have hl : lv_has ls 3 [(0, .ref a0), (1, .ref a1)] := hl
  refine lv_aload_n hx hb dX2_sendResetFor_0 rfl (lv_at hl 1 rfl) ?_
  refine lv_iconst (v := 4) hx hb dX2_sendResetFor_1 (by decide) ?_
  refine th_Vi (As := [.int 4]) (rest := []) E hml hl.1 (z_X8_has l D cI cS τ ρ hW H hT a1 4 ha1) lk_X2_125 yd_X8_has hT ha1 rfl (by decide) hS (AT.sub (by decide)) ⟨by decide, by decide⟩ (Nat.le_of_ble_eq_true rfl) ⟨by decide, by decide⟩ rfl dX2_sendResetFor_2 (fun r_1 H_1 locs_1 p_1 hT_1 hk_1 hS_1 => ?_)
  have z_1 := b_iv p_1
  refine lv_if_eq (tgt := 17) hx hb dX2_sendResetFor_5 (by decide) (fun c_2 => ?_) (fun c_2 => ?_)
  · have f_2 : r_1.toInt = 0 := r_eq rfl (by decide) c_2
    refine lv_aload_n hx hb dX2_sendResetFor_17 rfl (lv_at hl 0 rfl) ?_
    refine gf_X2_40 E hT_1 hW ha0 dX2_sendResetFor_18 (fun h_3 => ?_)
    refine th_Vr (As := []) (rest := []) E hml hl.1 (z_X10_draft l D cI cS τ ρ hW H_1 hT_1 (ρ a0 2) h_3) lk_X2_109 yd_X10_draft hT_1 h_3 rfl (by decide) hS_1 (AT.sub (by decide)) ⟨by decide, by decide⟩ (Nat.le_of_ble_eq_true rfl) ⟨by decide, by decide⟩ rfl dX2_sendResetFor_21 (fun r_4 H_4 locs_4 p_4 hT_4 hk_4 hS_4 => ?_)
    refine lv_astore_n (lv' := [(2, .ref r_4), (0, .ref a0), (1, .ref a1)]) hx hb dX2_sendResetFor_24 rfl hl (by decide) rfl (fun ls hl => ?_)
    refine lv_aload_n hx hb dX2_sendResetFor_25 rfl (lv_at hl 0 rfl) ?_
    refine lv_aload_n hx hb dX2_sendResetFor_26 rfl (lv_at hl 1 rfl) ?_
    refine gf_X2_32 E hT_4 ha0 dX2_sendResetFor_27 ?_
    refine th_topi (y := fi D 2 0 H a0) (Eq.trans (fi_q (hk_4 _ (AT.out ha0 (by decide)))) (fi_q (hk_1 _ (AT.out ha0 (by decide))))) ?_
    refine lv_topi (fun x_5 ex_5 => ?_)
    refine lv_bipush (v := 12) hx hb dX2_sendResetFor_30 (by decide) ?_
    refine lv_iconst (v := 0) hx hb dX2_sendResetFor_32 (by decide) ?_
    refine th_Vv (As := [.int x_5, .int 12, .int 0]) (rest := []) E hml hl.1 (z_X8_begin l D cI cS τ ρ hW H_4 hT_4 r_4 x_5 12 0 p_4) lk_X2_119 yd_X8_begin hT_4 p_4 rfl (by decide) hS_4 (AT.sub (by decide)) ⟨by decide, by decide⟩ (Nat.le_of_ble_eq_true rfl) ⟨by decide, by decide⟩ rfl dX2_sendResetFor_33 (fun H_6 locs_6 p_6 hT_6 hk_6 hS_6 => ?_)
    refine lv_aload_n hx hb dX2_sendResetFor_36 rfl (lv_at hl 0 rfl) ?_
    refine lv_aload_n hx hb dX2_sendResetFor_37 rfl (lv_at hl 2 rfl) ?_
    refine gf_X2_174 E hT_6 ha1 dX2_sendResetFor_38 ?_
    refine lv_topi (fun x_7 ex_7 => ?_)
    refine lv_aload_n hx hb dX2_sendResetFor_41 rfl (lv_at hl 2 rfl) ?_
    refine th_Vi (As := []) (rest := [.int x_7, .ref r_4]) E hml hl.1 (z_X8_length l D cI cS τ ρ hW H_6 hT_6 a1 ha1) lk_X2_176 yd_X8_length hT_6 ha1 rfl (by decide) hS_6 (AT.sub (by decide)) ⟨by decide, by decide⟩ (Nat.le_of_ble_eq_true rfl) ⟨by decide, by decide⟩ rfl dX2_sendResetFor_42 (fun r_8 H_8 locs_8 p_8 hT_8 hk_8 hS_8 => ?_)
    refine lv_iadd hx hb dX2_sendResetFor_45 ?_
    refine lv_topi (fun x_9 ex_9 => ?_)
    refine lv_sipush (v := 255) hx hb dX2_sendResetFor_46 (by decide) ?_
    refine lv_iand hx hb dX2_sendResetFor_49 ?_
    refine lv_topi (fun x_10 ex_10 => ?_)
    refine pf_X2_132 E hT_8 hS_8 p_4 ⟨_, p_4, by decide⟩ dX2_sendResetFor_50 (fun H_11 locs_11 hT_11 hU_11 hS_11 => ?_)
    refine lv_aload_n hx hb dX2_sendResetFor_53 rfl (lv_at hl 0 rfl) ?_
    refine lv_iconst (v := 0) hx hb dX2_sendResetFor_54 (by decide) ?_
    refine pf_X2_138 E hT_11 hS_11 p_4 ⟨_, p_4, by decide⟩ dX2_sendResetFor_55 (fun H_12 locs_12 hT_12 hU_12 hS_12 => ?_)
    refine lv_aload_n hx hb dX2_sendResetFor_58 rfl (lv_at hl 1 rfl) ?_
    refine gf_X2_40 E hT_12 hW ha0 dX2_sendResetFor_59 (fun h_13 => ?_)
    refine th_Vv (As := []) (rest := []) E hml hl.1 (z_X10_sendDraft l D cI cS τ ρ hW H_12 hT_12 (ρ a0 2) h_13) lk_X2_168 yd_X10_sendDraft hT_12 h_13 rfl (by decide) hS_12 (AT.sub (by decide)) ⟨by decide, by decide⟩ (Nat.le_of_ble_eq_true rfl) ⟨by decide, by decide⟩ rfl dX2_sendResetFor_62 (fun H_14 locs_14 p_14 hT_14 hk_14 hS_14 => ?_)
    exact th_vret E hr hlk hs hT_14 hS_14 trivial dX2_sendResetFor_65
  · have f_2 : ¬ r_1.toInt = 0 := r_ne rfl (by decide) c_2
    have nz_r_1 : ¬ r_1 = 0 := c_2
    refine lv_aload_n hx hb dX2_sendResetFor_8 rfl (lv_at hl 0 rfl) ?_
    refine lv_aload_n hx hb dX2_sendResetFor_9 rfl (lv_at hl 1 rfl) ?_
    refine gf_X2_132 E hT_1 ha1 dX2_sendResetFor_10 ?_
    refine th_topi (y := fi D 8 3 H a1) (fi_q (hk_1 _ (AT.out ha1 (by decide)))) ?_
    refine lv_topi (fun x_15 ex_15 => ?_)
    refine th_Vv (As := [.int x_15]) (rest := []) E hml hl.1 (z_X2_sendReset l D cI cS τ ρ hW H_1 hT_1 a0 x_15 ha0) lk_X2_171 yd_X2_sendReset hT_1 ha0 rfl (by decide) hS_1 (AT.sub (by decide)) ⟨by decide, by decide⟩ (Nat.le_of_ble_eq_true rfl) ⟨by decide, by decide⟩ rfl dX2_sendResetFor_13 (fun H_16 locs_16 p_16 hT_16 hk_16 hS_16 => ?_)
    exact th_vret E hr hlk hs hT_16 hS_16 trivial dX2_sendResetFor_16
set_option maxHeartbeats 4000000 in
set_option maxRecDepth 100000 in
/-- StreamEnds$Outgoing.start: it ends, and the heap stays typed -/
theorem z_X5_start (l : Launch) (D : va_G) (cI cS : ClassId) (τ : Nat → Option Nat) (ρ : Nat → Nat → Nat) (hW : WF τ ρ) (H : Heap) (hT : TH D cI cS τ ρ H) (a0 : Nat) (ha0 : τ a0 = some 5) : MV l D cI cS τ ρ yX5_start cX5_start 1 none 0 0 H [.ref a0] (fun (u : Heap) => True) (AT τ [5]) := by
  refine MV.of (by decide) (Nat.le_of_ble_eq_true rfl) ?_
  intro p e s m args below meth c E hml hr hlk hs ls hl
  have hx := E.1
  have hb := E.2.1
  have hown := E.2.2.1
  have hts := E.2.2.2.1
  have hS : SS (AT τ [5]) H H [] := SS.rf
  have hl : lv_has ls 1 [(0, .ref a0)] := hl
  refine lv_aload_n hx hb dX5_start_0 rfl (lv_at hl 0 rfl) ?_
  refine lv_iconst (v := 0) hx hb dX5_start_1 (by decide) ?_
  refine pf_X5_15 E hT hS ha0 ⟨_, ha0, by decide⟩ dX5_start_2 (fun H_1 locs_1 hT_1 hU_1 hS_1 => ?_)
  refine lv_aload_n hx hb dX5_start_5 rfl (lv_at hl 0 rfl) ?_
  refine lv_iconst (v := 0) hx hb dX5_start_6 (by decide) ?_
  refine pf_X5_19 E hT_1 hS_1 ha0 ⟨_, ha0, by decide⟩ dX5_start_7 (fun H_2 locs_2 hT_2 hU_2 hS_2 => ?_)
  refine lv_aload_n hx hb dX5_start_10 rfl (lv_at hl 0 rfl) ?_
  refine lv_iconst (v := 1) hx hb dX5_start_11 (by decide) ?_
  refine pf_X5_22 E hT_2 hS_2 ha0 ⟨_, ha0, by decide⟩ dX5_start_12 (fun H_3 locs_3 hT_3 hU_3 hS_3 => ?_)
  refine lv_aload_n hx hb dX5_start_15 rfl (lv_at hl 0 rfl) ?_
  refine lv_iconst (v := 0) hx hb dX5_start_16 (by decide) ?_
  refine pf_X5_25 E hT_3 hS_3 ha0 ⟨_, ha0, by decide⟩ dX5_start_17 (fun H_4 locs_4 hT_4 hU_4 hS_4 => ?_)
  refine lv_aload_n hx hb dX5_start_20 rfl (lv_at hl 0 rfl) ?_
  refine lv_iconst (v := 0) hx hb dX5_start_21 (by decide) ?_
  refine pf_X5_28 E hT_4 hS_4 ha0 ⟨_, ha0, by decide⟩ dX5_start_22 (fun H_5 locs_5 hT_5 hU_5 hS_5 => ?_)
  refine lv_aload_n hx hb dX5_start_25 rfl (lv_at hl 0 rfl) ?_
  refine lv_iconst (v := 0) hx hb dX5_start_26 (by decide) ?_
  refine pf_X5_31 E hT_5 hS_5 ha0 ⟨_, ha0, by decide⟩ (Or.inl rfl) dX5_start_27 (fun H_6 locs_6 hT_6 hU_6 hS_6 => ?_)
  refine lv_aload_n hx hb dX5_start_30 rfl (lv_at hl 0 rfl) ?_
  refine lv_lconst (v := 0) hx hb dX5_start_31 (by decide) ?_
  refine pf_X5_35 E hT_6 hS_6 ha0 ⟨_, ha0, by decide⟩ dX5_start_32 (fun H_7 locs_7 hT_7 hU_7 hS_7 => ?_)
  exact th_vret E hr hlk hs hT_7 hS_7 trivial dX5_start_35
set_option maxHeartbeats 4000000 in
set_option maxRecDepth 100000 in
/-- StreamEnds$Incoming.start: it ends, and the heap stays typed -/
theorem z_X3_start (l : Launch) (D : va_G) (cI cS : ClassId) (τ : Nat → Option Nat) (ρ : Nat → Nat → Nat) (hW : WF τ ρ) (H : Heap) (hT : TH D cI cS τ ρ H) (a0 : Nat) (x0 : Int32) (ha0 : τ a0 = some 3) : MV l D cI cS τ ρ yX3_start cX3_start 2 none 0 0 H [.ref a0, .int x0] (fun (u : Heap) => True) (AT τ [3]) := by
  refine MV.of (by decide) (Nat.le_of_ble_eq_true rfl) ?_
  intro p e s m args below meth c E hml hr hlk hs ls hl
  have hx := E.1
  have hb := E.2.1
  have hown := E.2.2.1
  have hts := E.2.2.2.1
  have hS : SS (AT τ [3]) H H [] := SS.rf
  have hl : lv_has ls 2 [(0, .ref a0), (1, .int x0)] := hl
  refine lv_aload_n hx hb dX3_start_0 rfl (lv_at hl 0 rfl) ?_
  refine lv_iconst (v := 0) hx hb dX3_start_1 (by decide) ?_
  refine pf_X3_15 E hT hS ha0 ⟨_, ha0, by decide⟩ dX3_start_2 (fun H_1 locs_1 hT_1 hU_1 hS_1 => ?_)
  refine lv_aload_n hx hb dX3_start_5 rfl (lv_at hl 0 rfl) ?_
  refine lv_iconst (v := 1) hx hb dX3_start_6 (by decide) ?_
  refine pf_X3_19 E hT_1 hS_1 ha0 ⟨_, ha0, by decide⟩ dX3_start_7 (fun H_2 locs_2 hT_2 hU_2 hS_2 => ?_)
  refine lv_aload_n hx hb dX3_start_10 rfl (lv_at hl 0 rfl) ?_
  refine lv_iload_n hx hb dX3_start_11 rfl (lv_at hl 1 rfl) ?_
  refine lv_iconst (v := 1) hx hb dX3_start_12 (by decide) ?_
  refine lv_iadd hx hb dX3_start_13 ?_
  refine lv_topi (fun x_3 ex_3 => ?_)
  refine pf_X3_22 E hT_2 hS_2 ha0 ⟨_, ha0, by decide⟩ dX3_start_14 (fun H_4 locs_4 hT_4 hU_4 hS_4 => ?_)
  refine lv_aload_n hx hb dX3_start_17 rfl (lv_at hl 0 rfl) ?_
  refine lv_bipush (v := (-4)) hx hb dX3_start_18 (by decide) ?_
  refine pf_X3_25 E hT_4 hS_4 ha0 ⟨_, ha0, by decide⟩ dX3_start_20 (fun H_5 locs_5 hT_5 hU_5 hS_5 => ?_)
  refine lv_aload_n hx hb dX3_start_23 rfl (lv_at hl 0 rfl) ?_
  refine lv_iconst (v := 0) hx hb dX3_start_24 (by decide) ?_
  refine pf_X3_28 E hT_5 hS_5 ha0 ⟨_, ha0, by decide⟩ dX3_start_25 (fun H_6 locs_6 hT_6 hU_6 hS_6 => ?_)
  refine lv_aload_n hx hb dX3_start_28 rfl (lv_at hl 0 rfl) ?_
  refine lv_lconst (v := 0) hx hb dX3_start_29 (by decide) ?_
  refine pf_X3_31 E hT_6 hS_6 ha0 ⟨_, ha0, by decide⟩ dX3_start_30 (fun H_7 locs_7 hT_7 hU_7 hS_7 => ?_)
  exact th_vret E hr hlk hs hT_7 hS_7 trivial dX3_start_33
set_option maxHeartbeats 4000000 in
set_option maxRecDepth 100000 in
/-- StreamEnds$RoundTrips.start: it ends, and the heap stays typed -/
theorem z_X7_start (l : Launch) (D : va_G) (cI cS : ClassId) (τ : Nat → Option Nat) (ρ : Nat → Nat → Nat) (hW : WF τ ρ) (H : Heap) (hT : TH D cI cS τ ρ H) (a0 : Nat) (ha0 : τ a0 = some 7) : MV l D cI cS τ ρ yX7_start cX7_start 1 none 0 0 H [.ref a0] (fun (u : Heap) => True) (AT τ [7]) := by
  refine MV.of (by decide) (Nat.le_of_ble_eq_true rfl) ?_
  intro p e s m args below meth c E hml hr hlk hs ls hl
  have hx := E.1
  have hb := E.2.1
  have hown := E.2.2.1
  have hts := E.2.2.2.1
  have hS : SS (AT τ [7]) H H [] := SS.rf
  have hl : lv_has ls 1 [(0, .ref a0)] := hl
  refine lv_aload_n hx hb dX7_start_0 rfl (lv_at hl 0 rfl) ?_
  refine lv_bipush (v := 6) hx hb dX7_start_1 (by decide) ?_
  refine pf_X7_15 E hT hS ha0 ⟨_, ha0, by decide⟩ dX7_start_3 (fun H_1 locs_1 hT_1 hU_1 hS_1 => ?_)
  refine lv_aload_n hx hb dX7_start_6 rfl (lv_at hl 0 rfl) ?_
  refine lv_iconst (v := 0) hx hb dX7_start_7 (by decide) ?_
  refine pf_X7_19 E hT_1 hS_1 ha0 ⟨_, ha0, by decide⟩ dX7_start_8 (fun H_2 locs_2 hT_2 hU_2 hS_2 => ?_)
  refine lv_aload_n hx hb dX7_start_11 rfl (lv_at hl 0 rfl) ?_
  refine lv_iconst (v := 0) hx hb dX7_start_12 (by decide) ?_
  refine pf_X7_22 E hT_2 hS_2 ha0 ⟨_, ha0, by decide⟩ dX7_start_13 (fun H_3 locs_3 hT_3 hU_3 hS_3 => ?_)
  refine lv_aload_n hx hb dX7_start_16 rfl (lv_at hl 0 rfl) ?_
  refine lv_bipush (v := (-4)) hx hb dX7_start_17 (by decide) ?_
  refine pf_X7_25 E hT_3 hS_3 ha0 ⟨_, ha0, by decide⟩ dX7_start_19 (fun H_4 locs_4 hT_4 hU_4 hS_4 => ?_)
  refine lv_aload_n hx hb dX7_start_22 rfl (lv_at hl 0 rfl) ?_
  refine lv_iconst (v := 0) hx hb dX7_start_23 (by decide) ?_
  refine pf_X7_28 E hT_4 hS_4 ha0 ⟨_, ha0, by decide⟩ dX7_start_24 (fun H_5 locs_5 hT_5 hU_5 hS_5 => ?_)
  refine lv_aload_n hx hb dX7_start_27 rfl (lv_at hl 0 rfl) ?_
  refine lv_iconst (v := 0) hx hb dX7_start_28 (by decide) ?_
  refine pf_X7_31 E hT_5 hS_5 ha0 ⟨_, ha0, by decide⟩ dX7_start_29 (fun H_6 locs_6 hT_6 hU_6 hS_6 => ?_)
  exact th_vret E hr hlk hs hT_6 hS_6 trivial dX7_start_32
set_option maxHeartbeats 4000000 in
set_option maxRecDepth 100000 in
/-- StreamEnds$Endpoint.start: it ends, and the heap stays typed -/
theorem z_X2_start (l : Launch) (D : va_G) (cI cS : ClassId) (τ : Nat → Option Nat) (ρ : Nat → Nat → Nat) (hW : WF τ ρ) (H : Heap) (hT : TH D cI cS τ ρ H) (a0 : Nat) (ha0 : τ a0 = some 2) : MV l D cI cS τ ρ yX2_start cX2_start 1 none 1 21 H [.ref a0] (fun (u : Heap) => True) (AT τ [2, 3, 5, 7]) := by
  refine MV.of (by decide) (Nat.le_of_ble_eq_true rfl) ?_
  intro p e s m args below meth c E hml hr hlk hs ls hl
  have hx := E.1
  have hb := E.2.1
  have hown := E.2.2.1
  have hts := E.2.2.2.1
  have hS : SS (AT τ [2, 3, 5, 7]) H H [] := SS.rf
  have hl : lv_has ls 1 [(0, .ref a0)] := hl
  refine lv_aload_n hx hb dX2_start_0 rfl (lv_at hl 0 rfl) ?_
  refine th_Vv (As := []) (rest := []) E hml hl.1 (z_X2_close l D cI cS τ ρ hW H hT a0 ha0) lk_X2_48 yd_X2_close hT ha0 rfl (by decide) hS (AT.sub (by decide)) ⟨by decide, by decide⟩ (Nat.le_of_ble_eq_true rfl) ⟨by decide, by decide⟩ rfl dX2_start_1 (fun H_1 locs_1 p_1 hT_1 hk_1 hS_1 => ?_)
  refine lv_aload_n hx hb dX2_start_4 rfl (lv_at hl 0 rfl) ?_
  refine gf_X2_12 E hT_1 hW ha0 dX2_start_5 (fun h_2 => ?_)
  refine th_Vv (As := []) (rest := []) E hml hl.1 (z_X5_start l D cI cS τ ρ hW H_1 hT_1 (ρ a0 4) h_2) lk_X2_51 yd_X5_start hT_1 h_2 rfl (by decide) hS_1 (AT.sub (by decide)) ⟨by decide, by decide⟩ (Nat.le_of_ble_eq_true rfl) ⟨by decide, by decide⟩ rfl dX2_start_8 (fun H_3 locs_3 p_3 hT_3 hk_3 hS_3 => ?_)
  refine lv_aload_n hx hb dX2_start_11 rfl (lv_at hl 0 rfl) ?_
  refine gf_X2_21 E hT_3 hW ha0 dX2_start_12 (fun h_4 => ?_)
  refine lv_aload_n hx hb dX2_start_15 rfl (lv_at hl 0 rfl) ?_
  refine gf_X2_36 E hT_3 hW ha0 dX2_start_16 (fun h_5 => ?_)
  refine gf_X2_54 E hT_3 h_5 dX2_start_19 ?_
  refine th_topi (y := fi D 1 1 H (ρ a0 1)) (Eq.trans (fi_q (hk_3 _ (AT.out h_5 (by decide)))) (fi_q (hk_1 _ (AT.out h_5 (by decide))))) ?_
  refine lv_topi (fun x_6 ex_6 => ?_)
  refine th_Vv (As := [.int x_6]) (rest := []) E hml hl.1 (z_X3_start l D cI cS τ ρ hW H_3 hT_3 (ρ a0 5) x_6 h_4) lk_X2_59 yd_X3_start hT_3 h_4 rfl (by decide) hS_3 (AT.sub (by decide)) ⟨by decide, by decide⟩ (Nat.le_of_ble_eq_true rfl) ⟨by decide, by decide⟩ rfl dX2_start_22 (fun H_7 locs_7 p_7 hT_7 hk_7 hS_7 => ?_)
  refine lv_aload_n hx hb dX2_start_25 rfl (lv_at hl 0 rfl) ?_
  refine gf_X2_28 E hT_7 hW ha0 dX2_start_26 (fun h_8 => ?_)
  refine th_Vv (As := []) (rest := []) E hml hl.1 (z_X7_start l D cI cS τ ρ hW H_7 hT_7 (ρ a0 6) h_8) lk_X2_62 yd_X7_start hT_7 h_8 rfl (by decide) hS_7 (AT.sub (by decide)) ⟨by decide, by decide⟩ (Nat.le_of_ble_eq_true rfl) ⟨by decide, by decide⟩ rfl dX2_start_29 (fun H_9 locs_9 p_9 hT_9 hk_9 hS_9 => ?_)
  exact th_vret E hr hlk hs hT_9 hS_9 trivial dX2_start_32
set_option maxHeartbeats 4000000 in
set_option maxRecDepth 100000 in
/-- StreamEnds$Endpoint.tick: it ends, and the heap stays typed -/
theorem z_X2_tick (l : Launch) (D : va_G) (cI cS : ClassId) (τ : Nat → Option Nat) (ρ : Nat → Nat → Nat) (hW : WF τ ρ) (H : Heap) (hT : TH D cI cS τ ρ H) (a0 : Nat) (ha0 : τ a0 = some 2) : MV l D cI cS τ ρ yX2_tick cX2_tick 1 none 5 117 H [.ref a0] (fun (u : Heap) => True) (AT τ [2, 5, 7, 8, 10, 104, 108]) := by
  refine MV.of (by decide) (Nat.le_of_ble_eq_true rfl) ?_
  intro p e s m args below meth c E hml hr hlk hs ls hl
  have hx := E.1
  have hb := E.2.1
  have hown := E.2.2.1
  have hts := E.2.2.2.1
  have hS : SS (AT τ [2, 5, 7, 8, 10, 104, 108]) H H [] := SS.rf
  have hl : lv_has ls 1 [(0, .ref a0)] := hl
  have J_28 : ∀ (H_c28 : Heap) (lc_c28 : List Loc) (ls : Array Slot), TH D cI cS τ ρ H_c28 → SS (AT τ [2, 5, 7, 8, 10, 104, 108]) H H_c28 lc_c28 → lv_has ls 1 [(0, .ref a0)] → W p l e (rmO 5 117) s m args below meth c H_c28 lc_c28 0 0 (MQ below (va_Qv (fun (u : Heap) => True) (Bt D cI cS τ ρ H) (AT τ [2, 5, 7, 8, 10, 104, 108])) args s 0 0 (AT τ [2, 5, 7, 8, 10, 104, 108])) (F0 m 28 ls []) := by
    intro H_c28 lc_c28 ls hT_c28 hS_c28 hl
    refine lv_aload_n hx hb dX2_tick_28 rfl (lv_at hl 0 rfl) ?_
    refine gf_X2_66 E hT_c28 ha0 dX2_tick_29 ?_
    refine lv_topi (fun x_1 ex_1 => ?_)
    refine lv_if_eq (tgt := 56) hx hb dX2_tick_32 (by decide) (fun c_2 => ?_) (fun c_2 => ?_)
    · have f_2 : x_1.toInt = 0 := r_eq rfl (by decide) c_2
      exact th_vret E hr hlk hs hT_c28 hS_c28 trivial dX2_tick_56
    · have f_2 : ¬ x_1.toInt = 0 := r_ne rfl (by decide) c_2
      have nz_x_1 : ¬ x_1 = 0 := c_2
      refine lv_aload_n hx hb dX2_tick_35 rfl (lv_at hl 0 rfl) ?_
      refine lv_dup hx hb dX2_tick_36 rfl ?_
      refine gf_X2_66 E hT_c28 ha0 dX2_tick_37 ?_
      refine th_topi (y := x_1) ex_1.symm ?_
      refine lv_iconst (v := 1) hx hb dX2_tick_40 (by decide) ?_
      refine lv_isub hx hb dX2_tick_41 ?_
      refine lv_topi (fun x_3 ex_3 => ?_)
      refine pf_X2_66 E hT_c28 hS_c28 ha0 ⟨_, ha0, by decide⟩ dX2_tick_42 (fun H_4 locs_4 hT_4 hU_4 hS_4 => ?_)
      refine lv_aload_n hx hb dX2_tick_45 rfl (lv_at hl 0 rfl) ?_
      refine gf_X2_66 E hT_4 ha0 dX2_tick_46 ?_
      refine th_topi (y := x_3) (PU.i hU_4) ?_
      refine lv_if_ne (tgt := 56) hx hb dX2_tick_49 (by decide) (fun c_5 => ?_) (fun c_5 => ?_)
      · have f_5 : ¬ x_3.toInt = 0 := r_ne rfl (by decide) c_5
        have nz_x_3 : ¬ x_3 = 0 := c_5
        exact th_vret E hr hlk hs hT_4 hS_4 trivial dX2_tick_56
      · have f_5 : x_3.toInt = 0 := r_eq rfl (by decide) c_5
        refine lv_aload_n hx hb dX2_tick_52 rfl (lv_at hl 0 rfl) ?_
        refine th_Vv (As := []) (rest := []) E hml hl.1 (z_X2_expire l D cI cS τ ρ hW H_4 hT_4 a0 ha0) lk_X2_214 yd_X2_expire hT_4 ha0 rfl (by decide) hS_4 (AT.sub (by decide)) ⟨by decide, by decide⟩ (Nat.le_of_ble_eq_true rfl) ⟨by decide, by decide⟩ rfl dX2_tick_53 (fun H_6 locs_6 p_6 hT_6 hk_6 hS_6 => ?_)
        exact th_vret E hr hlk hs hT_6 hS_6 trivial dX2_tick_56
  refine lv_aload_n hx hb dX2_tick_0 rfl (lv_at hl 0 rfl) ?_
  refine gf_X2_69 E hT ha0 dX2_tick_1 ?_
  refine lv_topi (fun x_7 ex_7 => ?_)
  refine lv_if_eq (tgt := 28) hx hb dX2_tick_4 (by decide) (fun c_8 => ?_) (fun c_8 => ?_)
  · have f_8 : x_7.toInt = 0 := r_eq rfl (by decide) c_8
    exact J_28 H [] _ hT hS hl
  · have f_8 : ¬ x_7.toInt = 0 := r_ne rfl (by decide) c_8
    have nz_x_7 : ¬ x_7 = 0 := c_8
    refine lv_aload_n hx hb dX2_tick_7 rfl (lv_at hl 0 rfl) ?_
    refine lv_dup hx hb dX2_tick_8 rfl ?_
    refine gf_X2_69 E hT ha0 dX2_tick_9 ?_
    refine th_topi (y := x_7) ex_7.symm ?_
    refine lv_iconst (v := 1) hx hb dX2_tick_12 (by decide) ?_
    refine lv_isub hx hb dX2_tick_13 ?_
    refine lv_topi (fun x_9 ex_9 => ?_)
    refine pf_X2_69 E hT hS ha0 ⟨_, ha0, by decide⟩ dX2_tick_14 (fun H_10 locs_10 hT_10 hU_10 hS_10 => ?_)
    refine lv_aload_n hx hb dX2_tick_17 rfl (lv_at hl 0 rfl) ?_
    refine gf_X2_69 E hT_10 ha0 dX2_tick_18 ?_
    refine th_topi (y := x_9) (PU.i hU_10) ?_
    refine lv_if_ne (tgt := 28) hx hb dX2_tick_21 (by decide) (fun c_11 => ?_) (fun c_11 => ?_)
    · have f_11 : ¬ x_9.toInt = 0 := r_ne rfl (by decide) c_11
      have nz_x_9 : ¬ x_9 = 0 := c_11
      exact J_28 H_10 locs_10 _ hT_10 hS_10 hl
    · have f_11 : x_9.toInt = 0 := r_eq rfl (by decide) c_11
      refine lv_aload_n hx hb dX2_tick_24 rfl (lv_at hl 0 rfl) ?_
      refine th_Vv (As := []) (rest := []) E hml hl.1 (z_X2_close l D cI cS τ ρ hW H_10 hT_10 a0 ha0) lk_X2_48 yd_X2_close hT_10 ha0 rfl (by decide) hS_10 (AT.sub (by decide)) ⟨by decide, by decide⟩ (Nat.le_of_ble_eq_true rfl) ⟨by decide, by decide⟩ rfl dX2_tick_25 (fun H_12 locs_12 p_12 hT_12 hk_12 hS_12 => ?_)
      exact J_28 H_12 locs_12 _ hT_12 hS_12 hl
set_option maxHeartbeats 4000000 in
set_option maxRecDepth 100000 in
/-- StreamEnds$Endpoint.transmit: it ends, and the heap stays typed -/
theorem z_X2_transmit (l : Launch) (D : va_G) (cI cS : ClassId) (τ : Nat → Option Nat) (ρ : Nat → Nat → Nat) (hW : WF τ ρ) (H : Heap) (hT : TH D cI cS τ ρ H) (a0 : Nat) (ha0 : τ a0 = some 2) : MV l D cI cS τ ρ yX2_transmit cX2_transmit 6 none 3 74 H [.ref a0] (fun (u : Heap) => True) (AT τ [2, 5, 7, 8, 10, 104, 108]) := by
  refine MV.of (by decide) (Nat.le_of_ble_eq_true rfl) ?_
  intro p e s m args below meth c E hml hr hlk hs ls hl
  have hx := E.1
  have hb := E.2.1
  have hown := E.2.2.1
  have hts := E.2.2.2.1
  have hS : SS (AT τ [2, 5, 7, 8, 10, 104, 108]) H H [] := SS.rf
  have hl : lv_has ls 6 [(0, .ref a0)] := hl
  have L_2 : ∀ (n : Nat) (H_c2 : Heap) (lc_c2 : List Loc) (ls : Array Slot) (y2_1 : Int32), TH D cI cS τ ρ H_c2 → SS (AT τ [2, 5, 7, 8, 10, 104, 108]) H H_c2 lc_c2 → lv_has ls 6 [(0, .ref a0), (1, .int y2_1)] → 0 ≤ y2_1.toInt → (33 - y2_1.toInt).toNat < n → W p l e (rmO 3 74) s m args below meth c H_c2 lc_c2 0 0 (MQ below (va_Qv (fun (u : Heap) => True) (Bt D cI cS τ ρ H) (AT τ [2, 5, 7, 8, 10, 104, 108])) args s 0 0 (AT τ [2, 5, 7, 8, 10, 104, 108])) (F0 m 2 ls []) := by
    intro n
    induction n with
    | zero => intro H_c2 lc_c2 ls y2_1 hT_c2 hS_c2 hl ly2_1 hm; exact absurd hm (Nat.not_lt_zero _)
    | succ n ih_2 =>
      intro H_c2 lc_c2 ls y2_1 hT_c2 hS_c2 hl ly2_1 hm_2
      have J_245 : ∀ (H_c245 : Heap) (lc_c245 : List Loc) (ls : Array Slot) (y245_2 : Int32) (y245_3 : Int32) (y245_4 : Int32), TH D cI cS τ ρ H_c245 → SS (AT τ [2, 5, 7, 8, 10, 104, 108]) H H_c245 lc_c245 → lv_has ls 6 [(0, .ref a0), (1, .int y2_1), (2, .int y245_2), (3, .int y245_3), (4, .int y245_4)] → 0 ≤ y2_1.toInt → y2_1.toInt ≤ 32 → y245_3 = 0 ∨ y245_3 = 1 → y245_4 = 0 ∨ y245_4 = 1 → W p l e (rmO 3 74) s m args below meth c H_c245 lc_c245 0 0 (MQ below (va_Qv (fun (u : Heap) => True) (Bt D cI cS τ ρ H) (AT τ [2, 5, 7, 8, 10, 104, 108])) args s 0 0 (AT τ [2, 5, 7, 8, 10, 104, 108])) (F0 m 245 ls []) := by
        intro H_c245 lc_c245 ls y245_2 y245_3 y245_4 hT_c245 hS_c245 hl ly245_1 uy245_1 by245_3 by245_4
        have z_y245_3 := b_iv by245_3
        have z_y245_4 := b_iv by245_4
        obtain ⟨x_1, ex_1⟩ : ∃ y : Int32, y2_1 + 1 = y := ⟨_, rfl⟩
        have q_x_1 : x_1.toInt = y2_1.toInt + 1 := i_add (k := 1) (by decide) ex_1 (by have := i_min y2_1; omega) (by have := i_max y2_1; omega)
        refine lv_iinc (v := x_1) (lv' := [(1, .int x_1), (0, .ref a0), (2, .int y245_2), (3, .int y245_3), (4, .int y245_4)]) hx hb dX2_transmit_245 hl (k := 1) rfl (by rw [← ex_1]; rfl) (by decide) rfl (fun ls hl => ?_)
        refine lv_goto (tgt := 2) hx hb dX2_transmit_248 (by decide) ?_
        exact ih_2 H_c245 lc_c245 _ x_1 hT_c245 hS_c245 (lv_sub hl [1, 0] rfl) (by omega) (by omega)
      have J_242 : ∀ (H_c242 : Heap) (lc_c242 : List Loc) (ls : Array Slot) (y242_2 : Int32) (y242_3 : Int32) (y242_4 : Int32) (z242_1 : Int32), TH D cI cS τ ρ H_c242 → SS (AT τ [2, 5, 7, 8, 10, 104, 108]) H H_c242 lc_c242 → lv_has ls 6 [(0, .ref a0), (1, .int y2_1), (2, .int y242_2), (3, .int y242_3), (4, .int y242_4)] → 0 ≤ y2_1.toInt → y2_1.toInt ≤ 32 → y242_3 = 0 ∨ y242_3 = 1 → y242_4 = 0 ∨ y242_4 = 1 → 5 ≤ z242_1.toInt → z242_1.toInt ≤ 9 → W p l e (rmO 3 74) s m args below meth c H_c242 lc_c242 0 0 (MQ below (va_Qv (fun (u : Heap) => True) (Bt D cI cS τ ρ H) (AT τ [2, 5, 7, 8, 10, 104, 108])) args s 0 0 (AT τ [2, 5, 7, 8, 10, 104, 108])) (F0 m 242 ls [.int z242_1, .ref a0]) := by
        intro H_c242 lc_c242 ls y242_2 y242_3 y242_4 z242_1 hT_c242 hS_c242 hl ly242_1 uy242_1 by242_3 by242_4 lz242_1 uz242_1
        have z_y242_3 := b_iv by242_3
        have z_y242_4 := b_iv by242_4
        refine pf_X2_63 E hT_c242 hS_c242 ha0 ⟨_, ha0, by decide⟩ dX2_transmit_242 (fun H_2 locs_2 hT_2 hU_2 hS_2 => ?_)
        exact J_245 H_2 locs_2 _ y242_2 y242_3 y242_4 hT_2 hS_2 hl (by omega) (by omega) by242_3 by242_4
      have J_217 : ∀ (H_c217 : Heap) (lc_c217 : List Loc) (ls : Array Slot) (y217_2 : Int32) (y217_3 : Int32) (y217_4 : Int32), TH D cI cS τ ρ H_c217 → SS (AT τ [2, 5, 7, 8, 10, 104, 108]) H H_c217 lc_c217 → lv_has ls 6 [(0, .ref a0), (1, .int y2_1), (2, .int y217_2), (3, .int y217_3), (4, .int y217_4)] → 0 ≤ y2_1.toInt → y2_1.toInt ≤ 32 → y217_3 = 0 ∨ y217_3 = 1 → y217_4 = 0 ∨ y217_4 = 1 → W p l e (rmO 3 74) s m args below meth c H_c217 lc_c217 0 0 (MQ below (va_Qv (fun (u : Heap) => True) (Bt D cI cS τ ρ H) (AT τ [2, 5, 7, 8, 10, 104, 108])) args s 0 0 (AT τ [2, 5, 7, 8, 10, 104, 108])) (F0 m 217 ls []) := by
        intro H_c217 lc_c217 ls y217_2 y217_3 y217_4 hT_c217 hS_c217 hl ly217_1 uy217_1 by217_3 by217_4
        have z_y217_3 := b_iv by217_3
        have z_y217_4 := b_iv by217_4
        refine lv_aload_n hx hb dX2_transmit_217 rfl (lv_at hl 0 rfl) ?_
        refine gf_X2_12 E hT_c217 hW ha0 dX2_transmit_218 (fun h_3 => ?_)
        refine th_Vi (As := []) (rest := []) E hml hl.1 (z_X5_isFinSent l D cI cS τ ρ hW H_c217 hT_c217 (ρ a0 4) h_3) lk_X2_202 yd_X5_isFinSent hT_c217 h_3 rfl (by decide) hS_c217 (AT.sub (by decide)) ⟨by decide, by decide⟩ (Nat.le_of_ble_eq_true rfl) ⟨by decide, by decide⟩ rfl dX2_transmit_221 (fun r_4 H_4 locs_4 p_4 hT_4 hk_4 hS_4 => ?_)
        have z_4 := b_iv p_4
        refine lv_if_eq (tgt := 245) hx hb dX2_transmit_224 (by decide) (fun c_5 => ?_) (fun c_5 => ?_)
        · have f_5 : r_4.toInt = 0 := r_eq rfl (by decide) c_5
          exact J_245 H_4 locs_4 _ y217_2 y217_3 y217_4 hT_4 hS_4 hl (by omega) (by omega) by217_3 by217_4
        · have f_5 : ¬ r_4.toInt = 0 := r_ne rfl (by decide) c_5
          have nz_r_4 : ¬ r_4 = 0 := c_5
          refine lv_aload_n hx hb dX2_transmit_227 rfl (lv_at hl 0 rfl) ?_
          refine lv_aload_n hx hb dX2_transmit_228 rfl (lv_at hl 0 rfl) ?_
          refine gf_X2_63 E hT_4 ha0 dX2_transmit_229 ?_
          refine th_topi (y := fi D 2 7 H_c217 a0) (fi_q (hk_4 _ (AT.out ha0 (by decide)))) ?_
          refine lv_topi (fun x_6 ex_6 => ?_)
          refine lv_iconst (v := 4) hx hb dX2_transmit_232 (by decide) ?_
          refine lv_icmp_ne (tgt := 240) hx hb dX2_transmit_233 (by decide) (fun c_7 => ?_) (fun c_7 => ?_)
          · have f_7 : ¬ x_6.toInt = 4 := r_ne rfl (by decide) c_7
            refine lv_bipush (v := 9) hx hb dX2_transmit_240 (by decide) ?_
            exact J_242 H_4 locs_4 _ y217_2 y217_3 y217_4 9 hT_4 hS_4 hl (by omega) (by omega) by217_3 by217_4 (by decide) (by decide)
          · have f_7 : x_6.toInt = 4 := r_eq rfl (by decide) c_7
            refine lv_iconst (v := 5) hx hb dX2_transmit_236 (by decide) ?_
            refine lv_goto (tgt := 242) hx hb dX2_transmit_237 (by decide) ?_
            exact J_242 H_4 locs_4 _ y217_2 y217_3 y217_4 5 hT_4 hS_4 hl (by omega) (by omega) by217_3 by217_4 (by decide) (by decide)
      have J_163 : ∀ (H_c163 : Heap) (lc_c163 : List Loc) (ls : Array Slot) (y163_2 : Int32) (y163_3 : Int32) (y163_4 : Int32), TH D cI cS τ ρ H_c163 → SS (AT τ [2, 5, 7, 8, 10, 104, 108]) H H_c163 lc_c163 → lv_has ls 6 [(0, .ref a0), (1, .int y2_1), (2, .int y163_2), (3, .int y163_3), (4, .int y163_4)] → 0 ≤ y2_1.toInt → y2_1.toInt ≤ 32 → y163_3 = 0 ∨ y163_3 = 1 → y163_4 = 0 ∨ y163_4 = 1 → W p l e (rmO 3 74) s m args below meth c H_c163 lc_c163 0 0 (MQ below (va_Qv (fun (u : Heap) => True) (Bt D cI cS τ ρ H) (AT τ [2, 5, 7, 8, 10, 104, 108])) args s 0 0 (AT τ [2, 5, 7, 8, 10, 104, 108])) (F0 m 163 ls []) := by
        intro H_c163 lc_c163 ls y163_2 y163_3 y163_4 hT_c163 hS_c163 hl ly163_1 uy163_1 by163_3 by163_4
        have z_y163_3 := b_iv by163_3
        have z_y163_4 := b_iv by163_4
        refine lv_aload_n hx hb dX2_transmit_163 rfl (lv_at hl 0 rfl) ?_
        refine gf_X2_12 E hT_c163 hW ha0 dX2_transmit_164 (fun h_8 => ?_)
        refine th_Vi (As := []) (rest := []) E hml hl.1 (z_X5_unsent l D cI cS τ ρ hW H_c163 hT_c163 (ρ a0 4) h_8) lk_X2_96 yd_X5_unsent hT_c163 h_8 rfl (by decide) hS_c163 (AT.sub (by decide)) ⟨by decide, by decide⟩ (Nat.le_of_ble_eq_true rfl) ⟨by decide, by decide⟩ rfl dX2_transmit_167 (fun r_9 H_9 locs_9 p_9 hT_9 hk_9 hS_9 => ?_)
        refine lv_if_ne (tgt := 216) hx hb dX2_transmit_170 (by decide) (fun c_10 => ?_) (fun c_10 => ?_)
        · have f_10 : ¬ r_9.toInt = 0 := r_ne rfl (by decide) c_10
          have nz_r_9 : ¬ r_9 = 0 := c_10
          exact th_vret E hr hlk hs hT_9 hS_9 trivial dX2_transmit_216
        · have f_10 : r_9.toInt = 0 := r_eq rfl (by decide) c_10
          refine lv_aload_n hx hb dX2_transmit_173 rfl (lv_at hl 0 rfl) ?_
          refine gf_X2_12 E hT_9 hW ha0 dX2_transmit_174 (fun h_11 => ?_)
          refine gf_X2_86 E hT_9 h_11 dX2_transmit_177 ?_
          refine th_topi (y := fi D 5 5 H_c163 (ρ a0 4)) (fi_q (hk_9 _ (AT.out h_11 (by decide)))) ?_
          refine lv_topi (fun x_12 ex_12 => ?_)
          have bx_12 : x_12 = 0 ∨ x_12 = 1 := by rw [ex_12]; exact (TH.vb hT_c163 h_11 (by decide) (by decide) rfl).2
          have z_12 := b_iv bx_12
          refine lv_if_eq (tgt := 216) hx hb dX2_transmit_180 (by decide) (fun c_13 => ?_) (fun c_13 => ?_)
          · have f_13 : x_12.toInt = 0 := r_eq rfl (by decide) c_13
            exact th_vret E hr hlk hs hT_9 hS_9 trivial dX2_transmit_216
          · have f_13 : ¬ x_12.toInt = 0 := r_ne rfl (by decide) c_13
            have nz_x_12 : ¬ x_12 = 0 := c_13
            refine lv_aload_n hx hb dX2_transmit_183 rfl (lv_at hl 0 rfl) ?_
            refine gf_X2_12 E hT_9 hW ha0 dX2_transmit_184 (fun h_14 => ?_)
            refine gf_X2_93 E hT_9 h_14 dX2_transmit_187 ?_
            refine th_topi (y := fi D 5 1 H_c163 (ρ a0 4)) (fi_q (hk_9 _ (AT.out h_14 (by decide)))) ?_
            refine lv_topi (fun x_15 ex_15 => ?_)
            refine lv_aload_n hx hb dX2_transmit_190 rfl (lv_at hl 0 rfl) ?_
            refine gf_X2_12 E hT_9 hW ha0 dX2_transmit_191 (fun h_16 => ?_)
            refine gf_X2_195 E hT_9 h_16 dX2_transmit_194 ?_
            refine th_topi (y := fi D 5 2 H_c163 (ρ a0 4)) (fi_q (hk_9 _ (AT.out h_16 (by decide)))) ?_
            refine lv_topi (fun x_17 ex_17 => ?_)
            refine lv_icmp_ge (tgt := 216) hx hb dX2_transmit_197 (by decide) (fun c_18 => ?_) (fun c_18 => ?_)
            · have f_18 : x_17.toInt ≤ x_15.toInt := r_le rfl rfl c_18
              exact th_vret E hr hlk hs hT_9 hS_9 trivial dX2_transmit_216
            · have f_18 : x_15.toInt < x_17.toInt := r_nle rfl rfl c_18
              refine lv_aload_n hx hb dX2_transmit_200 rfl (lv_at hl 0 rfl) ?_
              refine lv_aload_n hx hb dX2_transmit_201 rfl (lv_at hl 0 rfl) ?_
              refine gf_X2_12 E hT_9 hW ha0 dX2_transmit_202 (fun h_19 => ?_)
              refine gf_X2_93 E hT_9 h_19 dX2_transmit_205 ?_
              refine th_topi (y := x_15) ((fi_q (hk_9 _ (AT.out h_14 (by decide)))).trans ex_15.symm) ?_
              refine lv_iconst (v := 0) hx hb dX2_transmit_208 (by decide) ?_
              refine lv_iconst (v := 1) hx hb dX2_transmit_209 (by decide) ?_
              refine th_Vv (As := [.int x_15, .int 0, .int 1]) (rest := []) E hml hl.1 (z_X2_sendData l D cI cS τ ρ hW H_9 hT_9 a0 x_15 0 1 ha0 (Or.inr rfl)) lk_X2_198 yd_X2_sendData hT_9 ha0 rfl (by decide) hS_9 (AT.sub (by decide)) ⟨by decide, by decide⟩ (Nat.le_of_ble_eq_true rfl) ⟨by decide, by decide⟩ rfl dX2_transmit_210 (fun H_20 locs_20 p_20 hT_20 hk_20 hS_20 => ?_)
              refine lv_goto (tgt := 217) hx hb dX2_transmit_213 (by decide) ?_
              exact J_217 H_20 locs_20 _ y163_2 y163_3 y163_4 hT_20 hS_20 hl (by omega) (by omega) by163_3 by163_4
      have J_144 : ∀ (H_c144 : Heap) (lc_c144 : List Loc) (ls : Array Slot) (y144_2 : Int32) (y144_3 : Int32) (y144_4 : Int32) (z144_0 : Int32), TH D cI cS τ ρ H_c144 → SS (AT τ [2, 5, 7, 8, 10, 104, 108]) H H_c144 lc_c144 → lv_has ls 6 [(0, .ref a0), (1, .int y2_1), (2, .int y144_2), (3, .int y144_3), (4, .int y144_4)] → 0 ≤ y2_1.toInt → y2_1.toInt ≤ 32 → y144_3 = 0 ∨ y144_3 = 1 → y144_4 = 0 ∨ y144_4 = 1 → z144_0 = 0 ∨ z144_0 = 1 → W p l e (rmO 3 74) s m args below meth c H_c144 lc_c144 0 0 (MQ below (va_Qv (fun (u : Heap) => True) (Bt D cI cS τ ρ H) (AT τ [2, 5, 7, 8, 10, 104, 108])) args s 0 0 (AT τ [2, 5, 7, 8, 10, 104, 108])) (F0 m 144 ls [.int z144_0]) := by
        intro H_c144 lc_c144 ls y144_2 y144_3 y144_4 z144_0 hT_c144 hS_c144 hl ly144_1 uy144_1 by144_3 by144_4 bz144_0
        have z_y144_3 := b_iv by144_3
        have z_y144_4 := b_iv by144_4
        have z_z144_0 := b_iv bz144_0
        refine lv_istore (lv' := [(5, .int z144_0), (0, .ref a0), (1, .int y2_1), (2, .int y144_2), (3, .int y144_3), (4, .int y144_4)]) hx hb dX2_transmit_144 hl (by decide) rfl (fun ls hl => ?_)
        refine lv_aload_n hx hb dX2_transmit_146 rfl (lv_at hl 1 rfl) ?_
        refine lv_aload_n hx hb dX2_transmit_147 rfl (lv_at hl 1 rfl) ?_
        refine gf_X2_12 E hT_c144 hW ha0 dX2_transmit_148 (fun h_21 => ?_)
        refine gf_X2_93 E hT_c144 h_21 dX2_transmit_151 ?_
        refine lv_topi (fun x_22 ex_22 => ?_)
        refine lv_iload_n hx hb dX2_transmit_154 rfl (lv_at hl 3 rfl) ?_
        refine lv_iload hx hb dX2_transmit_155 (lv_at hl 0 rfl) ?_
        refine th_Vv (As := [.int x_22, .int y144_2, .int z144_0]) (rest := []) E hml hl.1 (z_X2_sendData l D cI cS τ ρ hW H_c144 hT_c144 a0 x_22 y144_2 z144_0 ha0 bz144_0) lk_X2_198 yd_X2_sendData hT_c144 ha0 rfl (by decide) hS_c144 (AT.sub (by decide)) ⟨by decide, by decide⟩ (Nat.le_of_ble_eq_true rfl) ⟨by decide, by decide⟩ rfl dX2_transmit_157 (fun H_23 locs_23 p_23 hT_23 hk_23 hS_23 => ?_)
        refine lv_goto (tgt := 217) hx hb dX2_transmit_160 (by decide) ?_
        exact J_217 H_23 locs_23 _ y144_2 y144_3 y144_4 hT_23 hS_23 (lv_sub hl [1, 2, 3, 4, 5] rfl) (by omega) (by omega) by144_3 by144_4
      have J_143 : ∀ (H_c143 : Heap) (lc_c143 : List Loc) (ls : Array Slot) (y143_2 : Int32) (y143_3 : Int32) (y143_4 : Int32), TH D cI cS τ ρ H_c143 → SS (AT τ [2, 5, 7, 8, 10, 104, 108]) H H_c143 lc_c143 → lv_has ls 6 [(0, .ref a0), (1, .int y2_1), (2, .int y143_2), (3, .int y143_3), (4, .int y143_4)] → 0 ≤ y2_1.toInt → y2_1.toInt ≤ 32 → y143_3 = 0 ∨ y143_3 = 1 → y143_4 = 0 ∨ y143_4 = 1 → W p l e (rmO 3 74) s m args below meth c H_c143 lc_c143 0 0 (MQ below (va_Qv (fun (u : Heap) => True) (Bt D cI cS τ ρ H) (AT τ [2, 5, 7, 8, 10, 104, 108])) args s 0 0 (AT τ [2, 5, 7, 8, 10, 104, 108])) (F0 m 143 ls []) := by
        intro H_c143 lc_c143 ls y143_2 y143_3 y143_4 hT_c143 hS_c143 hl ly143_1 uy143_1 by143_3 by143_4
        have z_y143_3 := b_iv by143_3
        have z_y143_4 := b_iv by143_4
        refine lv_iconst (v := 0) hx hb dX2_transmit_143 (by decide) ?_
        exact J_144 H_c143 lc_c143 _ y143_2 y143_3 y143_4 0 hT_c143 hS_c143 hl (by omega) (by omega) by143_3 by143_4 (Or.inl rfl)
      have J_106 : ∀ (H_c106 : Heap) (lc_c106 : List Loc) (ls : Array Slot) (y106_2 : Int32) (y106_3 : Int32) (y106_4 : Int32), TH D cI cS τ ρ H_c106 → SS (AT τ [2, 5, 7, 8, 10, 104, 108]) H H_c106 lc_c106 → lv_has ls 6 [(0, .ref a0), (1, .int y2_1), (2, .int y106_2), (3, .int y106_3), (4, .int y106_4)] → 0 ≤ y2_1.toInt → y2_1.toInt ≤ 32 → y106_3 = 0 ∨ y106_3 = 1 → y106_4 = 0 ∨ y106_4 = 1 → W p l e (rmO 3 74) s m args below meth c H_c106 lc_c106 0 0 (MQ below (va_Qv (fun (u : Heap) => True) (Bt D cI cS τ ρ H) (AT τ [2, 5, 7, 8, 10, 104, 108])) args s 0 0 (AT τ [2, 5, 7, 8, 10, 104, 108])) (F0 m 106 ls []) := by
        intro H_c106 lc_c106 ls y106_2 y106_3 y106_4 hT_c106 hS_c106 hl ly106_1 uy106_1 by106_3 by106_4
        have z_y106_3 := b_iv by106_3
        have z_y106_4 := b_iv by106_4
        refine lv_aload_n hx hb dX2_transmit_106 rfl (lv_at hl 0 rfl) ?_
        refine gf_X2_12 E hT_c106 hW ha0 dX2_transmit_107 (fun h_24 => ?_)
        refine gf_X2_86 E hT_c106 h_24 dX2_transmit_110 ?_
        refine lv_topi (fun x_25 ex_25 => ?_)
        have bx_25 : x_25 = 0 ∨ x_25 = 1 := by rw [ex_25]; exact (TH.vb hT_c106 h_24 (by decide) (by decide) rfl).2
        have z_25 := b_iv bx_25
        refine lv_if_eq (tgt := 143) hx hb dX2_transmit_113 (by decide) (fun c_26 => ?_) (fun c_26 => ?_)
        · have f_26 : x_25.toInt = 0 := r_eq rfl (by decide) c_26
          exact J_143 H_c106 lc_c106 _ y106_2 y106_3 y106_4 hT_c106 hS_c106 hl (by omega) (by omega) by106_3 by106_4
        · have f_26 : ¬ x_25.toInt = 0 := r_ne rfl (by decide) c_26
          have nz_x_25 : ¬ x_25 = 0 := c_26
          refine lv_iload_n hx hb dX2_transmit_116 rfl (lv_at hl 3 rfl) ?_
          refine lv_if_eq (tgt := 143) hx hb dX2_transmit_117 (by decide) (fun c_27 => ?_) (fun c_27 => ?_)
          · have f_27 : y106_3.toInt = 0 := r_eq rfl (by decide) c_27
            exact J_143 H_c106 lc_c106 _ y106_2 y106_3 y106_4 hT_c106 hS_c106 hl (by omega) (by omega) by106_3 by106_4
          · have f_27 : ¬ y106_3.toInt = 0 := r_ne rfl (by decide) c_27
            have nz_y106_3 : ¬ y106_3 = 0 := c_27
            refine lv_aload_n hx hb dX2_transmit_120 rfl (lv_at hl 0 rfl) ?_
            refine gf_X2_12 E hT_c106 hW ha0 dX2_transmit_121 (fun h_28 => ?_)
            refine gf_X2_93 E hT_c106 h_28 dX2_transmit_124 ?_
            refine lv_topi (fun x_29 ex_29 => ?_)
            refine lv_iload_n hx hb dX2_transmit_127 rfl (lv_at hl 2 rfl) ?_
            refine lv_iadd hx hb dX2_transmit_128 ?_
            refine lv_topi (fun x_30 ex_30 => ?_)
            refine lv_aload_n hx hb dX2_transmit_129 rfl (lv_at hl 0 rfl) ?_
            refine gf_X2_12 E hT_c106 hW ha0 dX2_transmit_130 (fun h_31 => ?_)
            refine gf_X2_195 E hT_c106 h_31 dX2_transmit_133 ?_
            refine lv_topi (fun x_32 ex_32 => ?_)
            refine lv_icmp_ge (tgt := 143) hx hb dX2_transmit_136 (by decide) (fun c_33 => ?_) (fun c_33 => ?_)
            · have f_33 : x_32.toInt ≤ x_30.toInt := r_le rfl rfl c_33
              exact J_143 H_c106 lc_c106 _ y106_2 y106_3 y106_4 hT_c106 hS_c106 hl (by omega) (by omega) by106_3 by106_4
            · have f_33 : x_30.toInt < x_32.toInt := r_nle rfl rfl c_33
              refine lv_iconst (v := 1) hx hb dX2_transmit_139 (by decide) ?_
              refine lv_goto (tgt := 144) hx hb dX2_transmit_140 (by decide) ?_
              exact J_144 H_c106 lc_c106 _ y106_2 y106_3 y106_4 1 hT_c106 hS_c106 hl (by omega) (by omega) by106_3 by106_4 (Or.inr rfl)
      have J_79 : ∀ (H_c79 : Heap) (lc_c79 : List Loc) (ls : Array Slot) (y79_2 : Int32) (y79_3 : Int32) (z79_0 : Int32), TH D cI cS τ ρ H_c79 → SS (AT τ [2, 5, 7, 8, 10, 104, 108]) H H_c79 lc_c79 → lv_has ls 6 [(0, .ref a0), (1, .int y2_1), (2, .int y79_2), (3, .int y79_3)] → 0 ≤ y2_1.toInt → y2_1.toInt ≤ 32 → y79_3 = 0 ∨ y79_3 = 1 → z79_0 = 0 ∨ z79_0 = 1 → W p l e (rmO 3 74) s m args below meth c H_c79 lc_c79 0 0 (MQ below (va_Qv (fun (u : Heap) => True) (Bt D cI cS τ ρ H) (AT τ [2, 5, 7, 8, 10, 104, 108])) args s 0 0 (AT τ [2, 5, 7, 8, 10, 104, 108])) (F0 m 79 ls [.int z79_0]) := by
        intro H_c79 lc_c79 ls y79_2 y79_3 z79_0 hT_c79 hS_c79 hl ly79_1 uy79_1 by79_3 bz79_0
        have z_y79_3 := b_iv by79_3
        have z_z79_0 := b_iv bz79_0
        refine lv_istore (lv' := [(4, .int z79_0), (0, .ref a0), (1, .int y2_1), (2, .int y79_2), (3, .int y79_3)]) hx hb dX2_transmit_79 hl (by decide) rfl (fun ls hl => ?_)
        refine lv_iload_n hx hb dX2_transmit_81 rfl (lv_at hl 3 rfl) ?_
        refine lv_aload_n hx hb dX2_transmit_82 rfl (lv_at hl 1 rfl) ?_
        refine gf_X2_36 E hT_c79 hW ha0 dX2_transmit_83 (fun h_34 => ?_)
        refine gf_X2_189 E hT_c79 h_34 dX2_transmit_86 ?_
        refine lv_topi (fun x_35 ex_35 => ?_)
        refine lv_icmp_eq (tgt := 106) hx hb dX2_transmit_89 (by decide) (fun c_36 => ?_) (fun c_36 => ?_)
        · have f_36 : y79_2.toInt = x_35.toInt := r_eq rfl rfl c_36
          exact J_106 H_c79 lc_c79 _ y79_2 y79_3 z79_0 hT_c79 hS_c79 (lv_sub hl [1, 2, 3, 4, 0] rfl) (by omega) (by omega) by79_3 bz79_0
        · have f_36 : ¬ y79_2.toInt = x_35.toInt := r_ne rfl rfl c_36
          refine lv_iload_n hx hb dX2_transmit_92 rfl (lv_at hl 3 rfl) ?_
          refine lv_iconst (v := 1) hx hb dX2_transmit_93 (by decide) ?_
          refine lv_icmp_lt (tgt := 163) hx hb dX2_transmit_94 (by decide) (fun c_37 => ?_) (fun c_37 => ?_)
          · have f_37 : y79_2.toInt < 1 := r_lt rfl (by decide) c_37
            exact J_163 H_c79 lc_c79 _ y79_2 y79_3 z79_0 hT_c79 hS_c79 (lv_sub hl [1, 2, 3, 4, 0] rfl) (by omega) (by omega) by79_3 bz79_0
          · have f_37 : 1 ≤ y79_2.toInt := r_nlt rfl (by decide) c_37
            refine lv_iload_n hx hb dX2_transmit_97 rfl (lv_at hl 4 rfl) ?_
            refine lv_if_eq (tgt := 163) hx hb dX2_transmit_98 (by decide) (fun c_38 => ?_) (fun c_38 => ?_)
            · have f_38 : y79_3.toInt = 0 := r_eq rfl (by decide) c_38
              exact J_163 H_c79 lc_c79 _ y79_2 y79_3 z79_0 hT_c79 hS_c79 (lv_sub hl [1, 2, 3, 4, 0] rfl) (by omega) (by omega) by79_3 bz79_0
            · have f_38 : ¬ y79_3.toInt = 0 := r_ne rfl (by decide) c_38
              have nz_y79_3 : ¬ y79_3 = 0 := c_38
              refine lv_iload hx hb dX2_transmit_101 (lv_at hl 0 rfl) ?_
              refine lv_if_eq (tgt := 163) hx hb dX2_transmit_103 (by decide) (fun c_39 => ?_) (fun c_39 => ?_)
              · have f_39 : z79_0.toInt = 0 := r_eq rfl (by decide) c_39
                exact J_163 H_c79 lc_c79 _ y79_2 y79_3 z79_0 hT_c79 hS_c79 (lv_sub hl [1, 2, 3, 4, 0] rfl) (by omega) (by omega) by79_3 bz79_0
              · have f_39 : ¬ z79_0.toInt = 0 := r_ne rfl (by decide) c_39
                have nz_z79_0 : ¬ z79_0 = 0 := c_39
                exact J_106 H_c79 lc_c79 _ y79_2 y79_3 z79_0 hT_c79 hS_c79 (lv_sub hl [1, 2, 3, 4, 0] rfl) (by omega) (by omega) by79_3 bz79_0
      have J_74 : ∀ (H_c74 : Heap) (lc_c74 : List Loc) (ls : Array Slot) (y74_2 : Int32) (y74_3 : Int32), TH D cI cS τ ρ H_c74 → SS (AT τ [2, 5, 7, 8, 10, 104, 108]) H H_c74 lc_c74 → lv_has ls 6 [(0, .ref a0), (1, .int y2_1), (2, .int y74_2), (3, .int y74_3)] → 0 ≤ y2_1.toInt → y2_1.toInt ≤ 32 → y74_3 = 0 ∨ y74_3 = 1 → W p l e (rmO 3 74) s m args below meth c H_c74 lc_c74 0 0 (MQ below (va_Qv (fun (u : Heap) => True) (Bt D cI cS τ ρ H) (AT τ [2, 5, 7, 8, 10, 104, 108])) args s 0 0 (AT τ [2, 5, 7, 8, 10, 104, 108])) (F0 m 74 ls []) := by
        intro H_c74 lc_c74 ls y74_2 y74_3 hT_c74 hS_c74 hl ly74_1 uy74_1 by74_3
        have z_y74_3 := b_iv by74_3
        refine lv_iconst (v := 1) hx hb dX2_transmit_74 (by decide) ?_
        refine lv_goto (tgt := 79) hx hb dX2_transmit_75 (by decide) ?_
        exact J_79 H_c74 lc_c74 _ y74_2 y74_3 1 hT_c74 hS_c74 hl (by omega) (by omega) by74_3 (Or.inr rfl)
      have J_46 : ∀ (H_c46 : Heap) (lc_c46 : List Loc) (ls : Array Slot) (y46_2 : Int32) (z46_0 : Int32), TH D cI cS τ ρ H_c46 → SS (AT τ [2, 5, 7, 8, 10, 104, 108]) H H_c46 lc_c46 → lv_has ls 6 [(0, .ref a0), (1, .int y2_1), (2, .int y46_2)] → 0 ≤ y2_1.toInt → y2_1.toInt ≤ 32 → z46_0 = 0 ∨ z46_0 = 1 → W p l e (rmO 3 74) s m args below meth c H_c46 lc_c46 0 0 (MQ below (va_Qv (fun (u : Heap) => True) (Bt D cI cS τ ρ H) (AT τ [2, 5, 7, 8, 10, 104, 108])) args s 0 0 (AT τ [2, 5, 7, 8, 10, 104, 108])) (F0 m 46 ls [.int z46_0]) := by
        intro H_c46 lc_c46 ls y46_2 z46_0 hT_c46 hS_c46 hl ly46_1 uy46_1 bz46_0
        have z_z46_0 := b_iv bz46_0
        refine lv_istore_n (lv' := [(3, .int z46_0), (0, .ref a0), (1, .int y2_1), (2, .int y46_2)]) hx hb dX2_transmit_46 rfl hl (by decide) rfl (fun ls hl => ?_)
        refine lv_aload_n hx hb dX2_transmit_47 rfl (lv_at hl 1 rfl) ?_
        refine gf_X2_12 E hT_c46 hW ha0 dX2_transmit_48 (fun h_40 => ?_)
        refine gf_X2_90 E hT_c46 h_40 dX2_transmit_51 ?_
        refine lv_topi (fun x_41 ex_41 => ?_)
        refine lv_aload_n hx hb dX2_transmit_54 rfl (lv_at hl 1 rfl) ?_
        refine gf_X2_12 E hT_c46 hW ha0 dX2_transmit_55 (fun h_42 => ?_)
        refine gf_X2_93 E hT_c46 h_42 dX2_transmit_58 ?_
        refine lv_topi (fun x_43 ex_43 => ?_)
        refine lv_icmp_eq (tgt := 74) hx hb dX2_transmit_61 (by decide) (fun c_44 => ?_) (fun c_44 => ?_)
        · have f_44 : x_41.toInt = x_43.toInt := r_eq rfl rfl c_44
          exact J_74 H_c46 lc_c46 _ y46_2 z46_0 hT_c46 hS_c46 (lv_sub hl [1, 2, 3, 0] rfl) (by omega) (by omega) bz46_0
        · have f_44 : ¬ x_41.toInt = x_43.toInt := r_ne rfl rfl c_44
          refine lv_aload_n hx hb dX2_transmit_64 rfl (lv_at hl 1 rfl) ?_
          refine gf_X2_12 E hT_c46 hW ha0 dX2_transmit_65 (fun h_45 => ?_)
          refine gf_X2_86 E hT_c46 h_45 dX2_transmit_68 ?_
          refine lv_topi (fun x_46 ex_46 => ?_)
          have bx_46 : x_46 = 0 ∨ x_46 = 1 := by rw [ex_46]; exact (TH.vb hT_c46 h_45 (by decide) (by decide) rfl).2
          have z_46 := b_iv bx_46
          refine lv_if_eq (tgt := 78) hx hb dX2_transmit_71 (by decide) (fun c_47 => ?_) (fun c_47 => ?_)
          · have f_47 : x_46.toInt = 0 := r_eq rfl (by decide) c_47
            refine lv_iconst (v := 0) hx hb dX2_transmit_78 (by decide) ?_
            exact J_79 H_c46 lc_c46 _ y46_2 z46_0 0 hT_c46 hS_c46 (lv_sub hl [1, 2, 3, 0] rfl) (by omega) (by omega) bz46_0 (Or.inl rfl)
          · have f_47 : ¬ x_46.toInt = 0 := r_ne rfl (by decide) c_47
            have nz_x_46 : ¬ x_46 = 0 := c_47
            exact J_74 H_c46 lc_c46 _ y46_2 z46_0 hT_c46 hS_c46 (lv_sub hl [1, 2, 3, 0] rfl) (by omega) (by omega) bz46_0
      refine lv_iload_n hx hb dX2_transmit_2 rfl (lv_at hl 1 rfl) ?_
      refine lv_bipush (v := 32) hx hb dX2_transmit_3 (by decide) ?_
      refine lv_icmp_gt (tgt := 251) hx hb dX2_transmit_5 (by decide) (fun c_48 => ?_) (fun c_48 => ?_)
      · have f_48 : 32 < y2_1.toInt := r_lt (by decide) rfl c_48
        exact th_vret E hr hlk hs hT_c2 hS_c2 trivial dX2_transmit_251
      · have f_48 : y2_1.toInt ≤ 32 := r_nlt (by decide) rfl c_48
        refine lv_aload_n hx hb dX2_transmit_8 rfl (lv_at hl 0 rfl) ?_
        refine th_Vi (As := []) (rest := []) E hml hl.1 (z_X2_mayTransmit l D cI cS τ ρ hW H_c2 hT_c2 a0 ha0) lk_X2_82 yd_X2_mayTransmit hT_c2 ha0 rfl (by decide) hS_c2 (AT.sub (by decide)) ⟨by decide, by decide⟩ (Nat.le_of_ble_eq_true rfl) ⟨by decide, by decide⟩ rfl dX2_transmit_9 (fun r_49 H_49 locs_49 p_49 hT_49 hk_49 hS_49 => ?_)
        have z_49 := b_iv p_49
        refine lv_if_eq (tgt := 251) hx hb dX2_transmit_12 (by decide) (fun c_50 => ?_) (fun c_50 => ?_)
        · have f_50 : r_49.toInt = 0 := r_eq rfl (by decide) c_50
          exact th_vret E hr hlk hs hT_49 hS_49 trivial dX2_transmit_251
        · have f_50 : ¬ r_49.toInt = 0 := r_ne rfl (by decide) c_50
          have nz_r_49 : ¬ r_49 = 0 := c_50
          refine lv_aload_n hx hb dX2_transmit_15 rfl (lv_at hl 0 rfl) ?_
          refine gf_X2_12 E hT_49 hW ha0 dX2_transmit_16 (fun h_51 => ?_)
          refine lv_aload_n hx hb dX2_transmit_19 rfl (lv_at hl 0 rfl) ?_
          refine gf_X2_36 E hT_49 hW ha0 dX2_transmit_20 (fun h_52 => ?_)
          refine gf_X2_189 E hT_49 h_52 dX2_transmit_23 ?_
          refine th_topi (y := fi D 1 0 H_c2 (ρ a0 1)) (fi_q (hk_49 _ (AT.out h_52 (by decide)))) ?_
          refine lv_topi (fun x_53 ex_53 => ?_)
          refine th_Vi (As := [.int x_53]) (rest := []) E hml hl.1 (z_X5_sendable l D cI cS τ ρ hW H_49 hT_49 (ρ a0 4) x_53 h_51) lk_X2_192 yd_X5_sendable hT_49 h_51 rfl (by decide) hS_49 (AT.sub (by decide)) ⟨by decide, by decide⟩ (Nat.le_of_ble_eq_true rfl) ⟨by decide, by decide⟩ rfl dX2_transmit_26 (fun r_54 H_54 locs_54 p_54 hT_54 hk_54 hS_54 => ?_)
          refine lv_istore_n (lv' := [(2, .int r_54), (0, .ref a0), (1, .int y2_1)]) hx hb dX2_transmit_29 rfl hl (by decide) rfl (fun ls hl => ?_)
          refine lv_iload_n hx hb dX2_transmit_30 rfl (lv_at hl 0 rfl) ?_
          refine lv_aload_n hx hb dX2_transmit_31 rfl (lv_at hl 1 rfl) ?_
          refine gf_X2_12 E hT_54 hW ha0 dX2_transmit_32 (fun h_55 => ?_)
          refine th_Vi (As := []) (rest := [.int r_54]) E hml hl.1 (z_X5_unsent l D cI cS τ ρ hW H_54 hT_54 (ρ a0 4) h_55) lk_X2_96 yd_X5_unsent hT_54 h_55 rfl (by decide) hS_54 (AT.sub (by decide)) ⟨by decide, by decide⟩ (Nat.le_of_ble_eq_true rfl) ⟨by decide, by decide⟩ rfl dX2_transmit_35 (fun r_56 H_56 locs_56 p_56 hT_56 hk_56 hS_56 => ?_)
          refine lv_icmp_ne (tgt := 45) hx hb dX2_transmit_38 (by decide) (fun c_57 => ?_) (fun c_57 => ?_)
          · have f_57 : ¬ r_54.toInt = r_56.toInt := r_ne rfl rfl c_57
            refine lv_iconst (v := 0) hx hb dX2_transmit_45 (by decide) ?_
            exact J_46 H_56 locs_56 _ r_54 0 hT_56 hS_56 (lv_sub hl [1, 2, 0] rfl) (by omega) (by omega) (Or.inl rfl)
          · have f_57 : r_54.toInt = r_56.toInt := r_eq rfl rfl c_57
            refine lv_iconst (v := 1) hx hb dX2_transmit_41 (by decide) ?_
            refine lv_goto (tgt := 46) hx hb dX2_transmit_42 (by decide) ?_
            exact J_46 H_56 locs_56 _ r_54 1 hT_56 hS_56 (lv_sub hl [1, 2, 0] rfl) (by omega) (by omega) (Or.inr rfl)
  refine lv_iconst (v := 0) hx hb dX2_transmit_0 (by decide) ?_
  refine lv_istore_n (lv' := [(1, .int 0), (0, .ref a0)]) hx hb dX2_transmit_1 rfl hl (by decide) rfl (fun ls hl => ?_)
  exact L_2 _ H [] _ 0 hT hS (lv_sub hl [1, 0] rfl) (by decide) (Nat.lt_succ_self _)
set_option maxHeartbeats 4000000 in
set_option maxRecDepth 100000 in
/-- StreamEnds$Outgoing.pending: it ends, and the heap stays typed -/
theorem z_X5_pending (l : Launch) (D : va_G) (cI cS : ClassId) (τ : Nat → Option Nat) (ρ : Nat → Nat → Nat) (hW : WF τ ρ) (H : Heap) (hT : TH D cI cS τ ρ H) (a0 : Nat) (ha0 : τ a0 = some 5) : MI l D cI cS τ ρ yX5_pending cX5_pending 1 (some .int) 1 15 H [.ref a0] (fun (r : Int32) (u : Heap) => True) (AT τ []) := by
  refine MI.of (by decide) (Nat.le_of_ble_eq_true rfl) ?_
  intro p e s m args below meth c E hml hr hlk hs ls hl
  have hx := E.1
  have hb := E.2.1
  have hown := E.2.2.1
  have hts := E.2.2.2.1
  have hS : SS (AT τ []) H H [] := SS.rf
  have hl : lv_has ls 1 [(0, .ref a0)] := hl
  refine lv_iconst (v := 0) hx hb dX5_pending_0 (by decide) ?_
  refine lv_aload_n hx hb dX5_pending_1 rfl (lv_at hl 0 rfl) ?_
  refine gf_X5_25 E hT ha0 dX5_pending_2 ?_
  refine lv_topi (fun x_1 ex_1 => ?_)
  refine lv_iconst (v := 1) hx hb dX5_pending_5 (by decide) ?_
  refine lv_iadd hx hb dX5_pending_6 ?_
  refine lv_topi (fun x_2 ex_2 => ?_)
  refine lv_iconst (v := 1) hx hb dX5_pending_7 (by decide) ?_
  refine lv_aload_n hx hb dX5_pending_8 rfl (lv_at hl 0 rfl) ?_
  refine gf_X5_15 E hT ha0 dX5_pending_9 ?_
  refine lv_topi (fun x_3 ex_3 => ?_)
  refine mm_X5_45 E hml hl.1 (by decide) (Nat.le_of_ble_eq_true rfl) ⟨by decide, by decide⟩ dX5_pending_12 ?_
  refine lv_topi (fun x_4 ex_4 => ?_)
  have q_4 := i_maxq (x := (1 : Int32)) (y := x_3) (a := 1) (b := x_3.toInt) (by decide) rfl ex_4
  refine lv_isub hx hb dX5_pending_15 ?_
  refine lv_topi (fun x_5 ex_5 => ?_)
  refine mm_X5_45 E hml hl.1 (by decide) (Nat.le_of_ble_eq_true rfl) ⟨by decide, by decide⟩ dX5_pending_16 ?_
  refine lv_topi (fun x_6 ex_6 => ?_)
  have q_6 := i_maxq (x := (0 : Int32)) (y := x_5) (a := 0) (b := x_5.toInt) (by decide) rfl ex_6
  exact th_iret E hr hlk hs hT hS trivial dX5_pending_19
set_option maxHeartbeats 4000000 in
set_option maxRecDepth 100000 in
/-- StreamEnds$Endpoint.value: it ends, and the heap stays typed -/
theorem z_X2_value (l : Launch) (D : va_G) (cI cS : ClassId) (τ : Nat → Option Nat) (ρ : Nat → Nat → Nat) (hW : WF τ ρ) (H : Heap) (hT : TH D cI cS τ ρ H) (a0 : Nat) (x0 : Int32) (ha0 : τ a0 = some 2) : MI l D cI cS τ ρ yX2_value cX2_value 2 (some .int) 2 35 H [.ref a0, .int x0] (fun (r : Int32) (u : Heap) => True) (AT τ []) := by
  refine MI.of (by decide) (Nat.le_of_ble_eq_true rfl) ?_
  intro p e s m args below meth c E hml hr hlk hs ls hl
  have hx := E.1
  have hb := E.2.1
  have hown := E.2.2.1
  have hts := E.2.2.2.1
  have hS : SS (AT τ []) H H [] := SS.rf
  have hl : lv_has ls 2 [(0, .ref a0), (1, .int x0)] := hl
  refine lv_iload_n hx hb dX2_value_0 rfl (lv_at hl 1 rfl) ?_
  by_cases k1_0 : x0 = 0
  · refine th_topi k1_0 ?_
    refine lv_tableIn (tgt := 84) hx hb dX2_value_1 (by decide) (by decide) rfl (by decide) ?_
    refine lv_aload_n hx hb dX2_value_84 rfl (lv_at hl 0 rfl) ?_
    refine gf_X2_63 E hT ha0 dX2_value_85 ?_
    refine lv_topi (fun x_2 ex_2 => ?_)
    exact th_iret E hr hlk hs hT hS trivial dX2_value_88
  by_cases k1_1 : x0 = 1
  · refine th_topi k1_1 ?_
    refine lv_tableIn (tgt := 89) hx hb dX2_value_1 (by decide) (by decide) rfl (by decide) ?_
    refine lv_aload_n hx hb dX2_value_89 rfl (lv_at hl 0 rfl) ?_
    refine gf_X2_12 E hT hW ha0 dX2_value_90 (fun h_3 => ?_)
    refine gf_X2_90 E hT h_3 dX2_value_93 ?_
    refine lv_topi (fun x_4 ex_4 => ?_)
    exact th_iret E hr hlk hs hT hS trivial dX2_value_96
  by_cases k1_2 : x0 = 2
  · refine th_topi k1_2 ?_
    refine lv_tableIn (tgt := 97) hx hb dX2_value_1 (by decide) (by decide) rfl (by decide) ?_
    refine lv_aload_n hx hb dX2_value_97 rfl (lv_at hl 0 rfl) ?_
    refine gf_X2_12 E hT hW ha0 dX2_value_98 (fun h_5 => ?_)
    refine gf_X2_93 E hT h_5 dX2_value_101 ?_
    refine lv_topi (fun x_6 ex_6 => ?_)
    exact th_iret E hr hlk hs hT hS trivial dX2_value_104
  by_cases k1_3 : x0 = 3
  · refine th_topi k1_3 ?_
    refine lv_tableIn (tgt := 105) hx hb dX2_value_1 (by decide) (by decide) rfl (by decide) ?_
    refine lv_aload_n hx hb dX2_value_105 rfl (lv_at hl 0 rfl) ?_
    refine gf_X2_12 E hT hW ha0 dX2_value_106 (fun h_7 => ?_)
    refine gf_X2_195 E hT h_7 dX2_value_109 ?_
    refine lv_topi (fun x_8 ex_8 => ?_)
    exact th_iret E hr hlk hs hT hS trivial dX2_value_112
  by_cases k1_4 : x0 = 4
  · refine th_topi k1_4 ?_
    refine lv_tableIn (tgt := 113) hx hb dX2_value_1 (by decide) (by decide) rfl (by decide) ?_
    refine lv_aload_n hx hb dX2_value_113 rfl (lv_at hl 0 rfl) ?_
    refine gf_X2_12 E hT hW ha0 dX2_value_114 (fun h_9 => ?_)
    refine th_Vi (As := []) (rest := []) E hml hl.1 (z_X5_pending l D cI cS τ ρ hW H hT (ρ a0 4) h_9) lk_X2_244 yd_X5_pending hT h_9 rfl (by decide) hS (AT.sub (by decide)) ⟨by decide, by decide⟩ (Nat.le_of_ble_eq_true rfl) ⟨by decide, by decide⟩ rfl dX2_value_117 (fun r_10 H_10 locs_10 p_10 hT_10 hk_10 hS_10 => ?_)
    exact th_iret E hr hlk hs hT_10 hS_10 trivial dX2_value_120
  by_cases k1_5 : x0 = 5
  · refine th_topi k1_5 ?_
    refine lv_tableIn (tgt := 121) hx hb dX2_value_1 (by decide) (by decide) rfl (by decide) ?_
    refine lv_aload_n hx hb dX2_value_121 rfl (lv_at hl 0 rfl) ?_
    refine gf_X2_21 E hT hW ha0 dX2_value_122 (fun h_11 => ?_)
    refine gf_X2_129 E hT h_11 dX2_value_125 ?_
    refine lv_topi (fun x_12 ex_12 => ?_)
    exact th_iret E hr hlk hs hT hS trivial dX2_value_128
  by_cases k1_6 : x0 = 6
  · refine th_topi k1_6 ?_
    refine lv_tableIn (tgt := 129) hx hb dX2_value_1 (by decide) (by decide) rfl (by decide) ?_
    refine lv_aload_n hx hb dX2_value_129 rfl (lv_at hl 0 rfl) ?_
    refine gf_X2_21 E hT hW ha0 dX2_value_130 (fun h_13 => ?_)
    refine gf_X2_205 E hT h_13 dX2_value_133 ?_
    refine lv_topi (fun x_14 ex_14 => ?_)
    exact th_iret E hr hlk hs hT hS trivial dX2_value_136
  by_cases k1_7 : x0 = 7
  · refine th_topi k1_7 ?_
    refine lv_tableIn (tgt := 137) hx hb dX2_value_1 (by decide) (by decide) rfl (by decide) ?_
    refine lv_aload_n hx hb dX2_value_137 rfl (lv_at hl 0 rfl) ?_
    refine gf_X2_21 E hT hW ha0 dX2_value_138 (fun h_15 => ?_)
    refine gf_X2_144 E hT h_15 dX2_value_141 ?_
    refine lv_topi (fun x_16 ex_16 => ?_)
    exact th_iret E hr hlk hs hT hS trivial dX2_value_144
  by_cases k1_8 : x0 = 8
  · refine th_topi k1_8 ?_
    refine lv_tableIn (tgt := 145) hx hb dX2_value_1 (by decide) (by decide) rfl (by decide) ?_
    refine lv_aload_n hx hb dX2_value_145 rfl (lv_at hl 0 rfl) ?_
    refine gf_X2_28 E hT hW ha0 dX2_value_146 (fun h_17 => ?_)
    refine gf_X2_106 E hT h_17 dX2_value_149 ?_
    refine lv_topi (fun x_18 ex_18 => ?_)
    exact th_iret E hr hlk hs hT hS trivial dX2_value_152
  by_cases k1_9 : x0 = 9
  · refine th_topi k1_9 ?_
    refine lv_tableIn (tgt := 153) hx hb dX2_value_1 (by decide) (by decide) rfl (by decide) ?_
    refine lv_aload_n hx hb dX2_value_153 rfl (lv_at hl 0 rfl) ?_
    refine gf_X2_28 E hT hW ha0 dX2_value_154 (fun h_19 => ?_)
    refine gf_X2_247 E hT h_19 dX2_value_157 ?_
    refine lv_topi (fun x_20 ex_20 => ?_)
    exact th_iret E hr hlk hs hT hS trivial dX2_value_160
  by_cases k1_10 : x0 = 10
  · refine th_topi k1_10 ?_
    refine lv_tableIn (tgt := 161) hx hb dX2_value_1 (by decide) (by decide) rfl (by decide) ?_
    refine lv_aload_n hx hb dX2_value_161 rfl (lv_at hl 0 rfl) ?_
    refine gf_X2_28 E hT hW ha0 dX2_value_162 (fun h_21 => ?_)
    refine gf_X2_250 E hT h_21 dX2_value_165 ?_
    refine lv_topi (fun x_22 ex_22 => ?_)
    exact th_iret E hr hlk hs hT hS trivial dX2_value_168
  by_cases k1_11 : x0 = 11
  · refine th_topi k1_11 ?_
    refine lv_tableIn (tgt := 169) hx hb dX2_value_1 (by decide) (by decide) rfl (by decide) ?_
    refine lv_aload_n hx hb dX2_value_169 rfl (lv_at hl 0 rfl) ?_
    refine gf_X2_66 E hT ha0 dX2_value_170 ?_
    refine lv_topi (fun x_23 ex_23 => ?_)
    exact th_iret E hr hlk hs hT hS trivial dX2_value_173
  by_cases k1_12 : x0 = 12
  · refine th_topi k1_12 ?_
    refine lv_tableIn (tgt := 174) hx hb dX2_value_1 (by decide) (by decide) rfl (by decide) ?_
    refine lv_aload_n hx hb dX2_value_174 rfl (lv_at hl 0 rfl) ?_
    refine gf_X2_69 E hT ha0 dX2_value_175 ?_
    refine lv_topi (fun x_24 ex_24 => ?_)
    exact th_iret E hr hlk hs hT hS trivial dX2_value_178
  by_cases k1_13 : x0 = 13
  · refine th_topi k1_13 ?_
    refine lv_tableIn (tgt := 179) hx hb dX2_value_1 (by decide) (by decide) rfl (by decide) ?_
    refine lv_aload_n hx hb dX2_value_179 rfl (lv_at hl 0 rfl) ?_
    refine gf_X2_12 E hT hW ha0 dX2_value_180 (fun h_25 => ?_)
    refine gf_X2_86 E hT h_25 dX2_value_183 ?_
    refine lv_topi (fun x_26 ex_26 => ?_)
    have bx_26 : x_26 = 0 ∨ x_26 = 1 := by rw [ex_26]; exact (TH.vb hT h_25 (by decide) (by decide) rfl).2
    have z_26 := b_iv bx_26
    refine lv_if_eq (tgt := 193) hx hb dX2_value_186 (by decide) (fun c_27 => ?_) (fun c_27 => ?_)
    · have f_27 : x_26.toInt = 0 := r_eq rfl (by decide) c_27
      refine lv_iconst (v := 0) hx hb dX2_value_193 (by decide) ?_
      exact th_iret E hr hlk hs hT hS trivial dX2_value_194
    · have f_27 : ¬ x_26.toInt = 0 := r_ne rfl (by decide) c_27
      have nz_x_26 : ¬ x_26 = 0 := c_27
      refine lv_iconst (v := 1) hx hb dX2_value_189 (by decide) ?_
      refine lv_goto (tgt := 194) hx hb dX2_value_190 (by decide) ?_
      exact th_iret E hr hlk hs hT hS trivial dX2_value_194
  by_cases k1_14 : x0 = 14
  · refine th_topi k1_14 ?_
    refine lv_tableIn (tgt := 195) hx hb dX2_value_1 (by decide) (by decide) rfl (by decide) ?_
    refine lv_aload_n hx hb dX2_value_195 rfl (lv_at hl 0 rfl) ?_
    refine gf_X2_12 E hT hW ha0 dX2_value_196 (fun h_28 => ?_)
    refine gf_X2_185 E hT h_28 dX2_value_199 ?_
    refine lv_topi (fun x_29 ex_29 => ?_)
    exact th_iret E hr hlk hs hT hS trivial dX2_value_202
  by_cases k1_15 : x0 = 15
  · refine th_topi k1_15 ?_
    refine lv_tableIn (tgt := 203) hx hb dX2_value_1 (by decide) (by decide) rfl (by decide) ?_
    refine lv_aload_n hx hb dX2_value_203 rfl (lv_at hl 0 rfl) ?_
    refine gf_X2_21 E hT hW ha0 dX2_value_204 (fun h_30 => ?_)
    refine gf_X2_253 E hT h_30 dX2_value_207 ?_
    refine lv_topi (fun x_31 ex_31 => ?_)
    exact th_iret E hr hlk hs hT hS trivial dX2_value_210
  by_cases k1_16 : x0 = 16
  · refine th_topi k1_16 ?_
    refine lv_tableIn (tgt := 211) hx hb dX2_value_1 (by decide) (by decide) rfl (by decide) ?_
    refine lv_aload_n hx hb dX2_value_211 rfl (lv_at hl 0 rfl) ?_
    refine gf_X2_28 E hT hW ha0 dX2_value_212 (fun h_32 => ?_)
    refine gf_X2_229 E hT h_32 dX2_value_215 ?_
    refine lv_topi (fun x_33 ex_33 => ?_)
    exact th_iret E hr hlk hs hT hS trivial dX2_value_218
  have n1_0 := i_ne k1_0 (k := 0) (by decide)
  have n1_1 := i_ne k1_1 (k := 1) (by decide)
  have n1_2 := i_ne k1_2 (k := 2) (by decide)
  have n1_3 := i_ne k1_3 (k := 3) (by decide)
  have n1_4 := i_ne k1_4 (k := 4) (by decide)
  have n1_5 := i_ne k1_5 (k := 5) (by decide)
  have n1_6 := i_ne k1_6 (k := 6) (by decide)
  have n1_7 := i_ne k1_7 (k := 7) (by decide)
  have n1_8 := i_ne k1_8 (k := 8) (by decide)
  have n1_9 := i_ne k1_9 (k := 9) (by decide)
  have n1_10 := i_ne k1_10 (k := 10) (by decide)
  have n1_11 := i_ne k1_11 (k := 11) (by decide)
  have n1_12 := i_ne k1_12 (k := 12) (by decide)
  have n1_13 := i_ne k1_13 (k := 13) (by decide)
  have n1_14 := i_ne k1_14 (k := 14) (by decide)
  have n1_15 := i_ne k1_15 (k := 15) (by decide)
  have n1_16 := i_ne k1_16 (k := 16) (by decide)
  refine lv_tableOut (tgt := 219) hx hb dX2_value_1 (by omega) (by decide) ?_
  refine lv_aload_n hx hb dX2_value_219 rfl (lv_at hl 0 rfl) ?_
  refine gf_X2_21 E hT hW ha0 dX2_value_220 (fun h_34 => ?_)
  refine gf_X2_256 E hT h_34 dX2_value_223 ?_
  refine lv_topi (fun x_35 ex_35 => ?_)
  exact th_iret E hr hlk hs hT hS trivial dX2_value_226
set_option maxHeartbeats 4000000 in
set_option maxRecDepth 100000 in
/-- StreamEnds$Endpoint.waitForLate: it ends, and the heap stays typed -/
theorem z_X2_waitForLate (l : Launch) (D : va_G) (cI cS : ClassId) (τ : Nat → Option Nat) (ρ : Nat → Nat → Nat) (hW : WF τ ρ) (H : Heap) (hT : TH D cI cS τ ρ H) (a0 : Nat) (ha0 : τ a0 = some 2) : MV l D cI cS τ ρ yX2_waitForLate cX2_waitForLate 1 none 0 0 H [.ref a0] (fun (u : Heap) => True) (AT τ [2]) := by
  refine MV.of (by decide) (Nat.le_of_ble_eq_true rfl) ?_
  intro p e s m args below meth c E hml hr hlk hs ls hl
  have hx := E.1
  have hb := E.2.1
  have hown := E.2.2.1
  have hts := E.2.2.2.1
  have hS : SS (AT τ [2]) H H [] := SS.rf
  have hl : lv_has ls 1 [(0, .ref a0)] := hl
  refine lv_aload_n hx hb dX2_waitForLate_0 rfl (lv_at hl 0 rfl) ?_
  refine lv_bipush (v := 10) hx hb dX2_waitForLate_1 (by decide) ?_
  refine pf_X2_63 E hT hS ha0 ⟨_, ha0, by decide⟩ dX2_waitForLate_3 (fun H_1 locs_1 hT_1 hU_1 hS_1 => ?_)
  refine lv_aload_n hx hb dX2_waitForLate_6 rfl (lv_at hl 0 rfl) ?_
  refine lv_iconst (v := 2) hx hb dX2_waitForLate_7 (by decide) ?_
  refine lv_aload_n hx hb dX2_waitForLate_8 rfl (lv_at hl 0 rfl) ?_
  refine gf_X2_36 E hT_1 hW ha0 dX2_waitForLate_9 (fun h_2 => ?_)
  refine gf_X2_100 E hT_1 h_2 dX2_waitForLate_12 ?_
  refine th_topi (y := fi D 1 4 H (ρ a0 1)) (fi_q (hU_1.2.2 _ (th_ne h_2 ha0 (by decide)))) ?_
  refine lv_topi (fun x_3 ex_3 => ?_)
  refine lv_imul hx hb dX2_waitForLate_15 ?_
  refine lv_topi (fun x_4 ex_4 => ?_)
  refine pf_X2_69 E hT_1 hS_1 ha0 ⟨_, ha0, by decide⟩ dX2_waitForLate_16 (fun H_5 locs_5 hT_5 hU_5 hS_5 => ?_)
  exact th_vret E hr hlk hs hT_5 hS_5 trivial dX2_waitForLate_19
set_option maxHeartbeats 4000000 in
set_option maxRecDepth 100000 in
/-- StreamEnds$Endpoint.widenWindow: it ends, and the heap stays typed -/
theorem z_X2_widenWindow (l : Launch) (D : va_G) (cI cS : ClassId) (τ : Nat → Option Nat) (ρ : Nat → Nat → Nat) (hW : WF τ ρ) (H : Heap) (hT : TH D cI cS τ ρ H) (a0 : Nat) (ha0 : τ a0 = some 2) : MV l D cI cS τ ρ yX2_widenWindow cX2_widenWindow 3 none 3 69 H [.ref a0] (fun (u : Heap) => True) (AT τ [3, 8, 10, 104]) := by
  refine MV.of (by decide) (Nat.le_of_ble_eq_true rfl) ?_
  intro p e s m args below meth c E hml hr hlk hs ls hl
  have hx := E.1
  have hb := E.2.1
  have hown := E.2.2.1
  have hts := E.2.2.2.1
  have hS : SS (AT τ [3, 8, 10, 104]) H H [] := SS.rf
  have hl : lv_has ls 3 [(0, .ref a0)] := hl
  have J_56 : ∀ (H_c56 : Heap) (lc_c56 : List Loc) (ls : Array Slot) (y56_1 : Int32) (y56_2 : Int32), TH D cI cS τ ρ H_c56 → SS (AT τ [3, 8, 10, 104]) H H_c56 lc_c56 → lv_has ls 3 [(0, .ref a0), (1, .int y56_1), (2, .int y56_2)] → W p l e (rmO 3 69) s m args below meth c H_c56 lc_c56 0 0 (MQ below (va_Qv (fun (u : Heap) => True) (Bt D cI cS τ ρ H) (AT τ [3, 8, 10, 104])) args s 0 0 (AT τ [3, 8, 10, 104])) (F0 m 56 ls []) := by
    intro H_c56 lc_c56 ls y56_1 y56_2 hT_c56 hS_c56 hl
    refine lv_aload_n hx hb dX2_widenWindow_56 rfl (lv_at hl 0 rfl) ?_
    refine gf_X2_21 E hT_c56 hW ha0 dX2_widenWindow_57 (fun h_1 => ?_)
    refine lv_dup hx hb dX2_widenWindow_60 rfl ?_
    refine gf_X2_144 E hT_c56 h_1 dX2_widenWindow_61 ?_
    refine lv_topi (fun x_2 ex_2 => ?_)
    refine lv_iload_n hx hb dX2_widenWindow_64 rfl (lv_at hl 1 rfl) ?_
    refine lv_iadd hx hb dX2_widenWindow_65 ?_
    refine lv_topi (fun x_3 ex_3 => ?_)
    refine pf_X2_144 E hT_c56 hS_c56 h_1 ⟨_, h_1, by decide⟩ dX2_widenWindow_66 (fun H_4 locs_4 hT_4 hU_4 hS_4 => ?_)
    refine lv_iload_n hx hb dX2_widenWindow_69 rfl (lv_at hl 2 rfl) ?_
    refine lv_aload_n hx hb dX2_widenWindow_70 rfl (lv_at hl 0 rfl) ?_
    refine gf_X2_36 E hT_4 hW ha0 dX2_widenWindow_71 (fun h_5 => ?_)
    refine gf_X2_189 E hT_4 h_5 dX2_widenWindow_74 ?_
    refine th_topi (y := fi D 1 0 H_c56 (ρ a0 1)) (fi_q (hU_4.2.2 _ (th_ne h_5 h_1 (by decide)))) ?_
    refine lv_topi (fun x_6 ex_6 => ?_)
    refine lv_icmp_ge (tgt := 91) hx hb dX2_widenWindow_77 (by decide) (fun c_7 => ?_) (fun c_7 => ?_)
    · have f_7 : x_6.toInt ≤ y56_2.toInt := r_le rfl rfl c_7
      exact th_vret E hr hlk hs hT_4 hS_4 trivial dX2_widenWindow_91
    · have f_7 : y56_2.toInt < x_6.toInt := r_nle rfl rfl c_7
      refine lv_aload_n hx hb dX2_widenWindow_80 rfl (lv_at hl 0 rfl) ?_
      refine th_Vi (As := []) (rest := []) E hml hl.1 (z_X2_isReceiving l D cI cS τ ρ hW H_4 hT_4 a0 ha0) lk_X2_208 yd_X2_isReceiving hT_4 ha0 rfl (by decide) hS_4 (AT.sub (by decide)) ⟨by decide, by decide⟩ (Nat.le_of_ble_eq_true rfl) ⟨by decide, by decide⟩ rfl dX2_widenWindow_81 (fun r_8 H_8 locs_8 p_8 hT_8 hk_8 hS_8 => ?_)
      have z_8 := b_iv p_8
      refine lv_if_eq (tgt := 91) hx hb dX2_widenWindow_84 (by decide) (fun c_9 => ?_) (fun c_9 => ?_)
      · have f_9 : r_8.toInt = 0 := r_eq rfl (by decide) c_9
        exact th_vret E hr hlk hs hT_8 hS_8 trivial dX2_widenWindow_91
      · have f_9 : ¬ r_8.toInt = 0 := r_ne rfl (by decide) c_9
        have nz_r_8 : ¬ r_8 = 0 := c_9
        refine lv_aload_n hx hb dX2_widenWindow_87 rfl (lv_at hl 0 rfl) ?_
        refine th_Vv (As := []) (rest := []) E hml hl.1 (z_X2_sendAck l D cI cS τ ρ hW H_8 hT_8 a0 ha0) lk_X2_211 yd_X2_sendAck hT_8 ha0 rfl (by decide) hS_8 (AT.sub (by decide)) ⟨by decide, by decide⟩ (Nat.le_of_ble_eq_true rfl) ⟨by decide, by decide⟩ rfl dX2_widenWindow_88 (fun H_10 locs_10 p_10 hT_10 hk_10 hS_10 => ?_)
        exact th_vret E hr hlk hs hT_10 hS_10 trivial dX2_widenWindow_91
  refine lv_aload_n hx hb dX2_widenWindow_0 rfl (lv_at hl 0 rfl) ?_
  refine gf_X2_21 E hT hW ha0 dX2_widenWindow_1 (fun h_11 => ?_)
  refine gf_X2_205 E hT h_11 dX2_widenWindow_4 ?_
  refine lv_topi (fun x_12 ex_12 => ?_)
  refine lv_aload_n hx hb dX2_widenWindow_7 rfl (lv_at hl 0 rfl) ?_
  refine gf_X2_36 E hT hW ha0 dX2_widenWindow_8 (fun h_13 => ?_)
  refine gf_X2_54 E hT h_13 dX2_widenWindow_11 ?_
  refine lv_topi (fun x_14 ex_14 => ?_)
  refine lv_iadd hx hb dX2_widenWindow_14 ?_
  refine lv_topi (fun x_15 ex_15 => ?_)
  refine lv_aload_n hx hb dX2_widenWindow_15 rfl (lv_at hl 0 rfl) ?_
  refine gf_X2_21 E hT hW ha0 dX2_widenWindow_16 (fun h_16 => ?_)
  refine gf_X2_144 E hT h_16 dX2_widenWindow_19 ?_
  refine lv_topi (fun x_17 ex_17 => ?_)
  refine lv_isub hx hb dX2_widenWindow_22 ?_
  refine lv_topi (fun x_18 ex_18 => ?_)
  refine lv_istore_n (lv' := [(1, .int x_18), (0, .ref a0)]) hx hb dX2_widenWindow_23 rfl hl (by decide) rfl (fun ls hl => ?_)
  refine lv_aload_n hx hb dX2_widenWindow_24 rfl (lv_at hl 1 rfl) ?_
  refine gf_X2_21 E hT hW ha0 dX2_widenWindow_25 (fun h_19 => ?_)
  refine th_Vi (As := []) (rest := []) E hml hl.1 (z_X3_window l D cI cS τ ρ hW H hT (ρ a0 5) h_19) lk_X2_135 yd_X3_window hT h_19 rfl (by decide) hS (AT.sub (by decide)) ⟨by decide, by decide⟩ (Nat.le_of_ble_eq_true rfl) ⟨by decide, by decide⟩ rfl dX2_widenWindow_28 (fun r_20 H_20 locs_20 p_20 hT_20 hk_20 hS_20 => ?_)
  refine lv_istore_n (lv' := [(2, .int r_20), (1, .int x_18), (0, .ref a0)]) hx hb dX2_widenWindow_31 rfl hl (by decide) rfl (fun ls hl => ?_)
  refine lv_iload_n hx hb dX2_widenWindow_32 rfl (lv_at hl 1 rfl) ?_
  refine lv_aload_n hx hb dX2_widenWindow_33 rfl (lv_at hl 2 rfl) ?_
  refine gf_X2_36 E hT_20 hW ha0 dX2_widenWindow_34 (fun h_21 => ?_)
  refine gf_X2_189 E hT_20 h_21 dX2_widenWindow_37 ?_
  refine th_topi (y := fi D 1 0 H (ρ a0 1)) (fi_q (hk_20 _ (AT.out h_21 (by decide)))) ?_
  refine lv_topi (fun x_22 ex_22 => ?_)
  refine lv_icmp_ge (tgt := 56) hx hb dX2_widenWindow_40 (by decide) (fun c_23 => ?_) (fun c_23 => ?_)
  · have f_23 : x_22.toInt ≤ x_18.toInt := r_le rfl rfl c_23
    exact J_56 H_20 locs_20 _ x_18 r_20 hT_20 hS_20 (lv_sub hl [2, 1, 0] rfl)
  · have f_23 : x_18.toInt < x_22.toInt := r_nle rfl rfl c_23
    refine lv_iconst (v := 2) hx hb dX2_widenWindow_43 (by decide) ?_
    refine lv_iload_n hx hb dX2_widenWindow_44 rfl (lv_at hl 1 rfl) ?_
    refine lv_imul hx hb dX2_widenWindow_45 ?_
    refine lv_topi (fun x_24 ex_24 => ?_)
    refine lv_aload_n hx hb dX2_widenWindow_46 rfl (lv_at hl 2 rfl) ?_
    refine gf_X2_36 E hT_20 hW ha0 dX2_widenWindow_47 (fun h_25 => ?_)
    refine gf_X2_54 E hT_20 h_25 dX2_widenWindow_50 ?_
    refine th_topi (y := x_14) (Eq.trans (fi_q (hk_20 _ (AT.out h_25 (by decide)))) ex_14.symm) ?_
    refine lv_icmp_lt (tgt := 91) hx hb dX2_widenWindow_53 (by decide) (fun c_26 => ?_) (fun c_26 => ?_)
    · have f_26 : x_24.toInt < x_14.toInt := r_lt rfl rfl c_26
      exact th_vret E hr hlk hs hT_20 hS_20 trivial dX2_widenWindow_91
    · have f_26 : x_14.toInt ≤ x_24.toInt := r_nlt rfl rfl c_26
      exact J_56 H_20 locs_20 _ x_18 r_20 hT_20 hS_20 (lv_sub hl [2, 1, 0] rfl)
set_option maxHeartbeats 4000000 in
set_option maxRecDepth 100000 in
/-- StreamEnds$Incoming.consumable: it ends, and the heap stays typed -/
theorem z_X3_consumable (l : Launch) (D : va_G) (cI cS : ClassId) (τ : Nat → Option Nat) (ρ : Nat → Nat → Nat) (hW : WF τ ρ) (H : Heap) (hT : TH D cI cS τ ρ H) (a0 : Nat) (ha0 : τ a0 = some 3) : MI l D cI cS τ ρ yX3_consumable cX3_consumable 2 (some .int) 1 13 H [.ref a0] (fun (r : Int32) (u : Heap) => True) (AT τ []) := by
  refine MI.of (by decide) (Nat.le_of_ble_eq_true rfl) ?_
  intro p e s m args below meth c E hml hr hlk hs ls hl
  have hx := E.1
  have hb := E.2.1
  have hown := E.2.2.1
  have hts := E.2.2.2.1
  have hS : SS (AT τ []) H H [] := SS.rf
  have hl : lv_has ls 2 [(0, .ref a0)] := hl
  have J_29 : ∀ (H_c29 : Heap) (lc_c29 : List Loc) (ls : Array Slot) (z29_0 : Int32), TH D cI cS τ ρ H_c29 → SS (AT τ []) H H_c29 lc_c29 → lv_has ls 2 [(0, .ref a0)] → W p l e (rmO 1 13) s m args below meth c H_c29 lc_c29 0 0 (MQ below (va_Qi (fun (r : Int32) (u : Heap) => True) (Bt D cI cS τ ρ H) (AT τ [])) args s 0 0 (AT τ [])) (F0 m 29 ls [.int z29_0]) := by
    intro H_c29 lc_c29 ls z29_0 hT_c29 hS_c29 hl
    refine lv_istore_n (lv' := [(1, .int z29_0), (0, .ref a0)]) hx hb dX3_consumable_29 rfl hl (by decide) rfl (fun ls hl => ?_)
    refine lv_iconst (v := 0) hx hb dX3_consumable_30 (by decide) ?_
    refine lv_iload_n hx hb dX3_consumable_31 rfl (lv_at hl 0 rfl) ?_
    refine lv_aload_n hx hb dX3_consumable_32 rfl (lv_at hl 1 rfl) ?_
    refine gf_X3_19 E hT_c29 ha0 dX3_consumable_33 ?_
    refine lv_topi (fun x_1 ex_1 => ?_)
    refine lv_isub hx hb dX3_consumable_36 ?_
    refine lv_topi (fun x_2 ex_2 => ?_)
    refine mm_X3_45 E hml hl.1 (by decide) (Nat.le_of_ble_eq_true rfl) ⟨by decide, by decide⟩ dX3_consumable_37 ?_
    refine lv_topi (fun x_3 ex_3 => ?_)
    have q_3 := i_maxq (x := (0 : Int32)) (y := x_2) (a := 0) (b := x_2.toInt) (by decide) rfl ex_3
    exact th_iret E hr hlk hs hT_c29 hS_c29 trivial dX3_consumable_40
  refine lv_aload_n hx hb dX3_consumable_0 rfl (lv_at hl 0 rfl) ?_
  refine gf_X3_25 E hT ha0 dX3_consumable_1 ?_
  refine lv_topi (fun x_4 ex_4 => ?_)
  refine lv_aload_n hx hb dX3_consumable_4 rfl (lv_at hl 0 rfl) ?_
  refine gf_X3_19 E hT ha0 dX3_consumable_5 ?_
  refine lv_topi (fun x_5 ex_5 => ?_)
  refine lv_icmp_lt (tgt := 25) hx hb dX3_consumable_8 (by decide) (fun c_6 => ?_) (fun c_6 => ?_)
  · have f_6 : x_4.toInt < x_5.toInt := r_lt rfl rfl c_6
    refine lv_aload_n hx hb dX3_consumable_25 rfl (lv_at hl 0 rfl) ?_
    refine gf_X3_15 E hT ha0 dX3_consumable_26 ?_
    refine lv_topi (fun x_7 ex_7 => ?_)
    exact J_29 H [] _ x_7 hT hS hl
  · have f_6 : x_5.toInt ≤ x_4.toInt := r_nlt rfl rfl c_6
    refine lv_aload_n hx hb dX3_consumable_11 rfl (lv_at hl 0 rfl) ?_
    refine gf_X3_25 E hT ha0 dX3_consumable_12 ?_
    refine th_topi (y := x_4) ex_4.symm ?_
    refine lv_aload_n hx hb dX3_consumable_15 rfl (lv_at hl 0 rfl) ?_
    refine gf_X3_15 E hT ha0 dX3_consumable_16 ?_
    refine lv_topi (fun x_8 ex_8 => ?_)
    refine mm_X3_51 E hml hl.1 (by decide) (Nat.le_of_ble_eq_true rfl) ⟨by decide, by decide⟩ dX3_consumable_19 ?_
    refine lv_topi (fun x_9 ex_9 => ?_)
    have q_9 := i_minq (x := x_4) (y := x_8) (a := x_4.toInt) (b := x_8.toInt) rfl rfl ex_9
    refine lv_goto (tgt := 29) hx hb dX3_consumable_22 (by decide) ?_
    exact J_29 H [] _ x_9 hT hS hl
set_option maxHeartbeats 4000000 in
set_option maxRecDepth 100000 in
/-- StreamEnds$Incoming.consume: it ends, and the heap stays typed -/
theorem z_X3_consume (l : Launch) (D : va_G) (cI cS : ClassId) (τ : Nat → Option Nat) (ρ : Nat → Nat → Nat) (hW : WF τ ρ) (H : Heap) (hT : TH D cI cS τ ρ H) (a0 : Nat) (ha0 : τ a0 = some 3) : MI l D cI cS τ ρ yX3_consume cX3_consume 2 (some .int) 0 0 H [.ref a0] (fun (r : Int32) (u : Heap) => True) (AT τ [3]) := by
  refine MI.of (by decide) (Nat.le_of_ble_eq_true rfl) ?_
  intro p e s m args below meth c E hml hr hlk hs ls hl
  have hx := E.1
  have hb := E.2.1
  have hown := E.2.2.1
  have hts := E.2.2.2.1
  have hS : SS (AT τ [3]) H H [] := SS.rf
  have hl : lv_has ls 2 [(0, .ref a0)] := hl
  refine lv_aload_n hx hb dX3_consume_0 rfl (lv_at hl 0 rfl) ?_
  refine gf_X3_9 E hT hW ha0 dX3_consume_1 (fun h_1 => ?_)
  refine lv_aload_n hx hb dX3_consume_4 rfl (lv_at hl 0 rfl) ?_
  refine gf_X3_19 E hT ha0 dX3_consume_5 ?_
  refine lv_topi (fun x_2 ex_2 => ?_)
  refine lv_bipush (v := 63) hx hb dX3_consume_8 (by decide) ?_
  refine lv_iand hx hb dX3_consume_10 ?_
  refine lv_topi (fun x_3 ex_3 => ?_)
  have m_3 : 0 ≤ x_3.toInt ∧ x_3.toInt ≤ 63 := by rw [ex_3]; exact i_mask
  refine th_iald E hT h_1 (by decide) (vp_in_iff.mpr ⟨by omega, by omega⟩) dX3_consume_11 ?_
  refine lv_topi (fun x_4 ex_4 => ?_)
  refine lv_istore_n (lv' := [(1, .int x_4), (0, .ref a0)]) hx hb dX3_consume_12 rfl hl (by decide) rfl (fun ls hl => ?_)
  refine lv_aload_n hx hb dX3_consume_13 rfl (lv_at hl 1 rfl) ?_
  refine lv_dup hx hb dX3_consume_14 rfl ?_
  refine gf_X3_19 E hT ha0 dX3_consume_15 ?_
  refine th_topi (y := x_2) ex_2.symm ?_
  refine lv_iconst (v := 1) hx hb dX3_consume_18 (by decide) ?_
  refine lv_iadd hx hb dX3_consume_19 ?_
  refine lv_topi (fun x_5 ex_5 => ?_)
  refine pf_X3_19 E hT hS ha0 ⟨_, ha0, by decide⟩ dX3_consume_20 (fun H_6 locs_6 hT_6 hU_6 hS_6 => ?_)
  refine lv_iload_n hx hb dX3_consume_23 rfl (lv_at hl 0 rfl) ?_
  exact th_iret E hr hlk hs hT_6 hS_6 trivial dX3_consume_24
set_option maxHeartbeats 4000000 in
set_option maxRecDepth 100000 in
/-- StreamEnds$Incoming.hasRoomFor: it ends, and the heap stays typed -/
theorem z_X3_hasRoomFor (l : Launch) (D : va_G) (cI cS : ClassId) (τ : Nat → Option Nat) (ρ : Nat → Nat → Nat) (hW : WF τ ρ) (H : Heap) (hT : TH D cI cS τ ρ H) (a0 : Nat) (x0 : Int32) (ha0 : τ a0 = some 3) : MI l D cI cS τ ρ yX3_hasRoomFor cX3_hasRoomFor 2 (some .boolean) 0 0 H [.ref a0, .int x0] (fun (r : Int32) (u : Heap) => r = 0 ∨ r = 1) (AT τ []) := by
  refine MI.of (by decide) (Nat.le_of_ble_eq_true rfl) ?_
  intro p e s m args below meth c E hml hr hlk hs ls hl
  have hx := E.1
  have hb := E.2.1
  have hown := E.2.2.1
  have hts := E.2.2.2.1
  have hS : SS (AT τ []) H H [] := SS.rf
  have hl : lv_has ls 2 [(0, .ref a0), (1, .int x0)] := hl
  refine lv_iload_n hx hb dX3_hasRoomFor_0 rfl (lv_at hl 1 rfl) ?_
  refine lv_aload_n hx hb dX3_hasRoomFor_1 rfl (lv_at hl 0 rfl) ?_
  refine gf_X3_15 E hT ha0 dX3_hasRoomFor_2 ?_
  refine lv_topi (fun x_1 ex_1 => ?_)
  refine lv_icmp_lt (tgt := 20) hx hb dX3_hasRoomFor_5 (by decide) (fun c_2 => ?_) (fun c_2 => ?_)
  · have f_2 : x0.toInt < x_1.toInt := r_lt rfl rfl c_2
    refine lv_iconst (v := 0) hx hb dX3_hasRoomFor_20 (by decide) ?_
    exact th_zret E hr hlk hs (Or.inl rfl) hT hS (Or.inl rfl) dX3_hasRoomFor_21
  · have f_2 : x_1.toInt ≤ x0.toInt := r_nlt rfl rfl c_2
    refine lv_iload_n hx hb dX3_hasRoomFor_8 rfl (lv_at hl 1 rfl) ?_
    refine lv_aload_n hx hb dX3_hasRoomFor_9 rfl (lv_at hl 0 rfl) ?_
    refine gf_X3_22 E hT ha0 dX3_hasRoomFor_10 ?_
    refine lv_topi (fun x_3 ex_3 => ?_)
    refine lv_icmp_ge (tgt := 20) hx hb dX3_hasRoomFor_13 (by decide) (fun c_4 => ?_) (fun c_4 => ?_)
    · have f_4 : x_3.toInt ≤ x0.toInt := r_le rfl rfl c_4
      refine lv_iconst (v := 0) hx hb dX3_hasRoomFor_20 (by decide) ?_
      exact th_zret E hr hlk hs (Or.inl rfl) hT hS (Or.inl rfl) dX3_hasRoomFor_21
    · have f_4 : x0.toInt < x_3.toInt := r_nle rfl rfl c_4
      refine lv_iconst (v := 1) hx hb dX3_hasRoomFor_16 (by decide) ?_
      refine lv_goto (tgt := 21) hx hb dX3_hasRoomFor_17 (by decide) ?_
      exact th_zret E hr hlk hs (Or.inr rfl) hT hS (Or.inr rfl) dX3_hasRoomFor_21
set_option maxHeartbeats 4000000 in
set_option maxRecDepth 100000 in
/-- StreamEnds$Incoming.fits: it ends, and the heap stays typed -/
theorem z_X3_fits (l : Launch) (D : va_G) (cI cS : ClassId) (τ : Nat → Option Nat) (ρ : Nat → Nat → Nat) (hW : WF τ ρ) (H : Heap) (hT : TH D cI cS τ ρ H) (a0 : Nat) (x0 : Int32) (x1 : Int32) (ha0 : τ a0 = some 3) : MI l D cI cS τ ρ yX3_fits cX3_fits 3 (some .boolean) 1 21 H [.ref a0, .int x0, .int x1] (fun (r : Int32) (u : Heap) => r = 0 ∨ r = 1) (AT τ []) := by
  refine MI.of (by decide) (Nat.le_of_ble_eq_true rfl) ?_
  intro p e s m args below meth c E hml hr hlk hs ls hl
  have hx := E.1
  have hb := E.2.1
  have hown := E.2.2.1
  have hts := E.2.2.2.1
  have hS : SS (AT τ []) H H [] := SS.rf
  have hl : lv_has ls 3 [(0, .ref a0), (1, .int x0), (2, .int x1)] := hl
  refine lv_iload_n hx hb dX3_fits_0 rfl (lv_at hl 2 rfl) ?_
  refine lv_if_ne (tgt := 26) hx hb dX3_fits_1 (by decide) (fun c_1 => ?_) (fun c_1 => ?_)
  · have f_1 : ¬ x1.toInt = 0 := r_ne rfl (by decide) c_1
    have nz_x1 : ¬ x1 = 0 := c_1
    refine lv_iload_n hx hb dX3_fits_26 rfl (lv_at hl 1 rfl) ?_
    refine lv_aload_n hx hb dX3_fits_27 rfl (lv_at hl 0 rfl) ?_
    refine gf_X3_15 E hT ha0 dX3_fits_28 ?_
    refine lv_topi (fun x_2 ex_2 => ?_)
    refine mm_X3_45 E hml hl.1 (by decide) (Nat.le_of_ble_eq_true rfl) ⟨by decide, by decide⟩ dX3_fits_31 ?_
    refine lv_topi (fun x_3 ex_3 => ?_)
    have q_3 := i_maxq (x := x0) (y := x_2) (a := x0.toInt) (b := x_2.toInt) rfl rfl ex_3
    refine lv_iload_n hx hb dX3_fits_34 rfl (lv_at hl 1 rfl) ?_
    refine lv_iload_n hx hb dX3_fits_35 rfl (lv_at hl 2 rfl) ?_
    refine lv_iadd hx hb dX3_fits_36 ?_
    refine lv_topi (fun x_4 ex_4 => ?_)
    refine lv_aload_n hx hb dX3_fits_37 rfl (lv_at hl 0 rfl) ?_
    refine gf_X3_22 E hT ha0 dX3_fits_38 ?_
    refine lv_topi (fun x_5 ex_5 => ?_)
    refine mm_X3_51 E hml hl.1 (by decide) (Nat.le_of_ble_eq_true rfl) ⟨by decide, by decide⟩ dX3_fits_41 ?_
    refine lv_topi (fun x_6 ex_6 => ?_)
    have q_6 := i_minq (x := x_4) (y := x_5) (a := x_4.toInt) (b := x_5.toInt) rfl rfl ex_6
    refine lv_icmp_ge (tgt := 51) hx hb dX3_fits_44 (by decide) (fun c_7 => ?_) (fun c_7 => ?_)
    · have f_7 : x_6.toInt ≤ x_3.toInt := r_le rfl rfl c_7
      refine lv_iconst (v := 0) hx hb dX3_fits_51 (by decide) ?_
      exact th_zret E hr hlk hs (Or.inl rfl) hT hS (Or.inl rfl) dX3_fits_52
    · have f_7 : x_3.toInt < x_6.toInt := r_nle rfl rfl c_7
      refine lv_iconst (v := 1) hx hb dX3_fits_47 (by decide) ?_
      refine lv_goto (tgt := 52) hx hb dX3_fits_48 (by decide) ?_
      exact th_zret E hr hlk hs (Or.inr rfl) hT hS (Or.inr rfl) dX3_fits_52
  · have f_1 : x1.toInt = 0 := r_eq rfl (by decide) c_1
    refine lv_iload_n hx hb dX3_fits_4 rfl (lv_at hl 1 rfl) ?_
    refine lv_aload_n hx hb dX3_fits_5 rfl (lv_at hl 0 rfl) ?_
    refine gf_X3_15 E hT ha0 dX3_fits_6 ?_
    refine lv_topi (fun x_8 ex_8 => ?_)
    refine lv_icmp_eq (tgt := 20) hx hb dX3_fits_9 (by decide) (fun c_9 => ?_) (fun c_9 => ?_)
    · have f_9 : x0.toInt = x_8.toInt := r_eq rfl rfl c_9
      refine lv_iconst (v := 1) hx hb dX3_fits_20 (by decide) ?_
      refine lv_goto (tgt := 25) hx hb dX3_fits_21 (by decide) ?_
      exact th_zret E hr hlk hs (Or.inr rfl) hT hS (Or.inr rfl) dX3_fits_25
    · have f_9 : ¬ x0.toInt = x_8.toInt := r_ne rfl rfl c_9
      refine lv_aload_n hx hb dX3_fits_12 rfl (lv_at hl 0 rfl) ?_
      refine lv_iload_n hx hb dX3_fits_13 rfl (lv_at hl 1 rfl) ?_
      refine th_Vi (As := [.int x0]) (rest := []) E hml hl.1 (z_X3_hasRoomFor l D cI cS τ ρ hW H hT a0 x0 ha0) lk_X3_41 yd_X3_hasRoomFor hT ha0 rfl (by decide) hS (AT.sub (by decide)) ⟨by decide, by decide⟩ (Nat.le_of_ble_eq_true rfl) ⟨by decide, by decide⟩ rfl dX3_fits_14 (fun r_10 H_10 locs_10 p_10 hT_10 hk_10 hS_10 => ?_)
      have z_10 := b_iv p_10
      refine lv_if_eq (tgt := 24) hx hb dX3_fits_17 (by decide) (fun c_11 => ?_) (fun c_11 => ?_)
      · have f_11 : r_10.toInt = 0 := r_eq rfl (by decide) c_11
        refine lv_iconst (v := 0) hx hb dX3_fits_24 (by decide) ?_
        exact th_zret E hr hlk hs (Or.inl rfl) hT_10 hS_10 (Or.inl rfl) dX3_fits_25
      · have f_11 : ¬ r_10.toInt = 0 := r_ne rfl (by decide) c_11
        have nz_r_10 : ¬ r_10 = 0 := c_11
        refine lv_iconst (v := 1) hx hb dX3_fits_20 (by decide) ?_
        refine lv_goto (tgt := 25) hx hb dX3_fits_21 (by decide) ?_
        exact th_zret E hr hlk hs (Or.inr rfl) hT_10 hS_10 (Or.inr rfl) dX3_fits_25
set_option maxHeartbeats 4000000 in
set_option maxRecDepth 100000 in
/-- StreamEnds$Incoming.hold: it ends, and the heap stays typed -/
theorem z_X3_hold (l : Launch) (D : va_G) (cI cS : ClassId) (τ : Nat → Option Nat) (ρ : Nat → Nat → Nat) (hW : WF τ ρ) (H : Heap) (hT : TH D cI cS τ ρ H) (a0 : Nat) (x0 : Int32) (x1 : Int32) (ha0 : τ a0 = some 3) : MV l D cI cS τ ρ yX3_hold cX3_hold 3 none 1 21 H [.ref a0, .int x0, .int x1] (fun (u : Heap) => True) (AT τ [3, 164]) := by
  refine MV.of (by decide) (Nat.le_of_ble_eq_true rfl) ?_
  intro p e s m args below meth c E hml hr hlk hs ls hl
  have hx := E.1
  have hb := E.2.1
  have hown := E.2.2.1
  have hts := E.2.2.2.1
  have hS : SS (AT τ [3, 164]) H H [] := SS.rf
  have hl : lv_has ls 3 [(0, .ref a0), (1, .int x0), (2, .int x1)] := hl
  refine lv_aload_n hx hb dX3_hold_0 rfl (lv_at hl 0 rfl) ?_
  refine lv_iload_n hx hb dX3_hold_1 rfl (lv_at hl 1 rfl) ?_
  refine th_Vi (As := [.int x0]) (rest := []) E hml hl.1 (z_X3_hasRoomFor l D cI cS τ ρ hW H hT a0 x0 ha0) lk_X3_41 yd_X3_hasRoomFor hT ha0 rfl (by decide) hS (AT.sub (by decide)) ⟨by decide, by decide⟩ (Nat.le_of_ble_eq_true rfl) ⟨by decide, by decide⟩ rfl dX3_hold_2 (fun r_1 H_1 locs_1 p_1 hT_1 hk_1 hS_1 => ?_)
  have z_1 := b_iv p_1
  refine lv_if_eq (tgt := 43) hx hb dX3_hold_5 (by decide) (fun c_2 => ?_) (fun c_2 => ?_)
  · have f_2 : r_1.toInt = 0 := r_eq rfl (by decide) c_2
    exact th_vret E hr hlk hs hT_1 hS_1 trivial dX3_hold_43
  · have f_2 : ¬ r_1.toInt = 0 := r_ne rfl (by decide) c_2
    have nz_r_1 : ¬ r_1 = 0 := c_2
    refine lv_aload_n hx hb dX3_hold_8 rfl (lv_at hl 0 rfl) ?_
    refine gf_X3_31 E hT_1 ha0 dX3_hold_9 ?_
    refine th_topl (y := fl D 3 5 H a0) (fl_q (hk_1 _ (AT.out ha0 (by decide)))) ?_
    refine lv_topl (fun x_3 ex_3 => ?_)
    refine lv_iload_n hx hb dX3_hold_12 rfl (lv_at hl 1 rfl) ?_
    obtain ⟨x_4, ex_4⟩ : ∃ y : Int64, (x_3.toUInt64 >>> (x0.toInt64.toUInt64 &&& Int64.toUInt64 63)).toInt64 = y := ⟨_, rfl⟩
    refine lv_lushr (v := x_4) hx hb dX3_hold_13 ex_4 ?_
    refine lv_lconst (v := 1) hx hb dX3_hold_14 (by decide) ?_
    refine lv_land hx hb dX3_hold_15 ?_
    refine lv_topl (fun x_5 ex_5 => ?_)
    refine lv_lconst (v := 0) hx hb dX3_hold_16 (by decide) ?_
    refine W.lcmp hx hb dX3_hold_17 ?_
    refine lv_topi (fun x_6 ex_6 => ?_)
    refine lv_if_ne (tgt := 43) hx hb dX3_hold_18 (by decide) (fun c_7 => ?_) (fun c_7 => ?_)
    · have f_7 : ¬ x_6.toInt = 0 := r_ne rfl (by decide) c_7
      have nz_x_6 : ¬ x_6 = 0 := c_7
      exact th_vret E hr hlk hs hT_1 hS_1 trivial dX3_hold_43
    · have f_7 : x_6.toInt = 0 := r_eq rfl (by decide) c_7
      refine lv_aload_n hx hb dX3_hold_21 rfl (lv_at hl 0 rfl) ?_
      refine lv_dup hx hb dX3_hold_22 rfl ?_
      refine gf_X3_31 E hT_1 ha0 dX3_hold_23 ?_
      refine th_topl (y := x_3) ((fl_q (hk_1 _ (AT.out ha0 (by decide)))).trans ex_3.symm) ?_
      refine lv_lconst (v := 1) hx hb dX3_hold_26 (by decide) ?_
      refine lv_iload_n hx hb dX3_hold_27 rfl (lv_at hl 1 rfl) ?_
      obtain ⟨x_8, ex_8⟩ : ∃ y : Int64, (1 : Int64) <<< (x0.toInt64 &&& 63) = y := ⟨_, rfl⟩
      refine lv_lshl (v := x_8) hx hb dX3_hold_28 ex_8 ?_
      refine lv_lor hx hb dX3_hold_29 ?_
      refine lv_topl (fun x_9 ex_9 => ?_)
      refine pf_X3_31 E hT_1 hS_1 ha0 ⟨_, ha0, by decide⟩ dX3_hold_30 (fun H_10 locs_10 hT_10 hU_10 hS_10 => ?_)
      refine lv_aload_n hx hb dX3_hold_33 rfl (lv_at hl 0 rfl) ?_
      refine gf_X3_9 E hT_10 hW ha0 dX3_hold_34 (fun h_11 => ?_)
      refine lv_iload_n hx hb dX3_hold_37 rfl (lv_at hl 1 rfl) ?_
      refine lv_bipush (v := 63) hx hb dX3_hold_38 (by decide) ?_
      refine lv_iand hx hb dX3_hold_40 ?_
      refine lv_topi (fun x_12 ex_12 => ?_)
      have m_12 : 0 ≤ x_12.toInt ∧ x_12.toInt ≤ 63 := by rw [ex_12]; exact i_mask
      refine lv_iload_n hx hb dX3_hold_41 rfl (lv_at hl 2 rfl) ?_
      refine th_iast E hT_10 hS_10 h_11 ⟨_, h_11, by decide⟩ (by decide) (vp_in_iff.mpr ⟨by omega, by omega⟩) dX3_hold_42 (fun H_13 locs_13 hT_13 hU_13 hS_13 => ?_)
      exact th_vret E hr hlk hs hT_13 hS_13 trivial dX3_hold_43
set_option maxHeartbeats 4000000 in
set_option maxRecDepth 100000 in
/-- StreamEnds$Incoming.passHeld: it ends, and the heap stays typed -/
theorem z_X3_passHeld (l : Launch) (D : va_G) (cI cS : ClassId) (τ : Nat → Option Nat) (ρ : Nat → Nat → Nat) (hW : WF τ ρ) (H : Heap) (hT : TH D cI cS τ ρ H) (a0 : Nat) (ha0 : τ a0 = some 3) : MV l D cI cS τ ρ yX3_passHeld cX3_passHeld 1 none 0 0 H [.ref a0] (fun (u : Heap) => True) (AT τ [3]) := by
  refine MV.of (by decide) (Nat.le_of_ble_eq_true rfl) ?_
  intro p e s m args below meth c E hml hr hlk hs ls hl
  have hx := E.1
  have hb := E.2.1
  have hown := E.2.2.1
  have hts := E.2.2.2.1
  have hS : SS (AT τ [3]) H H [] := SS.rf
  have hl : lv_has ls 1 [(0, .ref a0)] := hl
  have L_0 : ∀ (n : Nat) (H_c0 : Heap) (lc_c0 : List Loc) (ls : Array Slot) (g0_0 : Int32) (g0_1 : Int32), TH D cI cS τ ρ H_c0 → SS (AT τ [3]) H H_c0 lc_c0 → lv_has ls 1 [(0, .ref a0)] → fi D 3 0 H_c0 a0 = g0_0 → fi D 3 2 H_c0 a0 = g0_1 → (g0_1.toInt - g0_0.toInt).toNat < n → W p l e (rmO 0 0) s m args below meth c H_c0 lc_c0 0 0 (MQ below (va_Qv (fun (u : Heap) => True) (Bt D cI cS τ ρ H) (AT τ [3])) args s 0 0 (AT τ [3])) (F0 m 0 ls []) := by
    intro n
    induction n with
    | zero => intro H_c0 lc_c0 ls g0_0 g0_1 hT_c0 hS_c0 hl hg0_0 hg0_1 hm; exact absurd hm (Nat.not_lt_zero _)
    | succ n ih_0 =>
      intro H_c0 lc_c0 ls g0_0 g0_1 hT_c0 hS_c0 hl hg0_0 hg0_1 hm_0
      refine lv_aload_n hx hb dX3_passHeld_0 rfl (lv_at hl 0 rfl) ?_
      refine gf_X3_15 E hT_c0 ha0 dX3_passHeld_1 ?_
      refine th_topi (y := g0_0) hg0_0 ?_
      refine lv_aload_n hx hb dX3_passHeld_4 rfl (lv_at hl 0 rfl) ?_
      refine gf_X3_22 E hT_c0 ha0 dX3_passHeld_5 ?_
      refine th_topi (y := g0_1) hg0_1 ?_
      refine lv_icmp_ge (tgt := 59) hx hb dX3_passHeld_8 (by decide) (fun c_1 => ?_) (fun c_1 => ?_)
      · have f_1 : g0_1.toInt ≤ g0_0.toInt := r_le rfl rfl c_1
        exact th_vret E hr hlk hs hT_c0 hS_c0 trivial dX3_passHeld_59
      · have f_1 : g0_0.toInt < g0_1.toInt := r_nle rfl rfl c_1
        refine lv_aload_n hx hb dX3_passHeld_11 rfl (lv_at hl 0 rfl) ?_
        refine gf_X3_31 E hT_c0 ha0 dX3_passHeld_12 ?_
        refine lv_topl (fun x_2 ex_2 => ?_)
        refine lv_aload_n hx hb dX3_passHeld_15 rfl (lv_at hl 0 rfl) ?_
        refine gf_X3_15 E hT_c0 ha0 dX3_passHeld_16 ?_
        refine th_topi (y := g0_0) hg0_0 ?_
        obtain ⟨x_3, ex_3⟩ : ∃ y : Int64, (x_2.toUInt64 >>> (g0_0.toInt64.toUInt64 &&& Int64.toUInt64 63)).toInt64 = y := ⟨_, rfl⟩
        refine lv_lushr (v := x_3) hx hb dX3_passHeld_19 ex_3 ?_
        refine lv_lconst (v := 1) hx hb dX3_passHeld_20 (by decide) ?_
        refine lv_land hx hb dX3_passHeld_21 ?_
        refine lv_topl (fun x_4 ex_4 => ?_)
        refine lv_lconst (v := 0) hx hb dX3_passHeld_22 (by decide) ?_
        refine W.lcmp hx hb dX3_passHeld_23 ?_
        refine lv_topi (fun x_5 ex_5 => ?_)
        refine lv_if_eq (tgt := 59) hx hb dX3_passHeld_24 (by decide) (fun c_6 => ?_) (fun c_6 => ?_)
        · have f_6 : x_5.toInt = 0 := r_eq rfl (by decide) c_6
          exact th_vret E hr hlk hs hT_c0 hS_c0 trivial dX3_passHeld_59
        · have f_6 : ¬ x_5.toInt = 0 := r_ne rfl (by decide) c_6
          have nz_x_5 : ¬ x_5 = 0 := c_6
          refine lv_aload_n hx hb dX3_passHeld_27 rfl (lv_at hl 0 rfl) ?_
          refine lv_dup hx hb dX3_passHeld_28 rfl ?_
          refine gf_X3_31 E hT_c0 ha0 dX3_passHeld_29 ?_
          refine th_topl (y := x_2) ex_2.symm ?_
          refine lv_lconst (v := 1) hx hb dX3_passHeld_32 (by decide) ?_
          refine lv_aload_n hx hb dX3_passHeld_33 rfl (lv_at hl 0 rfl) ?_
          refine gf_X3_15 E hT_c0 ha0 dX3_passHeld_34 ?_
          refine th_topi (y := g0_0) hg0_0 ?_
          obtain ⟨x_7, ex_7⟩ : ∃ y : Int64, (1 : Int64) <<< (g0_0.toInt64 &&& 63) = y := ⟨_, rfl⟩
          refine lv_lshl (v := x_7) hx hb dX3_passHeld_37 ex_7 ?_
          refine lv_ldc2 (v := (-1)) hx hb hown (hts _ qw_1181) dX3_passHeld_38 ?_
          refine lv_lxor hx hb dX3_passHeld_41 ?_
          refine lv_topl (fun x_8 ex_8 => ?_)
          refine lv_land hx hb dX3_passHeld_42 ?_
          refine lv_topl (fun x_9 ex_9 => ?_)
          refine pf_X3_31 E hT_c0 hS_c0 ha0 ⟨_, ha0, by decide⟩ dX3_passHeld_43 (fun H_10 locs_10 hT_10 hU_10 hS_10 => ?_)
          refine lv_aload_n hx hb dX3_passHeld_46 rfl (lv_at hl 0 rfl) ?_
          refine lv_dup hx hb dX3_passHeld_47 rfl ?_
          refine gf_X3_15 E hT_10 ha0 dX3_passHeld_48 ?_
          refine th_topi (y := g0_0) (Eq.trans (PU.io hU_10 (j := 0) (by decide) (by decide)) hg0_0) ?_
          refine lv_iconst (v := 1) hx hb dX3_passHeld_51 (by decide) ?_
          refine lv_iadd hx hb dX3_passHeld_52 ?_
          refine lv_topi (fun x_11 ex_11 => ?_)
          have q_x_11 : x_11.toInt = g0_0.toInt + 1 := i_add (k := 1) (by decide) ex_11.symm (by have := i_min g0_0; omega) (by have := i_max g0_0; have := i_max g0_1; omega)
          refine pf_X3_15 E hT_10 hS_10 ha0 ⟨_, ha0, by decide⟩ dX3_passHeld_53 (fun H_12 locs_12 hT_12 hU_12 hS_12 => ?_)
          refine lv_goto (tgt := 0) hx hb dX3_passHeld_56 (by decide) ?_
          exact ih_0 H_12 locs_12 _ x_11 g0_1 hT_12 hS_12 hl (PU.i hU_12) (Eq.trans (PU.io hU_12 (j := 2) (by decide) (by decide)) (Eq.trans (PU.io hU_10 (j := 2) (by decide) (by decide)) hg0_1)) (by omega)
  exact L_0 _ H [] _ (fi D 3 0 H a0) (fi D 3 2 H a0) hT hS hl rfl rfl (Nat.lt_succ_self _)
set_option maxHeartbeats 4000000 in
set_option maxRecDepth 100000 in
/-- StreamEnds$Segment.copyFrom: it ends, and the heap stays typed -/
theorem z_X8_copyFrom (l : Launch) (D : va_G) (cI cS : ClassId) (τ : Nat → Option Nat) (ρ : Nat → Nat → Nat) (hW : WF τ ρ) (H : Heap) (hT : TH D cI cS τ ρ H) (a0 : Nat) (a1 : Nat) (ha0 : τ a0 = some 8) (ha1 : τ a1 = some 8) : MV l D cI cS τ ρ yX8_copyFrom cX8_copyFrom 2 none 1 40 H [.ref a0, .ref a1] (fun (u : Heap) => True) (AT τ [8, 104, 108]) := by
  refine MV.of (by decide) (Nat.le_of_ble_eq_true rfl) ?_
  intro p e s m args below meth c E hml hr hlk hs ls hl
  have hx := E.1
  have hb := E.2.1
  have hown := E.2.2.1
  have hts := E.2.2.2.1
  have hS : SS (AT τ [8, 104, 108]) H H [] := SS.rf
  have hl : lv_has ls 2 [(0, .ref a0), (1, .ref a1)] := hl
  refine lv_aload_n hx hb dX8_copyFrom_0 rfl (lv_at hl 0 rfl) ?_
  refine lv_aload_n hx hb dX8_copyFrom_1 rfl (lv_at hl 1 rfl) ?_
  refine gf_X8_18 E hT ha1 dX8_copyFrom_2 ?_
  refine lv_topi (fun x_1 ex_1 => ?_)
  refine pf_X8_18 E hT hS ha0 ⟨_, ha0, by decide⟩ dX8_copyFrom_5 (fun H_2 locs_2 hT_2 hU_2 hS_2 => ?_)
  refine lv_aload_n hx hb dX8_copyFrom_8 rfl (lv_at hl 0 rfl) ?_
  refine lv_aload_n hx hb dX8_copyFrom_9 rfl (lv_at hl 1 rfl) ?_
  refine gf_X8_22 E hT_2 ha1 dX8_copyFrom_10 ?_
  refine lv_topi (fun x_3 ex_3 => ?_)
  refine pf_X8_22 E hT_2 hS_2 ha0 ⟨_, ha0, by decide⟩ dX8_copyFrom_13 (fun H_4 locs_4 hT_4 hU_4 hS_4 => ?_)
  refine lv_aload_n hx hb dX8_copyFrom_16 rfl (lv_at hl 0 rfl) ?_
  refine lv_aload_n hx hb dX8_copyFrom_17 rfl (lv_at hl 1 rfl) ?_
  refine gf_X8_25 E hT_4 ha1 dX8_copyFrom_18 ?_
  refine lv_topi (fun x_5 ex_5 => ?_)
  refine pf_X8_25 E hT_4 hS_4 ha0 ⟨_, ha0, by decide⟩ dX8_copyFrom_21 (fun H_6 locs_6 hT_6 hU_6 hS_6 => ?_)
  refine lv_aload_n hx hb dX8_copyFrom_24 rfl (lv_at hl 0 rfl) ?_
  refine lv_aload_n hx hb dX8_copyFrom_25 rfl (lv_at hl 1 rfl) ?_
  refine gf_X8_28 E hT_6 ha1 dX8_copyFrom_26 ?_
  refine lv_topi (fun x_7 ex_7 => ?_)
  refine pf_X8_28 E hT_6 hS_6 ha0 ⟨_, ha0, by decide⟩ dX8_copyFrom_29 (fun H_8 locs_8 hT_8 hU_8 hS_8 => ?_)
  refine lv_aload_n hx hb dX8_copyFrom_32 rfl (lv_at hl 0 rfl) ?_
  refine lv_aload_n hx hb dX8_copyFrom_33 rfl (lv_at hl 1 rfl) ?_
  refine gf_X8_31 E hT_8 ha1 dX8_copyFrom_34 ?_
  refine lv_topi (fun x_9 ex_9 => ?_)
  refine pf_X8_31 E hT_8 hS_8 ha0 ⟨_, ha0, by decide⟩ dX8_copyFrom_37 (fun H_10 locs_10 hT_10 hU_10 hS_10 => ?_)
  refine lv_aload_n hx hb dX8_copyFrom_40 rfl (lv_at hl 0 rfl) ?_
  refine lv_aload_n hx hb dX8_copyFrom_41 rfl (lv_at hl 1 rfl) ?_
  refine gf_X8_34 E hT_10 ha1 dX8_copyFrom_42 ?_
  refine lv_topi (fun x_11 ex_11 => ?_)
  refine pf_X8_34 E hT_10 hS_10 ha0 ⟨_, ha0, by decide⟩ dX8_copyFrom_45 (fun H_12 locs_12 hT_12 hU_12 hS_12 => ?_)
  refine lv_aload_n hx hb dX8_copyFrom_48 rfl (lv_at hl 0 rfl) ?_
  refine lv_aload_n hx hb dX8_copyFrom_49 rfl (lv_at hl 1 rfl) ?_
  refine gf_X8_37 E hT_12 ha1 dX8_copyFrom_50 ?_
  refine lv_topi (fun x_13 ex_13 => ?_)
  refine pf_X8_37 E hT_12 hS_12 ha0 ⟨_, ha0, by decide⟩ dX8_copyFrom_53 (fun H_14 locs_14 hT_14 hU_14 hS_14 => ?_)
  refine lv_aload_n hx hb dX8_copyFrom_56 rfl (lv_at hl 1 rfl) ?_
  refine gf_X8_9 E hT_14 hW ha1 dX8_copyFrom_57 (fun h_15 => ?_)
  refine lv_iconst (v := 0) hx hb dX8_copyFrom_60 (by decide) ?_
  refine lv_aload_n hx hb dX8_copyFrom_61 rfl (lv_at hl 0 rfl) ?_
  refine gf_X8_9 E hT_14 hW ha0 dX8_copyFrom_62 (fun h_16 => ?_)
  refine lv_iconst (v := 0) hx hb dX8_copyFrom_65 (by decide) ?_
  refine lv_bipush (v := 8) hx hb dX8_copyFrom_66 (by decide) ?_
  refine cp_X8_43 (t := 108) (a0 := (ρ a1 7)) (a := (ρ a0 7)) (sp := 0) (dp := 0) (n := 8) (rest := []) E hml hl.1 hT_14 hS_14 h_15 h_16 ⟨_, h_16, by decide⟩ (by decide) (by decide) (by decide) (by decide) (by decide) (by decide) (by decide) (Nat.le_of_ble_eq_true rfl) dX8_copyFrom_68 (fun H_17 locs_17 hT_17 hk_17 hS_17 => ?_)
  refine lv_aload_n hx hb dX8_copyFrom_71 rfl (lv_at hl 0 rfl) ?_
  refine lv_aload_n hx hb dX8_copyFrom_72 rfl (lv_at hl 1 rfl) ?_
  refine gf_X8_40 E hT_17 ha1 dX8_copyFrom_73 ?_
  refine th_topi (y := fi D 8 8 H_14 a1) (fi_q (hk_17 _ (th_ne ha1 h_16 (by decide)))) ?_
  refine lv_topi (fun x_18 ex_18 => ?_)
  refine pf_X8_40 E hT_17 hS_17 ha0 ⟨_, ha0, by decide⟩ dX8_copyFrom_76 (fun H_19 locs_19 hT_19 hU_19 hS_19 => ?_)
  refine lv_aload_n hx hb dX8_copyFrom_79 rfl (lv_at hl 1 rfl) ?_
  refine gf_X8_15 E hT_19 hW ha1 dX8_copyFrom_80 (fun h_20 => ?_)
  refine lv_iconst (v := 0) hx hb dX8_copyFrom_83 (by decide) ?_
  refine lv_aload_n hx hb dX8_copyFrom_84 rfl (lv_at hl 0 rfl) ?_
  refine gf_X8_15 E hT_19 hW ha0 dX8_copyFrom_85 (fun h_21 => ?_)
  refine lv_iconst (v := 0) hx hb dX8_copyFrom_88 (by decide) ?_
  refine lv_iconst (v := 4) hx hb dX8_copyFrom_89 (by decide) ?_
  refine cp_X8_43 (t := 104) (a0 := (ρ a1 9)) (a := (ρ a0 9)) (sp := 0) (dp := 0) (n := 4) (rest := []) E hml hl.1 hT_19 hS_19 h_20 h_21 ⟨_, h_21, by decide⟩ (by decide) (by decide) (by decide) (by decide) (by decide) (by decide) (by decide) (Nat.le_of_ble_eq_true rfl) dX8_copyFrom_90 (fun H_22 locs_22 hT_22 hk_22 hS_22 => ?_)
  exact th_vret E hr hlk hs hT_22 hS_22 trivial dX8_copyFrom_93
set_option maxHeartbeats 4000000 in
set_option maxRecDepth 100000 in
/-- StreamEnds$Wire.copyFrom: it ends, and the heap stays typed -/
theorem z_X10_copyFrom (l : Launch) (D : va_G) (cI cS : ClassId) (τ : Nat → Option Nat) (ρ : Nat → Nat → Nat) (hW : WF τ ρ) (H : Heap) (hT : TH D cI cS τ ρ H) (a0 : Nat) (a1 : Nat) (ha0 : τ a0 = some 10) (ha1 : τ a1 = some 10) : MV l D cI cS τ ρ yX10_copyFrom cX10_copyFrom 3 none 2 61 H [.ref a0, .ref a1] (fun (u : Heap) => True) (AT τ [8, 10, 104, 108]) := by
  refine MV.of (by decide) (Nat.le_of_ble_eq_true rfl) ?_
  intro p e s m args below meth c E hml hr hlk hs ls hl
  have hx := E.1
  have hb := E.2.1
  have hown := E.2.2.1
  have hts := E.2.2.2.1
  have hS : SS (AT τ [8, 10, 104, 108]) H H [] := SS.rf
  have hl : lv_has ls 3 [(0, .ref a0), (1, .ref a1)] := hl
  have L_34 : ∀ (n : Nat) (H_c34 : Heap) (lc_c34 : List Loc) (ls : Array Slot) (y34_2 : Int32), TH D cI cS τ ρ H_c34 → SS (AT τ [8, 10, 104, 108]) H H_c34 lc_c34 → lv_has ls 3 [(0, .ref a0), (1, .ref a1), (2, .int y34_2)] → 0 ≤ y34_2.toInt → (20 - y34_2.toInt).toNat < n → W p l e (rmO 2 61) s m args below meth c H_c34 lc_c34 0 0 (MQ below (va_Qv (fun (u : Heap) => True) (Bt D cI cS τ ρ H) (AT τ [8, 10, 104, 108])) args s 0 0 (AT τ [8, 10, 104, 108])) (F0 m 34 ls []) := by
    intro n
    induction n with
    | zero => intro H_c34 lc_c34 ls y34_2 hT_c34 hS_c34 hl ly34_2 hm; exact absurd hm (Nat.not_lt_zero _)
    | succ n ih_34 =>
      intro H_c34 lc_c34 ls y34_2 hT_c34 hS_c34 hl ly34_2 hm_34
      refine lv_iload_n hx hb dX10_copyFrom_34 rfl (lv_at hl 2 rfl) ?_
      refine lv_aload_n hx hb dX10_copyFrom_35 rfl (lv_at hl 0 rfl) ?_
      refine gf_X10_22 E hT_c34 ha0 dX10_copyFrom_36 ?_
      refine lv_topi (fun x_1 ex_1 => ?_)
      refine lv_icmp_ge (tgt := 69) hx hb dX10_copyFrom_39 (by decide) (fun c_2 => ?_) (fun c_2 => ?_)
      · have f_2 : x_1.toInt ≤ y34_2.toInt := r_le rfl rfl c_2
        exact th_vret E hr hlk hs hT_c34 hS_c34 trivial dX10_copyFrom_69
      · have f_2 : y34_2.toInt < x_1.toInt := r_nle rfl rfl c_2
        refine lv_iload_n hx hb dX10_copyFrom_42 rfl (lv_at hl 2 rfl) ?_
        refine lv_bipush (v := 20) hx hb dX10_copyFrom_43 (by decide) ?_
        refine lv_icmp_ge (tgt := 69) hx hb dX10_copyFrom_45 (by decide) (fun c_3 => ?_) (fun c_3 => ?_)
        · have f_3 : 20 ≤ y34_2.toInt := r_le (by decide) rfl c_3
          exact th_vret E hr hlk hs hT_c34 hS_c34 trivial dX10_copyFrom_69
        · have f_3 : y34_2.toInt < 20 := r_nle (by decide) rfl c_3
          refine lv_aload_n hx hb dX10_copyFrom_48 rfl (lv_at hl 0 rfl) ?_
          refine gf_X10_11 E hT_c34 hW ha0 dX10_copyFrom_49 (fun h_4 => ?_)
          refine lv_iload_n hx hb dX10_copyFrom_52 rfl (lv_at hl 2 rfl) ?_
          refine th_aald E hT_c34 h_4 (vp_in_iff.mpr ⟨by omega, by omega⟩) dX10_copyFrom_53 (fun h_5 => ?_)
          refine lv_aload_n hx hb dX10_copyFrom_54 rfl (lv_at hl 1 rfl) ?_
          refine gf_X10_11 E hT_c34 hW ha1 dX10_copyFrom_55 (fun h_6 => ?_)
          refine lv_iload_n hx hb dX10_copyFrom_58 rfl (lv_at hl 2 rfl) ?_
          refine th_aald E hT_c34 h_6 (vp_in_iff.mpr ⟨by omega, by omega⟩) dX10_copyFrom_59 (fun h_7 => ?_)
          refine th_Vv (As := [.ref (ar H_c34 (ρ a1 0) y34_2.toNatClampNeg)]) (rest := []) E hml hl.1 (z_X8_copyFrom l D cI cS τ ρ hW H_c34 hT_c34 (ar H_c34 (ρ a0 0) y34_2.toNatClampNeg) (ar H_c34 (ρ a1 0) y34_2.toNatClampNeg) h_5 h_7) lk_X10_35 yd_X8_copyFrom hT_c34 h_5 rfl (by decide) hS_c34 (AT.sub (by decide)) ⟨by decide, by decide⟩ (Nat.le_of_ble_eq_true rfl) ⟨by decide, by decide⟩ rfl dX10_copyFrom_60 (fun H_8 locs_8 p_8 hT_8 hk_8 hS_8 => ?_)
          obtain ⟨x_9, ex_9⟩ : ∃ y : Int32, y34_2 + 1 = y := ⟨_, rfl⟩
          have q_x_9 : x_9.toInt = y34_2.toInt + 1 := i_add (k := 1) (by decide) ex_9 (by have := i_min y34_2; omega) (by have := i_max y34_2; omega)
          refine lv_iinc (v := x_9) (lv' := [(2, .int x_9), (0, .ref a0), (1, .ref a1)]) hx hb dX10_copyFrom_63 hl (k := 2) rfl (by rw [← ex_9]; rfl) (by decide) rfl (fun ls hl => ?_)
          refine lv_goto (tgt := 34) hx hb dX10_copyFrom_66 (by decide) ?_
          exact ih_34 H_8 locs_8 _ x_9 hT_8 hS_8 (lv_sub hl [1, 2, 0] rfl) (by omega) (by omega)
  refine lv_aload_n hx hb dX10_copyFrom_0 rfl (lv_at hl 0 rfl) ?_
  refine lv_aload_n hx hb dX10_copyFrom_1 rfl (lv_at hl 1 rfl) ?_
  refine gf_X10_22 E hT ha1 dX10_copyFrom_2 ?_
  refine lv_topi (fun x_10 ex_10 => ?_)
  refine pf_X10_22 E hT hS ha0 ⟨_, ha0, by decide⟩ dX10_copyFrom_5 (fun H_11 locs_11 hT_11 hU_11 hS_11 => ?_)
  refine lv_aload_n hx hb dX10_copyFrom_8 rfl (lv_at hl 0 rfl) ?_
  refine lv_aload_n hx hb dX10_copyFrom_9 rfl (lv_at hl 1 rfl) ?_
  refine gf_X10_26 E hT_11 ha1 dX10_copyFrom_10 ?_
  refine lv_topi (fun x_12 ex_12 => ?_)
  refine pf_X10_26 E hT_11 hS_11 ha0 ⟨_, ha0, by decide⟩ dX10_copyFrom_13 (fun H_13 locs_13 hT_13 hU_13 hS_13 => ?_)
  refine lv_aload_n hx hb dX10_copyFrom_16 rfl (lv_at hl 0 rfl) ?_
  refine lv_aload_n hx hb dX10_copyFrom_17 rfl (lv_at hl 1 rfl) ?_
  refine gf_X10_29 E hT_13 ha1 dX10_copyFrom_18 ?_
  refine lv_topi (fun x_14 ex_14 => ?_)
  refine pf_X10_29 E hT_13 hS_13 ha0 ⟨_, ha0, by decide⟩ dX10_copyFrom_21 (fun H_15 locs_15 hT_15 hU_15 hS_15 => ?_)
  refine lv_aload_n hx hb dX10_copyFrom_24 rfl (lv_at hl 0 rfl) ?_
  refine lv_aload_n hx hb dX10_copyFrom_25 rfl (lv_at hl 1 rfl) ?_
  refine gf_X10_32 E hT_15 ha1 dX10_copyFrom_26 ?_
  refine lv_topi (fun x_16 ex_16 => ?_)
  refine pf_X10_32 E hT_15 hS_15 ha0 ⟨_, ha0, by decide⟩ dX10_copyFrom_29 (fun H_17 locs_17 hT_17 hU_17 hS_17 => ?_)
  refine lv_iconst (v := 0) hx hb dX10_copyFrom_32 (by decide) ?_
  refine lv_istore_n (lv' := [(2, .int 0), (0, .ref a0), (1, .ref a1)]) hx hb dX10_copyFrom_33 rfl hl (by decide) rfl (fun ls hl => ?_)
  exact L_34 _ H_17 locs_17 _ 0 hT_17 hS_17 (lv_sub hl [1, 2, 0] rfl) (by decide) (Nat.lt_succ_self _)
set_option maxHeartbeats 4000000 in
set_option maxRecDepth 100000 in
/-- StreamEnds$Network.copyFrom: it ends, and the heap stays typed -/
theorem z_X4_copyFrom (l : Launch) (D : va_G) (cI cS : ClassId) (τ : Nat → Option Nat) (ρ : Nat → Nat → Nat) (hW : WF τ ρ) (H : Heap) (hT : TH D cI cS τ ρ H) (a0 : Nat) (a1 : Nat) (ha0 : τ a0 = some 4) (ha1 : τ a1 = some 4) : MV l D cI cS τ ρ yX4_copyFrom cX4_copyFrom 2 none 3 83 H [.ref a0, .ref a1] (fun (u : Heap) => True) (AT τ [0, 1, 2, 3, 4, 5, 7, 8, 10, 104, 106, 108, 164]) := by
  refine MV.of (by decide) (Nat.le_of_ble_eq_true rfl) ?_
  intro p e s m args below meth c E hml hr hlk hs ls hl
  have hx := E.1
  have hb := E.2.1
  have hown := E.2.2.1
  have hts := E.2.2.2.1
  have hS : SS (AT τ [0, 1, 2, 3, 4, 5, 7, 8, 10, 104, 106, 108, 164]) H H [] := SS.rf
  have hl : lv_has ls 2 [(0, .ref a0), (1, .ref a1)] := hl
  refine lv_aload_n hx hb dX4_copyFrom_0 rfl (lv_at hl 0 rfl) ?_
  refine gf_X4_12 E hT hW ha0 dX4_copyFrom_1 (fun h_1 => ?_)
  refine lv_aload_n hx hb dX4_copyFrom_4 rfl (lv_at hl 1 rfl) ?_
  refine gf_X4_12 E hT hW ha1 dX4_copyFrom_5 (fun h_2 => ?_)
  refine th_Vv (As := [.ref (ρ a1 0)]) (rest := []) E hml hl.1 (z_X1_copyFrom l D cI cS τ ρ hW H hT (ρ a0 0) (ρ a1 0) h_1 h_2) lk_X4_56 yd_X1_copyFrom hT h_1 rfl (by decide) hS (AT.sub (by decide)) ⟨by decide, by decide⟩ (Nat.le_of_ble_eq_true rfl) ⟨by decide, by decide⟩ rfl dX4_copyFrom_8 (fun H_3 locs_3 p_3 hT_3 hk_3 hS_3 => ?_)
  refine lv_aload_n hx hb dX4_copyFrom_11 rfl (lv_at hl 0 rfl) ?_
  refine gf_X4_21 E hT_3 hW ha0 dX4_copyFrom_12 (fun h_4 => ?_)
  refine lv_aload_n hx hb dX4_copyFrom_15 rfl (lv_at hl 1 rfl) ?_
  refine gf_X4_21 E hT_3 hW ha1 dX4_copyFrom_16 (fun h_5 => ?_)
  refine th_Vv (As := [.ref (ρ a1 1)]) (rest := []) E hml hl.1 (z_X10_copyFrom l D cI cS τ ρ hW H_3 hT_3 (ρ a0 1) (ρ a1 1) h_4 h_5) lk_X4_79 yd_X10_copyFrom hT_3 h_4 rfl (by decide) hS_3 (AT.sub (by decide)) ⟨by decide, by decide⟩ (Nat.le_of_ble_eq_true rfl) ⟨by decide, by decide⟩ rfl dX4_copyFrom_19 (fun H_6 locs_6 p_6 hT_6 hk_6 hS_6 => ?_)
  refine lv_aload_n hx hb dX4_copyFrom_22 rfl (lv_at hl 0 rfl) ?_
  refine gf_X4_28 E hT_6 hW ha0 dX4_copyFrom_23 (fun h_7 => ?_)
  refine lv_aload_n hx hb dX4_copyFrom_26 rfl (lv_at hl 1 rfl) ?_
  refine gf_X4_28 E hT_6 hW ha1 dX4_copyFrom_27 (fun h_8 => ?_)
  refine gf_X4_63 E hT_6 h_8 dX4_copyFrom_30 ?_
  refine th_topi (y := fi D 0 0 H (ρ a1 2)) (Eq.trans (fi_q (hk_6 _ (AT.out h_8 (by decide)))) (fi_q (hk_3 _ (AT.out h_8 (by decide))))) ?_
  refine lv_topi (fun x_9 ex_9 => ?_)
  refine pf_X4_63 E hT_6 hS_6 h_7 ⟨_, h_7, by decide⟩ dX4_copyFrom_33 (fun H_10 locs_10 hT_10 hU_10 hS_10 => ?_)
  refine lv_aload_n hx hb dX4_copyFrom_36 rfl (lv_at hl 0 rfl) ?_
  refine gf_X4_37 E hT_10 hW ha0 dX4_copyFrom_37 (fun h_11 => ?_)
  refine lv_aload_n hx hb dX4_copyFrom_40 rfl (lv_at hl 1 rfl) ?_
  refine gf_X4_37 E hT_10 hW ha1 dX4_copyFrom_41 (fun h_12 => ?_)
  refine th_Vv (As := [.ref (ρ a1 3)]) (rest := []) E hml hl.1 (z_X2_copyFrom l D cI cS τ ρ hW H_10 hT_10 (ρ a0 3) (ρ a1 3) h_11 h_12) lk_X4_82 yd_X2_copyFrom hT_10 h_11 rfl (by decide) hS_10 (AT.sub (by decide)) ⟨by decide, by decide⟩ (Nat.le_of_ble_eq_true rfl) ⟨by decide, by decide⟩ rfl dX4_copyFrom_44 (fun H_13 locs_13 p_13 hT_13 hk_13 hS_13 => ?_)
  refine lv_aload_n hx hb dX4_copyFrom_47 rfl (lv_at hl 0 rfl) ?_
  refine gf_X4_41 E hT_13 hW ha0 dX4_copyFrom_48 (fun h_14 => ?_)
  refine lv_aload_n hx hb dX4_copyFrom_51 rfl (lv_at hl 1 rfl) ?_
  refine gf_X4_41 E hT_13 hW ha1 dX4_copyFrom_52 (fun h_15 => ?_)
  refine th_Vv (As := [.ref (ρ a1 4)]) (rest := []) E hml hl.1 (z_X2_copyFrom l D cI cS τ ρ hW H_13 hT_13 (ρ a0 4) (ρ a1 4) h_14 h_15) lk_X4_82 yd_X2_copyFrom hT_13 h_14 rfl (by decide) hS_13 (AT.sub (by decide)) ⟨by decide, by decide⟩ (Nat.le_of_ble_eq_true rfl) ⟨by decide, by decide⟩ rfl dX4_copyFrom_55 (fun H_16 locs_16 p_16 hT_16 hk_16 hS_16 => ?_)
  refine lv_aload_n hx hb dX4_copyFrom_58 rfl (lv_at hl 0 rfl) ?_
  refine lv_aload_n hx hb dX4_copyFrom_59 rfl (lv_at hl 1 rfl) ?_
  refine gf_X4_70 E hT_16 ha1 dX4_copyFrom_60 ?_
  refine th_topi (y := fi D 4 7 H a1) (Eq.trans (fi_q (hk_16 _ (AT.out ha1 (by decide)))) (Eq.trans (fi_q (hk_13 _ (AT.out ha1 (by decide)))) (Eq.trans (fi_q (hU_10.2.2 _ (th_ne ha1 h_7 (by decide)))) (Eq.trans (fi_q (hk_6 _ (AT.out ha1 (by decide)))) (fi_q (hk_3 _ (AT.out ha1 (by decide)))))))) ?_
  refine lv_topi (fun x_17 ex_17 => ?_)
  refine pf_X4_70 E hT_16 hS_16 ha0 ⟨_, ha0, by decide⟩ dX4_copyFrom_63 (fun H_18 locs_18 hT_18 hU_18 hS_18 => ?_)
  refine lv_aload_n hx hb dX4_copyFrom_66 rfl (lv_at hl 0 rfl) ?_
  refine lv_aload_n hx hb dX4_copyFrom_67 rfl (lv_at hl 1 rfl) ?_
  refine gf_X4_73 E hT_18 ha1 dX4_copyFrom_68 ?_
  refine lv_topi (fun x_19 ex_19 => ?_)
  refine pf_X4_73 E hT_18 hS_18 ha0 ⟨_, ha0, by decide⟩ dX4_copyFrom_71 (fun H_20 locs_20 hT_20 hU_20 hS_20 => ?_)
  refine lv_aload_n hx hb dX4_copyFrom_74 rfl (lv_at hl 0 rfl) ?_
  refine lv_aload_n hx hb dX4_copyFrom_75 rfl (lv_at hl 1 rfl) ?_
  refine gf_X4_76 E hT_20 ha1 dX4_copyFrom_76 ?_
  refine lv_topi (fun x_21 ex_21 => ?_)
  refine pf_X4_76 E hT_20 hS_20 ha0 ⟨_, ha0, by decide⟩ dX4_copyFrom_79 (fun H_22 locs_22 hT_22 hU_22 hS_22 => ?_)
  exact th_vret E hr hlk hs hT_22 hS_22 trivial dX4_copyFrom_82
set_option maxHeartbeats 4000000 in
set_option maxRecDepth 100000 in
/-- StreamEnds$Wire.has: it ends, and the heap stays typed -/
theorem z_X10_has (l : Launch) (D : va_G) (cI cS : ClassId) (τ : Nat → Option Nat) (ρ : Nat → Nat → Nat) (hW : WF τ ρ) (H : Heap) (hT : TH D cI cS τ ρ H) (a0 : Nat) (x0 : Int32) (ha0 : τ a0 = some 10) : MI l D cI cS τ ρ yX10_has cX10_has 2 (some .boolean) 0 0 H [.ref a0, .int x0] (fun (r : Int32) (u : Heap) => (r = 0 ∨ r = 1) ∧ (r = 1 → 0 ≤ x0.toInt ∧ x0.toInt < (fi D 10 2 H a0).toInt ∧ x0.toInt < 20)) (AT τ []) := by
  refine MI.of (by decide) (Nat.le_of_ble_eq_true rfl) ?_
  intro p e s m args below meth c E hml hr hlk hs ls hl
  have hx := E.1
  have hb := E.2.1
  have hown := E.2.2.1
  have hts := E.2.2.2.1
  have hS : SS (AT τ []) H H [] := SS.rf
  have hl : lv_has ls 2 [(0, .ref a0), (1, .int x0)] := hl
  refine lv_iload_n hx hb dX10_has_0 rfl (lv_at hl 1 rfl) ?_
  refine lv_if_lt (tgt := 22) hx hb dX10_has_1 (by decide) (fun c_1 => ?_) (fun c_1 => ?_)
  · have f_1 : x0.toInt < 0 := r_lt rfl (by decide) c_1
    refine lv_iconst (v := 0) hx hb dX10_has_22 (by decide) ?_
    exact th_zret E hr hlk hs (Or.inl rfl) hT hS ⟨(Or.inl rfl), (fun h => absurd h (by decide))⟩ dX10_has_23
  · have f_1 : 0 ≤ x0.toInt := r_nlt rfl (by decide) c_1
    refine lv_iload_n hx hb dX10_has_4 rfl (lv_at hl 1 rfl) ?_
    refine lv_aload_n hx hb dX10_has_5 rfl (lv_at hl 0 rfl) ?_
    refine gf_X10_22 E hT ha0 dX10_has_6 ?_
    refine lv_topi (fun x_2 ex_2 => ?_)
    have e_2 : x_2.toInt = (fi D 10 2 H a0).toInt := congrArg Int32.toInt ex_2
    refine lv_icmp_ge (tgt := 22) hx hb dX10_has_9 (by decide) (fun c_3 => ?_) (fun c_3 => ?_)
    · have f_3 : x_2.toInt ≤ x0.toInt := r_le rfl rfl c_3
      refine lv_iconst (v := 0) hx hb dX10_has_22 (by decide) ?_
      exact th_zret E hr hlk hs (Or.inl rfl) hT hS ⟨(Or.inl rfl), (fun h => absurd h (by decide))⟩ dX10_has_23
    · have f_3 : x0.toInt < x_2.toInt := r_nle rfl rfl c_3
      refine lv_iload_n hx hb dX10_has_12 rfl (lv_at hl 1 rfl) ?_
      refine lv_bipush (v := 20) hx hb dX10_has_13 (by decide) ?_
      refine lv_icmp_ge (tgt := 22) hx hb dX10_has_15 (by decide) (fun c_4 => ?_) (fun c_4 => ?_)
      · have f_4 : 20 ≤ x0.toInt := r_le (by decide) rfl c_4
        refine lv_iconst (v := 0) hx hb dX10_has_22 (by decide) ?_
        exact th_zret E hr hlk hs (Or.inl rfl) hT hS ⟨(Or.inl rfl), (fun h => absurd h (by decide))⟩ dX10_has_23
      · have f_4 : x0.toInt < 20 := r_nle (by decide) rfl c_4
        refine lv_iconst (v := 1) hx hb dX10_has_18 (by decide) ?_
        refine lv_goto (tgt := 23) hx hb dX10_has_19 (by decide) ?_
        exact th_zret E hr hlk hs (Or.inr rfl) hT hS ⟨(Or.inr rfl), (fun _ => ⟨by omega, by omega, by omega⟩)⟩ dX10_has_23
set_option maxHeartbeats 4000000 in
set_option maxRecDepth 100000 in
/-- StreamEnds$Wire.remove: it ends, and the heap stays typed -/
theorem z_X10_remove (l : Launch) (D : va_G) (cI cS : ClassId) (τ : Nat → Option Nat) (ρ : Nat → Nat → Nat) (hW : WF τ ρ) (H : Heap) (hT : TH D cI cS τ ρ H) (a0 : Nat) (x0 : Int32) (ha0 : τ a0 = some 10) : MR l D cI cS τ ρ yX10_remove cX10_remove 5 (some (.object "StreamEnds$Segment")) 1 21 H [.ref a0, .int x0] (fun (r : Nat) (u : Heap) => τ r = some 8) (AT τ [10, 50]) := by
  refine MR.of (by decide) (Nat.le_of_ble_eq_true rfl) ?_
  intro p e s m args below meth c E hml hr hlk hs ls hl
  have hx := E.1
  have hb := E.2.1
  have hown := E.2.2.1
  have hts := E.2.2.2.1
  have hS : SS (AT τ [10, 50]) H H [] := SS.rf
  have hl : lv_has ls 5 [(0, .ref a0), (1, .int x0)] := hl
  have L_30 : ∀ (n : Nat) (H_c30 : Heap) (lc_c30 : List Loc) (ls : Array Slot) (y30_2 : Int32) (y30_3 : Nat) (y30_4 : Int32), TH D cI cS τ ρ H_c30 → SS (AT τ [10, 50]) H H_c30 lc_c30 → lv_has ls 5 [(0, .ref a0), (1, .int x0), (2, .int y30_2), (3, .ref y30_3), (4, .int y30_4)] → 0 ≤ x0.toInt → x0.toInt ≤ 19 → 0 ≤ y30_2.toInt → y30_2.toInt ≤ 19 → τ y30_3 = some 8 → 0 ≤ y30_4.toInt → y30_4.toInt ≤ 19 → (y30_2.toInt - y30_4.toInt).toNat < n → W p l e (rmO 1 21) s m args below meth c H_c30 lc_c30 0 0 (MQ below (va_Qr (fun _ : Heap => True) (fun u a t => Bt D cI cS τ ρ H u t ∧ (fun (r : Nat) (u : Heap) => τ r = some 8) a u) (AT τ [10, 50])) args s 0 0 (AT τ [10, 50])) (F0 m 30 ls []) := by
    intro n
    induction n with
    | zero => intro H_c30 lc_c30 ls y30_2 y30_3 y30_4 hT_c30 hS_c30 hl ly30_1 uy30_1 ly30_2 uy30_2 ty30_3 ly30_4 uy30_4 hm; exact absurd hm (Nat.not_lt_zero _)
    | succ n ih_30 =>
      intro H_c30 lc_c30 ls y30_2 y30_3 y30_4 hT_c30 hS_c30 hl ly30_1 uy30_1 ly30_2 uy30_2 ty30_3 ly30_4 uy30_4 hm_30
      refine lv_iload hx hb dX10_remove_30 (lv_at hl 4 rfl) ?_
      refine lv_iload_n hx hb dX10_remove_32 rfl (lv_at hl 2 rfl) ?_
      refine lv_icmp_ge (tgt := 58) hx hb dX10_remove_33 (by decide) (fun c_1 => ?_) (fun c_1 => ?_)
      · have f_1 : y30_2.toInt ≤ y30_4.toInt := r_le rfl rfl c_1
        refine lv_aload_n hx hb dX10_remove_58 rfl (lv_at hl 0 rfl) ?_
        refine gf_X10_11 E hT_c30 hW ha0 dX10_remove_59 (fun h_2 => ?_)
        refine lv_iload_n hx hb dX10_remove_62 rfl (lv_at hl 2 rfl) ?_
        refine lv_aload_n hx hb dX10_remove_63 rfl (lv_at hl 0 rfl) ?_
        refine gf_X10_18 E hT_c30 ha0 dX10_remove_64 (fun h_3 => ?_)
        refine th_aast E hT_c30 hS_c30 h_2 ⟨_, h_2, by decide⟩ h_3 (vp_in_iff.mpr ⟨by omega, by omega⟩) dX10_remove_67 (fun H_4 locs_4 hT_4 hU_4 hk_4 hS_4 => ?_)
        refine lv_aload_n hx hb dX10_remove_68 rfl (lv_at hl 0 rfl) ?_
        refine lv_aload_n hx hb dX10_remove_69 rfl (lv_at hl 3 rfl) ?_
        refine pf_X10_18 E hT_4 hS_4 ha0 ⟨_, ha0, by decide⟩ ty30_3 dX10_remove_70 (fun H_5 locs_5 hT_5 hU_5 hS_5 => ?_)
        refine lv_aload_n hx hb dX10_remove_73 rfl (lv_at hl 0 rfl) ?_
        refine lv_iload_n hx hb dX10_remove_74 rfl (lv_at hl 2 rfl) ?_
        refine pf_X10_22 E hT_5 hS_5 ha0 ⟨_, ha0, by decide⟩ dX10_remove_75 (fun H_6 locs_6 hT_6 hU_6 hS_6 => ?_)
        refine lv_aload_n hx hb dX10_remove_78 rfl (lv_at hl 0 rfl) ?_
        refine gf_X10_18 E hT_6 ha0 dX10_remove_79 (fun h_7 => ?_)
        exact th_aret E hr hlk hs hT_6 hS_6 h_7 dX10_remove_82
      · have f_1 : y30_4.toInt < y30_2.toInt := r_nle rfl rfl c_1
        refine lv_aload_n hx hb dX10_remove_36 rfl (lv_at hl 0 rfl) ?_
        refine gf_X10_11 E hT_c30 hW ha0 dX10_remove_37 (fun h_8 => ?_)
        refine lv_iload hx hb dX10_remove_40 (lv_at hl 4 rfl) ?_
        refine lv_aload_n hx hb dX10_remove_42 rfl (lv_at hl 0 rfl) ?_
        refine gf_X10_11 E hT_c30 hW ha0 dX10_remove_43 (fun h_9 => ?_)
        refine lv_iload hx hb dX10_remove_46 (lv_at hl 4 rfl) ?_
        refine lv_iconst (v := 1) hx hb dX10_remove_48 (by decide) ?_
        refine lv_iadd hx hb dX10_remove_49 ?_
        refine lv_topi (fun x_10 ex_10 => ?_)
        have q_10 : x_10.toInt = y30_4.toInt + 1 := i_pl rfl (by decide) ex_10 (by omega) (by omega)
        refine th_aald E hT_c30 h_9 (vp_in_iff.mpr ⟨by omega, by omega⟩) dX10_remove_50 (fun h_11 => ?_)
        refine th_aast E hT_c30 hS_c30 h_8 ⟨_, h_8, by decide⟩ h_11 (vp_in_iff.mpr ⟨by omega, by omega⟩) dX10_remove_51 (fun H_12 locs_12 hT_12 hU_12 hk_12 hS_12 => ?_)
        obtain ⟨x_13, ex_13⟩ : ∃ y : Int32, y30_4 + 1 = y := ⟨_, rfl⟩
        have q_x_13 : x_13.toInt = y30_4.toInt + 1 := i_add (k := 1) (by decide) ex_13 (by have := i_min y30_4; omega) (by have := i_max y30_4; omega)
        refine lv_iinc (v := x_13) (lv' := [(4, .int x_13), (0, .ref a0), (1, .int x0), (2, .int y30_2), (3, .ref y30_3)]) hx hb dX10_remove_52 hl (k := 4) rfl (by rw [← ex_13]; rfl) (by decide) rfl (fun ls hl => ?_)
        refine lv_goto (tgt := 30) hx hb dX10_remove_55 (by decide) ?_
        exact ih_30 H_12 locs_12 _ y30_2 y30_3 x_13 hT_12 hS_12 (lv_sub hl [1, 2, 3, 4, 0] rfl) (by omega) (by omega) (by omega) (by omega) ty30_3 (by omega) (by omega) (by omega)
  refine lv_aload_n hx hb dX10_remove_0 rfl (lv_at hl 0 rfl) ?_
  refine lv_iload_n hx hb dX10_remove_1 rfl (lv_at hl 1 rfl) ?_
  refine th_Vi (As := [.int x0]) (rest := []) E hml hl.1 (z_X10_has l D cI cS τ ρ hW H hT a0 x0 ha0) lk_X10_39 yd_X10_has hT ha0 rfl (by decide) hS (AT.sub (by decide)) ⟨by decide, by decide⟩ (Nat.le_of_ble_eq_true rfl) ⟨by decide, by decide⟩ rfl dX10_remove_2 (fun r_14 H_14 locs_14 p_14 hT_14 hk_14 hS_14 => ?_)
  have z_14 := b_iv p_14.1
  refine lv_if_eq (tgt := 78) hx hb dX10_remove_5 (by decide) (fun c_15 => ?_) (fun c_15 => ?_)
  · have f_15 : r_14.toInt = 0 := r_eq rfl (by decide) c_15
    refine lv_aload_n hx hb dX10_remove_78 rfl (lv_at hl 0 rfl) ?_
    refine gf_X10_18 E hT_14 ha0 dX10_remove_79 (fun h_16 => ?_)
    exact th_aret E hr hlk hs hT_14 hS_14 h_16 dX10_remove_82
  · have f_15 : ¬ r_14.toInt = 0 := r_ne rfl (by decide) c_15
    have nz_r_14 : ¬ r_14 = 0 := c_15
    have w_15 := p_14.2 (p_14.1.resolve_left c_15)
    refine lv_aload_n hx hb dX10_remove_8 rfl (lv_at hl 0 rfl) ?_
    refine gf_X10_22 E hT_14 ha0 dX10_remove_9 ?_
    refine th_topi (y := fi D 10 2 H a0) (fi_q (hk_14 _ (AT.out ha0 (by decide)))) ?_
    refine lv_topi (fun x_17 ex_17 => ?_)
    have e_17 : x_17.toInt = (fi D 10 2 H a0).toInt := congrArg Int32.toInt ex_17
    refine lv_bipush (v := 20) hx hb dX10_remove_12 (by decide) ?_
    refine mm_X10_43 E hml hl.1 (by decide) (Nat.le_of_ble_eq_true rfl) ⟨by decide, by decide⟩ dX10_remove_14 ?_
    refine lv_topi (fun x_18 ex_18 => ?_)
    have q_18 := i_minq (x := x_17) (y := (20 : Int32)) (a := x_17.toInt) (b := 20) rfl (by decide) ex_18
    refine lv_iconst (v := 1) hx hb dX10_remove_17 (by decide) ?_
    refine lv_isub hx hb dX10_remove_18 ?_
    refine lv_topi (fun x_19 ex_19 => ?_)
    have q_19 : x_19.toInt = x_18.toInt - 1 := i_mi rfl (by decide) ex_19 (by omega) (by omega)
    refine lv_istore_n (lv' := [(2, .int x_19), (0, .ref a0), (1, .int x0)]) hx hb dX10_remove_19 rfl hl (by decide) rfl (fun ls hl => ?_)
    refine lv_aload_n hx hb dX10_remove_20 rfl (lv_at hl 1 rfl) ?_
    refine gf_X10_11 E hT_14 hW ha0 dX10_remove_21 (fun h_20 => ?_)
    refine lv_iload_n hx hb dX10_remove_24 rfl (lv_at hl 2 rfl) ?_
    refine th_aald E hT_14 h_20 (vp_in_iff.mpr ⟨by omega, by omega⟩) dX10_remove_25 (fun h_21 => ?_)
    refine lv_astore_n (lv' := [(3, .ref (ar H_14 (ρ a0 0) x0.toNatClampNeg)), (2, .int x_19), (0, .ref a0), (1, .int x0)]) hx hb dX10_remove_26 rfl hl (by decide) rfl (fun ls hl => ?_)
    refine lv_iload_n hx hb dX10_remove_27 rfl (lv_at hl 3 rfl) ?_
    refine lv_istore (lv' := [(4, .int x0), (3, .ref (ar H_14 (ρ a0 0) x0.toNatClampNeg)), (2, .int x_19), (0, .ref a0), (1, .int x0)]) hx hb dX10_remove_28 hl (by decide) rfl (fun ls hl => ?_)
    exact L_30 _ H_14 locs_14 _ x_19 (ar H_14 (ρ a0 0) x0.toNatClampNeg) x0 hT_14 hS_14 (lv_sub hl [3, 4, 2, 1, 0] rfl) (by omega) (by omega) (by omega) (by omega) h_21 (by omega) (by omega) (Nat.lt_succ_self _)
set_option maxHeartbeats 4000000 in
set_option maxRecDepth 100000 in
/-- StreamEnds$Receiver.receiveClosed: it ends, and the heap stays typed -/
theorem z_X6_receiveClosed (l : Launch) (D : va_G) (cI cS : ClassId) (τ : Nat → Option Nat) (ρ : Nat → Nat → Nat) (hW : WF τ ρ) (H : Heap) (hT : TH D cI cS τ ρ H) (a0 : Nat) (a1 : Nat) (ha0 : τ a0 = some 6) (ha1 : τ a1 = some 8) : MV l D cI cS τ ρ yX6_receiveClosed cX6_receiveClosed 2 none 3 66 H [.ref a0, .ref a1] (fun (u : Heap) => True) (AT τ [6, 8, 10]) := by
  refine MV.of (by decide) (Nat.le_of_ble_eq_true rfl) ?_
  intro p e s m args below meth c E hml hr hlk hs ls hl
  have hx := E.1
  have hb := E.2.1
  have hown := E.2.2.1
  have hts := E.2.2.2.1
  have hS : SS (AT τ [6, 8, 10]) H H [] := SS.rf
  have hl : lv_has ls 2 [(0, .ref a0), (1, .ref a1)] := hl
  refine lv_aload_n hx hb dX6_receiveClosed_0 rfl (lv_at hl 0 rfl) ?_
  refine lv_iconst (v := 1) hx hb dX6_receiveClosed_1 (by decide) ?_
  refine pf_X6_9 E hT hS ha0 ⟨_, ha0, by decide⟩ dX6_receiveClosed_2 (fun H_1 locs_1 hT_1 hU_1 hS_1 => ?_)
  refine lv_aload_n hx hb dX6_receiveClosed_5 rfl (lv_at hl 1 rfl) ?_
  refine lv_bipush (v := 8) hx hb dX6_receiveClosed_6 (by decide) ?_
  refine th_Vi (As := [.int 8]) (rest := []) E hml hl.1 (z_X8_has l D cI cS τ ρ hW H_1 hT_1 a1 8 ha1) lk_X6_43 yd_X8_has hT_1 ha1 rfl (by decide) hS_1 (AT.sub (by decide)) ⟨by decide, by decide⟩ (Nat.le_of_ble_eq_true rfl) ⟨by decide, by decide⟩ rfl dX6_receiveClosed_8 (fun r_2 H_2 locs_2 p_2 hT_2 hk_2 hS_2 => ?_)
  have z_2 := b_iv p_2
  refine lv_if_ne (tgt := 22) hx hb dX6_receiveClosed_11 (by decide) (fun c_3 => ?_) (fun c_3 => ?_)
  · have f_3 : ¬ r_2.toInt = 0 := r_ne rfl (by decide) c_3
    have nz_r_2 : ¬ r_2 = 0 := c_3
    exact th_vret E hr hlk hs hT_2 hS_2 trivial dX6_receiveClosed_22
  · have f_3 : r_2.toInt = 0 := r_eq rfl (by decide) c_3
    refine lv_aload_n hx hb dX6_receiveClosed_14 rfl (lv_at hl 0 rfl) ?_
    refine gf_X6_18 E hT_2 hW ha0 dX6_receiveClosed_15 (fun h_4 => ?_)
    refine lv_aload_n hx hb dX6_receiveClosed_18 rfl (lv_at hl 1 rfl) ?_
    refine th_Vv (As := [.ref a1]) (rest := []) E hml hl.1 (z_X2_sendResetFor l D cI cS τ ρ hW H_2 hT_2 (ρ a0 0) a1 h_4 ha1) lk_X6_49 yd_X2_sendResetFor hT_2 h_4 rfl (by decide) hS_2 (AT.sub (by decide)) ⟨by decide, by decide⟩ (Nat.le_of_ble_eq_true rfl) ⟨by decide, by decide⟩ rfl dX6_receiveClosed_19 (fun H_5 locs_5 p_5 hT_5 hk_5 hS_5 => ?_)
    exact th_vret E hr hlk hs hT_5 hS_5 trivial dX6_receiveClosed_22
set_option maxHeartbeats 4000000 in
set_option maxRecDepth 100000 in
/-- StreamEnds$Receiver.receiveListening: it ends, and the heap stays typed -/
theorem z_X6_receiveListening (l : Launch) (D : va_G) (cI cS : ClassId) (τ : Nat → Option Nat) (ρ : Nat → Nat → Nat) (hW : WF τ ρ) (H : Heap) (hT : TH D cI cS τ ρ H) (a0 : Nat) (a1 : Nat) (ha0 : τ a0 = some 6) (ha1 : τ a1 = some 8) : MV l D cI cS τ ρ yX6_receiveListening cX6_receiveListening 2 none 4 89 H [.ref a0, .ref a1] (fun (u : Heap) => True) (AT τ [2, 3, 5, 6, 7, 8, 10, 104]) := by
  refine MV.of (by decide) (Nat.le_of_ble_eq_true rfl) ?_
  intro p e s m args below meth c E hml hr hlk hs ls hl
  have hx := E.1
  have hb := E.2.1
  have hown := E.2.2.1
  have hts := E.2.2.2.1
  have hS : SS (AT τ [2, 3, 5, 6, 7, 8, 10, 104]) H H [] := SS.rf
  have hl : lv_has ls 2 [(0, .ref a0), (1, .ref a1)] := hl
  refine lv_aload_n hx hb dX6_receiveListening_0 rfl (lv_at hl 1 rfl) ?_
  refine lv_bipush (v := 8) hx hb dX6_receiveListening_1 (by decide) ?_
  refine th_Vi (As := [.int 8]) (rest := []) E hml hl.1 (z_X8_has l D cI cS τ ρ hW H hT a1 8 ha1) lk_X6_43 yd_X8_has hT ha1 rfl (by decide) hS (AT.sub (by decide)) ⟨by decide, by decide⟩ (Nat.le_of_ble_eq_true rfl) ⟨by decide, by decide⟩ rfl dX6_receiveListening_3 (fun r_1 H_1 locs_1 p_1 hT_1 hk_1 hS_1 => ?_)
  have z_1 := b_iv p_1
  refine lv_if_eq (tgt := 17) hx hb dX6_receiveListening_6 (by decide) (fun c_2 => ?_) (fun c_2 => ?_)
  · have f_2 : r_1.toInt = 0 := r_eq rfl (by decide) c_2
    refine lv_aload_n hx hb dX6_receiveListening_17 rfl (lv_at hl 1 rfl) ?_
    refine lv_iconst (v := 4) hx hb dX6_receiveListening_18 (by decide) ?_
    refine th_Vi (As := [.int 4]) (rest := []) E hml hl.1 (z_X8_has l D cI cS τ ρ hW H_1 hT_1 a1 4 ha1) lk_X6_43 yd_X8_has hT_1 ha1 rfl (by decide) hS_1 (AT.sub (by decide)) ⟨by decide, by decide⟩ (Nat.le_of_ble_eq_true rfl) ⟨by decide, by decide⟩ rfl dX6_receiveListening_19 (fun r_3 H_3 locs_3 p_3 hT_3 hk_3 hS_3 => ?_)
    have z_3 := b_iv p_3
    refine lv_if_eq (tgt := 41) hx hb dX6_receiveListening_22 (by decide) (fun c_4 => ?_) (fun c_4 => ?_)
    · have f_4 : r_3.toInt = 0 := r_eq rfl (by decide) c_4
      refine lv_aload_n hx hb dX6_receiveListening_41 rfl (lv_at hl 1 rfl) ?_
      refine lv_iconst (v := 1) hx hb dX6_receiveListening_42 (by decide) ?_
      refine th_Vi (As := [.int 1]) (rest := []) E hml hl.1 (z_X8_has l D cI cS τ ρ hW H_3 hT_3 a1 1 ha1) lk_X6_43 yd_X8_has hT_3 ha1 rfl (by decide) hS_3 (AT.sub (by decide)) ⟨by decide, by decide⟩ (Nat.le_of_ble_eq_true rfl) ⟨by decide, by decide⟩ rfl dX6_receiveListening_43 (fun r_5 H_5 locs_5 p_5 hT_5 hk_5 hS_5 => ?_)
      have z_5 := b_iv p_5
      refine lv_if_ne (tgt := 57) hx hb dX6_receiveListening_46 (by decide) (fun c_6 => ?_) (fun c_6 => ?_)
      · have f_6 : ¬ r_5.toInt = 0 := r_ne rfl (by decide) c_6
        have nz_r_5 : ¬ r_5 = 0 := c_6
        refine lv_aload_n hx hb dX6_receiveListening_57 rfl (lv_at hl 0 rfl) ?_
        refine gf_X6_18 E hT_5 hW ha0 dX6_receiveListening_58 (fun h_7 => ?_)
        refine gf_X6_52 E hT_5 hW h_7 dX6_receiveListening_61 (fun h_8 => ?_)
        refine lv_iconst (v := 1) hx hb dX6_receiveListening_64 (by decide) ?_
        refine pf_X6_56 E hT_5 hS_5 h_8 ⟨_, h_8, by decide⟩ dX6_receiveListening_65 (fun H_9 locs_9 hT_9 hU_9 hS_9 => ?_)
        refine lv_aload_n hx hb dX6_receiveListening_68 rfl (lv_at hl 0 rfl) ?_
        refine gf_X6_18 E hT_9 hW ha0 dX6_receiveListening_69 (fun h_10 => ?_)
        refine lv_iconst (v := 3) hx hb dX6_receiveListening_72 (by decide) ?_
        refine pf_X6_22 E hT_9 hS_9 h_10 ⟨_, h_10, by decide⟩ dX6_receiveListening_73 (fun H_11 locs_11 hT_11 hU_11 hS_11 => ?_)
        refine lv_aload_n hx hb dX6_receiveListening_76 rfl (lv_at hl 0 rfl) ?_
        refine gf_X6_18 E hT_11 hW ha0 dX6_receiveListening_77 (fun h_12 => ?_)
        refine th_Vv (As := []) (rest := []) E hml hl.1 (z_X2_sendFirstSyn l D cI cS τ ρ hW H_11 hT_11 (ρ a0 0) h_12) lk_X6_61 yd_X2_sendFirstSyn hT_11 h_12 rfl (by decide) hS_11 (AT.sub (by decide)) ⟨by decide, by decide⟩ (Nat.le_of_ble_eq_true rfl) ⟨by decide, by decide⟩ rfl dX6_receiveListening_80 (fun H_13 locs_13 p_13 hT_13 hk_13 hS_13 => ?_)
        exact th_vret E hr hlk hs hT_13 hS_13 trivial dX6_receiveListening_83
      · have f_6 : r_5.toInt = 0 := r_eq rfl (by decide) c_6
        refine lv_aload_n hx hb dX6_receiveListening_49 rfl (lv_at hl 0 rfl) ?_
        refine lv_iconst (v := 4) hx hb dX6_receiveListening_50 (by decide) ?_
        refine pf_X6_9 E hT_5 hS_5 ha0 ⟨_, ha0, by decide⟩ dX6_receiveListening_51 (fun H_14 locs_14 hT_14 hU_14 hS_14 => ?_)
        refine lv_goto (tgt := 83) hx hb dX6_receiveListening_54 (by decide) ?_
        exact th_vret E hr hlk hs hT_14 hS_14 trivial dX6_receiveListening_83
    · have f_4 : ¬ r_3.toInt = 0 := r_ne rfl (by decide) c_4
      have nz_r_3 : ¬ r_3 = 0 := c_4
      refine lv_aload_n hx hb dX6_receiveListening_25 rfl (lv_at hl 0 rfl) ?_
      refine lv_iconst (v := 3) hx hb dX6_receiveListening_26 (by decide) ?_
      refine pf_X6_9 E hT_3 hS_3 ha0 ⟨_, ha0, by decide⟩ dX6_receiveListening_27 (fun H_15 locs_15 hT_15 hU_15 hS_15 => ?_)
      refine lv_aload_n hx hb dX6_receiveListening_30 rfl (lv_at hl 0 rfl) ?_
      refine gf_X6_18 E hT_15 hW ha0 dX6_receiveListening_31 (fun h_16 => ?_)
      refine lv_aload_n hx hb dX6_receiveListening_34 rfl (lv_at hl 1 rfl) ?_
      refine th_Vv (As := [.ref a1]) (rest := []) E hml hl.1 (z_X2_sendResetFor l D cI cS τ ρ hW H_15 hT_15 (ρ a0 0) a1 h_16 ha1) lk_X6_49 yd_X2_sendResetFor hT_15 h_16 rfl (by decide) hS_15 (AT.sub (by decide)) ⟨by decide, by decide⟩ (Nat.le_of_ble_eq_true rfl) ⟨by decide, by decide⟩ rfl dX6_receiveListening_35 (fun H_17 locs_17 p_17 hT_17 hk_17 hS_17 => ?_)
      refine lv_goto (tgt := 83) hx hb dX6_receiveListening_38 (by decide) ?_
      exact th_vret E hr hlk hs hT_17 hS_17 trivial dX6_receiveListening_83
  · have f_2 : ¬ r_1.toInt = 0 := r_ne rfl (by decide) c_2
    have nz_r_1 : ¬ r_1 = 0 := c_2
    refine lv_aload_n hx hb dX6_receiveListening_9 rfl (lv_at hl 0 rfl) ?_
    refine lv_iconst (v := 2) hx hb dX6_receiveListening_10 (by decide) ?_
    refine pf_X6_9 E hT_1 hS_1 ha0 ⟨_, ha0, by decide⟩ dX6_receiveListening_11 (fun H_18 locs_18 hT_18 hU_18 hS_18 => ?_)
    refine lv_goto (tgt := 83) hx hb dX6_receiveListening_14 (by decide) ?_
    exact th_vret E hr hlk hs hT_18 hS_18 trivial dX6_receiveListening_83
set_option maxHeartbeats 4000000 in
set_option maxRecDepth 100000 in
/-- StreamEnds$Receiver.ownPlace: it ends, and the heap stays typed -/
theorem z_X6_ownPlace (l : Launch) (D : va_G) (cI cS : ClassId) (τ : Nat → Option Nat) (ρ : Nat → Nat → Nat) (hW : WF τ ρ) (H : Heap) (hT : TH D cI cS τ ρ H) (a0 : Nat) (x0 : Int32) (ha0 : τ a0 = some 6) : MI l D cI cS τ ρ yX6_ownPlace cX6_ownPlace 2 (some .int) 2 46 H [.ref a0, .int x0] (fun (r : Int32) (u : Heap) => True) (AT τ []) := by
  refine MI.of (by decide) (Nat.le_of_ble_eq_true rfl) ?_
  intro p e s m args below meth c E hml hr hlk hs ls hl
  have hx := E.1
  have hb := E.2.1
  have hown := E.2.2.1
  have hts := E.2.2.2.1
  have hS : SS (AT τ []) H H [] := SS.rf
  have hl : lv_has ls 2 [(0, .ref a0), (1, .int x0)] := hl
  refine lv_aload_n hx hb dX6_ownPlace_0 rfl (lv_at hl 0 rfl) ?_
  refine gf_X6_18 E hT hW ha0 dX6_ownPlace_1 (fun h_1 => ?_)
  refine gf_X6_207 E hT hW h_1 dX6_ownPlace_4 (fun h_2 => ?_)
  refine lv_aload_n hx hb dX6_ownPlace_7 rfl (lv_at hl 0 rfl) ?_
  refine gf_X6_18 E hT hW ha0 dX6_ownPlace_8 (fun h_3 => ?_)
  refine gf_X6_211 E hT h_3 dX6_ownPlace_11 ?_
  refine lv_topi (fun x_4 ex_4 => ?_)
  refine lv_iload_n hx hb dX6_ownPlace_14 rfl (lv_at hl 1 rfl) ?_
  refine lv_aload_n hx hb dX6_ownPlace_15 rfl (lv_at hl 0 rfl) ?_
  refine gf_X6_18 E hT hW ha0 dX6_ownPlace_16 (fun h_5 => ?_)
  refine gf_X6_104 E hT hW h_5 dX6_ownPlace_19 (fun h_6 => ?_)
  refine gf_X6_147 E hT h_6 dX6_ownPlace_22 ?_
  refine lv_topi (fun x_7 ex_7 => ?_)
  refine th_Vi (As := [.int x_4, .int x0, .int x_7]) (rest := []) E hml hl.1 (z_X1_place l D cI cS τ ρ hW H hT (ρ (ρ a0 0) 1) x_4 x0 x_7 h_2) lk_X6_214 yd_X1_place hT h_2 rfl (by decide) hS (AT.sub (by decide)) ⟨by decide, by decide⟩ (Nat.le_of_ble_eq_true rfl) ⟨by decide, by decide⟩ rfl dX6_ownPlace_25 (fun r_8 H_8 locs_8 p_8 hT_8 hk_8 hS_8 => ?_)
  exact th_iret E hr hlk hs hT_8 hS_8 trivial dX6_ownPlace_28
set_option maxHeartbeats 4000000 in
set_option maxRecDepth 100000 in
/-- StreamEnds$Outgoing.acknowledge: it ends, and the heap stays typed -/
theorem z_X5_acknowledge (l : Launch) (D : va_G) (cI cS : ClassId) (τ : Nat → Option Nat) (ρ : Nat → Nat → Nat) (hW : WF τ ρ) (H : Heap) (hT : TH D cI cS τ ρ H) (a0 : Nat) (x0 : Int32) (ha0 : τ a0 = some 5) : MV l D cI cS τ ρ yX5_acknowledge cX5_acknowledge 3 none 0 0 H [.ref a0, .int x0] (fun (u : Heap) => True) (AT τ [5]) := by
  refine MV.of (by decide) (Nat.le_of_ble_eq_true rfl) ?_
  intro p e s m args below meth c E hml hr hlk hs ls hl
  have hx := E.1
  have hb := E.2.1
  have hown := E.2.2.1
  have hts := E.2.2.2.1
  have hS : SS (AT τ [5]) H H [] := SS.rf
  have hl : lv_has ls 3 [(0, .ref a0), (1, .int x0)] := hl
  have L_5 : ∀ (n : Nat) (H_c5 : Heap) (lc_c5 : List Loc) (ls : Array Slot) (y5_2 : Int32), TH D cI cS τ ρ H_c5 → SS (AT τ [5]) H H_c5 lc_c5 → lv_has ls 3 [(0, .ref a0), (1, .int x0), (2, .int y5_2)] → (x0.toInt - y5_2.toInt).toNat < n → W p l e (rmO 0 0) s m args below meth c H_c5 lc_c5 0 0 (MQ below (va_Qv (fun (u : Heap) => True) (Bt D cI cS τ ρ H) (AT τ [5])) args s 0 0 (AT τ [5])) (F0 m 5 ls []) := by
    intro n
    induction n with
    | zero => intro H_c5 lc_c5 ls y5_2 hT_c5 hS_c5 hl hm; exact absurd hm (Nat.not_lt_zero _)
    | succ n ih_5 =>
      intro H_c5 lc_c5 ls y5_2 hT_c5 hS_c5 hl hm_5
      refine lv_iload_n hx hb dX5_acknowledge_5 rfl (lv_at hl 2 rfl) ?_
      refine lv_iload_n hx hb dX5_acknowledge_6 rfl (lv_at hl 1 rfl) ?_
      refine lv_icmp_ge (tgt := 32) hx hb dX5_acknowledge_7 (by decide) (fun c_1 => ?_) (fun c_1 => ?_)
      · have f_1 : x0.toInt ≤ y5_2.toInt := r_le rfl rfl c_1
        refine lv_aload_n hx hb dX5_acknowledge_32 rfl (lv_at hl 0 rfl) ?_
        refine lv_iload_n hx hb dX5_acknowledge_33 rfl (lv_at hl 1 rfl) ?_
        refine pf_X5_15 E hT_c5 hS_c5 ha0 ⟨_, ha0, by decide⟩ dX5_acknowledge_34 (fun H_2 locs_2 hT_2 hU_2 hS_2 => ?_)
        exact th_vret E hr hlk hs hT_2 hS_2 trivial dX5_acknowledge_37
      · have f_1 : y5_2.toInt < x0.toInt := r_nle rfl rfl c_1
        refine lv_aload_n hx hb dX5_acknowledge_10 rfl (lv_at hl 0 rfl) ?_
        refine lv_dup hx hb dX5_acknowledge_11 rfl ?_
        refine gf_X5_35 E hT_c5 ha0 dX5_acknowledge_12 ?_
        refine lv_topl (fun x_3 ex_3 => ?_)
        refine lv_lconst (v := 1) hx hb dX5_acknowledge_15 (by decide) ?_
        refine lv_iload_n hx hb dX5_acknowledge_16 rfl (lv_at hl 2 rfl) ?_
        obtain ⟨x_4, ex_4⟩ : ∃ y : Int64, (1 : Int64) <<< (y5_2.toInt64 &&& 63) = y := ⟨_, rfl⟩
        refine lv_lshl (v := x_4) hx hb dX5_acknowledge_17 ex_4 ?_
        refine lv_ldc2 (v := (-1)) hx hb hown (hts _ qw_1193) dX5_acknowledge_18 ?_
        refine lv_lxor hx hb dX5_acknowledge_21 ?_
        refine lv_topl (fun x_5 ex_5 => ?_)
        refine lv_land hx hb dX5_acknowledge_22 ?_
        refine lv_topl (fun x_6 ex_6 => ?_)
        refine pf_X5_35 E hT_c5 hS_c5 ha0 ⟨_, ha0, by decide⟩ dX5_acknowledge_23 (fun H_7 locs_7 hT_7 hU_7 hS_7 => ?_)
        obtain ⟨x_8, ex_8⟩ : ∃ y : Int32, y5_2 + 1 = y := ⟨_, rfl⟩
        have q_x_8 : x_8.toInt = y5_2.toInt + 1 := i_add (k := 1) (by decide) ex_8 (by have := i_min y5_2; omega) (by have := i_max y5_2; have := i_max x0; omega)
        refine lv_iinc (v := x_8) (lv' := [(2, .int x_8), (0, .ref a0), (1, .int x0)]) hx hb dX5_acknowledge_26 hl (k := 2) rfl (by rw [← ex_8]; rfl) (by decide) rfl (fun ls hl => ?_)
        refine lv_goto (tgt := 5) hx hb dX5_acknowledge_29 (by decide) ?_
        exact ih_5 H_7 locs_7 _ x_8 hT_7 hS_7 (lv_sub hl [1, 2, 0] rfl) (by omega)
  refine lv_aload_n hx hb dX5_acknowledge_0 rfl (lv_at hl 0 rfl) ?_
  refine gf_X5_15 E hT ha0 dX5_acknowledge_1 ?_
  refine lv_topi (fun x_9 ex_9 => ?_)
  refine lv_istore_n (lv' := [(2, .int x_9), (0, .ref a0), (1, .int x0)]) hx hb dX5_acknowledge_4 rfl hl (by decide) rfl (fun ls hl => ?_)
  exact L_5 _ H [] _ x_9 hT hS (lv_sub hl [1, 2, 0] rfl) (Nat.lt_succ_self _)
set_option maxHeartbeats 4000000 in
set_option maxRecDepth 100000 in
/-- StreamEnds$RoundTrips.measure: it ends, and the heap stays typed -/
theorem z_X7_measure (l : Launch) (D : va_G) (cI cS : ClassId) (τ : Nat → Option Nat) (ρ : Nat → Nat → Nat) (hW : WF τ ρ) (H : Heap) (hT : TH D cI cS τ ρ H) (a0 : Nat) (x0 : Int32) (ha0 : τ a0 = some 7) : MV l D cI cS τ ρ yX7_measure cX7_measure 3 none 1 15 H [.ref a0, .int x0] (fun (u : Heap) => True) (AT τ [7, 106]) := by
  refine MV.of (by decide) (Nat.le_of_ble_eq_true rfl) ?_
  intro p e s m args below meth c E hml hr hlk hs ls hl
  have hx := E.1
  have hb := E.2.1
  have hown := E.2.2.1
  have hts := E.2.2.2.1
  have hS : SS (AT τ [7, 106]) H H [] := SS.rf
  have hl : lv_has ls 3 [(0, .ref a0), (1, .int x0)] := hl
  have L_92 : ∀ (n : Nat) (H_c92 : Heap) (lc_c92 : List Loc) (ls : Array Slot) (y92_2 : Int32), TH D cI cS τ ρ H_c92 → SS (AT τ [7, 106]) H H_c92 lc_c92 → lv_has ls 3 [(0, .ref a0), (1, .int x0), (2, .int y92_2)] → y92_2.toInt ≤ 5 → (y92_2.toInt).toNat < n → W p l e (rmO 1 15) s m args below meth c H_c92 lc_c92 0 0 (MQ below (va_Qv (fun (u : Heap) => True) (Bt D cI cS τ ρ H) (AT τ [7, 106])) args s 0 0 (AT τ [7, 106])) (F0 m 92 ls []) := by
    intro n
    induction n with
    | zero => intro H_c92 lc_c92 ls y92_2 hT_c92 hS_c92 hl uy92_2 hm; exact absurd hm (Nat.not_lt_zero _)
    | succ n ih_92 =>
      intro H_c92 lc_c92 ls y92_2 hT_c92 hS_c92 hl uy92_2 hm_92
      refine lv_iload_n hx hb dX7_measure_92 rfl (lv_at hl 2 rfl) ?_
      refine lv_if_le (tgt := 116) hx hb dX7_measure_93 (by decide) (fun c_1 => ?_) (fun c_1 => ?_)
      · have f_1 : y92_2.toInt ≤ 0 := r_le rfl (by decide) c_1
        refine lv_aload_n hx hb dX7_measure_116 rfl (lv_at hl 0 rfl) ?_
        refine gf_X7_9 E hT_c92 hW ha0 dX7_measure_117 (fun h_2 => ?_)
        refine lv_iconst (v := 0) hx hb dX7_measure_120 (by decide) ?_
        refine lv_iload_n hx hb dX7_measure_121 rfl (lv_at hl 1 rfl) ?_
        refine th_iast E hT_c92 hS_c92 h_2 ⟨_, h_2, by decide⟩ (by decide) (vp_in_iff.mpr ⟨by decide, by decide⟩) dX7_measure_122 (fun H_3 locs_3 hT_3 hU_3 hS_3 => ?_)
        refine lv_aload_n hx hb dX7_measure_123 rfl (lv_at hl 0 rfl) ?_
        refine lv_dup hx hb dX7_measure_124 rfl ?_
        refine gf_X7_31 E hT_3 ha0 dX7_measure_125 ?_
        refine th_topi (y := fi D 7 5 H_c92 a0) (fi_q (hU_3.2 _ (th_ne ha0 h_2 (by decide)))) ?_
        refine lv_topi (fun x_4 ex_4 => ?_)
        refine lv_iconst (v := 1) hx hb dX7_measure_128 (by decide) ?_
        refine lv_iadd hx hb dX7_measure_129 ?_
        refine lv_topi (fun x_5 ex_5 => ?_)
        refine pf_X7_31 E hT_3 hS_3 ha0 ⟨_, ha0, by decide⟩ dX7_measure_130 (fun H_6 locs_6 hT_6 hU_6 hS_6 => ?_)
        exact th_vret E hr hlk hs hT_6 hS_6 trivial dX7_measure_133
      · have f_1 : 0 < y92_2.toInt := r_nle rfl (by decide) c_1
        refine lv_aload_n hx hb dX7_measure_96 rfl (lv_at hl 0 rfl) ?_
        refine gf_X7_9 E hT_c92 hW ha0 dX7_measure_97 (fun h_7 => ?_)
        refine lv_iload_n hx hb dX7_measure_100 rfl (lv_at hl 2 rfl) ?_
        refine lv_aload_n hx hb dX7_measure_101 rfl (lv_at hl 0 rfl) ?_
        refine gf_X7_9 E hT_c92 hW ha0 dX7_measure_102 (fun h_8 => ?_)
        refine lv_iload_n hx hb dX7_measure_105 rfl (lv_at hl 2 rfl) ?_
        refine lv_iconst (v := 1) hx hb dX7_measure_106 (by decide) ?_
        refine lv_isub hx hb dX7_measure_107 ?_
        refine lv_topi (fun x_9 ex_9 => ?_)
        have q_9 : x_9.toInt = y92_2.toInt - 1 := i_mi rfl (by decide) ex_9 (by omega) (by omega)
        refine th_iald E hT_c92 h_8 (by decide) (vp_in_iff.mpr ⟨by omega, by omega⟩) dX7_measure_108 ?_
        refine lv_topi (fun x_10 ex_10 => ?_)
        refine th_iast E hT_c92 hS_c92 h_7 ⟨_, h_7, by decide⟩ (by decide) (vp_in_iff.mpr ⟨by omega, by omega⟩) dX7_measure_109 (fun H_11 locs_11 hT_11 hU_11 hS_11 => ?_)
        obtain ⟨x_12, ex_12⟩ : ∃ y : Int32, y92_2 + (-1) = y := ⟨_, rfl⟩
        have q_x_12 : x_12.toInt = y92_2.toInt + -1 := i_add (k := -1) (by decide) ex_12 (by have := i_min y92_2; omega) (by have := i_max y92_2; omega)
        refine lv_iinc (v := x_12) (lv' := [(2, .int x_12), (0, .ref a0), (1, .int x0)]) hx hb dX7_measure_110 hl (k := 2) rfl (by rw [← ex_12]; rfl) (by decide) rfl (fun ls hl => ?_)
        refine lv_goto (tgt := 92) hx hb dX7_measure_113 (by decide) ?_
        exact ih_92 H_11 locs_11 _ x_12 hT_11 hS_11 (lv_sub hl [1, 2, 0] rfl) (by omega) (by omega)
  have J_65 : ∀ (H_c65 : Heap) (lc_c65 : List Loc) (ls : Array Slot), TH D cI cS τ ρ H_c65 → SS (AT τ [7, 106]) H H_c65 lc_c65 → lv_has ls 3 [(0, .ref a0), (1, .int x0)] → W p l e (rmO 1 15) s m args below meth c H_c65 lc_c65 0 0 (MQ below (va_Qv (fun (u : Heap) => True) (Bt D cI cS τ ρ H) (AT τ [7, 106])) args s 0 0 (AT τ [7, 106])) (F0 m 65 ls []) := by
    intro H_c65 lc_c65 ls hT_c65 hS_c65 hl
    refine lv_aload_n hx hb dX7_measure_65 rfl (lv_at hl 0 rfl) ?_
    refine lv_iconst (v := 2) hx hb dX7_measure_66 (by decide) ?_
    refine lv_bipush (v := 64) hx hb dX7_measure_67 (by decide) ?_
    refine lv_aload_n hx hb dX7_measure_69 rfl (lv_at hl 0 rfl) ?_
    refine gf_X7_19 E hT_c65 ha0 dX7_measure_70 ?_
    refine lv_topi (fun x_13 ex_13 => ?_)
    refine lv_bipush (v := 8) hx hb dX7_measure_73 (by decide) ?_
    refine lv_idiv hx hb dX7_measure_75 (by decide) ?_
    refine lv_topi (fun x_14 ex_14 => ?_)
    refine lv_aload_n hx hb dX7_measure_76 rfl (lv_at hl 0 rfl) ?_
    refine gf_X7_22 E hT_c65 ha0 dX7_measure_77 ?_
    refine lv_topi (fun x_15 ex_15 => ?_)
    refine lv_iadd hx hb dX7_measure_80 ?_
    refine lv_topi (fun x_16 ex_16 => ?_)
    refine mm_X7_54 E hml hl.1 (by decide) (Nat.le_of_ble_eq_true rfl) ⟨by decide, by decide⟩ dX7_measure_81 ?_
    refine lv_topi (fun x_17 ex_17 => ?_)
    have q_17 := i_minq (x := (64 : Int32)) (y := x_16) (a := 64) (b := x_16.toInt) (by decide) rfl ex_17
    refine mm_X7_40 E hml hl.1 (by decide) (Nat.le_of_ble_eq_true rfl) ⟨by decide, by decide⟩ dX7_measure_84 ?_
    refine lv_topi (fun x_18 ex_18 => ?_)
    have q_18 := i_maxq (x := (2 : Int32)) (y := x_17) (a := 2) (b := x_17.toInt) (by decide) rfl ex_18
    refine pf_X7_15 E hT_c65 hS_c65 ha0 ⟨_, ha0, by decide⟩ dX7_measure_87 (fun H_19 locs_19 hT_19 hU_19 hS_19 => ?_)
    refine lv_iconst (v := 5) hx hb dX7_measure_90 (by decide) ?_
    refine lv_istore_n (lv' := [(2, .int 5), (0, .ref a0), (1, .int x0)]) hx hb dX7_measure_91 rfl hl (by decide) rfl (fun ls hl => ?_)
    exact L_92 _ H_19 locs_19 _ 5 hT_19 hS_19 (lv_sub hl [1, 2, 0] rfl) (by decide) (Nat.lt_succ_self _)
  refine lv_aload_n hx hb dX7_measure_0 rfl (lv_at hl 0 rfl) ?_
  refine gf_X7_31 E hT ha0 dX7_measure_1 ?_
  refine lv_topi (fun x_20 ex_20 => ?_)
  refine lv_if_ne (tgt := 25) hx hb dX7_measure_4 (by decide) (fun c_21 => ?_) (fun c_21 => ?_)
  · have f_21 : ¬ x_20.toInt = 0 := r_ne rfl (by decide) c_21
    have nz_x_20 : ¬ x_20 = 0 := c_21
    refine lv_iload_n hx hb dX7_measure_25 rfl (lv_at hl 1 rfl) ?_
    refine lv_aload_n hx hb dX7_measure_26 rfl (lv_at hl 0 rfl) ?_
    refine gf_X7_19 E hT ha0 dX7_measure_27 ?_
    refine lv_topi (fun x_22 ex_22 => ?_)
    refine lv_bipush (v := 8) hx hb dX7_measure_30 (by decide) ?_
    refine lv_idiv hx hb dX7_measure_32 (by decide) ?_
    refine lv_topi (fun x_23 ex_23 => ?_)
    refine lv_isub hx hb dX7_measure_33 ?_
    refine lv_topi (fun x_24 ex_24 => ?_)
    refine lv_istore_n (lv' := [(2, .int x_24), (0, .ref a0), (1, .int x0)]) hx hb dX7_measure_34 rfl hl (by decide) rfl (fun ls hl => ?_)
    refine lv_aload_n hx hb dX7_measure_35 rfl (lv_at hl 1 rfl) ?_
    refine lv_dup hx hb dX7_measure_36 rfl ?_
    refine gf_X7_19 E hT ha0 dX7_measure_37 ?_
    refine th_topi (y := x_22) ex_22.symm ?_
    refine lv_iload_n hx hb dX7_measure_40 rfl (lv_at hl 0 rfl) ?_
    refine lv_iadd hx hb dX7_measure_41 ?_
    refine lv_topi (fun x_25 ex_25 => ?_)
    refine pf_X7_19 E hT hS ha0 ⟨_, ha0, by decide⟩ dX7_measure_42 (fun H_26 locs_26 hT_26 hU_26 hS_26 => ?_)
    refine lv_aload_n hx hb dX7_measure_45 rfl (lv_at hl 1 rfl) ?_
    refine lv_dup hx hb dX7_measure_46 rfl ?_
    refine gf_X7_22 E hT_26 ha0 dX7_measure_47 ?_
    refine th_topi (y := fi D 7 2 H a0) (PU.io hU_26 (j := 2) (by decide) (by decide)) ?_
    refine lv_topi (fun x_27 ex_27 => ?_)
    refine lv_iload_n hx hb dX7_measure_50 rfl (lv_at hl 0 rfl) ?_
    refine mabs_X7_50 E hml hl.1 (by decide) (Nat.le_of_ble_eq_true rfl) ⟨by decide, by decide⟩ dX7_measure_51 ?_
    refine lv_topi (fun x_28 ex_28 => ?_)
    refine lv_aload_n hx hb dX7_measure_54 rfl (lv_at hl 1 rfl) ?_
    refine gf_X7_22 E hT_26 ha0 dX7_measure_55 ?_
    refine th_topi (y := x_27) ((PU.io hU_26 (j := 2) (by decide) (by decide)).trans ex_27.symm) ?_
    refine lv_iconst (v := 4) hx hb dX7_measure_58 (by decide) ?_
    refine lv_idiv hx hb dX7_measure_59 (by decide) ?_
    refine lv_topi (fun x_29 ex_29 => ?_)
    refine lv_isub hx hb dX7_measure_60 ?_
    refine lv_topi (fun x_30 ex_30 => ?_)
    refine lv_iadd hx hb dX7_measure_61 ?_
    refine lv_topi (fun x_31 ex_31 => ?_)
    refine pf_X7_22 E hT_26 hS_26 ha0 ⟨_, ha0, by decide⟩ dX7_measure_62 (fun H_32 locs_32 hT_32 hU_32 hS_32 => ?_)
    exact J_65 H_32 locs_32 _ hT_32 hS_32 (lv_sub hl [1, 2] rfl)
  · have f_21 : x_20.toInt = 0 := r_eq rfl (by decide) c_21
    refine lv_aload_n hx hb dX7_measure_7 rfl (lv_at hl 0 rfl) ?_
    refine lv_bipush (v := 8) hx hb dX7_measure_8 (by decide) ?_
    refine lv_iload_n hx hb dX7_measure_10 rfl (lv_at hl 1 rfl) ?_
    refine lv_imul hx hb dX7_measure_11 ?_
    refine lv_topi (fun x_33 ex_33 => ?_)
    refine pf_X7_19 E hT hS ha0 ⟨_, ha0, by decide⟩ dX7_measure_12 (fun H_34 locs_34 hT_34 hU_34 hS_34 => ?_)
    refine lv_aload_n hx hb dX7_measure_15 rfl (lv_at hl 0 rfl) ?_
    refine lv_iconst (v := 2) hx hb dX7_measure_16 (by decide) ?_
    refine lv_iload_n hx hb dX7_measure_17 rfl (lv_at hl 1 rfl) ?_
    refine lv_imul hx hb dX7_measure_18 ?_
    refine lv_topi (fun x_35 ex_35 => ?_)
    refine pf_X7_22 E hT_34 hS_34 ha0 ⟨_, ha0, by decide⟩ dX7_measure_19 (fun H_36 locs_36 hT_36 hU_36 hS_36 => ?_)
    refine lv_goto (tgt := 65) hx hb dX7_measure_22 (by decide) ?_
    exact J_65 H_36 locs_36 _ hT_36 hS_36 hl
set_option maxHeartbeats 4000000 in
set_option maxRecDepth 100000 in
/-- StreamEnds$RoundTrips.acknowledge: it ends, and the heap stays typed -/
theorem z_X7_acknowledge (l : Launch) (D : va_G) (cI cS : ClassId) (τ : Nat → Option Nat) (ρ : Nat → Nat → Nat) (hW : WF τ ρ) (H : Heap) (hT : TH D cI cS τ ρ H) (a0 : Nat) (x0 : Int32) (x1 : Int32) (ha0 : τ a0 = some 7) : MV l D cI cS τ ρ yX7_acknowledge cX7_acknowledge 3 none 2 37 H [.ref a0, .int x0, .int x1] (fun (u : Heap) => True) (AT τ [7, 106]) := by
  refine MV.of (by decide) (Nat.le_of_ble_eq_true rfl) ?_
  intro p e s m args below meth c E hml hr hlk hs ls hl
  have hx := E.1
  have hb := E.2.1
  have hown := E.2.2.1
  have hts := E.2.2.2.1
  have hS : SS (AT τ [7, 106]) H H [] := SS.rf
  have hl : lv_has ls 3 [(0, .ref a0), (1, .int x0), (2, .int x1)] := hl
  refine lv_aload_n hx hb dX7_acknowledge_0 rfl (lv_at hl 0 rfl) ?_
  refine gf_X7_25 E hT ha0 dX7_acknowledge_1 ?_
  refine lv_topi (fun x_1 ex_1 => ?_)
  refine lv_bipush (v := (-4)) hx hb dX7_acknowledge_4 (by decide) ?_
  refine lv_icmp_eq (tgt := 37) hx hb dX7_acknowledge_6 (by decide) (fun c_2 => ?_) (fun c_2 => ?_)
  · have f_2 : x_1.toInt = -4 := r_eq rfl (by decide) c_2
    exact th_vret E hr hlk hs hT hS trivial dX7_acknowledge_37
  · have f_2 : ¬ x_1.toInt = -4 := r_ne rfl (by decide) c_2
    refine lv_iload_n hx hb dX7_acknowledge_9 rfl (lv_at hl 1 rfl) ?_
    refine lv_aload_n hx hb dX7_acknowledge_10 rfl (lv_at hl 0 rfl) ?_
    refine gf_X7_25 E hT ha0 dX7_acknowledge_11 ?_
    refine th_topi (y := x_1) ex_1.symm ?_
    refine lv_icmp_le (tgt := 37) hx hb dX7_acknowledge_14 (by decide) (fun c_3 => ?_) (fun c_3 => ?_)
    · have f_3 : x0.toInt ≤ x_1.toInt := r_le rfl rfl c_3
      exact th_vret E hr hlk hs hT hS trivial dX7_acknowledge_37
    · have f_3 : x_1.toInt < x0.toInt := r_nle rfl rfl c_3
      refine lv_aload_n hx hb dX7_acknowledge_17 rfl (lv_at hl 0 rfl) ?_
      refine lv_iconst (v := 1) hx hb dX7_acknowledge_18 (by decide) ?_
      refine lv_iload_n hx hb dX7_acknowledge_19 rfl (lv_at hl 2 rfl) ?_
      refine lv_aload_n hx hb dX7_acknowledge_20 rfl (lv_at hl 0 rfl) ?_
      refine gf_X7_28 E hT ha0 dX7_acknowledge_21 ?_
      refine lv_topi (fun x_4 ex_4 => ?_)
      refine lv_isub hx hb dX7_acknowledge_24 ?_
      refine lv_topi (fun x_5 ex_5 => ?_)
      refine mm_X7_40 E hml hl.1 (by decide) (Nat.le_of_ble_eq_true rfl) ⟨by decide, by decide⟩ dX7_acknowledge_25 ?_
      refine lv_topi (fun x_6 ex_6 => ?_)
      have q_6 := i_maxq (x := (1 : Int32)) (y := x_5) (a := 1) (b := x_5.toInt) (by decide) rfl ex_6
      refine th_Vv (As := [.int x_6]) (rest := []) E hml hl.1 (z_X7_measure l D cI cS τ ρ hW H hT a0 x_6 ha0) lk_X7_46 yd_X7_measure hT ha0 rfl (by decide) hS (AT.sub (by decide)) ⟨by decide, by decide⟩ (Nat.le_of_ble_eq_true rfl) ⟨by decide, by decide⟩ rfl dX7_acknowledge_28 (fun H_7 locs_7 p_7 hT_7 hk_7 hS_7 => ?_)
      refine lv_aload_n hx hb dX7_acknowledge_31 rfl (lv_at hl 0 rfl) ?_
      refine lv_bipush (v := (-4)) hx hb dX7_acknowledge_32 (by decide) ?_
      refine pf_X7_25 E hT_7 hS_7 ha0 ⟨_, ha0, by decide⟩ dX7_acknowledge_34 (fun H_8 locs_8 hT_8 hU_8 hS_8 => ?_)
      exact th_vret E hr hlk hs hT_8 hS_8 trivial dX7_acknowledge_37
set_option maxHeartbeats 4000000 in
set_option maxRecDepth 100000 in
/-- StreamEnds$Outgoing.mark: it ends, and the heap stays typed -/
theorem z_X5_mark (l : Launch) (D : va_G) (cI cS : ClassId) (τ : Nat → Option Nat) (ρ : Nat → Nat → Nat) (hW : WF τ ρ) (H : Heap) (hT : TH D cI cS τ ρ H) (a0 : Nat) (x0 : Int32) (x1 : Int32) (ha0 : τ a0 = some 5) : MV l D cI cS τ ρ yX5_mark cX5_mark 5 none 1 13 H [.ref a0, .int x0, .int x1] (fun (u : Heap) => True) (AT τ [5]) := by
  refine MV.of (by decide) (Nat.le_of_ble_eq_true rfl) ?_
  intro p e s m args below meth c E hml hr hlk hs ls hl
  have hx := E.1
  have hb := E.2.1
  have hown := E.2.2.1
  have hts := E.2.2.2.1
  have hS : SS (AT τ [5]) H H [] := SS.rf
  have hl : lv_has ls 5 [(0, .ref a0), (1, .int x0), (2, .int x1)] := hl
  have L_19 : ∀ (n : Nat) (H_c19 : Heap) (lc_c19 : List Loc) (ls : Array Slot) (y19_3 : Int32) (y19_4 : Int32), TH D cI cS τ ρ H_c19 → SS (AT τ [5]) H H_c19 lc_c19 → lv_has ls 5 [(0, .ref a0), (1, .int x0), (2, .int x1), (3, .int y19_3), (4, .int y19_4)] → (y19_3.toInt - y19_4.toInt).toNat < n → W p l e (rmO 1 13) s m args below meth c H_c19 lc_c19 0 0 (MQ below (va_Qv (fun (u : Heap) => True) (Bt D cI cS τ ρ H) (AT τ [5])) args s 0 0 (AT τ [5])) (F0 m 19 ls []) := by
    intro n
    induction n with
    | zero => intro H_c19 lc_c19 ls y19_3 y19_4 hT_c19 hS_c19 hl hm; exact absurd hm (Nat.not_lt_zero _)
    | succ n ih_19 =>
      intro H_c19 lc_c19 ls y19_3 y19_4 hT_c19 hS_c19 hl hm_19
      refine lv_iload hx hb dX5_mark_19 (lv_at hl 4 rfl) ?_
      refine lv_iload_n hx hb dX5_mark_21 rfl (lv_at hl 3 rfl) ?_
      refine lv_icmp_ge (tgt := 44) hx hb dX5_mark_22 (by decide) (fun c_1 => ?_) (fun c_1 => ?_)
      · have f_1 : y19_3.toInt ≤ y19_4.toInt := r_le rfl rfl c_1
        exact th_vret E hr hlk hs hT_c19 hS_c19 trivial dX5_mark_44
      · have f_1 : y19_4.toInt < y19_3.toInt := r_nle rfl rfl c_1
        refine lv_aload_n hx hb dX5_mark_25 rfl (lv_at hl 0 rfl) ?_
        refine lv_dup hx hb dX5_mark_26 rfl ?_
        refine gf_X5_35 E hT_c19 ha0 dX5_mark_27 ?_
        refine lv_topl (fun x_2 ex_2 => ?_)
        refine lv_lconst (v := 1) hx hb dX5_mark_30 (by decide) ?_
        refine lv_iload hx hb dX5_mark_31 (lv_at hl 4 rfl) ?_
        obtain ⟨x_3, ex_3⟩ : ∃ y : Int64, (1 : Int64) <<< (y19_4.toInt64 &&& 63) = y := ⟨_, rfl⟩
        refine lv_lshl (v := x_3) hx hb dX5_mark_33 ex_3 ?_
        refine lv_lor hx hb dX5_mark_34 ?_
        refine lv_topl (fun x_4 ex_4 => ?_)
        refine pf_X5_35 E hT_c19 hS_c19 ha0 ⟨_, ha0, by decide⟩ dX5_mark_35 (fun H_5 locs_5 hT_5 hU_5 hS_5 => ?_)
        obtain ⟨x_6, ex_6⟩ : ∃ y : Int32, y19_4 + 1 = y := ⟨_, rfl⟩
        have q_x_6 : x_6.toInt = y19_4.toInt + 1 := i_add (k := 1) (by decide) ex_6 (by have := i_min y19_4; omega) (by have := i_max y19_4; have := i_max y19_3; omega)
        refine lv_iinc (v := x_6) (lv' := [(4, .int x_6), (0, .ref a0), (1, .int x0), (2, .int x1), (3, .int y19_3)]) hx hb dX5_mark_38 hl (k := 4) rfl (by rw [← ex_6]; rfl) (by decide) rfl (fun ls hl => ?_)
        refine lv_goto (tgt := 19) hx hb dX5_mark_41 (by decide) ?_
        exact ih_19 H_5 locs_5 _ y19_3 x_6 hT_5 hS_5 (lv_sub hl [1, 2, 3, 4, 0] rfl) (by omega)
  refine lv_iload_n hx hb dX5_mark_0 rfl (lv_at hl 2 rfl) ?_
  refine lv_aload_n hx hb dX5_mark_1 rfl (lv_at hl 0 rfl) ?_
  refine gf_X5_19 E hT ha0 dX5_mark_2 ?_
  refine lv_topi (fun x_7 ex_7 => ?_)
  refine mm_X5_55 E hml hl.1 (by decide) (Nat.le_of_ble_eq_true rfl) ⟨by decide, by decide⟩ dX5_mark_5 ?_
  refine lv_topi (fun x_8 ex_8 => ?_)
  have q_8 := i_minq (x := x1) (y := x_7) (a := x1.toInt) (b := x_7.toInt) rfl rfl ex_8
  refine lv_istore_n (lv' := [(3, .int x_8), (0, .ref a0), (1, .int x0), (2, .int x1)]) hx hb dX5_mark_8 rfl hl (by decide) rfl (fun ls hl => ?_)
  refine lv_iload_n hx hb dX5_mark_9 rfl (lv_at hl 2 rfl) ?_
  refine lv_aload_n hx hb dX5_mark_10 rfl (lv_at hl 1 rfl) ?_
  refine gf_X5_15 E hT ha0 dX5_mark_11 ?_
  refine lv_topi (fun x_9 ex_9 => ?_)
  refine mm_X5_45 E hml hl.1 (by decide) (Nat.le_of_ble_eq_true rfl) ⟨by decide, by decide⟩ dX5_mark_14 ?_
  refine lv_topi (fun x_10 ex_10 => ?_)
  have q_10 := i_maxq (x := x0) (y := x_9) (a := x0.toInt) (b := x_9.toInt) rfl rfl ex_10
  refine lv_istore (lv' := [(4, .int x_10), (3, .int x_8), (0, .ref a0), (1, .int x0), (2, .int x1)]) hx hb dX5_mark_17 hl (by decide) rfl (fun ls hl => ?_)
  exact L_19 _ H [] _ x_8 x_10 hT hS (lv_sub hl [2, 3, 4, 1, 0] rfl) (Nat.lt_succ_self _)
set_option maxHeartbeats 4000000 in
set_option maxRecDepth 100000 in
/-- StreamEnds$Receiver.acknowledge: it ends, and the heap stays typed -/
theorem z_X6_acknowledge (l : Launch) (D : va_G) (cI cS : ClassId) (τ : Nat → Option Nat) (ρ : Nat → Nat → Nat) (hW : WF τ ρ) (H : Heap) (hT : TH D cI cS τ ρ H) (a0 : Nat) (a1 : Nat) (x0 : Int32) (ha0 : τ a0 = some 6) (ha1 : τ a1 = some 8) : MV l D cI cS τ ρ yX6_acknowledge cX6_acknowledge 5 none 3 67 H [.ref a0, .ref a1, .int x0] (fun (u : Heap) => True) (AT τ [2, 5, 7, 106]) := by
  refine MV.of (by decide) (Nat.le_of_ble_eq_true rfl) ?_
  intro p e s m args below meth c E hml hr hlk hs ls hl
  have hx := E.1
  have hb := E.2.1
  have hown := E.2.2.1
  have hts := E.2.2.2.1
  have hS : SS (AT τ [2, 5, 7, 106]) H H [] := SS.rf
  have hl : lv_has ls 5 [(0, .ref a0), (1, .ref a1), (2, .int x0)] := hl
  have J_106 : ∀ (H_c106 : Heap) (lc_c106 : List Loc) (ls : Array Slot) (y106_4 : Int32), TH D cI cS τ ρ H_c106 → SS (AT τ [2, 5, 7, 106]) H H_c106 lc_c106 → lv_has ls 5 [(0, .ref a0), (1, .ref a1), (2, .int x0), (3, .ref (ρ (ρ a0 0) 4)), (4, .int y106_4)] → 0 ≤ y106_4.toInt → W p l e (rmO 3 67) s m args below meth c H_c106 lc_c106 0 0 (MQ below (va_Qv (fun (u : Heap) => True) (Bt D cI cS τ ρ H) (AT τ [2, 5, 7, 106])) args s 0 0 (AT τ [2, 5, 7, 106])) (F0 m 106 ls []) := by
    intro H_c106 lc_c106 ls y106_4 hT_c106 hS_c106 hl ly106_4
    refine lv_aload_n hx hb dX6_acknowledge_106 rfl (lv_at hl 3 rfl) ?_
    refine lv_aload_n hx hb dX6_acknowledge_107 rfl (lv_at hl 3 rfl) ?_
    refine gf_X6_184 E hT_c106 (hW _ 2 4 (hW _ 6 0 ha0 (by decide) (by decide) (by decide)) (by decide) (by decide) (by decide)) dX6_acknowledge_108 ?_
    refine lv_topi (fun x_1 ex_1 => ?_)
    refine lv_iload_n hx hb dX6_acknowledge_111 rfl (lv_at hl 2 rfl) ?_
    refine lv_aload_n hx hb dX6_acknowledge_112 rfl (lv_at hl 1 rfl) ?_
    refine gf_X6_187 E hT_c106 ha1 dX6_acknowledge_113 ?_
    refine lv_topi (fun x_2 ex_2 => ?_)
    refine lv_iadd hx hb dX6_acknowledge_116 ?_
    refine lv_topi (fun x_3 ex_3 => ?_)
    refine mm_X6_135 E hml hl.1 (by decide) (Nat.le_of_ble_eq_true rfl) ⟨by decide, by decide⟩ dX6_acknowledge_117 ?_
    refine lv_topi (fun x_4 ex_4 => ?_)
    have q_4 := i_maxq (x := x_1) (y := x_3) (a := x_1.toInt) (b := x_3.toInt) rfl rfl ex_4
    refine pf_X6_184 E hT_c106 hS_c106 (hW _ 2 4 (hW _ 6 0 ha0 (by decide) (by decide) (by decide)) (by decide) (by decide) (by decide)) ⟨_, (hW _ 2 4 (hW _ 6 0 ha0 (by decide) (by decide) (by decide)) (by decide) (by decide) (by decide)), by decide⟩ dX6_acknowledge_120 (fun H_5 locs_5 hT_5 hU_5 hS_5 => ?_)
    exact th_vret E hr hlk hs hT_5 hS_5 trivial dX6_acknowledge_123
  have L_53 : ∀ (n : Nat) (H_c53 : Heap) (lc_c53 : List Loc) (ls : Array Slot) (y53_4 : Int32), TH D cI cS τ ρ H_c53 → SS (AT τ [2, 5, 7, 106]) H H_c53 lc_c53 → lv_has ls 5 [(0, .ref a0), (1, .ref a1), (2, .int x0), (3, .ref (ρ (ρ a0 0) 4)), (4, .int y53_4)] → 0 ≤ y53_4.toInt → (2 - y53_4.toInt).toNat < n → W p l e (rmO 3 67) s m args below meth c H_c53 lc_c53 0 0 (MQ below (va_Qv (fun (u : Heap) => True) (Bt D cI cS τ ρ H) (AT τ [2, 5, 7, 106])) args s 0 0 (AT τ [2, 5, 7, 106])) (F0 m 53 ls []) := by
    intro n
    induction n with
    | zero => intro H_c53 lc_c53 ls y53_4 hT_c53 hS_c53 hl ly53_4 hm; exact absurd hm (Nat.not_lt_zero _)
    | succ n ih_53 =>
      intro H_c53 lc_c53 ls y53_4 hT_c53 hS_c53 hl ly53_4 hm_53
      refine lv_iload hx hb dX6_acknowledge_53 (lv_at hl 4 rfl) ?_
      refine lv_aload_n hx hb dX6_acknowledge_55 rfl (lv_at hl 1 rfl) ?_
      refine gf_X6_174 E hT_c53 ha1 dX6_acknowledge_56 ?_
      refine lv_topi (fun x_6 ex_6 => ?_)
      refine lv_icmp_ge (tgt := 106) hx hb dX6_acknowledge_59 (by decide) (fun c_7 => ?_) (fun c_7 => ?_)
      · have f_7 : x_6.toInt ≤ y53_4.toInt := r_le rfl rfl c_7
        exact J_106 H_c53 lc_c53 _ y53_4 hT_c53 hS_c53 hl (by omega)
      · have f_7 : y53_4.toInt < x_6.toInt := r_nle rfl rfl c_7
        refine lv_iload hx hb dX6_acknowledge_62 (lv_at hl 4 rfl) ?_
        refine lv_iconst (v := 2) hx hb dX6_acknowledge_64 (by decide) ?_
        refine lv_icmp_ge (tgt := 106) hx hb dX6_acknowledge_65 (by decide) (fun c_8 => ?_) (fun c_8 => ?_)
        · have f_8 : 2 ≤ y53_4.toInt := r_le (by decide) rfl c_8
          exact J_106 H_c53 lc_c53 _ y53_4 hT_c53 hS_c53 hl (by omega)
        · have f_8 : y53_4.toInt < 2 := r_nle (by decide) rfl c_8
          refine lv_aload_n hx hb dX6_acknowledge_68 rfl (lv_at hl 3 rfl) ?_
          refine lv_aload_n hx hb dX6_acknowledge_69 rfl (lv_at hl 0 rfl) ?_
          refine lv_aload_n hx hb dX6_acknowledge_70 rfl (lv_at hl 1 rfl) ?_
          refine gf_X6_177 E hT_c53 hW ha1 dX6_acknowledge_71 (fun h_9 => ?_)
          refine lv_iconst (v := 2) hx hb dX6_acknowledge_74 (by decide) ?_
          refine lv_iload hx hb dX6_acknowledge_75 (lv_at hl 4 rfl) ?_
          refine lv_imul hx hb dX6_acknowledge_77 ?_
          refine lv_topi (fun x_10 ex_10 => ?_)
          have q_10 : x_10.toInt = 2 * y53_4.toInt := i_ml (by decide) rfl ex_10 (by omega) (by omega)
          refine th_iald E hT_c53 h_9 (by decide) (vp_in_iff.mpr ⟨by omega, by omega⟩) dX6_acknowledge_78 ?_
          refine lv_topi (fun x_11 ex_11 => ?_)
          refine th_Vi (As := [.int x_11]) (rest := [.ref (ρ (ρ a0 0) 4)]) E hml hl.1 (z_X6_ownPlace l D cI cS τ ρ hW H_c53 hT_c53 a0 x_11 ha0) lk_X6_67 yd_X6_ownPlace hT_c53 ha0 rfl (by decide) hS_c53 (AT.sub (by decide)) ⟨by decide, by decide⟩ (Nat.le_of_ble_eq_true rfl) ⟨by decide, by decide⟩ rfl dX6_acknowledge_79 (fun r_12 H_12 locs_12 p_12 hT_12 hk_12 hS_12 => ?_)
          refine lv_aload_n hx hb dX6_acknowledge_82 rfl (lv_at hl 0 rfl) ?_
          refine lv_aload_n hx hb dX6_acknowledge_83 rfl (lv_at hl 1 rfl) ?_
          refine gf_X6_177 E hT_12 hW ha1 dX6_acknowledge_84 (fun h_13 => ?_)
          refine lv_iconst (v := 2) hx hb dX6_acknowledge_87 (by decide) ?_
          refine lv_iload hx hb dX6_acknowledge_88 (lv_at hl 4 rfl) ?_
          refine lv_imul hx hb dX6_acknowledge_90 ?_
          refine lv_topi (fun x_14 ex_14 => ?_)
          have q_14 : x_14.toInt = 2 * y53_4.toInt := i_ml (by decide) rfl ex_14 (by omega) (by omega)
          refine lv_iconst (v := 1) hx hb dX6_acknowledge_91 (by decide) ?_
          refine lv_iadd hx hb dX6_acknowledge_92 ?_
          refine lv_topi (fun x_15 ex_15 => ?_)
          have q_15 : x_15.toInt = x_14.toInt + 1 := i_pl rfl (by decide) ex_15 (by omega) (by omega)
          refine th_iald E hT_12 h_13 (by decide) (vp_in_iff.mpr ⟨by omega, by omega⟩) dX6_acknowledge_93 ?_
          refine lv_topi (fun x_16 ex_16 => ?_)
          refine th_Vi (As := [.int x_16]) (rest := [.int r_12, .ref (ρ (ρ a0 0) 4)]) E hml hl.1 (z_X6_ownPlace l D cI cS τ ρ hW H_12 hT_12 a0 x_16 ha0) lk_X6_67 yd_X6_ownPlace hT_12 ha0 rfl (by decide) hS_12 (AT.sub (by decide)) ⟨by decide, by decide⟩ (Nat.le_of_ble_eq_true rfl) ⟨by decide, by decide⟩ rfl dX6_acknowledge_94 (fun r_17 H_17 locs_17 p_17 hT_17 hk_17 hS_17 => ?_)
          refine th_Vv (As := [.int r_12, .int r_17]) (rest := []) E hml hl.1 (z_X5_mark l D cI cS τ ρ hW H_17 hT_17 (ρ (ρ a0 0) 4) r_12 r_17 (hW _ 2 4 (hW _ 6 0 ha0 (by decide) (by decide) (by decide)) (by decide) (by decide) (by decide))) lk_X6_181 yd_X5_mark hT_17 (hW _ 2 4 (hW _ 6 0 ha0 (by decide) (by decide) (by decide)) (by decide) (by decide) (by decide)) rfl (by decide) hS_17 (AT.sub (by decide)) ⟨by decide, by decide⟩ (Nat.le_of_ble_eq_true rfl) ⟨by decide, by decide⟩ rfl dX6_acknowledge_97 (fun H_18 locs_18 p_18 hT_18 hk_18 hS_18 => ?_)
          obtain ⟨x_19, ex_19⟩ : ∃ y : Int32, y53_4 + 1 = y := ⟨_, rfl⟩
          have q_x_19 : x_19.toInt = y53_4.toInt + 1 := i_add (k := 1) (by decide) ex_19 (by have := i_min y53_4; omega) (by have := i_max y53_4; omega)
          refine lv_iinc (v := x_19) (lv' := [(4, .int x_19), (0, .ref a0), (1, .ref a1), (2, .int x0), (3, .ref (ρ (ρ a0 0) 4))]) hx hb dX6_acknowledge_100 hl (k := 4) rfl (by rw [← ex_19]; rfl) (by decide) rfl (fun ls hl => ?_)
          refine lv_goto (tgt := 53) hx hb dX6_acknowledge_103 (by decide) ?_
          exact ih_53 H_18 locs_18 _ x_19 hT_18 hS_18 (lv_sub hl [1, 2, 3, 4, 0] rfl) (by omega) (by omega)
  have J_50 : ∀ (H_c50 : Heap) (lc_c50 : List Loc) (ls : Array Slot), TH D cI cS τ ρ H_c50 → SS (AT τ [2, 5, 7, 106]) H H_c50 lc_c50 → lv_has ls 5 [(0, .ref a0), (1, .ref a1), (2, .int x0), (3, .ref (ρ (ρ a0 0) 4))] → W p l e (rmO 3 67) s m args below meth c H_c50 lc_c50 0 0 (MQ below (va_Qv (fun (u : Heap) => True) (Bt D cI cS τ ρ H) (AT τ [2, 5, 7, 106])) args s 0 0 (AT τ [2, 5, 7, 106])) (F0 m 50 ls []) := by
    intro H_c50 lc_c50 ls hT_c50 hS_c50 hl
    refine lv_iconst (v := 0) hx hb dX6_acknowledge_50 (by decide) ?_
    refine lv_istore (lv' := [(4, .int 0), (0, .ref a0), (1, .ref a1), (2, .int x0), (3, .ref (ρ (ρ a0 0) 4))]) hx hb dX6_acknowledge_51 hl (by decide) rfl (fun ls hl => ?_)
    exact L_53 _ H_c50 lc_c50 _ 0 hT_c50 hS_c50 (lv_sub hl [1, 2, 3, 4, 0] rfl) (by decide) (Nat.lt_succ_self _)
  refine lv_aload_n hx hb dX6_acknowledge_0 rfl (lv_at hl 0 rfl) ?_
  refine gf_X6_18 E hT hW ha0 dX6_acknowledge_1 (fun h_20 => ?_)
  refine gf_X6_104 E hT hW h_20 dX6_acknowledge_4 (fun h_21 => ?_)
  refine lv_astore_n (lv' := [(3, .ref (ρ (ρ a0 0) 4)), (0, .ref a0), (1, .ref a1), (2, .int x0)]) hx hb dX6_acknowledge_7 rfl hl (by decide) rfl (fun ls hl => ?_)
  refine lv_iload_n hx hb dX6_acknowledge_8 rfl (lv_at hl 3 rfl) ?_
  refine lv_aload_n hx hb dX6_acknowledge_9 rfl (lv_at hl 0 rfl) ?_
  refine gf_X6_147 E hT h_21 dX6_acknowledge_10 ?_
  refine lv_topi (fun x_22 ex_22 => ?_)
  refine lv_icmp_le (tgt := 50) hx hb dX6_acknowledge_13 (by decide) (fun c_23 => ?_) (fun c_23 => ?_)
  · have f_23 : x0.toInt ≤ x_22.toInt := r_le rfl rfl c_23
    exact J_50 H [] _ hT hS (lv_sub hl [1, 2, 3, 0] rfl)
  · have f_23 : x_22.toInt < x0.toInt := r_nle rfl rfl c_23
    refine lv_aload_n hx hb dX6_acknowledge_16 rfl (lv_at hl 0 rfl) ?_
    refine lv_iload_n hx hb dX6_acknowledge_17 rfl (lv_at hl 3 rfl) ?_
    refine th_Vv (As := [.int x0]) (rest := []) E hml hl.1 (z_X5_acknowledge l D cI cS τ ρ hW H hT (ρ (ρ a0 0) 4) x0 h_21) lk_X6_150 yd_X5_acknowledge hT h_21 rfl (by decide) hS (AT.sub (by decide)) ⟨by decide, by decide⟩ (Nat.le_of_ble_eq_true rfl) ⟨by decide, by decide⟩ rfl dX6_acknowledge_18 (fun H_24 locs_24 p_24 hT_24 hk_24 hS_24 => ?_)
    refine lv_aload_n hx hb dX6_acknowledge_21 rfl (lv_at hl 1 rfl) ?_
    refine gf_X6_18 E hT_24 hW ha0 dX6_acknowledge_22 (fun h_25 => ?_)
    refine lv_iconst (v := 0) hx hb dX6_acknowledge_25 (by decide) ?_
    refine pf_X6_153 E hT_24 hS_24 h_25 ⟨_, h_25, by decide⟩ dX6_acknowledge_26 (fun H_26 locs_26 hT_26 hU_26 hS_26 => ?_)
    refine lv_aload_n hx hb dX6_acknowledge_29 rfl (lv_at hl 1 rfl) ?_
    refine gf_X6_18 E hT_26 hW ha0 dX6_acknowledge_30 (fun h_27 => ?_)
    refine gf_X6_156 E hT_26 hW h_27 dX6_acknowledge_33 (fun h_28 => ?_)
    refine lv_iload_n hx hb dX6_acknowledge_36 rfl (lv_at hl 3 rfl) ?_
    refine lv_aload_n hx hb dX6_acknowledge_37 rfl (lv_at hl 1 rfl) ?_
    refine gf_X6_18 E hT_26 hW ha0 dX6_acknowledge_38 (fun h_29 => ?_)
    refine gf_X6_160 E hT_26 hW h_29 dX6_acknowledge_41 (fun h_30 => ?_)
    refine gf_X6_164 E hT_26 h_30 dX6_acknowledge_44 ?_
    refine th_topi (y := fi D 0 0 H (ρ (ρ a0 0) 3)) (Eq.trans (fi_q (hU_26.2.2 _ (th_ne h_30 h_25 (by decide)))) (fi_q (hk_24 _ (AT.out h_30 (by decide))))) ?_
    refine lv_topi (fun x_31 ex_31 => ?_)
    refine th_Vv (As := [.int x0, .int x_31]) (rest := []) E hml hl.1 (z_X7_acknowledge l D cI cS τ ρ hW H_26 hT_26 (ρ (ρ a0 0) 6) x0 x_31 h_28) lk_X6_169 yd_X7_acknowledge hT_26 h_28 rfl (by decide) hS_26 (AT.sub (by decide)) ⟨by decide, by decide⟩ (Nat.le_of_ble_eq_true rfl) ⟨by decide, by decide⟩ rfl dX6_acknowledge_47 (fun H_32 locs_32 p_32 hT_32 hk_32 hS_32 => ?_)
    exact J_50 H_32 locs_32 _ hT_32 hS_32 (lv_sub hl [1, 2, 3, 0] rfl)
set_option maxHeartbeats 4000000 in
set_option maxRecDepth 100000 in
/-- StreamEnds$Receiver.receiveConnecting: it ends, and the heap stays typed -/
theorem z_X6_receiveConnecting (l : Launch) (D : va_G) (cI cS : ClassId) (τ : Nat → Option Nat) (ρ : Nat → Nat → Nat) (hW : WF τ ρ) (H : Heap) (hT : TH D cI cS τ ρ H) (a0 : Nat) (a1 : Nat) (ha0 : τ a0 = some 6) (ha1 : τ a1 = some 8) : MV l D cI cS τ ρ yX6_receiveConnecting cX6_receiveConnecting 2 none 4 99 H [.ref a0, .ref a1] (fun (u : Heap) => True) (AT τ [2, 3, 5, 6, 7, 8, 10, 104, 106, 108]) := by
  refine MV.of (by decide) (Nat.le_of_ble_eq_true rfl) ?_
  intro p e s m args below meth c E hml hr hlk hs ls hl
  have hx := E.1
  have hb := E.2.1
  have hown := E.2.2.1
  have hts := E.2.2.2.1
  have hS : SS (AT τ [2, 3, 5, 6, 7, 8, 10, 104, 106, 108]) H H [] := SS.rf
  have hl : lv_has ls 2 [(0, .ref a0), (1, .ref a1)] := hl
  have J_53 : ∀ (H_c53 : Heap) (lc_c53 : List Loc) (ls : Array Slot), TH D cI cS τ ρ H_c53 → SS (AT τ [2, 3, 5, 6, 7, 8, 10, 104, 106, 108]) H H_c53 lc_c53 → lv_has ls 2 [(0, .ref a0), (1, .ref a1)] → W p l e (rmO 4 99) s m args below meth c H_c53 lc_c53 0 0 (MQ below (va_Qv (fun (u : Heap) => True) (Bt D cI cS τ ρ H) (AT τ [2, 3, 5, 6, 7, 8, 10, 104, 106, 108])) args s 0 0 (AT τ [2, 3, 5, 6, 7, 8, 10, 104, 106, 108])) (F0 m 53 ls []) := by
    intro H_c53 lc_c53 ls hT_c53 hS_c53 hl
    refine lv_aload_n hx hb dX6_receiveConnecting_53 rfl (lv_at hl 1 rfl) ?_
    refine lv_bipush (v := 8) hx hb dX6_receiveConnecting_54 (by decide) ?_
    refine th_Vi (As := [.int 8]) (rest := []) E hml hl.1 (z_X8_has l D cI cS τ ρ hW H_c53 hT_c53 a1 8 ha1) lk_X6_43 yd_X8_has hT_c53 ha1 rfl (by decide) hS_c53 (AT.sub (by decide)) ⟨by decide, by decide⟩ (Nat.le_of_ble_eq_true rfl) ⟨by decide, by decide⟩ rfl dX6_receiveConnecting_56 (fun r_1 H_1 locs_1 p_1 hT_1 hk_1 hS_1 => ?_)
    have z_1 := b_iv p_1
    refine lv_if_eq (tgt := 88) hx hb dX6_receiveConnecting_59 (by decide) (fun c_2 => ?_) (fun c_2 => ?_)
    · have f_2 : r_1.toInt = 0 := r_eq rfl (by decide) c_2
      refine lv_aload_n hx hb dX6_receiveConnecting_88 rfl (lv_at hl 1 rfl) ?_
      refine lv_iconst (v := 1) hx hb dX6_receiveConnecting_89 (by decide) ?_
      refine th_Vi (As := [.int 1]) (rest := []) E hml hl.1 (z_X8_has l D cI cS τ ρ hW H_1 hT_1 a1 1 ha1) lk_X6_43 yd_X8_has hT_1 ha1 rfl (by decide) hS_1 (AT.sub (by decide)) ⟨by decide, by decide⟩ (Nat.le_of_ble_eq_true rfl) ⟨by decide, by decide⟩ rfl dX6_receiveConnecting_90 (fun r_3 H_3 locs_3 p_3 hT_3 hk_3 hS_3 => ?_)
      have z_3 := b_iv p_3
      refine lv_if_ne (tgt := 104) hx hb dX6_receiveConnecting_93 (by decide) (fun c_4 => ?_) (fun c_4 => ?_)
      · have f_4 : ¬ r_3.toInt = 0 := r_ne rfl (by decide) c_4
        have nz_r_3 : ¬ r_3 = 0 := c_4
        refine lv_aload_n hx hb dX6_receiveConnecting_104 rfl (lv_at hl 0 rfl) ?_
        refine gf_X6_18 E hT_3 hW ha0 dX6_receiveConnecting_105 (fun h_5 => ?_)
        refine gf_X6_52 E hT_3 hW h_5 dX6_receiveConnecting_108 (fun h_6 => ?_)
        refine lv_iconst (v := 1) hx hb dX6_receiveConnecting_111 (by decide) ?_
        refine pf_X6_56 E hT_3 hS_3 h_6 ⟨_, h_6, by decide⟩ dX6_receiveConnecting_112 (fun H_7 locs_7 hT_7 hU_7 hS_7 => ?_)
        refine lv_aload_n hx hb dX6_receiveConnecting_115 rfl (lv_at hl 1 rfl) ?_
        refine lv_iconst (v := 4) hx hb dX6_receiveConnecting_116 (by decide) ?_
        refine th_Vi (As := [.int 4]) (rest := []) E hml hl.1 (z_X8_has l D cI cS τ ρ hW H_7 hT_7 a1 4 ha1) lk_X6_43 yd_X8_has hT_7 ha1 rfl (by decide) hS_7 (AT.sub (by decide)) ⟨by decide, by decide⟩ (Nat.le_of_ble_eq_true rfl) ⟨by decide, by decide⟩ rfl dX6_receiveConnecting_117 (fun r_8 H_8 locs_8 p_8 hT_8 hk_8 hS_8 => ?_)
        have z_8 := b_iv p_8
        refine lv_if_eq (tgt := 154) hx hb dX6_receiveConnecting_120 (by decide) (fun c_9 => ?_) (fun c_9 => ?_)
        · have f_9 : r_8.toInt = 0 := r_eq rfl (by decide) c_9
          refine lv_aload_n hx hb dX6_receiveConnecting_154 rfl (lv_at hl 0 rfl) ?_
          refine gf_X6_18 E hT_8 hW ha0 dX6_receiveConnecting_155 (fun h_10 => ?_)
          refine lv_iconst (v := 3) hx hb dX6_receiveConnecting_158 (by decide) ?_
          refine pf_X6_22 E hT_8 hS_8 h_10 ⟨_, h_10, by decide⟩ dX6_receiveConnecting_159 (fun H_11 locs_11 hT_11 hU_11 hS_11 => ?_)
          refine lv_aload_n hx hb dX6_receiveConnecting_162 rfl (lv_at hl 0 rfl) ?_
          refine gf_X6_18 E hT_11 hW ha0 dX6_receiveConnecting_163 (fun h_12 => ?_)
          refine th_Vv (As := []) (rest := []) E hml hl.1 (z_X2_sendSyn l D cI cS τ ρ hW H_11 hT_11 (ρ a0 0) h_12) lk_X6_84 yd_X2_sendSyn hT_11 h_12 rfl (by decide) hS_11 (AT.sub (by decide)) ⟨by decide, by decide⟩ (Nat.le_of_ble_eq_true rfl) ⟨by decide, by decide⟩ rfl dX6_receiveConnecting_166 (fun H_13 locs_13 p_13 hT_13 hk_13 hS_13 => ?_)
          exact th_vret E hr hlk hs hT_13 hS_13 trivial dX6_receiveConnecting_169
        · have f_9 : ¬ r_8.toInt = 0 := r_ne rfl (by decide) c_9
          have nz_r_8 : ¬ r_8 = 0 := c_9
          refine lv_aload_n hx hb dX6_receiveConnecting_123 rfl (lv_at hl 0 rfl) ?_
          refine lv_aload_n hx hb dX6_receiveConnecting_124 rfl (lv_at hl 1 rfl) ?_
          refine lv_iconst (v := 1) hx hb dX6_receiveConnecting_125 (by decide) ?_
          refine th_Vv (As := [.ref a1, .int 1]) (rest := []) E hml hl.1 (z_X6_acknowledge l D cI cS τ ρ hW H_8 hT_8 a0 a1 1 ha0 ha1) lk_X6_74 yd_X6_acknowledge hT_8 ha0 rfl (by decide) hS_8 (AT.sub (by decide)) ⟨by decide, by decide⟩ (Nat.le_of_ble_eq_true rfl) ⟨by decide, by decide⟩ rfl dX6_receiveConnecting_126 (fun H_14 locs_14 p_14 hT_14 hk_14 hS_14 => ?_)
          refine lv_aload_n hx hb dX6_receiveConnecting_129 rfl (lv_at hl 0 rfl) ?_
          refine gf_X6_18 E hT_14 hW ha0 dX6_receiveConnecting_130 (fun h_15 => ?_)
          refine lv_iconst (v := 4) hx hb dX6_receiveConnecting_133 (by decide) ?_
          refine pf_X6_22 E hT_14 hS_14 h_15 ⟨_, h_15, by decide⟩ dX6_receiveConnecting_134 (fun H_16 locs_16 hT_16 hU_16 hS_16 => ?_)
          refine lv_aload_n hx hb dX6_receiveConnecting_137 rfl (lv_at hl 0 rfl) ?_
          refine gf_X6_18 E hT_16 hW ha0 dX6_receiveConnecting_138 (fun h_17 => ?_)
          refine th_Vv (As := []) (rest := []) E hml hl.1 (z_X2_sendAck l D cI cS τ ρ hW H_16 hT_16 (ρ a0 0) h_17) lk_X6_78 yd_X2_sendAck hT_16 h_17 rfl (by decide) hS_16 (AT.sub (by decide)) ⟨by decide, by decide⟩ (Nat.le_of_ble_eq_true rfl) ⟨by decide, by decide⟩ rfl dX6_receiveConnecting_141 (fun H_18 locs_18 p_18 hT_18 hk_18 hS_18 => ?_)
          refine lv_aload_n hx hb dX6_receiveConnecting_144 rfl (lv_at hl 0 rfl) ?_
          refine gf_X6_18 E hT_18 hW ha0 dX6_receiveConnecting_145 (fun h_19 => ?_)
          refine th_Vv (As := []) (rest := []) E hml hl.1 (z_X2_transmit l D cI cS τ ρ hW H_18 hT_18 (ρ a0 0) h_19) lk_X6_81 yd_X2_transmit hT_18 h_19 rfl (by decide) hS_18 (AT.sub (by decide)) ⟨by decide, by decide⟩ (Nat.le_of_ble_eq_true rfl) ⟨by decide, by decide⟩ rfl dX6_receiveConnecting_148 (fun H_20 locs_20 p_20 hT_20 hk_20 hS_20 => ?_)
          refine lv_goto (tgt := 169) hx hb dX6_receiveConnecting_151 (by decide) ?_
          exact th_vret E hr hlk hs hT_20 hS_20 trivial dX6_receiveConnecting_169
      · have f_4 : r_3.toInt = 0 := r_eq rfl (by decide) c_4
        refine lv_aload_n hx hb dX6_receiveConnecting_96 rfl (lv_at hl 0 rfl) ?_
        refine lv_iconst (v := 4) hx hb dX6_receiveConnecting_97 (by decide) ?_
        refine pf_X6_9 E hT_3 hS_3 ha0 ⟨_, ha0, by decide⟩ dX6_receiveConnecting_98 (fun H_21 locs_21 hT_21 hU_21 hS_21 => ?_)
        refine lv_goto (tgt := 169) hx hb dX6_receiveConnecting_101 (by decide) ?_
        exact th_vret E hr hlk hs hT_21 hS_21 trivial dX6_receiveConnecting_169
    · have f_2 : ¬ r_1.toInt = 0 := r_ne rfl (by decide) c_2
      have nz_r_1 : ¬ r_1 = 0 := c_2
      refine lv_aload_n hx hb dX6_receiveConnecting_62 rfl (lv_at hl 1 rfl) ?_
      refine lv_iconst (v := 4) hx hb dX6_receiveConnecting_63 (by decide) ?_
      refine th_Vi (As := [.int 4]) (rest := []) E hml hl.1 (z_X8_has l D cI cS τ ρ hW H_1 hT_1 a1 4 ha1) lk_X6_43 yd_X8_has hT_1 ha1 rfl (by decide) hS_1 (AT.sub (by decide)) ⟨by decide, by decide⟩ (Nat.le_of_ble_eq_true rfl) ⟨by decide, by decide⟩ rfl dX6_receiveConnecting_64 (fun r_22 H_22 locs_22 p_22 hT_22 hk_22 hS_22 => ?_)
      have z_22 := b_iv p_22
      refine lv_if_eq (tgt := 80) hx hb dX6_receiveConnecting_67 (by decide) (fun c_23 => ?_) (fun c_23 => ?_)
      · have f_23 : r_22.toInt = 0 := r_eq rfl (by decide) c_23
        refine lv_aload_n hx hb dX6_receiveConnecting_80 rfl (lv_at hl 0 rfl) ?_
        refine lv_iconst (v := 2) hx hb dX6_receiveConnecting_81 (by decide) ?_
        refine pf_X6_9 E hT_22 hS_22 ha0 ⟨_, ha0, by decide⟩ dX6_receiveConnecting_82 (fun H_24 locs_24 hT_24 hU_24 hS_24 => ?_)
        refine lv_goto (tgt := 169) hx hb dX6_receiveConnecting_85 (by decide) ?_
        exact th_vret E hr hlk hs hT_24 hS_24 trivial dX6_receiveConnecting_169
      · have f_23 : ¬ r_22.toInt = 0 := r_ne rfl (by decide) c_23
        have nz_r_22 : ¬ r_22 = 0 := c_23
        refine lv_aload_n hx hb dX6_receiveConnecting_70 rfl (lv_at hl 0 rfl) ?_
        refine gf_X6_18 E hT_22 hW ha0 dX6_receiveConnecting_71 (fun h_25 => ?_)
        refine th_Vv (As := []) (rest := []) E hml hl.1 (z_X2_close l D cI cS τ ρ hW H_22 hT_22 (ρ a0 0) h_25) lk_X6_71 yd_X2_close hT_22 h_25 rfl (by decide) hS_22 (AT.sub (by decide)) ⟨by decide, by decide⟩ (Nat.le_of_ble_eq_true rfl) ⟨by decide, by decide⟩ rfl dX6_receiveConnecting_74 (fun H_26 locs_26 p_26 hT_26 hk_26 hS_26 => ?_)
        refine lv_goto (tgt := 169) hx hb dX6_receiveConnecting_77 (by decide) ?_
        exact th_vret E hr hlk hs hT_26 hS_26 trivial dX6_receiveConnecting_169
  refine lv_aload_n hx hb dX6_receiveConnecting_0 rfl (lv_at hl 1 rfl) ?_
  refine lv_iconst (v := 4) hx hb dX6_receiveConnecting_1 (by decide) ?_
  refine th_Vi (As := [.int 4]) (rest := []) E hml hl.1 (z_X8_has l D cI cS τ ρ hW H hT a1 4 ha1) lk_X6_43 yd_X8_has hT ha1 rfl (by decide) hS (AT.sub (by decide)) ⟨by decide, by decide⟩ (Nat.le_of_ble_eq_true rfl) ⟨by decide, by decide⟩ rfl dX6_receiveConnecting_2 (fun r_27 H_27 locs_27 p_27 hT_27 hk_27 hS_27 => ?_)
  have z_27 := b_iv p_27
  refine lv_if_eq (tgt := 53) hx hb dX6_receiveConnecting_5 (by decide) (fun c_28 => ?_) (fun c_28 => ?_)
  · have f_28 : r_27.toInt = 0 := r_eq rfl (by decide) c_28
    exact J_53 H_27 locs_27 _ hT_27 hS_27 hl
  · have f_28 : ¬ r_27.toInt = 0 := r_ne rfl (by decide) c_28
    have nz_r_27 : ¬ r_27 = 0 := c_28
    refine lv_aload_n hx hb dX6_receiveConnecting_8 rfl (lv_at hl 0 rfl) ?_
    refine lv_aload_n hx hb dX6_receiveConnecting_9 rfl (lv_at hl 1 rfl) ?_
    refine gf_X6_64 E hT_27 ha1 dX6_receiveConnecting_10 ?_
    refine th_topi (y := fi D 8 3 H a1) (fi_q (hk_27 _ (AT.out ha1 (by decide)))) ?_
    refine lv_topi (fun x_29 ex_29 => ?_)
    refine th_Vi (As := [.int x_29]) (rest := []) E hml hl.1 (z_X6_ownPlace l D cI cS τ ρ hW H_27 hT_27 a0 x_29 ha0) lk_X6_67 yd_X6_ownPlace hT_27 ha0 rfl (by decide) hS_27 (AT.sub (by decide)) ⟨by decide, by decide⟩ (Nat.le_of_ble_eq_true rfl) ⟨by decide, by decide⟩ rfl dX6_receiveConnecting_13 (fun r_30 H_30 locs_30 p_30 hT_30 hk_30 hS_30 => ?_)
    refine lv_iconst (v := 1) hx hb dX6_receiveConnecting_16 (by decide) ?_
    refine lv_icmp_eq (tgt := 53) hx hb dX6_receiveConnecting_17 (by decide) (fun c_31 => ?_) (fun c_31 => ?_)
    · have f_31 : r_30.toInt = 1 := r_eq rfl (by decide) c_31
      exact J_53 H_30 locs_30 _ hT_30 hS_30 hl
    · have f_31 : ¬ r_30.toInt = 1 := r_ne rfl (by decide) c_31
      refine lv_aload_n hx hb dX6_receiveConnecting_20 rfl (lv_at hl 0 rfl) ?_
      refine lv_iconst (v := 5) hx hb dX6_receiveConnecting_21 (by decide) ?_
      refine pf_X6_9 E hT_30 hS_30 ha0 ⟨_, ha0, by decide⟩ dX6_receiveConnecting_22 (fun H_32 locs_32 hT_32 hU_32 hS_32 => ?_)
      refine lv_aload_n hx hb dX6_receiveConnecting_25 rfl (lv_at hl 1 rfl) ?_
      refine lv_bipush (v := 8) hx hb dX6_receiveConnecting_26 (by decide) ?_
      refine th_Vi (As := [.int 8]) (rest := []) E hml hl.1 (z_X8_has l D cI cS τ ρ hW H_32 hT_32 a1 8 ha1) lk_X6_43 yd_X8_has hT_32 ha1 rfl (by decide) hS_32 (AT.sub (by decide)) ⟨by decide, by decide⟩ (Nat.le_of_ble_eq_true rfl) ⟨by decide, by decide⟩ rfl dX6_receiveConnecting_28 (fun r_33 H_33 locs_33 p_33 hT_33 hk_33 hS_33 => ?_)
      have z_33 := b_iv p_33
      refine lv_if_eq (tgt := 42) hx hb dX6_receiveConnecting_31 (by decide) (fun c_34 => ?_) (fun c_34 => ?_)
      · have f_34 : r_33.toInt = 0 := r_eq rfl (by decide) c_34
        refine lv_aload_n hx hb dX6_receiveConnecting_42 rfl (lv_at hl 0 rfl) ?_
        refine gf_X6_18 E hT_33 hW ha0 dX6_receiveConnecting_43 (fun h_35 => ?_)
        refine lv_aload_n hx hb dX6_receiveConnecting_46 rfl (lv_at hl 1 rfl) ?_
        refine th_Vv (As := [.ref a1]) (rest := []) E hml hl.1 (z_X2_sendResetFor l D cI cS τ ρ hW H_33 hT_33 (ρ a0 0) a1 h_35 ha1) lk_X6_49 yd_X2_sendResetFor hT_33 h_35 rfl (by decide) hS_33 (AT.sub (by decide)) ⟨by decide, by decide⟩ (Nat.le_of_ble_eq_true rfl) ⟨by decide, by decide⟩ rfl dX6_receiveConnecting_47 (fun H_36 locs_36 p_36 hT_36 hk_36 hS_36 => ?_)
        refine lv_goto (tgt := 169) hx hb dX6_receiveConnecting_50 (by decide) ?_
        exact th_vret E hr hlk hs hT_36 hS_36 trivial dX6_receiveConnecting_169
      · have f_34 : ¬ r_33.toInt = 0 := r_ne rfl (by decide) c_34
        have nz_r_33 : ¬ r_33 = 0 := c_34
        refine lv_aload_n hx hb dX6_receiveConnecting_34 rfl (lv_at hl 0 rfl) ?_
        refine lv_iconst (v := 2) hx hb dX6_receiveConnecting_35 (by decide) ?_
        refine pf_X6_15 E hT_33 hS_33 ha0 ⟨_, ha0, by decide⟩ dX6_receiveConnecting_36 (fun H_37 locs_37 hT_37 hU_37 hS_37 => ?_)
        refine lv_goto (tgt := 169) hx hb dX6_receiveConnecting_39 (by decide) ?_
        exact th_vret E hr hlk hs hT_37 hS_37 trivial dX6_receiveConnecting_169
set_option maxHeartbeats 4000000 in
set_option maxRecDepth 100000 in
/-- StreamEnds$Receiver.peerPlace: it ends, and the heap stays typed -/
theorem z_X6_peerPlace (l : Launch) (D : va_G) (cI cS : ClassId) (τ : Nat → Option Nat) (ρ : Nat → Nat → Nat) (hW : WF τ ρ) (H : Heap) (hT : TH D cI cS τ ρ H) (a0 : Nat) (x0 : Int32) (ha0 : τ a0 = some 6) : MI l D cI cS τ ρ yX6_peerPlace cX6_peerPlace 2 (some .int) 2 46 H [.ref a0, .int x0] (fun (r : Int32) (u : Heap) => True) (AT τ []) := by
  refine MI.of (by decide) (Nat.le_of_ble_eq_true rfl) ?_
  intro p e s m args below meth c E hml hr hlk hs ls hl
  have hx := E.1
  have hb := E.2.1
  have hown := E.2.2.1
  have hts := E.2.2.2.1
  have hS : SS (AT τ []) H H [] := SS.rf
  have hl : lv_has ls 2 [(0, .ref a0), (1, .int x0)] := hl
  refine lv_aload_n hx hb dX6_peerPlace_0 rfl (lv_at hl 0 rfl) ?_
  refine gf_X6_18 E hT hW ha0 dX6_peerPlace_1 (fun h_1 => ?_)
  refine gf_X6_207 E hT hW h_1 dX6_peerPlace_4 (fun h_2 => ?_)
  refine lv_iconst (v := 1) hx hb dX6_peerPlace_7 (by decide) ?_
  refine lv_aload_n hx hb dX6_peerPlace_8 rfl (lv_at hl 0 rfl) ?_
  refine gf_X6_18 E hT hW ha0 dX6_peerPlace_9 (fun h_3 => ?_)
  refine gf_X6_211 E hT h_3 dX6_peerPlace_12 ?_
  refine lv_topi (fun x_4 ex_4 => ?_)
  refine lv_isub hx hb dX6_peerPlace_15 ?_
  refine lv_topi (fun x_5 ex_5 => ?_)
  refine lv_iload_n hx hb dX6_peerPlace_16 rfl (lv_at hl 1 rfl) ?_
  refine lv_aload_n hx hb dX6_peerPlace_17 rfl (lv_at hl 0 rfl) ?_
  refine gf_X6_18 E hT hW ha0 dX6_peerPlace_18 (fun h_6 => ?_)
  refine gf_X6_52 E hT hW h_6 dX6_peerPlace_21 (fun h_7 => ?_)
  refine gf_X6_56 E hT h_7 dX6_peerPlace_24 ?_
  refine lv_topi (fun x_8 ex_8 => ?_)
  refine th_Vi (As := [.int x_5, .int x0, .int x_8]) (rest := []) E hml hl.1 (z_X1_place l D cI cS τ ρ hW H hT (ρ (ρ a0 0) 1) x_5 x0 x_8 h_2) lk_X6_214 yd_X1_place hT h_2 rfl (by decide) hS (AT.sub (by decide)) ⟨by decide, by decide⟩ (Nat.le_of_ble_eq_true rfl) ⟨by decide, by decide⟩ rfl dX6_peerPlace_27 (fun r_9 H_9 locs_9 p_9 hT_9 hk_9 hS_9 => ?_)
  exact th_iret E hr hlk hs hT_9 hS_9 trivial dX6_peerPlace_30
set_option maxHeartbeats 4000000 in
set_option maxRecDepth 100000 in
/-- StreamEnds$Receiver.refuse: it ends, and the heap stays typed -/
theorem z_X6_refuse (l : Launch) (D : va_G) (cI cS : ClassId) (τ : Nat → Option Nat) (ρ : Nat → Nat → Nat) (hW : WF τ ρ) (H : Heap) (hT : TH D cI cS τ ρ H) (a0 : Nat) (a1 : Nat) (x0 : Int32) (ha0 : τ a0 = some 6) (ha1 : τ a1 = some 8) : MV l D cI cS τ ρ yX6_refuse cX6_refuse 3 none 3 69 H [.ref a0, .ref a1, .int x0] (fun (u : Heap) => True) (AT τ [2, 6, 8, 10, 104]) := by
  refine MV.of (by decide) (Nat.le_of_ble_eq_true rfl) ?_
  intro p e s m args below meth c E hml hr hlk hs ls hl
  have hx := E.1
  have hb := E.2.1
  have hown := E.2.2.1
  have hts := E.2.2.2.1
  have hS : SS (AT τ [2, 6, 8, 10, 104]) H H [] := SS.rf
  have hl : lv_has ls 3 [(0, .ref a0), (1, .ref a1), (2, .int x0)] := hl
  have J_73 : ∀ (H_c73 : Heap) (lc_c73 : List Loc) (ls : Array Slot), TH D cI cS τ ρ H_c73 → SS (AT τ [2, 6, 8, 10, 104]) H H_c73 lc_c73 → lv_has ls 3 [(0, .ref a0), (1, .ref a1), (2, .int x0)] → W p l e (rmO 3 69) s m args below meth c H_c73 lc_c73 0 0 (MQ below (va_Qv (fun (u : Heap) => True) (Bt D cI cS τ ρ H) (AT τ [2, 6, 8, 10, 104])) args s 0 0 (AT τ [2, 6, 8, 10, 104])) (F0 m 73 ls []) := by
    intro H_c73 lc_c73 ls hT_c73 hS_c73 hl
    refine lv_aload_n hx hb dX6_refuse_73 rfl (lv_at hl 0 rfl) ?_
    refine gf_X6_18 E hT_c73 hW ha0 dX6_refuse_74 (fun h_1 => ?_)
    refine gf_X6_22 E hT_c73 h_1 dX6_refuse_77 ?_
    refine lv_topi (fun x_2 ex_2 => ?_)
    refine lv_bipush (v := 10) hx hb dX6_refuse_80 (by decide) ?_
    refine lv_icmp_ne (tgt := 92) hx hb dX6_refuse_82 (by decide) (fun c_3 => ?_) (fun c_3 => ?_)
    · have f_3 : ¬ x_2.toInt = 10 := r_ne rfl (by decide) c_3
      exact th_vret E hr hlk hs hT_c73 hS_c73 trivial dX6_refuse_92
    · have f_3 : x_2.toInt = 10 := r_eq rfl (by decide) c_3
      refine lv_aload_n hx hb dX6_refuse_85 rfl (lv_at hl 0 rfl) ?_
      refine gf_X6_18 E hT_c73 hW ha0 dX6_refuse_86 (fun h_4 => ?_)
      refine th_Vv (As := []) (rest := []) E hml hl.1 (z_X2_waitForLate l D cI cS τ ρ hW H_c73 hT_c73 (ρ a0 0) h_4) lk_X6_122 yd_X2_waitForLate hT_c73 h_4 rfl (by decide) hS_c73 (AT.sub (by decide)) ⟨by decide, by decide⟩ (Nat.le_of_ble_eq_true rfl) ⟨by decide, by decide⟩ rfl dX6_refuse_89 (fun H_5 locs_5 p_5 hT_5 hk_5 hS_5 => ?_)
      exact th_vret E hr hlk hs hT_5 hS_5 trivial dX6_refuse_92
  have J_57 : ∀ (H_c57 : Heap) (lc_c57 : List Loc) (ls : Array Slot), TH D cI cS τ ρ H_c57 → SS (AT τ [2, 6, 8, 10, 104]) H H_c57 lc_c57 → lv_has ls 3 [(0, .ref a0), (1, .ref a1), (2, .int x0)] → W p l e (rmO 3 69) s m args below meth c H_c57 lc_c57 0 0 (MQ below (va_Qv (fun (u : Heap) => True) (Bt D cI cS τ ρ H) (AT τ [2, 6, 8, 10, 104])) args s 0 0 (AT τ [2, 6, 8, 10, 104])) (F0 m 57 ls []) := by
    intro H_c57 lc_c57 ls hT_c57 hS_c57 hl
    refine lv_aload_n hx hb dX6_refuse_57 rfl (lv_at hl 1 rfl) ?_
    refine lv_bipush (v := 8) hx hb dX6_refuse_58 (by decide) ?_
    refine th_Vi (As := [.int 8]) (rest := []) E hml hl.1 (z_X8_has l D cI cS τ ρ hW H_c57 hT_c57 a1 8 ha1) lk_X6_43 yd_X8_has hT_c57 ha1 rfl (by decide) hS_c57 (AT.sub (by decide)) ⟨by decide, by decide⟩ (Nat.le_of_ble_eq_true rfl) ⟨by decide, by decide⟩ rfl dX6_refuse_60 (fun r_6 H_6 locs_6 p_6 hT_6 hk_6 hS_6 => ?_)
    have z_6 := b_iv p_6
    refine lv_if_ne (tgt := 73) hx hb dX6_refuse_63 (by decide) (fun c_7 => ?_) (fun c_7 => ?_)
    · have f_7 : ¬ r_6.toInt = 0 := r_ne rfl (by decide) c_7
      have nz_r_6 : ¬ r_6 = 0 := c_7
      exact J_73 H_6 locs_6 _ hT_6 hS_6 hl
    · have f_7 : r_6.toInt = 0 := r_eq rfl (by decide) c_7
      refine lv_aload_n hx hb dX6_refuse_66 rfl (lv_at hl 0 rfl) ?_
      refine gf_X6_18 E hT_6 hW ha0 dX6_refuse_67 (fun h_8 => ?_)
      refine th_Vv (As := []) (rest := []) E hml hl.1 (z_X2_sendAck l D cI cS τ ρ hW H_6 hT_6 (ρ a0 0) h_8) lk_X6_78 yd_X2_sendAck hT_6 h_8 rfl (by decide) hS_6 (AT.sub (by decide)) ⟨by decide, by decide⟩ (Nat.le_of_ble_eq_true rfl) ⟨by decide, by decide⟩ rfl dX6_refuse_70 (fun H_9 locs_9 p_9 hT_9 hk_9 hS_9 => ?_)
      exact J_73 H_9 locs_9 _ hT_9 hS_9 hl
  refine lv_aload_n hx hb dX6_refuse_0 rfl (lv_at hl 0 rfl) ?_
  refine lv_bipush (v := 6) hx hb dX6_refuse_1 (by decide) ?_
  refine pf_X6_9 E hT hS ha0 ⟨_, ha0, by decide⟩ dX6_refuse_3 (fun H_10 locs_10 hT_10 hU_10 hS_10 => ?_)
  refine lv_aload_n hx hb dX6_refuse_6 rfl (lv_at hl 0 rfl) ?_
  refine gf_X6_18 E hT_10 hW ha0 dX6_refuse_7 (fun h_11 => ?_)
  refine gf_X6_52 E hT_10 hW h_11 dX6_refuse_10 (fun h_12 => ?_)
  refine th_Vi (As := []) (rest := []) E hml hl.1 (z_X3_window l D cI cS τ ρ hW H_10 hT_10 (ρ (ρ a0 0) 5) h_12) lk_X6_116 yd_X3_window hT_10 h_12 rfl (by decide) hS_10 (AT.sub (by decide)) ⟨by decide, by decide⟩ (Nat.le_of_ble_eq_true rfl) ⟨by decide, by decide⟩ rfl dX6_refuse_13 (fun r_13 H_13 locs_13 p_13 hT_13 hk_13 hS_13 => ?_)
  refine lv_if_ne (tgt := 28) hx hb dX6_refuse_16 (by decide) (fun c_14 => ?_) (fun c_14 => ?_)
  · have f_14 : ¬ r_13.toInt = 0 := r_ne rfl (by decide) c_14
    have nz_r_13 : ¬ r_13 = 0 := c_14
    refine lv_iload_n hx hb dX6_refuse_28 rfl (lv_at hl 2 rfl) ?_
    refine lv_aload_n hx hb dX6_refuse_29 rfl (lv_at hl 0 rfl) ?_
    refine gf_X6_18 E hT_13 hW ha0 dX6_refuse_30 (fun h_15 => ?_)
    refine gf_X6_52 E hT_13 hW h_15 dX6_refuse_33 (fun h_16 => ?_)
    refine gf_X6_119 E hT_13 h_16 dX6_refuse_36 ?_
    refine th_topi (y := fi D 3 2 H (ρ (ρ a0 0) 5)) (Eq.trans (fi_q (hk_13 _ (AT.out h_16 (by decide)))) (fi_q (hU_10.2.2 _ (th_ne h_16 ha0 (by decide))))) ?_
    refine lv_topi (fun x_17 ex_17 => ?_)
    refine lv_icmp_lt (tgt := 51) hx hb dX6_refuse_39 (by decide) (fun c_18 => ?_) (fun c_18 => ?_)
    · have f_18 : x0.toInt < x_17.toInt := r_lt rfl rfl c_18
      refine lv_aload_n hx hb dX6_refuse_51 rfl (lv_at hl 0 rfl) ?_
      refine lv_bipush (v := 9) hx hb dX6_refuse_52 (by decide) ?_
      refine pf_X6_15 E hT_13 hS_13 ha0 ⟨_, ha0, by decide⟩ dX6_refuse_54 (fun H_19 locs_19 hT_19 hU_19 hS_19 => ?_)
      exact J_57 H_19 locs_19 _ hT_19 hS_19 hl
    · have f_18 : x_17.toInt ≤ x0.toInt := r_nlt rfl rfl c_18
      refine lv_aload_n hx hb dX6_refuse_42 rfl (lv_at hl 0 rfl) ?_
      refine lv_bipush (v := 8) hx hb dX6_refuse_43 (by decide) ?_
      refine pf_X6_15 E hT_13 hS_13 ha0 ⟨_, ha0, by decide⟩ dX6_refuse_45 (fun H_20 locs_20 hT_20 hU_20 hS_20 => ?_)
      refine lv_goto (tgt := 57) hx hb dX6_refuse_48 (by decide) ?_
      exact J_57 H_20 locs_20 _ hT_20 hS_20 hl
  · have f_14 : r_13.toInt = 0 := r_eq rfl (by decide) c_14
    refine lv_aload_n hx hb dX6_refuse_19 rfl (lv_at hl 0 rfl) ?_
    refine lv_bipush (v := 7) hx hb dX6_refuse_20 (by decide) ?_
    refine pf_X6_15 E hT_13 hS_13 ha0 ⟨_, ha0, by decide⟩ dX6_refuse_22 (fun H_21 locs_21 hT_21 hU_21 hS_21 => ?_)
    refine lv_goto (tgt := 57) hx hb dX6_refuse_25 (by decide) ?_
    exact J_57 H_21 locs_21 _ hT_21 hS_21 hl
set_option maxHeartbeats 4000000 in
set_option maxRecDepth 100000 in
/-- StreamEnds$Outgoing.isFinAcked: it ends, and the heap stays typed -/
theorem z_X5_isFinAcked (l : Launch) (D : va_G) (cI cS : ClassId) (τ : Nat → Option Nat) (ρ : Nat → Nat → Nat) (hW : WF τ ρ) (H : Heap) (hT : TH D cI cS τ ρ H) (a0 : Nat) (ha0 : τ a0 = some 5) : MI l D cI cS τ ρ yX5_isFinAcked cX5_isFinAcked 1 (some .boolean) 1 20 H [.ref a0] (fun (r : Int32) (u : Heap) => r = 0 ∨ r = 1) (AT τ []) := by
  refine MI.of (by decide) (Nat.le_of_ble_eq_true rfl) ?_
  intro p e s m args below meth c E hml hr hlk hs ls hl
  have hx := E.1
  have hb := E.2.1
  have hown := E.2.2.1
  have hts := E.2.2.2.1
  have hS : SS (AT τ []) H H [] := SS.rf
  have hl : lv_has ls 1 [(0, .ref a0)] := hl
  refine lv_aload_n hx hb dX5_isFinAcked_0 rfl (lv_at hl 0 rfl) ?_
  refine gf_X5_15 E hT ha0 dX5_isFinAcked_1 ?_
  refine lv_topi (fun x_1 ex_1 => ?_)
  refine lv_aload_n hx hb dX5_isFinAcked_4 rfl (lv_at hl 0 rfl) ?_
  refine th_Vi (As := []) (rest := [.int x_1]) E hml hl.1 (z_X5_finPlace l D cI cS τ ρ hW H hT a0 ha0) lk_X5_58 yd_X5_finPlace hT ha0 rfl (by decide) hS (AT.sub (by decide)) ⟨by decide, by decide⟩ (Nat.le_of_ble_eq_true rfl) ⟨by decide, by decide⟩ rfl dX5_isFinAcked_5 (fun r_2 H_2 locs_2 p_2 hT_2 hk_2 hS_2 => ?_)
  refine lv_icmp_le (tgt := 15) hx hb dX5_isFinAcked_8 (by decide) (fun c_3 => ?_) (fun c_3 => ?_)
  · have f_3 : x_1.toInt ≤ r_2.toInt := r_le rfl rfl c_3
    refine lv_iconst (v := 0) hx hb dX5_isFinAcked_15 (by decide) ?_
    exact th_zret E hr hlk hs (Or.inl rfl) hT_2 hS_2 (Or.inl rfl) dX5_isFinAcked_16
  · have f_3 : r_2.toInt < x_1.toInt := r_nle rfl rfl c_3
    refine lv_iconst (v := 1) hx hb dX5_isFinAcked_11 (by decide) ?_
    refine lv_goto (tgt := 16) hx hb dX5_isFinAcked_12 (by decide) ?_
    exact th_zret E hr hlk hs (Or.inr rfl) hT_2 hS_2 (Or.inr rfl) dX5_isFinAcked_16
set_option maxHeartbeats 4000000 in
set_option maxRecDepth 100000 in
/-- StreamEnds$Segment.byteAt: it ends, and the heap stays typed -/
theorem z_X8_byteAt (l : Launch) (D : va_G) (cI cS : ClassId) (τ : Nat → Option Nat) (ρ : Nat → Nat → Nat) (hW : WF τ ρ) (H : Heap) (hT : TH D cI cS τ ρ H) (a0 : Nat) (x0 : Int32) (ha0 : τ a0 = some 8) : MI l D cI cS τ ρ yX8_byteAt cX8_byteAt 2 (some .int) 0 0 H [.ref a0, .int x0] (fun (r : Int32) (u : Heap) => True) (AT τ []) := by
  refine MI.of (by decide) (Nat.le_of_ble_eq_true rfl) ?_
  intro p e s m args below meth c E hml hr hlk hs ls hl
  have hx := E.1
  have hb := E.2.1
  have hown := E.2.2.1
  have hts := E.2.2.2.1
  have hS : SS (AT τ []) H H [] := SS.rf
  have hl : lv_has ls 2 [(0, .ref a0), (1, .int x0)] := hl
  refine lv_iload_n hx hb dX8_byteAt_0 rfl (lv_at hl 1 rfl) ?_
  refine lv_if_lt (tgt := 27) hx hb dX8_byteAt_1 (by decide) (fun c_1 => ?_) (fun c_1 => ?_)
  · have f_1 : x0.toInt < 0 := r_lt rfl (by decide) c_1
    refine lv_bipush (v := (-4)) hx hb dX8_byteAt_27 (by decide) ?_
    exact th_iret E hr hlk hs hT hS trivial dX8_byteAt_29
  · have f_1 : 0 ≤ x0.toInt := r_nlt rfl (by decide) c_1
    refine lv_iload_n hx hb dX8_byteAt_4 rfl (lv_at hl 1 rfl) ?_
    refine lv_aload_n hx hb dX8_byteAt_5 rfl (lv_at hl 0 rfl) ?_
    refine gf_X8_37 E hT ha0 dX8_byteAt_6 ?_
    refine lv_topi (fun x_2 ex_2 => ?_)
    refine lv_icmp_ge (tgt := 27) hx hb dX8_byteAt_9 (by decide) (fun c_3 => ?_) (fun c_3 => ?_)
    · have f_3 : x_2.toInt ≤ x0.toInt := r_le rfl rfl c_3
      refine lv_bipush (v := (-4)) hx hb dX8_byteAt_27 (by decide) ?_
      exact th_iret E hr hlk hs hT hS trivial dX8_byteAt_29
    · have f_3 : x0.toInt < x_2.toInt := r_nle rfl rfl c_3
      refine lv_iload_n hx hb dX8_byteAt_12 rfl (lv_at hl 1 rfl) ?_
      refine lv_bipush (v := 8) hx hb dX8_byteAt_13 (by decide) ?_
      refine lv_icmp_ge (tgt := 27) hx hb dX8_byteAt_15 (by decide) (fun c_4 => ?_) (fun c_4 => ?_)
      · have f_4 : 8 ≤ x0.toInt := r_le (by decide) rfl c_4
        refine lv_bipush (v := (-4)) hx hb dX8_byteAt_27 (by decide) ?_
        exact th_iret E hr hlk hs hT hS trivial dX8_byteAt_29
      · have f_4 : x0.toInt < 8 := r_nle (by decide) rfl c_4
        refine lv_aload_n hx hb dX8_byteAt_18 rfl (lv_at hl 0 rfl) ?_
        refine gf_X8_9 E hT hW ha0 dX8_byteAt_19 (fun h_5 => ?_)
        refine lv_iload_n hx hb dX8_byteAt_22 rfl (lv_at hl 1 rfl) ?_
        refine th_iald E hT h_5 (by decide) (vp_in_iff.mpr ⟨by omega, by omega⟩) dX8_byteAt_23 ?_
        refine lv_topi (fun x_6 ex_6 => ?_)
        refine lv_goto (tgt := 29) hx hb dX8_byteAt_24 (by decide) ?_
        exact th_iret E hr hlk hs hT hS trivial dX8_byteAt_29
set_option maxHeartbeats 4000000 in
set_option maxRecDepth 100000 in
/-- StreamEnds$Receiver.keepBytes: it ends, and the heap stays typed -/
theorem z_X6_keepBytes (l : Launch) (D : va_G) (cI cS : ClassId) (τ : Nat → Option Nat) (ρ : Nat → Nat → Nat) (hW : WF τ ρ) (H : Heap) (hT : TH D cI cS τ ρ H) (a0 : Nat) (a1 : Nat) (x0 : Int32) (ha0 : τ a0 = some 6) (ha1 : τ a1 = some 8) : MV l D cI cS τ ρ yX6_keepBytes cX6_keepBytes 5 none 2 43 H [.ref a0, .ref a1, .int x0] (fun (u : Heap) => True) (AT τ [2, 3, 164]) := by
  refine MV.of (by decide) (Nat.le_of_ble_eq_true rfl) ?_
  intro p e s m args below meth c E hml hr hlk hs ls hl
  have hx := E.1
  have hb := E.2.1
  have hown := E.2.2.1
  have hts := E.2.2.2.1
  have hS : SS (AT τ [2, 3, 164]) H H [] := SS.rf
  have hl : lv_has ls 5 [(0, .ref a0), (1, .ref a1), (2, .int x0)] := hl
  have J_80 : ∀ (H_c80 : Heap) (lc_c80 : List Loc) (ls : Array Slot) (y80_4 : Int32), TH D cI cS τ ρ H_c80 → SS (AT τ [2, 3, 164]) H H_c80 lc_c80 → lv_has ls 5 [(0, .ref a0), (1, .ref a1), (2, .int x0), (3, .ref (ρ (ρ a0 0) 5)), (4, .int y80_4)] → W p l e (rmO 2 43) s m args below meth c H_c80 lc_c80 0 0 (MQ below (va_Qv (fun (u : Heap) => True) (Bt D cI cS τ ρ H) (AT τ [2, 3, 164])) args s 0 0 (AT τ [2, 3, 164])) (F0 m 80 ls []) := by
    intro H_c80 lc_c80 ls y80_4 hT_c80 hS_c80 hl
    refine lv_aload_n hx hb dX6_keepBytes_80 rfl (lv_at hl 3 rfl) ?_
    refine th_Vv (As := []) (rest := []) E hml hl.1 (z_X3_passHeld l D cI cS τ ρ hW H_c80 hT_c80 (ρ (ρ a0 0) 5) (hW _ 2 5 (hW _ 6 0 ha0 (by decide) (by decide) (by decide)) (by decide) (by decide) (by decide))) lk_X6_204 yd_X3_passHeld hT_c80 (hW _ 2 5 (hW _ 6 0 ha0 (by decide) (by decide) (by decide)) (by decide) (by decide) (by decide)) rfl (by decide) hS_c80 (AT.sub (by decide)) ⟨by decide, by decide⟩ (Nat.le_of_ble_eq_true rfl) ⟨by decide, by decide⟩ rfl dX6_keepBytes_81 (fun H_1 locs_1 p_1 hT_1 hk_1 hS_1 => ?_)
    refine lv_aload_n hx hb dX6_keepBytes_84 rfl (lv_at hl 3 rfl) ?_
    refine gf_X6_56 E hT_1 (hW _ 2 5 (hW _ 6 0 ha0 (by decide) (by decide) (by decide)) (by decide) (by decide) (by decide)) dX6_keepBytes_85 ?_
    refine lv_topi (fun x_2 ex_2 => ?_)
    refine lv_aload_n hx hb dX6_keepBytes_88 rfl (lv_at hl 3 rfl) ?_
    refine gf_X6_201 E hT_1 (hW _ 2 5 (hW _ 6 0 ha0 (by decide) (by decide) (by decide)) (by decide) (by decide) (by decide)) dX6_keepBytes_89 ?_
    refine lv_topi (fun x_3 ex_3 => ?_)
    refine lv_icmp_ne (tgt := 158) hx hb dX6_keepBytes_92 (by decide) (fun c_4 => ?_) (fun c_4 => ?_)
    · have f_4 : ¬ x_2.toInt = x_3.toInt := r_ne rfl rfl c_4
      exact th_vret E hr hlk hs hT_1 hS_1 trivial dX6_keepBytes_158
    · have f_4 : x_2.toInt = x_3.toInt := r_eq rfl rfl c_4
      refine lv_aload_n hx hb dX6_keepBytes_95 rfl (lv_at hl 3 rfl) ?_
      refine lv_dup hx hb dX6_keepBytes_96 rfl ?_
      refine gf_X6_56 E hT_1 (hW _ 2 5 (hW _ 6 0 ha0 (by decide) (by decide) (by decide)) (by decide) (by decide) (by decide)) dX6_keepBytes_97 ?_
      refine th_topi (y := x_2) ex_2.symm ?_
      refine lv_iconst (v := 1) hx hb dX6_keepBytes_100 (by decide) ?_
      refine lv_iadd hx hb dX6_keepBytes_101 ?_
      refine lv_topi (fun x_5 ex_5 => ?_)
      refine pf_X6_56 E hT_1 hS_1 (hW _ 2 5 (hW _ 6 0 ha0 (by decide) (by decide) (by decide)) (by decide) (by decide) (by decide)) ⟨_, (hW _ 2 5 (hW _ 6 0 ha0 (by decide) (by decide) (by decide)) (by decide) (by decide) (by decide)), by decide⟩ dX6_keepBytes_102 (fun H_6 locs_6 hT_6 hU_6 hS_6 => ?_)
      refine lv_aload_n hx hb dX6_keepBytes_105 rfl (lv_at hl 0 rfl) ?_
      refine gf_X6_18 E hT_6 hW ha0 dX6_keepBytes_106 (fun h_7 => ?_)
      refine gf_X6_22 E hT_6 h_7 dX6_keepBytes_109 ?_
      refine th_topi (y := fi D 2 7 H_c80 (ρ a0 0)) (Eq.trans (fi_q (hU_6.2.2 _ (th_ne h_7 (hW _ 2 5 (hW _ 6 0 ha0 (by decide) (by decide) (by decide)) (by decide) (by decide) (by decide)) (by decide)))) (fi_q (hk_1 _ (AT.out h_7 (by decide))))) ?_
      refine lv_topi (fun x_8 ex_8 => ?_)
      refine lv_iconst (v := 4) hx hb dX6_keepBytes_112 (by decide) ?_
      refine lv_icmp_ne (tgt := 128) hx hb dX6_keepBytes_113 (by decide) (fun c_9 => ?_) (fun c_9 => ?_)
      · have f_9 : ¬ x_8.toInt = 4 := r_ne rfl (by decide) c_9
        refine lv_aload_n hx hb dX6_keepBytes_128 rfl (lv_at hl 0 rfl) ?_
        refine gf_X6_18 E hT_6 hW ha0 dX6_keepBytes_129 (fun h_10 => ?_)
        refine gf_X6_22 E hT_6 h_10 dX6_keepBytes_132 ?_
        refine th_topi (y := x_8) ((Eq.trans (fi_q (hU_6.2.2 _ (th_ne h_7 (hW _ 2 5 (hW _ 6 0 ha0 (by decide) (by decide) (by decide)) (by decide) (by decide) (by decide)) (by decide)))) (fi_q (hk_1 _ (AT.out h_7 (by decide))))).trans ex_8.symm) ?_
        refine lv_iconst (v := 5) hx hb dX6_keepBytes_135 (by decide) ?_
        refine lv_icmp_ne (tgt := 151) hx hb dX6_keepBytes_136 (by decide) (fun c_11 => ?_) (fun c_11 => ?_)
        · have f_11 : ¬ x_8.toInt = 5 := r_ne rfl (by decide) c_11
          refine lv_aload_n hx hb dX6_keepBytes_151 rfl (lv_at hl 0 rfl) ?_
          refine gf_X6_18 E hT_6 hW ha0 dX6_keepBytes_152 (fun h_12 => ?_)
          refine th_Vv (As := []) (rest := []) E hml hl.1 (z_X2_waitForLate l D cI cS τ ρ hW H_6 hT_6 (ρ a0 0) h_12) lk_X6_122 yd_X2_waitForLate hT_6 h_12 rfl (by decide) hS_6 (AT.sub (by decide)) ⟨by decide, by decide⟩ (Nat.le_of_ble_eq_true rfl) ⟨by decide, by decide⟩ rfl dX6_keepBytes_155 (fun H_13 locs_13 p_13 hT_13 hk_13 hS_13 => ?_)
          exact th_vret E hr hlk hs hT_13 hS_13 trivial dX6_keepBytes_158
        · have f_11 : x_8.toInt = 5 := r_eq rfl (by decide) c_11
          refine lv_aload_n hx hb dX6_keepBytes_139 rfl (lv_at hl 0 rfl) ?_
          refine gf_X6_18 E hT_6 hW ha0 dX6_keepBytes_140 (fun h_14 => ?_)
          refine lv_bipush (v := 8) hx hb dX6_keepBytes_143 (by decide) ?_
          refine pf_X6_22 E hT_6 hS_6 h_14 ⟨_, h_14, by decide⟩ dX6_keepBytes_145 (fun H_15 locs_15 hT_15 hU_15 hS_15 => ?_)
          refine lv_goto (tgt := 158) hx hb dX6_keepBytes_148 (by decide) ?_
          exact th_vret E hr hlk hs hT_15 hS_15 trivial dX6_keepBytes_158
      · have f_9 : x_8.toInt = 4 := r_eq rfl (by decide) c_9
        refine lv_aload_n hx hb dX6_keepBytes_116 rfl (lv_at hl 0 rfl) ?_
        refine gf_X6_18 E hT_6 hW ha0 dX6_keepBytes_117 (fun h_16 => ?_)
        refine lv_bipush (v := 7) hx hb dX6_keepBytes_120 (by decide) ?_
        refine pf_X6_22 E hT_6 hS_6 h_16 ⟨_, h_16, by decide⟩ dX6_keepBytes_122 (fun H_17 locs_17 hT_17 hU_17 hS_17 => ?_)
        refine lv_goto (tgt := 158) hx hb dX6_keepBytes_125 (by decide) ?_
        exact th_vret E hr hlk hs hT_17 hS_17 trivial dX6_keepBytes_158
  have L_11 : ∀ (n : Nat) (H_c11 : Heap) (lc_c11 : List Loc) (ls : Array Slot) (y11_4 : Int32) (g11_0 : Int32), TH D cI cS τ ρ H_c11 → SS (AT τ [2, 3, 164]) H H_c11 lc_c11 → lv_has ls 5 [(0, .ref a0), (1, .ref a1), (2, .int x0), (3, .ref (ρ (ρ a0 0) 5)), (4, .int y11_4)] → 0 ≤ y11_4.toInt → fi D 8 6 H_c11 a1 = g11_0 → (g11_0.toInt - y11_4.toInt).toNat < n → W p l e (rmO 2 43) s m args below meth c H_c11 lc_c11 0 0 (MQ below (va_Qv (fun (u : Heap) => True) (Bt D cI cS τ ρ H) (AT τ [2, 3, 164])) args s 0 0 (AT τ [2, 3, 164])) (F0 m 11 ls []) := by
    intro n
    induction n with
    | zero => intro H_c11 lc_c11 ls y11_4 g11_0 hT_c11 hS_c11 hl ly11_4 hg11_0 hm; exact absurd hm (Nat.not_lt_zero _)
    | succ n ih_11 =>
      intro H_c11 lc_c11 ls y11_4 g11_0 hT_c11 hS_c11 hl ly11_4 hg11_0 hm_11
      refine lv_iload hx hb dX6_keepBytes_11 (lv_at hl 4 rfl) ?_
      refine lv_aload_n hx hb dX6_keepBytes_13 rfl (lv_at hl 1 rfl) ?_
      refine gf_X6_189 E hT_c11 ha1 dX6_keepBytes_14 ?_
      refine th_topi (y := g11_0) hg11_0 ?_
      refine lv_icmp_ge (tgt := 40) hx hb dX6_keepBytes_17 (by decide) (fun c_18 => ?_) (fun c_18 => ?_)
      · have f_18 : g11_0.toInt ≤ y11_4.toInt := r_le rfl rfl c_18
        refine lv_iload_n hx hb dX6_keepBytes_40 rfl (lv_at hl 2 rfl) ?_
        refine lv_aload_n hx hb dX6_keepBytes_41 rfl (lv_at hl 1 rfl) ?_
        refine gf_X6_189 E hT_c11 ha1 dX6_keepBytes_42 ?_
        refine th_topi (y := g11_0) hg11_0 ?_
        refine lv_iadd hx hb dX6_keepBytes_45 ?_
        refine lv_topi (fun x_19 ex_19 => ?_)
        refine lv_istore (lv' := [(4, .int x_19), (0, .ref a0), (1, .ref a1), (2, .int x0), (3, .ref (ρ (ρ a0 0) 5))]) hx hb dX6_keepBytes_46 hl (by decide) rfl (fun ls hl => ?_)
        refine lv_aload_n hx hb dX6_keepBytes_48 rfl (lv_at hl 2 rfl) ?_
        refine lv_iconst (v := 2) hx hb dX6_keepBytes_49 (by decide) ?_
        refine th_Vi (As := [.int 2]) (rest := []) E hml hl.1 (z_X8_has l D cI cS τ ρ hW H_c11 hT_c11 a1 2 ha1) lk_X6_43 yd_X8_has hT_c11 ha1 rfl (by decide) hS_c11 (AT.sub (by decide)) ⟨by decide, by decide⟩ (Nat.le_of_ble_eq_true rfl) ⟨by decide, by decide⟩ rfl dX6_keepBytes_50 (fun r_20 H_20 locs_20 p_20 hT_20 hk_20 hS_20 => ?_)
        have z_20 := b_iv p_20
        refine lv_if_eq (tgt := 80) hx hb dX6_keepBytes_53 (by decide) (fun c_21 => ?_) (fun c_21 => ?_)
        · have f_21 : r_20.toInt = 0 := r_eq rfl (by decide) c_21
          exact J_80 H_20 locs_20 _ x_19 hT_20 hS_20 (lv_sub hl [1, 2, 3, 4, 0] rfl)
        · have f_21 : ¬ r_20.toInt = 0 := r_ne rfl (by decide) c_21
          have nz_r_20 : ¬ r_20 = 0 := c_21
          refine lv_aload_n hx hb dX6_keepBytes_56 rfl (lv_at hl 4 rfl) ?_
          refine lv_iload hx hb dX6_keepBytes_57 (lv_at hl 0 rfl) ?_
          refine th_Vi (As := [.int x_19]) (rest := []) E hml hl.1 (z_X3_hasRoomFor l D cI cS τ ρ hW H_20 hT_20 (ρ (ρ a0 0) 5) x_19 (hW _ 2 5 (hW _ 6 0 ha0 (by decide) (by decide) (by decide)) (by decide) (by decide) (by decide))) lk_X6_198 yd_X3_hasRoomFor hT_20 (hW _ 2 5 (hW _ 6 0 ha0 (by decide) (by decide) (by decide)) (by decide) (by decide) (by decide)) rfl (by decide) hS_20 (AT.sub (by decide)) ⟨by decide, by decide⟩ (Nat.le_of_ble_eq_true rfl) ⟨by decide, by decide⟩ rfl dX6_keepBytes_59 (fun r_22 H_22 locs_22 p_22 hT_22 hk_22 hS_22 => ?_)
          have z_22 := b_iv p_22
          refine lv_if_eq (tgt := 80) hx hb dX6_keepBytes_62 (by decide) (fun c_23 => ?_) (fun c_23 => ?_)
          · have f_23 : r_22.toInt = 0 := r_eq rfl (by decide) c_23
            exact J_80 H_22 locs_22 _ x_19 hT_22 hS_22 (lv_sub hl [1, 2, 3, 4, 0] rfl)
          · have f_23 : ¬ r_22.toInt = 0 := r_ne rfl (by decide) c_23
            have nz_r_22 : ¬ r_22 = 0 := c_23
            refine lv_aload_n hx hb dX6_keepBytes_65 rfl (lv_at hl 4 rfl) ?_
            refine gf_X6_201 E hT_22 (hW _ 2 5 (hW _ 6 0 ha0 (by decide) (by decide) (by decide)) (by decide) (by decide) (by decide)) dX6_keepBytes_66 ?_
            refine th_topi (y := fi D 3 3 H_c11 (ρ (ρ a0 0) 5)) (Eq.trans (fi_q (hk_22 _ (AT.out (hW _ 2 5 (hW _ 6 0 ha0 (by decide) (by decide) (by decide)) (by decide) (by decide) (by decide)) (by decide)))) (fi_q (hk_20 _ (AT.out (hW _ 2 5 (hW _ 6 0 ha0 (by decide) (by decide) (by decide)) (by decide) (by decide) (by decide)) (by decide))))) ?_
            refine lv_topi (fun x_24 ex_24 => ?_)
            refine lv_bipush (v := (-4)) hx hb dX6_keepBytes_69 (by decide) ?_
            refine lv_icmp_ne (tgt := 80) hx hb dX6_keepBytes_71 (by decide) (fun c_25 => ?_) (fun c_25 => ?_)
            · have f_25 : ¬ x_24.toInt = -4 := r_ne rfl (by decide) c_25
              exact J_80 H_22 locs_22 _ x_19 hT_22 hS_22 (lv_sub hl [1, 2, 3, 4, 0] rfl)
            · have f_25 : x_24.toInt = -4 := r_eq rfl (by decide) c_25
              refine lv_aload_n hx hb dX6_keepBytes_74 rfl (lv_at hl 4 rfl) ?_
              refine lv_iload hx hb dX6_keepBytes_75 (lv_at hl 0 rfl) ?_
              refine pf_X6_201 E hT_22 hS_22 (hW _ 2 5 (hW _ 6 0 ha0 (by decide) (by decide) (by decide)) (by decide) (by decide) (by decide)) ⟨_, (hW _ 2 5 (hW _ 6 0 ha0 (by decide) (by decide) (by decide)) (by decide) (by decide) (by decide)), by decide⟩ dX6_keepBytes_77 (fun H_26 locs_26 hT_26 hU_26 hS_26 => ?_)
              exact J_80 H_26 locs_26 _ x_19 hT_26 hS_26 (lv_sub hl [1, 2, 3, 4, 0] rfl)
      · have f_18 : y11_4.toInt < g11_0.toInt := r_nle rfl rfl c_18
        refine lv_aload_n hx hb dX6_keepBytes_20 rfl (lv_at hl 3 rfl) ?_
        refine lv_iload_n hx hb dX6_keepBytes_21 rfl (lv_at hl 2 rfl) ?_
        refine lv_iload hx hb dX6_keepBytes_22 (lv_at hl 4 rfl) ?_
        refine lv_iadd hx hb dX6_keepBytes_24 ?_
        refine lv_topi (fun x_27 ex_27 => ?_)
        refine lv_aload_n hx hb dX6_keepBytes_25 rfl (lv_at hl 1 rfl) ?_
        refine lv_iload hx hb dX6_keepBytes_26 (lv_at hl 4 rfl) ?_
        refine th_Vi (As := [.int y11_4]) (rest := [.int x_27, .ref (ρ (ρ a0 0) 5)]) E hml hl.1 (z_X8_byteAt l D cI cS τ ρ hW H_c11 hT_c11 a1 y11_4 ha1) lk_X6_192 yd_X8_byteAt hT_c11 ha1 rfl (by decide) hS_c11 (AT.sub (by decide)) ⟨by decide, by decide⟩ (Nat.le_of_ble_eq_true rfl) ⟨by decide, by decide⟩ rfl dX6_keepBytes_28 (fun r_28 H_28 locs_28 p_28 hT_28 hk_28 hS_28 => ?_)
        refine th_Vv (As := [.int x_27, .int r_28]) (rest := []) E hml hl.1 (z_X3_hold l D cI cS τ ρ hW H_28 hT_28 (ρ (ρ a0 0) 5) x_27 r_28 (hW _ 2 5 (hW _ 6 0 ha0 (by decide) (by decide) (by decide)) (by decide) (by decide) (by decide))) lk_X6_195 yd_X3_hold hT_28 (hW _ 2 5 (hW _ 6 0 ha0 (by decide) (by decide) (by decide)) (by decide) (by decide) (by decide)) rfl (by decide) hS_28 (AT.sub (by decide)) ⟨by decide, by decide⟩ (Nat.le_of_ble_eq_true rfl) ⟨by decide, by decide⟩ rfl dX6_keepBytes_31 (fun H_29 locs_29 p_29 hT_29 hk_29 hS_29 => ?_)
        obtain ⟨x_30, ex_30⟩ : ∃ y : Int32, y11_4 + 1 = y := ⟨_, rfl⟩
        have q_x_30 : x_30.toInt = y11_4.toInt + 1 := i_add (k := 1) (by decide) ex_30 (by have := i_min y11_4; omega) (by have := i_max y11_4; have := i_max g11_0; omega)
        refine lv_iinc (v := x_30) (lv' := [(4, .int x_30), (0, .ref a0), (1, .ref a1), (2, .int x0), (3, .ref (ρ (ρ a0 0) 5))]) hx hb dX6_keepBytes_34 hl (k := 4) rfl (by rw [← ex_30]; rfl) (by decide) rfl (fun ls hl => ?_)
        refine lv_goto (tgt := 11) hx hb dX6_keepBytes_37 (by decide) ?_
        exact ih_11 H_29 locs_29 _ x_30 g11_0 hT_29 hS_29 (lv_sub hl [1, 2, 3, 4, 0] rfl) (by omega) (Eq.trans (fi_q (hk_29 _ (AT.out ha1 (by decide)))) (Eq.trans (fi_q (hk_28 _ (AT.out ha1 (by decide)))) hg11_0)) (by omega)
  refine lv_aload_n hx hb dX6_keepBytes_0 rfl (lv_at hl 0 rfl) ?_
  refine gf_X6_18 E hT hW ha0 dX6_keepBytes_1 (fun h_31 => ?_)
  refine gf_X6_52 E hT hW h_31 dX6_keepBytes_4 (fun h_32 => ?_)
  refine lv_astore_n (lv' := [(3, .ref (ρ (ρ a0 0) 5)), (0, .ref a0), (1, .ref a1), (2, .int x0)]) hx hb dX6_keepBytes_7 rfl hl (by decide) rfl (fun ls hl => ?_)
  refine lv_iconst (v := 0) hx hb dX6_keepBytes_8 (by decide) ?_
  refine lv_istore (lv' := [(4, .int 0), (3, .ref (ρ (ρ a0 0) 5)), (0, .ref a0), (1, .ref a1), (2, .int x0)]) hx hb dX6_keepBytes_9 hl (by decide) rfl (fun ls hl => ?_)
  exact L_11 _ H [] _ 0 (fi D 8 6 H a1) hT hS (lv_sub hl [2, 3, 4, 1, 0] rfl) (by decide) rfl (Nat.lt_succ_self _)
set_option maxHeartbeats 4000000 in
set_option maxRecDepth 100000 in
/-- StreamEnds$Receiver.accept: it ends, and the heap stays typed -/
theorem z_X6_accept (l : Launch) (D : va_G) (cI cS : ClassId) (τ : Nat → Option Nat) (ρ : Nat → Nat → Nat) (hW : WF τ ρ) (H : Heap) (hT : TH D cI cS τ ρ H) (a0 : Nat) (a1 : Nat) (x0 : Int32) (ha0 : τ a0 = some 6) (ha1 : τ a1 = some 8) : MV l D cI cS τ ρ yX6_accept cX6_accept 3 none 3 67 H [.ref a0, .ref a1, .int x0] (fun (u : Heap) => True) (AT τ [2, 3, 164]) := by
  refine MV.of (by decide) (Nat.le_of_ble_eq_true rfl) ?_
  intro p e s m args below meth c E hml hr hlk hs ls hl
  have hx := E.1
  have hb := E.2.1
  have hown := E.2.2.1
  have hts := E.2.2.2.1
  have hS : SS (AT τ [2, 3, 164]) H H [] := SS.rf
  have hl : lv_has ls 3 [(0, .ref a0), (1, .ref a1), (2, .int x0)] := hl
  have J_118 : ∀ (H_c118 : Heap) (lc_c118 : List Loc) (ls : Array Slot), TH D cI cS τ ρ H_c118 → SS (AT τ [2, 3, 164]) H H_c118 lc_c118 → lv_has ls 3 [(0, .ref a0), (1, .ref a1), (2, .int x0)] → W p l e (rmO 3 67) s m args below meth c H_c118 lc_c118 0 0 (MQ below (va_Qv (fun (u : Heap) => True) (Bt D cI cS τ ρ H) (AT τ [2, 3, 164])) args s 0 0 (AT τ [2, 3, 164])) (F0 m 118 ls []) := by
    intro H_c118 lc_c118 ls hT_c118 hS_c118 hl
    refine lv_aload_n hx hb dX6_accept_118 rfl (lv_at hl 0 rfl) ?_
    refine gf_X6_18 E hT_c118 hW ha0 dX6_accept_119 (fun h_1 => ?_)
    refine th_Vi (As := []) (rest := []) E hml hl.1 (z_X2_isReceiving l D cI cS τ ρ hW H_c118 hT_c118 (ρ a0 0) h_1) lk_X6_141 yd_X2_isReceiving hT_c118 h_1 rfl (by decide) hS_c118 (AT.sub (by decide)) ⟨by decide, by decide⟩ (Nat.le_of_ble_eq_true rfl) ⟨by decide, by decide⟩ rfl dX6_accept_122 (fun r_2 H_2 locs_2 p_2 hT_2 hk_2 hS_2 => ?_)
    have z_2 := b_iv p_2
    refine lv_if_eq (tgt := 134) hx hb dX6_accept_125 (by decide) (fun c_3 => ?_) (fun c_3 => ?_)
    · have f_3 : r_2.toInt = 0 := r_eq rfl (by decide) c_3
      exact th_vret E hr hlk hs hT_2 hS_2 trivial dX6_accept_134
    · have f_3 : ¬ r_2.toInt = 0 := r_ne rfl (by decide) c_3
      have nz_r_2 : ¬ r_2 = 0 := c_3
      refine lv_aload_n hx hb dX6_accept_128 rfl (lv_at hl 0 rfl) ?_
      refine lv_aload_n hx hb dX6_accept_129 rfl (lv_at hl 1 rfl) ?_
      refine lv_iload_n hx hb dX6_accept_130 rfl (lv_at hl 2 rfl) ?_
      refine th_Vv (As := [.ref a1, .int x0]) (rest := []) E hml hl.1 (z_X6_keepBytes l D cI cS τ ρ hW H_2 hT_2 a0 a1 x0 ha0 ha1) lk_X6_144 yd_X6_keepBytes hT_2 ha0 rfl (by decide) hS_2 (AT.sub (by decide)) ⟨by decide, by decide⟩ (Nat.le_of_ble_eq_true rfl) ⟨by decide, by decide⟩ rfl dX6_accept_131 (fun H_4 locs_4 p_4 hT_4 hk_4 hS_4 => ?_)
      exact th_vret E hr hlk hs hT_4 hS_4 trivial dX6_accept_134
  have J_78 : ∀ (H_c78 : Heap) (lc_c78 : List Loc) (ls : Array Slot), TH D cI cS τ ρ H_c78 → SS (AT τ [2, 3, 164]) H H_c78 lc_c78 → lv_has ls 3 [(0, .ref a0), (1, .ref a1), (2, .int x0)] → W p l e (rmO 3 67) s m args below meth c H_c78 lc_c78 0 0 (MQ below (va_Qv (fun (u : Heap) => True) (Bt D cI cS τ ρ H) (AT τ [2, 3, 164])) args s 0 0 (AT τ [2, 3, 164])) (F0 m 78 ls []) := by
    intro H_c78 lc_c78 ls hT_c78 hS_c78 hl
    refine lv_aload_n hx hb dX6_accept_78 rfl (lv_at hl 1 rfl) ?_
    refine gf_X6_129 E hT_c78 ha1 dX6_accept_79 ?_
    refine lv_topi (fun x_5 ex_5 => ?_)
    refine lv_bipush (v := (-4)) hx hb dX6_accept_82 (by decide) ?_
    refine lv_icmp_eq (tgt := 118) hx hb dX6_accept_84 (by decide) (fun c_6 => ?_) (fun c_6 => ?_)
    · have f_6 : x_5.toInt = -4 := r_eq rfl (by decide) c_6
      exact J_118 H_c78 lc_c78 _ hT_c78 hS_c78 hl
    · have f_6 : ¬ x_5.toInt = -4 := r_ne rfl (by decide) c_6
      refine lv_aload_n hx hb dX6_accept_87 rfl (lv_at hl 0 rfl) ?_
      refine gf_X6_18 E hT_c78 hW ha0 dX6_accept_88 (fun h_7 => ?_)
      refine gf_X6_52 E hT_c78 hW h_7 dX6_accept_91 (fun h_8 => ?_)
      refine lv_aload_n hx hb dX6_accept_94 rfl (lv_at hl 0 rfl) ?_
      refine gf_X6_18 E hT_c78 hW ha0 dX6_accept_95 (fun h_9 => ?_)
      refine gf_X6_52 E hT_c78 hW h_9 dX6_accept_98 (fun h_10 => ?_)
      refine gf_X6_132 E hT_c78 h_10 dX6_accept_101 ?_
      refine lv_topi (fun x_11 ex_11 => ?_)
      refine lv_aload_n hx hb dX6_accept_104 rfl (lv_at hl 0 rfl) ?_
      refine lv_aload_n hx hb dX6_accept_105 rfl (lv_at hl 1 rfl) ?_
      refine gf_X6_129 E hT_c78 ha1 dX6_accept_106 ?_
      refine th_topi (y := x_5) ex_5.symm ?_
      refine th_Vi (As := [.int x_5]) (rest := [.int x_11, .ref (ρ (ρ a0 0) 5)]) E hml hl.1 (z_X6_peerPlace l D cI cS τ ρ hW H_c78 hT_c78 a0 x_5 ha0) lk_X6_90 yd_X6_peerPlace hT_c78 ha0 rfl (by decide) hS_c78 (AT.sub (by decide)) ⟨by decide, by decide⟩ (Nat.le_of_ble_eq_true rfl) ⟨by decide, by decide⟩ rfl dX6_accept_109 (fun r_12 H_12 locs_12 p_12 hT_12 hk_12 hS_12 => ?_)
      refine mm_X6_135 E hml hl.1 (by decide) (Nat.le_of_ble_eq_true rfl) ⟨by decide, by decide⟩ dX6_accept_112 ?_
      refine lv_topi (fun x_13 ex_13 => ?_)
      have q_13 := i_maxq (x := x_11) (y := r_12) (a := x_11.toInt) (b := r_12.toInt) rfl rfl ex_13
      refine pf_X6_132 E hT_12 hS_12 h_8 ⟨_, h_8, by decide⟩ dX6_accept_115 (fun H_14 locs_14 hT_14 hU_14 hS_14 => ?_)
      exact J_118 H_14 locs_14 _ hT_14 hS_14 hl
  refine lv_aload_n hx hb dX6_accept_0 rfl (lv_at hl 0 rfl) ?_
  refine gf_X6_18 E hT hW ha0 dX6_accept_1 (fun h_15 => ?_)
  refine gf_X6_104 E hT hW h_15 dX6_accept_4 (fun h_16 => ?_)
  refine th_Vi (As := []) (rest := []) E hml hl.1 (z_X5_isFinAcked l D cI cS τ ρ hW H hT (ρ (ρ a0 0) 4) h_16) lk_X6_125 yd_X5_isFinAcked hT h_16 rfl (by decide) hS (AT.sub (by decide)) ⟨by decide, by decide⟩ (Nat.le_of_ble_eq_true rfl) ⟨by decide, by decide⟩ rfl dX6_accept_7 (fun r_17 H_17 locs_17 p_17 hT_17 hk_17 hS_17 => ?_)
  have z_17 := b_iv p_17
  refine lv_if_eq (tgt := 78) hx hb dX6_accept_10 (by decide) (fun c_18 => ?_) (fun c_18 => ?_)
  · have f_18 : r_17.toInt = 0 := r_eq rfl (by decide) c_18
    exact J_78 H_17 locs_17 _ hT_17 hS_17 hl
  · have f_18 : ¬ r_17.toInt = 0 := r_ne rfl (by decide) c_18
    have nz_r_17 : ¬ r_17 = 0 := c_18
    refine lv_aload_n hx hb dX6_accept_13 rfl (lv_at hl 0 rfl) ?_
    refine gf_X6_18 E hT_17 hW ha0 dX6_accept_14 (fun h_19 => ?_)
    refine gf_X6_22 E hT_17 h_19 dX6_accept_17 ?_
    refine th_topi (y := fi D 2 7 H (ρ a0 0)) (fi_q (hk_17 _ (AT.out h_19 (by decide)))) ?_
    refine lv_topi (fun x_20 ex_20 => ?_)
    refine lv_iconst (v := 5) hx hb dX6_accept_20 (by decide) ?_
    refine lv_icmp_ne (tgt := 36) hx hb dX6_accept_21 (by decide) (fun c_21 => ?_) (fun c_21 => ?_)
    · have f_21 : ¬ x_20.toInt = 5 := r_ne rfl (by decide) c_21
      refine lv_aload_n hx hb dX6_accept_36 rfl (lv_at hl 0 rfl) ?_
      refine gf_X6_18 E hT_17 hW ha0 dX6_accept_37 (fun h_22 => ?_)
      refine gf_X6_22 E hT_17 h_22 dX6_accept_40 ?_
      refine th_topi (y := x_20) ((fi_q (hk_17 _ (AT.out h_19 (by decide)))).trans ex_20.symm) ?_
      refine lv_bipush (v := 8) hx hb dX6_accept_43 (by decide) ?_
      refine lv_icmp_ne (tgt := 58) hx hb dX6_accept_45 (by decide) (fun c_23 => ?_) (fun c_23 => ?_)
      · have f_23 : ¬ x_20.toInt = 8 := r_ne rfl (by decide) c_23
        refine lv_aload_n hx hb dX6_accept_58 rfl (lv_at hl 0 rfl) ?_
        refine gf_X6_18 E hT_17 hW ha0 dX6_accept_59 (fun h_24 => ?_)
        refine gf_X6_22 E hT_17 h_24 dX6_accept_62 ?_
        refine th_topi (y := x_20) ((fi_q (hk_17 _ (AT.out h_19 (by decide)))).trans ex_20.symm) ?_
        refine lv_bipush (v := 9) hx hb dX6_accept_65 (by decide) ?_
        refine lv_icmp_ne (tgt := 78) hx hb dX6_accept_67 (by decide) (fun c_25 => ?_) (fun c_25 => ?_)
        · have f_25 : ¬ x_20.toInt = 9 := r_ne rfl (by decide) c_25
          exact J_78 H_17 locs_17 _ hT_17 hS_17 hl
        · have f_25 : x_20.toInt = 9 := r_eq rfl (by decide) c_25
          refine lv_aload_n hx hb dX6_accept_70 rfl (lv_at hl 0 rfl) ?_
          refine gf_X6_18 E hT_17 hW ha0 dX6_accept_71 (fun h_26 => ?_)
          refine th_Vv (As := []) (rest := []) E hml hl.1 (z_X2_close l D cI cS τ ρ hW H_17 hT_17 (ρ a0 0) h_26) lk_X6_71 yd_X2_close hT_17 h_26 rfl (by decide) hS_17 (AT.sub (by decide)) ⟨by decide, by decide⟩ (Nat.le_of_ble_eq_true rfl) ⟨by decide, by decide⟩ rfl dX6_accept_74 (fun H_27 locs_27 p_27 hT_27 hk_27 hS_27 => ?_)
          exact th_vret E hr hlk hs hT_27 hS_27 trivial dX6_accept_77
      · have f_23 : x_20.toInt = 8 := r_eq rfl (by decide) c_23
        refine lv_aload_n hx hb dX6_accept_48 rfl (lv_at hl 0 rfl) ?_
        refine gf_X6_18 E hT_17 hW ha0 dX6_accept_49 (fun h_28 => ?_)
        refine th_Vv (As := []) (rest := []) E hml hl.1 (z_X2_waitForLate l D cI cS τ ρ hW H_17 hT_17 (ρ a0 0) h_28) lk_X6_122 yd_X2_waitForLate hT_17 h_28 rfl (by decide) hS_17 (AT.sub (by decide)) ⟨by decide, by decide⟩ (Nat.le_of_ble_eq_true rfl) ⟨by decide, by decide⟩ rfl dX6_accept_52 (fun H_29 locs_29 p_29 hT_29 hk_29 hS_29 => ?_)
        refine lv_goto (tgt := 78) hx hb dX6_accept_55 (by decide) ?_
        exact J_78 H_29 locs_29 _ hT_29 hS_29 hl
    · have f_21 : x_20.toInt = 5 := r_eq rfl (by decide) c_21
      refine lv_aload_n hx hb dX6_accept_24 rfl (lv_at hl 0 rfl) ?_
      refine gf_X6_18 E hT_17 hW ha0 dX6_accept_25 (fun h_30 => ?_)
      refine lv_bipush (v := 6) hx hb dX6_accept_28 (by decide) ?_
      refine pf_X6_22 E hT_17 hS_17 h_30 ⟨_, h_30, by decide⟩ dX6_accept_30 (fun H_31 locs_31 hT_31 hU_31 hS_31 => ?_)
      refine lv_goto (tgt := 78) hx hb dX6_accept_33 (by decide) ?_
      exact J_78 H_31 locs_31 _ hT_31 hS_31 hl
set_option maxHeartbeats 4000000 in
set_option maxRecDepth 100000 in
/-- StreamEnds$Receiver.receiveOpen: it ends, and the heap stays typed -/
theorem z_X6_receiveOpen (l : Launch) (D : va_G) (cI cS : ClassId) (τ : Nat → Option Nat) (ρ : Nat → Nat → Nat) (hW : WF τ ρ) (H : Heap) (hT : TH D cI cS τ ρ H) (a0 : Nat) (a1 : Nat) (ha0 : τ a0 = some 6) (ha1 : τ a1 = some 8) : MV l D cI cS τ ρ yX6_receiveOpen cX6_receiveOpen 5 none 4 99 H [.ref a0, .ref a1] (fun (u : Heap) => True) (AT τ [2, 3, 5, 6, 7, 8, 10, 104, 106, 108, 164]) := by
  refine MV.of (by decide) (Nat.le_of_ble_eq_true rfl) ?_
  intro p e s m args below meth c E hml hr hlk hs ls hl
  have hx := E.1
  have hb := E.2.1
  have hown := E.2.2.1
  have hts := E.2.2.2.1
  have hS : SS (AT τ [2, 3, 5, 6, 7, 8, 10, 104, 106, 108, 164]) H H [] := SS.rf
  have hl : lv_has ls 5 [(0, .ref a0), (1, .ref a1)] := hl
  have J_196 : ∀ (H_c196 : Heap) (lc_c196 : List Loc) (ls : Array Slot) (y196_2 : Int32) (y196_3 : Int32) (y196_4 : Int32), TH D cI cS τ ρ H_c196 → SS (AT τ [2, 3, 5, 6, 7, 8, 10, 104, 106, 108, 164]) H H_c196 lc_c196 → lv_has ls 5 [(0, .ref a0), (1, .ref a1), (2, .int y196_2), (3, .int y196_3), (4, .int y196_4)] → y196_4 = 0 ∨ y196_4 = 1 → W p l e (rmO 4 99) s m args below meth c H_c196 lc_c196 0 0 (MQ below (va_Qv (fun (u : Heap) => True) (Bt D cI cS τ ρ H) (AT τ [2, 3, 5, 6, 7, 8, 10, 104, 106, 108, 164])) args s 0 0 (AT τ [2, 3, 5, 6, 7, 8, 10, 104, 106, 108, 164])) (F0 m 196 ls []) := by
    intro H_c196 lc_c196 ls y196_2 y196_3 y196_4 hT_c196 hS_c196 hl by196_4
    have z_y196_4 := b_iv by196_4
    refine lv_aload_n hx hb dX6_receiveOpen_196 rfl (lv_at hl 0 rfl) ?_
    refine gf_X6_18 E hT_c196 hW ha0 dX6_receiveOpen_197 (fun h_1 => ?_)
    refine th_Vv (As := []) (rest := []) E hml hl.1 (z_X2_transmit l D cI cS τ ρ hW H_c196 hT_c196 (ρ a0 0) h_1) lk_X6_81 yd_X2_transmit hT_c196 h_1 rfl (by decide) hS_c196 (AT.sub (by decide)) ⟨by decide, by decide⟩ (Nat.le_of_ble_eq_true rfl) ⟨by decide, by decide⟩ rfl dX6_receiveOpen_200 (fun H_2 locs_2 p_2 hT_2 hk_2 hS_2 => ?_)
    exact th_vret E hr hlk hs hT_2 hS_2 trivial dX6_receiveOpen_203
  have J_159 : ∀ (H_c159 : Heap) (lc_c159 : List Loc) (ls : Array Slot) (y159_2 : Int32) (y159_3 : Int32) (y159_4 : Int32), TH D cI cS τ ρ H_c159 → SS (AT τ [2, 3, 5, 6, 7, 8, 10, 104, 106, 108, 164]) H H_c159 lc_c159 → lv_has ls 5 [(0, .ref a0), (1, .ref a1), (2, .int y159_2), (3, .int y159_3), (4, .int y159_4)] → y159_4 = 0 ∨ y159_4 = 1 → W p l e (rmO 4 99) s m args below meth c H_c159 lc_c159 0 0 (MQ below (va_Qv (fun (u : Heap) => True) (Bt D cI cS τ ρ H) (AT τ [2, 3, 5, 6, 7, 8, 10, 104, 106, 108, 164])) args s 0 0 (AT τ [2, 3, 5, 6, 7, 8, 10, 104, 106, 108, 164])) (F0 m 159 ls []) := by
    intro H_c159 lc_c159 ls y159_2 y159_3 y159_4 hT_c159 hS_c159 hl by159_4
    have z_y159_4 := b_iv by159_4
    refine lv_aload_n hx hb dX6_receiveOpen_159 rfl (lv_at hl 0 rfl) ?_
    refine lv_aload_n hx hb dX6_receiveOpen_160 rfl (lv_at hl 1 rfl) ?_
    refine lv_iload_n hx hb dX6_receiveOpen_161 rfl (lv_at hl 3 rfl) ?_
    refine th_Vv (As := [.ref a1, .int y159_3]) (rest := []) E hml hl.1 (z_X6_acknowledge l D cI cS τ ρ hW H_c159 hT_c159 a0 a1 y159_3 ha0 ha1) lk_X6_74 yd_X6_acknowledge hT_c159 ha0 rfl (by decide) hS_c159 (AT.sub (by decide)) ⟨by decide, by decide⟩ (Nat.le_of_ble_eq_true rfl) ⟨by decide, by decide⟩ rfl dX6_receiveOpen_162 (fun H_3 locs_3 p_3 hT_3 hk_3 hS_3 => ?_)
    refine lv_aload_n hx hb dX6_receiveOpen_165 rfl (lv_at hl 0 rfl) ?_
    refine lv_aload_n hx hb dX6_receiveOpen_166 rfl (lv_at hl 1 rfl) ?_
    refine lv_iload_n hx hb dX6_receiveOpen_167 rfl (lv_at hl 2 rfl) ?_
    refine th_Vv (As := [.ref a1, .int y159_2]) (rest := []) E hml hl.1 (z_X6_accept l D cI cS τ ρ hW H_3 hT_3 a0 a1 y159_2 ha0 ha1) lk_X6_113 yd_X6_accept hT_3 ha0 rfl (by decide) hS_3 (AT.sub (by decide)) ⟨by decide, by decide⟩ (Nat.le_of_ble_eq_true rfl) ⟨by decide, by decide⟩ rfl dX6_receiveOpen_168 (fun H_4 locs_4 p_4 hT_4 hk_4 hS_4 => ?_)
    refine lv_aload_n hx hb dX6_receiveOpen_171 rfl (lv_at hl 0 rfl) ?_
    refine gf_X6_18 E hT_4 hW ha0 dX6_receiveOpen_172 (fun h_5 => ?_)
    refine gf_X6_22 E hT_4 h_5 dX6_receiveOpen_175 ?_
    refine lv_topi (fun x_6 ex_6 => ?_)
    refine lv_if_ne (tgt := 182) hx hb dX6_receiveOpen_178 (by decide) (fun c_7 => ?_) (fun c_7 => ?_)
    · have f_7 : ¬ x_6.toInt = 0 := r_ne rfl (by decide) c_7
      have nz_x_6 : ¬ x_6 = 0 := c_7
      refine lv_aload_n hx hb dX6_receiveOpen_182 rfl (lv_at hl 1 rfl) ?_
      refine th_Vi (As := []) (rest := []) E hml hl.1 (z_X8_length l D cI cS τ ρ hW H_4 hT_4 a1 ha1) lk_X6_93 yd_X8_length hT_4 ha1 rfl (by decide) hS_4 (AT.sub (by decide)) ⟨by decide, by decide⟩ (Nat.le_of_ble_eq_true rfl) ⟨by decide, by decide⟩ rfl dX6_receiveOpen_183 (fun r_8 H_8 locs_8 p_8 hT_8 hk_8 hS_8 => ?_)
      refine lv_if_eq (tgt := 196) hx hb dX6_receiveOpen_186 (by decide) (fun c_9 => ?_) (fun c_9 => ?_)
      · have f_9 : r_8.toInt = 0 := r_eq rfl (by decide) c_9
        exact J_196 H_8 locs_8 _ y159_2 y159_3 y159_4 hT_8 hS_8 hl by159_4
      · have f_9 : ¬ r_8.toInt = 0 := r_ne rfl (by decide) c_9
        have nz_r_8 : ¬ r_8 = 0 := c_9
        refine lv_aload_n hx hb dX6_receiveOpen_189 rfl (lv_at hl 0 rfl) ?_
        refine gf_X6_18 E hT_8 hW ha0 dX6_receiveOpen_190 (fun h_10 => ?_)
        refine th_Vv (As := []) (rest := []) E hml hl.1 (z_X2_sendAck l D cI cS τ ρ hW H_8 hT_8 (ρ a0 0) h_10) lk_X6_78 yd_X2_sendAck hT_8 h_10 rfl (by decide) hS_8 (AT.sub (by decide)) ⟨by decide, by decide⟩ (Nat.le_of_ble_eq_true rfl) ⟨by decide, by decide⟩ rfl dX6_receiveOpen_193 (fun H_11 locs_11 p_11 hT_11 hk_11 hS_11 => ?_)
        exact J_196 H_11 locs_11 _ y159_2 y159_3 y159_4 hT_11 hS_11 hl by159_4
    · have f_7 : x_6.toInt = 0 := r_eq rfl (by decide) c_7
      exact th_vret E hr hlk hs hT_4 hS_4 trivial dX6_receiveOpen_181
  have J_117 : ∀ (H_c117 : Heap) (lc_c117 : List Loc) (ls : Array Slot) (y117_2 : Int32) (y117_3 : Int32) (y117_4 : Int32), TH D cI cS τ ρ H_c117 → SS (AT τ [2, 3, 5, 6, 7, 8, 10, 104, 106, 108, 164]) H H_c117 lc_c117 → lv_has ls 5 [(0, .ref a0), (1, .ref a1), (2, .int y117_2), (3, .int y117_3), (4, .int y117_4)] → y117_4 = 0 ∨ y117_4 = 1 → W p l e (rmO 4 99) s m args below meth c H_c117 lc_c117 0 0 (MQ below (va_Qv (fun (u : Heap) => True) (Bt D cI cS τ ρ H) (AT τ [2, 3, 5, 6, 7, 8, 10, 104, 106, 108, 164])) args s 0 0 (AT τ [2, 3, 5, 6, 7, 8, 10, 104, 106, 108, 164])) (F0 m 117 ls []) := by
    intro H_c117 lc_c117 ls y117_2 y117_3 y117_4 hT_c117 hS_c117 hl by117_4
    have z_y117_4 := b_iv by117_4
    refine lv_aload_n hx hb dX6_receiveOpen_117 rfl (lv_at hl 0 rfl) ?_
    refine lv_iconst (v := 5) hx hb dX6_receiveOpen_118 (by decide) ?_
    refine pf_X6_9 E hT_c117 hS_c117 ha0 ⟨_, ha0, by decide⟩ dX6_receiveOpen_119 (fun H_12 locs_12 hT_12 hU_12 hS_12 => ?_)
    refine lv_iload hx hb dX6_receiveOpen_122 (lv_at hl 4 rfl) ?_
    refine lv_if_eq (tgt := 138) hx hb dX6_receiveOpen_124 (by decide) (fun c_13 => ?_) (fun c_13 => ?_)
    · have f_13 : y117_4.toInt = 0 := r_eq rfl (by decide) c_13
      refine lv_aload_n hx hb dX6_receiveOpen_138 rfl (lv_at hl 0 rfl) ?_
      refine gf_X6_18 E hT_12 hW ha0 dX6_receiveOpen_139 (fun h_14 => ?_)
      refine th_Vv (As := []) (rest := []) E hml hl.1 (z_X2_sendAck l D cI cS τ ρ hW H_12 hT_12 (ρ a0 0) h_14) lk_X6_78 yd_X2_sendAck hT_12 h_14 rfl (by decide) hS_12 (AT.sub (by decide)) ⟨by decide, by decide⟩ (Nat.le_of_ble_eq_true rfl) ⟨by decide, by decide⟩ rfl dX6_receiveOpen_142 (fun H_15 locs_15 p_15 hT_15 hk_15 hS_15 => ?_)
      exact th_vret E hr hlk hs hT_15 hS_15 trivial dX6_receiveOpen_145
    · have f_13 : ¬ y117_4.toInt = 0 := r_ne rfl (by decide) c_13
      have nz_y117_4 : ¬ y117_4 = 0 := c_13
      refine lv_aload_n hx hb dX6_receiveOpen_127 rfl (lv_at hl 0 rfl) ?_
      refine gf_X6_18 E hT_12 hW ha0 dX6_receiveOpen_128 (fun h_16 => ?_)
      refine lv_aload_n hx hb dX6_receiveOpen_131 rfl (lv_at hl 1 rfl) ?_
      refine th_Vv (As := [.ref a1]) (rest := []) E hml hl.1 (z_X2_sendResetFor l D cI cS τ ρ hW H_12 hT_12 (ρ a0 0) a1 h_16 ha1) lk_X6_49 yd_X2_sendResetFor hT_12 h_16 rfl (by decide) hS_12 (AT.sub (by decide)) ⟨by decide, by decide⟩ (Nat.le_of_ble_eq_true rfl) ⟨by decide, by decide⟩ rfl dX6_receiveOpen_132 (fun H_17 locs_17 p_17 hT_17 hk_17 hS_17 => ?_)
      refine lv_goto (tgt := 145) hx hb dX6_receiveOpen_135 (by decide) ?_
      exact th_vret E hr hlk hs hT_17 hS_17 trivial dX6_receiveOpen_145
  have J_103 : ∀ (H_c103 : Heap) (lc_c103 : List Loc) (ls : Array Slot) (y103_2 : Int32) (y103_3 : Int32) (y103_4 : Int32), TH D cI cS τ ρ H_c103 → SS (AT τ [2, 3, 5, 6, 7, 8, 10, 104, 106, 108, 164]) H H_c103 lc_c103 → lv_has ls 5 [(0, .ref a0), (1, .ref a1), (2, .int y103_2), (3, .int y103_3), (4, .int y103_4)] → y103_4 = 0 ∨ y103_4 = 1 → W p l e (rmO 4 99) s m args below meth c H_c103 lc_c103 0 0 (MQ below (va_Qv (fun (u : Heap) => True) (Bt D cI cS τ ρ H) (AT τ [2, 3, 5, 6, 7, 8, 10, 104, 106, 108, 164])) args s 0 0 (AT τ [2, 3, 5, 6, 7, 8, 10, 104, 106, 108, 164])) (F0 m 103 ls []) := by
    intro H_c103 lc_c103 ls y103_2 y103_3 y103_4 hT_c103 hS_c103 hl by103_4
    have z_y103_4 := b_iv by103_4
    refine lv_iload_n hx hb dX6_receiveOpen_103 rfl (lv_at hl 3 rfl) ?_
    refine lv_aload_n hx hb dX6_receiveOpen_104 rfl (lv_at hl 0 rfl) ?_
    refine gf_X6_18 E hT_c103 hW ha0 dX6_receiveOpen_105 (fun h_18 => ?_)
    refine gf_X6_104 E hT_c103 hW h_18 dX6_receiveOpen_108 (fun h_19 => ?_)
    refine gf_X6_108 E hT_c103 h_19 dX6_receiveOpen_111 ?_
    refine lv_topi (fun x_20 ex_20 => ?_)
    refine lv_icmp_le (tgt := 146) hx hb dX6_receiveOpen_114 (by decide) (fun c_21 => ?_) (fun c_21 => ?_)
    · have f_21 : y103_3.toInt ≤ x_20.toInt := r_le rfl rfl c_21
      refine lv_iload hx hb dX6_receiveOpen_146 (lv_at hl 4 rfl) ?_
      refine lv_if_eq (tgt := 159) hx hb dX6_receiveOpen_148 (by decide) (fun c_22 => ?_) (fun c_22 => ?_)
      · have f_22 : y103_4.toInt = 0 := r_eq rfl (by decide) c_22
        exact J_159 H_c103 lc_c103 _ y103_2 y103_3 y103_4 hT_c103 hS_c103 hl by103_4
      · have f_22 : ¬ y103_4.toInt = 0 := r_ne rfl (by decide) c_22
        have nz_y103_4 : ¬ y103_4 = 0 := c_22
        refine lv_aload_n hx hb dX6_receiveOpen_151 rfl (lv_at hl 0 rfl) ?_
        refine gf_X6_18 E hT_c103 hW ha0 dX6_receiveOpen_152 (fun h_23 => ?_)
        refine lv_iconst (v := 4) hx hb dX6_receiveOpen_155 (by decide) ?_
        refine pf_X6_22 E hT_c103 hS_c103 h_23 ⟨_, h_23, by decide⟩ dX6_receiveOpen_156 (fun H_24 locs_24 hT_24 hU_24 hS_24 => ?_)
        exact J_159 H_24 locs_24 _ y103_2 y103_3 y103_4 hT_24 hS_24 hl by103_4
    · have f_21 : x_20.toInt < y103_3.toInt := r_nle rfl rfl c_21
      exact J_117 H_c103 lc_c103 _ y103_2 y103_3 y103_4 hT_c103 hS_c103 hl by103_4
  have J_91 : ∀ (H_c91 : Heap) (lc_c91 : List Loc) (ls : Array Slot) (y91_2 : Int32) (y91_3 : Int32) (z91_0 : Int32), TH D cI cS τ ρ H_c91 → SS (AT τ [2, 3, 5, 6, 7, 8, 10, 104, 106, 108, 164]) H H_c91 lc_c91 → lv_has ls 5 [(0, .ref a0), (1, .ref a1), (2, .int y91_2), (3, .int y91_3)] → z91_0 = 0 ∨ z91_0 = 1 → W p l e (rmO 4 99) s m args below meth c H_c91 lc_c91 0 0 (MQ below (va_Qv (fun (u : Heap) => True) (Bt D cI cS τ ρ H) (AT τ [2, 3, 5, 6, 7, 8, 10, 104, 106, 108, 164])) args s 0 0 (AT τ [2, 3, 5, 6, 7, 8, 10, 104, 106, 108, 164])) (F0 m 91 ls [.int z91_0]) := by
    intro H_c91 lc_c91 ls y91_2 y91_3 z91_0 hT_c91 hS_c91 hl bz91_0
    have z_z91_0 := b_iv bz91_0
    refine lv_istore (lv' := [(4, .int z91_0), (0, .ref a0), (1, .ref a1), (2, .int y91_2), (3, .int y91_3)]) hx hb dX6_receiveOpen_91 hl (by decide) rfl (fun ls hl => ?_)
    refine lv_iload hx hb dX6_receiveOpen_93 (lv_at hl 0 rfl) ?_
    refine lv_if_eq (tgt := 103) hx hb dX6_receiveOpen_95 (by decide) (fun c_25 => ?_) (fun c_25 => ?_)
    · have f_25 : z91_0.toInt = 0 := r_eq rfl (by decide) c_25
      exact J_103 H_c91 lc_c91 _ y91_2 y91_3 z91_0 hT_c91 hS_c91 (lv_sub hl [1, 2, 3, 4, 0] rfl) bz91_0
    · have f_25 : ¬ z91_0.toInt = 0 := r_ne rfl (by decide) c_25
      have nz_z91_0 : ¬ z91_0 = 0 := c_25
      refine lv_iload_n hx hb dX6_receiveOpen_98 rfl (lv_at hl 4 rfl) ?_
      refine lv_iconst (v := 1) hx hb dX6_receiveOpen_99 (by decide) ?_
      refine lv_icmp_lt (tgt := 117) hx hb dX6_receiveOpen_100 (by decide) (fun c_26 => ?_) (fun c_26 => ?_)
      · have f_26 : y91_3.toInt < 1 := r_lt rfl (by decide) c_26
        exact J_117 H_c91 lc_c91 _ y91_2 y91_3 z91_0 hT_c91 hS_c91 (lv_sub hl [1, 2, 3, 4, 0] rfl) bz91_0
      · have f_26 : 1 ≤ y91_3.toInt := r_nlt rfl (by decide) c_26
        exact J_103 H_c91 lc_c91 _ y91_2 y91_3 z91_0 hT_c91 hS_c91 (lv_sub hl [1, 2, 3, 4, 0] rfl) bz91_0
  refine lv_aload_n hx hb dX6_receiveOpen_0 rfl (lv_at hl 0 rfl) ?_
  refine lv_aload_n hx hb dX6_receiveOpen_1 rfl (lv_at hl 1 rfl) ?_
  refine gf_X6_87 E hT ha1 dX6_receiveOpen_2 ?_
  refine lv_topi (fun x_27 ex_27 => ?_)
  refine th_Vi (As := [.int x_27]) (rest := []) E hml hl.1 (z_X6_peerPlace l D cI cS τ ρ hW H hT a0 x_27 ha0) lk_X6_90 yd_X6_peerPlace hT ha0 rfl (by decide) hS (AT.sub (by decide)) ⟨by decide, by decide⟩ (Nat.le_of_ble_eq_true rfl) ⟨by decide, by decide⟩ rfl dX6_receiveOpen_5 (fun r_28 H_28 locs_28 p_28 hT_28 hk_28 hS_28 => ?_)
  refine lv_istore_n (lv' := [(2, .int r_28), (0, .ref a0), (1, .ref a1)]) hx hb dX6_receiveOpen_8 rfl hl (by decide) rfl (fun ls hl => ?_)
  refine lv_aload_n hx hb dX6_receiveOpen_9 rfl (lv_at hl 1 rfl) ?_
  refine gf_X6_18 E hT_28 hW ha0 dX6_receiveOpen_10 (fun h_29 => ?_)
  refine gf_X6_52 E hT_28 hW h_29 dX6_receiveOpen_13 (fun h_30 => ?_)
  refine lv_iload_n hx hb dX6_receiveOpen_16 rfl (lv_at hl 0 rfl) ?_
  refine lv_aload_n hx hb dX6_receiveOpen_17 rfl (lv_at hl 2 rfl) ?_
  refine th_Vi (As := []) (rest := [.int r_28, .ref (ρ (ρ a0 0) 5)]) E hml hl.1 (z_X8_length l D cI cS τ ρ hW H_28 hT_28 a1 ha1) lk_X6_93 yd_X8_length hT_28 ha1 rfl (by decide) hS_28 (AT.sub (by decide)) ⟨by decide, by decide⟩ (Nat.le_of_ble_eq_true rfl) ⟨by decide, by decide⟩ rfl dX6_receiveOpen_18 (fun r_31 H_31 locs_31 p_31 hT_31 hk_31 hS_31 => ?_)
  refine th_Vi (As := [.int r_28, .int r_31]) (rest := []) E hml hl.1 (z_X3_fits l D cI cS τ ρ hW H_31 hT_31 (ρ (ρ a0 0) 5) r_28 r_31 h_30) lk_X6_97 yd_X3_fits hT_31 h_30 rfl (by decide) hS_31 (AT.sub (by decide)) ⟨by decide, by decide⟩ (Nat.le_of_ble_eq_true rfl) ⟨by decide, by decide⟩ rfl dX6_receiveOpen_21 (fun r_32 H_32 locs_32 p_32 hT_32 hk_32 hS_32 => ?_)
  have z_32 := b_iv p_32
  refine lv_if_ne (tgt := 34) hx hb dX6_receiveOpen_24 (by decide) (fun c_33 => ?_) (fun c_33 => ?_)
  · have f_33 : ¬ r_32.toInt = 0 := r_ne rfl (by decide) c_33
    have nz_r_32 : ¬ r_32 = 0 := c_33
    refine lv_aload_n hx hb dX6_receiveOpen_34 rfl (lv_at hl 2 rfl) ?_
    refine lv_bipush (v := 8) hx hb dX6_receiveOpen_35 (by decide) ?_
    refine th_Vi (As := [.int 8]) (rest := []) E hml hl.1 (z_X8_has l D cI cS τ ρ hW H_32 hT_32 a1 8 ha1) lk_X6_43 yd_X8_has hT_32 ha1 rfl (by decide) hS_32 (AT.sub (by decide)) ⟨by decide, by decide⟩ (Nat.le_of_ble_eq_true rfl) ⟨by decide, by decide⟩ rfl dX6_receiveOpen_37 (fun r_34 H_34 locs_34 p_34 hT_34 hk_34 hS_34 => ?_)
    have z_34 := b_iv p_34
    refine lv_if_eq (tgt := 51) hx hb dX6_receiveOpen_40 (by decide) (fun c_35 => ?_) (fun c_35 => ?_)
    · have f_35 : r_34.toInt = 0 := r_eq rfl (by decide) c_35
      refine lv_aload_n hx hb dX6_receiveOpen_51 rfl (lv_at hl 2 rfl) ?_
      refine lv_iconst (v := 4) hx hb dX6_receiveOpen_52 (by decide) ?_
      refine th_Vi (As := [.int 4]) (rest := []) E hml hl.1 (z_X8_has l D cI cS τ ρ hW H_34 hT_34 a1 4 ha1) lk_X6_43 yd_X8_has hT_34 ha1 rfl (by decide) hS_34 (AT.sub (by decide)) ⟨by decide, by decide⟩ (Nat.le_of_ble_eq_true rfl) ⟨by decide, by decide⟩ rfl dX6_receiveOpen_53 (fun r_36 H_36 locs_36 p_36 hT_36 hk_36 hS_36 => ?_)
      have z_36 := b_iv p_36
      refine lv_if_ne (tgt := 66) hx hb dX6_receiveOpen_56 (by decide) (fun c_37 => ?_) (fun c_37 => ?_)
      · have f_37 : ¬ r_36.toInt = 0 := r_ne rfl (by decide) c_37
        have nz_r_36 : ¬ r_36 = 0 := c_37
        refine lv_aload_n hx hb dX6_receiveOpen_66 rfl (lv_at hl 1 rfl) ?_
        refine lv_aload_n hx hb dX6_receiveOpen_67 rfl (lv_at hl 2 rfl) ?_
        refine gf_X6_64 E hT_36 ha1 dX6_receiveOpen_68 ?_
        refine th_topi (y := fi D 8 3 H a1) (Eq.trans (fi_q (hk_36 _ (AT.out ha1 (by decide)))) (Eq.trans (fi_q (hk_34 _ (AT.out ha1 (by decide)))) (Eq.trans (fi_q (hk_32 _ (AT.out ha1 (by decide)))) (Eq.trans (fi_q (hk_31 _ (AT.out ha1 (by decide)))) (fi_q (hk_28 _ (AT.out ha1 (by decide)))))))) ?_
        refine lv_topi (fun x_38 ex_38 => ?_)
        refine th_Vi (As := [.int x_38]) (rest := []) E hml hl.1 (z_X6_ownPlace l D cI cS τ ρ hW H_36 hT_36 a0 x_38 ha0) lk_X6_67 yd_X6_ownPlace hT_36 ha0 rfl (by decide) hS_36 (AT.sub (by decide)) ⟨by decide, by decide⟩ (Nat.le_of_ble_eq_true rfl) ⟨by decide, by decide⟩ rfl dX6_receiveOpen_71 (fun r_39 H_39 locs_39 p_39 hT_39 hk_39 hS_39 => ?_)
        refine lv_istore_n (lv' := [(3, .int r_39), (2, .int r_28), (0, .ref a0), (1, .ref a1)]) hx hb dX6_receiveOpen_74 rfl hl (by decide) rfl (fun ls hl => ?_)
        refine lv_aload_n hx hb dX6_receiveOpen_75 rfl (lv_at hl 2 rfl) ?_
        refine gf_X6_18 E hT_39 hW ha0 dX6_receiveOpen_76 (fun h_40 => ?_)
        refine gf_X6_22 E hT_39 h_40 dX6_receiveOpen_79 ?_
        refine th_topi (y := fi D 2 7 H (ρ a0 0)) (Eq.trans (fi_q (hk_39 _ (AT.out h_40 (by decide)))) (Eq.trans (fi_q (hk_36 _ (AT.out h_40 (by decide)))) (Eq.trans (fi_q (hk_34 _ (AT.out h_40 (by decide)))) (Eq.trans (fi_q (hk_32 _ (AT.out h_40 (by decide)))) (Eq.trans (fi_q (hk_31 _ (AT.out h_40 (by decide)))) (fi_q (hk_28 _ (AT.out h_40 (by decide))))))))) ?_
        refine lv_topi (fun x_41 ex_41 => ?_)
        refine lv_iconst (v := 3) hx hb dX6_receiveOpen_82 (by decide) ?_
        refine lv_icmp_ne (tgt := 90) hx hb dX6_receiveOpen_83 (by decide) (fun c_42 => ?_) (fun c_42 => ?_)
        · have f_42 : ¬ x_41.toInt = 3 := r_ne rfl (by decide) c_42
          refine lv_iconst (v := 0) hx hb dX6_receiveOpen_90 (by decide) ?_
          exact J_91 H_39 locs_39 _ r_28 r_39 0 hT_39 hS_39 (lv_sub hl [2, 3, 1, 0] rfl) (Or.inl rfl)
        · have f_42 : x_41.toInt = 3 := r_eq rfl (by decide) c_42
          refine lv_iconst (v := 1) hx hb dX6_receiveOpen_86 (by decide) ?_
          refine lv_goto (tgt := 91) hx hb dX6_receiveOpen_87 (by decide) ?_
          exact J_91 H_39 locs_39 _ r_28 r_39 1 hT_39 hS_39 (lv_sub hl [2, 3, 1, 0] rfl) (Or.inr rfl)
      · have f_37 : r_36.toInt = 0 := r_eq rfl (by decide) c_37
        refine lv_aload_n hx hb dX6_receiveOpen_59 rfl (lv_at hl 1 rfl) ?_
        refine lv_bipush (v := 10) hx hb dX6_receiveOpen_60 (by decide) ?_
        refine pf_X6_9 E hT_36 hS_36 ha0 ⟨_, ha0, by decide⟩ dX6_receiveOpen_62 (fun H_43 locs_43 hT_43 hU_43 hS_43 => ?_)
        exact th_vret E hr hlk hs hT_43 hS_43 trivial dX6_receiveOpen_65
    · have f_35 : ¬ r_34.toInt = 0 := r_ne rfl (by decide) c_35
      have nz_r_34 : ¬ r_34 = 0 := c_35
      refine lv_aload_n hx hb dX6_receiveOpen_43 rfl (lv_at hl 1 rfl) ?_
      refine gf_X6_18 E hT_34 hW ha0 dX6_receiveOpen_44 (fun h_44 => ?_)
      refine th_Vv (As := []) (rest := []) E hml hl.1 (z_X2_close l D cI cS τ ρ hW H_34 hT_34 (ρ a0 0) h_44) lk_X6_71 yd_X2_close hT_34 h_44 rfl (by decide) hS_34 (AT.sub (by decide)) ⟨by decide, by decide⟩ (Nat.le_of_ble_eq_true rfl) ⟨by decide, by decide⟩ rfl dX6_receiveOpen_47 (fun H_45 locs_45 p_45 hT_45 hk_45 hS_45 => ?_)
      exact th_vret E hr hlk hs hT_45 hS_45 trivial dX6_receiveOpen_50
  · have f_33 : r_32.toInt = 0 := r_eq rfl (by decide) c_33
    refine lv_aload_n hx hb dX6_receiveOpen_27 rfl (lv_at hl 1 rfl) ?_
    refine lv_aload_n hx hb dX6_receiveOpen_28 rfl (lv_at hl 2 rfl) ?_
    refine lv_iload_n hx hb dX6_receiveOpen_29 rfl (lv_at hl 0 rfl) ?_
    refine th_Vv (As := [.ref a1, .int r_28]) (rest := []) E hml hl.1 (z_X6_refuse l D cI cS τ ρ hW H_32 hT_32 a0 a1 r_28 ha0 ha1) lk_X6_101 yd_X6_refuse hT_32 ha0 rfl (by decide) hS_32 (AT.sub (by decide)) ⟨by decide, by decide⟩ (Nat.le_of_ble_eq_true rfl) ⟨by decide, by decide⟩ rfl dX6_receiveOpen_30 (fun H_46 locs_46 p_46 hT_46 hk_46 hS_46 => ?_)
    exact th_vret E hr hlk hs hT_46 hS_46 trivial dX6_receiveOpen_33
set_option maxHeartbeats 4000000 in
set_option maxRecDepth 100000 in
/-- StreamEnds$Receiver.receive: it ends, and the heap stays typed -/
theorem z_X6_receive (l : Launch) (D : va_G) (cI cS : ClassId) (τ : Nat → Option Nat) (ρ : Nat → Nat → Nat) (hW : WF τ ρ) (H : Heap) (hT : TH D cI cS τ ρ H) (a0 : Nat) (a1 : Nat) (ha0 : τ a0 = some 6) (ha1 : τ a1 = some 8) : MV l D cI cS τ ρ yX6_receive cX6_receive 2 none 5 123 H [.ref a0, .ref a1] (fun (u : Heap) => True) (AT τ [2, 3, 5, 6, 7, 8, 10, 104, 106, 108, 164]) := by
  refine MV.of (by decide) (Nat.le_of_ble_eq_true rfl) ?_
  intro p e s m args below meth c E hml hr hlk hs ls hl
  have hx := E.1
  have hb := E.2.1
  have hown := E.2.2.1
  have hts := E.2.2.2.1
  have hS : SS (AT τ [2, 3, 5, 6, 7, 8, 10, 104, 106, 108, 164]) H H [] := SS.rf
  have hl : lv_has ls 2 [(0, .ref a0), (1, .ref a1)] := hl
  have J_73 : ∀ (H_c73 : Heap) (lc_c73 : List Loc) (ls : Array Slot), TH D cI cS τ ρ H_c73 → SS (AT τ [2, 3, 5, 6, 7, 8, 10, 104, 106, 108, 164]) H H_c73 lc_c73 → lv_has ls 2 [(0, .ref a0), (1, .ref a1)] → W p l e (rmO 5 123) s m args below meth c H_c73 lc_c73 0 0 (MQ below (va_Qv (fun (u : Heap) => True) (Bt D cI cS τ ρ H) (AT τ [2, 3, 5, 6, 7, 8, 10, 104, 106, 108, 164])) args s 0 0 (AT τ [2, 3, 5, 6, 7, 8, 10, 104, 106, 108, 164])) (F0 m 73 ls []) := by
    intro H_c73 lc_c73 ls hT_c73 hS_c73 hl
    refine lv_aload_n hx hb dX6_receive_73 rfl (lv_at hl 0 rfl) ?_
    refine gf_X6_18 E hT_c73 hW ha0 dX6_receive_74 (fun h_1 => ?_)
    refine th_Vv (As := []) (rest := []) E hml hl.1 (z_X2_adjustTimer l D cI cS τ ρ hW H_c73 hT_c73 (ρ a0 0) h_1) lk_X6_40 yd_X2_adjustTimer hT_c73 h_1 rfl (by decide) hS_c73 (AT.sub (by decide)) ⟨by decide, by decide⟩ (Nat.le_of_ble_eq_true rfl) ⟨by decide, by decide⟩ rfl dX6_receive_77 (fun H_2 locs_2 p_2 hT_2 hk_2 hS_2 => ?_)
    exact th_vret E hr hlk hs hT_2 hS_2 trivial dX6_receive_80
  refine lv_aload_n hx hb dX6_receive_0 rfl (lv_at hl 0 rfl) ?_
  refine lv_bipush (v := (-4)) hx hb dX6_receive_1 (by decide) ?_
  refine pf_X6_9 E hT hS ha0 ⟨_, ha0, by decide⟩ dX6_receive_3 (fun H_3 locs_3 hT_3 hU_3 hS_3 => ?_)
  refine lv_aload_n hx hb dX6_receive_6 rfl (lv_at hl 0 rfl) ?_
  refine lv_bipush (v := (-4)) hx hb dX6_receive_7 (by decide) ?_
  refine pf_X6_15 E hT_3 hS_3 ha0 ⟨_, ha0, by decide⟩ dX6_receive_9 (fun H_4 locs_4 hT_4 hU_4 hS_4 => ?_)
  refine lv_aload_n hx hb dX6_receive_12 rfl (lv_at hl 0 rfl) ?_
  refine gf_X6_18 E hT_4 hW ha0 dX6_receive_13 (fun h_5 => ?_)
  refine gf_X6_22 E hT_4 h_5 dX6_receive_16 ?_
  refine th_topi (y := fi D 2 7 H (ρ a0 0)) (Eq.trans (fi_q (hU_4.2.2 _ (th_ne h_5 ha0 (by decide)))) (fi_q (hU_3.2.2 _ (th_ne h_5 ha0 (by decide))))) ?_
  refine lv_topi (fun x_6 ex_6 => ?_)
  by_cases k7_0 : x_6 = 0
  · refine th_topi k7_0 ?_
    refine lv_tableIn (tgt := 44) hx hb dX6_receive_19 (by decide) (by decide) rfl (by decide) ?_
    refine lv_aload_n hx hb dX6_receive_44 rfl (lv_at hl 0 rfl) ?_
    refine lv_aload_n hx hb dX6_receive_45 rfl (lv_at hl 1 rfl) ?_
    refine th_Vv (As := [.ref a1]) (rest := []) E hml hl.1 (z_X6_receiveClosed l D cI cS τ ρ hW H_4 hT_4 a0 a1 ha0 ha1) lk_X6_27 yd_X6_receiveClosed hT_4 ha0 rfl (by decide) hS_4 (AT.sub (by decide)) ⟨by decide, by decide⟩ (Nat.le_of_ble_eq_true rfl) ⟨by decide, by decide⟩ rfl dX6_receive_46 (fun H_8 locs_8 p_8 hT_8 hk_8 hS_8 => ?_)
    refine lv_goto (tgt := 73) hx hb dX6_receive_49 (by decide) ?_
    exact J_73 H_8 locs_8 _ hT_8 hS_8 hl
  by_cases k7_1 : x_6 = 1
  · refine th_topi k7_1 ?_
    refine lv_tableIn (tgt := 52) hx hb dX6_receive_19 (by decide) (by decide) rfl (by decide) ?_
    refine lv_aload_n hx hb dX6_receive_52 rfl (lv_at hl 0 rfl) ?_
    refine lv_aload_n hx hb dX6_receive_53 rfl (lv_at hl 1 rfl) ?_
    refine th_Vv (As := [.ref a1]) (rest := []) E hml hl.1 (z_X6_receiveListening l D cI cS τ ρ hW H_4 hT_4 a0 a1 ha0 ha1) lk_X6_31 yd_X6_receiveListening hT_4 ha0 rfl (by decide) hS_4 (AT.sub (by decide)) ⟨by decide, by decide⟩ (Nat.le_of_ble_eq_true rfl) ⟨by decide, by decide⟩ rfl dX6_receive_54 (fun H_9 locs_9 p_9 hT_9 hk_9 hS_9 => ?_)
    refine lv_goto (tgt := 73) hx hb dX6_receive_57 (by decide) ?_
    exact J_73 H_9 locs_9 _ hT_9 hS_9 hl
  by_cases k7_2 : x_6 = 2
  · refine th_topi k7_2 ?_
    refine lv_tableIn (tgt := 60) hx hb dX6_receive_19 (by decide) (by decide) rfl (by decide) ?_
    refine lv_aload_n hx hb dX6_receive_60 rfl (lv_at hl 0 rfl) ?_
    refine lv_aload_n hx hb dX6_receive_61 rfl (lv_at hl 1 rfl) ?_
    refine th_Vv (As := [.ref a1]) (rest := []) E hml hl.1 (z_X6_receiveConnecting l D cI cS τ ρ hW H_4 hT_4 a0 a1 ha0 ha1) lk_X6_34 yd_X6_receiveConnecting hT_4 ha0 rfl (by decide) hS_4 (AT.sub (by decide)) ⟨by decide, by decide⟩ (Nat.le_of_ble_eq_true rfl) ⟨by decide, by decide⟩ rfl dX6_receive_62 (fun H_10 locs_10 p_10 hT_10 hk_10 hS_10 => ?_)
    refine lv_goto (tgt := 73) hx hb dX6_receive_65 (by decide) ?_
    exact J_73 H_10 locs_10 _ hT_10 hS_10 hl
  have n7_0 := i_ne k7_0 (k := 0) (by decide)
  have n7_1 := i_ne k7_1 (k := 1) (by decide)
  have n7_2 := i_ne k7_2 (k := 2) (by decide)
  refine lv_tableOut (tgt := 68) hx hb dX6_receive_19 (by omega) (by decide) ?_
  refine lv_aload_n hx hb dX6_receive_68 rfl (lv_at hl 0 rfl) ?_
  refine lv_aload_n hx hb dX6_receive_69 rfl (lv_at hl 1 rfl) ?_
  refine th_Vv (As := [.ref a1]) (rest := []) E hml hl.1 (z_X6_receiveOpen l D cI cS τ ρ hW H_4 hT_4 a0 a1 ha0 ha1) lk_X6_37 yd_X6_receiveOpen hT_4 ha0 rfl (by decide) hS_4 (AT.sub (by decide)) ⟨by decide, by decide⟩ (Nat.le_of_ble_eq_true rfl) ⟨by decide, by decide⟩ rfl dX6_receive_70 (fun H_11 locs_11 p_11 hT_11 hk_11 hS_11 => ?_)
  exact J_73 H_11 locs_11 _ hT_11 hS_11 hl
set_option maxHeartbeats 4000000 in
set_option maxRecDepth 100000 in
/-- StreamEnds$Network.deliver: it ends, and the heap stays typed -/
theorem z_X4_deliver (l : Launch) (D : va_G) (cI cS : ClassId) (τ : Nat → Option Nat) (ρ : Nat → Nat → Nat) (hW : WF τ ρ) (H : Heap) (hT : TH D cI cS τ ρ H) (a0 : Nat) (x0 : Int32) (ha0 : τ a0 = some 4) : MI l D cI cS τ ρ yX4_deliver cX4_deliver 4 (some .boolean) 6 144 H [.ref a0, .int x0] (fun (r : Int32) (u : Heap) => r = 0 ∨ r = 1) (AT τ [2, 3, 4, 5, 6, 7, 8, 10, 50, 104, 106, 108, 164]) := by
  refine MI.of (by decide) (Nat.le_of_ble_eq_true rfl) ?_
  intro p e s m args below meth c E hml hr hlk hs ls hl
  have hx := E.1
  have hb := E.2.1
  have hown := E.2.2.1
  have hts := E.2.2.2.1
  have hS : SS (AT τ [2, 3, 4, 5, 6, 7, 8, 10, 50, 104, 106, 108, 164]) H H [] := SS.rf
  have hl : lv_has ls 4 [(0, .ref a0), (1, .int x0)] := hl
  have J_81 : ∀ (H_c81 : Heap) (lc_c81 : List Loc) (ls : Array Slot) (y81_2 : Nat) (y81_3 : Nat), TH D cI cS τ ρ H_c81 → SS (AT τ [2, 3, 4, 5, 6, 7, 8, 10, 50, 104, 106, 108, 164]) H H_c81 lc_c81 → lv_has ls 4 [(0, .ref a0), (1, .int x0), (2, .ref y81_2), (3, .ref y81_3)] → 0 ≤ x0.toInt → x0.toInt ≤ 19 → τ y81_2 = some 8 → τ y81_3 = some 6 → W p l e (rmO 6 144) s m args below meth c H_c81 lc_c81 0 0 (MQ below (va_Qi (fun (r : Int32) (u : Heap) => r = 0 ∨ r = 1) (Bt D cI cS τ ρ H) (AT τ [2, 3, 4, 5, 6, 7, 8, 10, 50, 104, 106, 108, 164])) args s 0 0 (AT τ [2, 3, 4, 5, 6, 7, 8, 10, 50, 104, 106, 108, 164])) (F0 m 81 ls []) := by
    intro H_c81 lc_c81 ls y81_2 y81_3 hT_c81 hS_c81 hl ly81_1 uy81_1 ty81_2 ty81_3
    refine lv_aload_n hx hb dX4_deliver_81 rfl (lv_at hl 0 rfl) ?_
    refine gf_X4_70 E hT_c81 ha0 dX4_deliver_82 ?_
    refine lv_topi (fun x_1 ex_1 => ?_)
    refine lv_bipush (v := (-4)) hx hb dX4_deliver_85 (by decide) ?_
    refine lv_icmp_ne (tgt := 94) hx hb dX4_deliver_87 (by decide) (fun c_2 => ?_) (fun c_2 => ?_)
    · have f_2 : ¬ x_1.toInt = -4 := r_ne rfl (by decide) c_2
      refine lv_iconst (v := 0) hx hb dX4_deliver_94 (by decide) ?_
      exact th_zret E hr hlk hs (Or.inl rfl) hT_c81 hS_c81 (Or.inl rfl) dX4_deliver_95
    · have f_2 : x_1.toInt = -4 := r_eq rfl (by decide) c_2
      refine lv_iconst (v := 1) hx hb dX4_deliver_90 (by decide) ?_
      refine lv_goto (tgt := 95) hx hb dX4_deliver_91 (by decide) ?_
      exact th_zret E hr hlk hs (Or.inr rfl) hT_c81 hS_c81 (Or.inr rfl) dX4_deliver_95
  have J_40 : ∀ (H_c40 : Heap) (lc_c40 : List Loc) (ls : Array Slot) (y40_2 : Nat) (z40_0 : Nat), TH D cI cS τ ρ H_c40 → SS (AT τ [2, 3, 4, 5, 6, 7, 8, 10, 50, 104, 106, 108, 164]) H H_c40 lc_c40 → lv_has ls 4 [(0, .ref a0), (1, .int x0), (2, .ref y40_2)] → 0 ≤ x0.toInt → x0.toInt ≤ 19 → τ y40_2 = some 8 → τ z40_0 = some 6 → W p l e (rmO 6 144) s m args below meth c H_c40 lc_c40 0 0 (MQ below (va_Qi (fun (r : Int32) (u : Heap) => r = 0 ∨ r = 1) (Bt D cI cS τ ρ H) (AT τ [2, 3, 4, 5, 6, 7, 8, 10, 50, 104, 106, 108, 164])) args s 0 0 (AT τ [2, 3, 4, 5, 6, 7, 8, 10, 50, 104, 106, 108, 164])) (F0 m 40 ls [.ref z40_0]) := by
    intro H_c40 lc_c40 ls y40_2 z40_0 hT_c40 hS_c40 hl ly40_1 uy40_1 ty40_2 tz40_0
    refine lv_astore_n (lv' := [(3, .ref z40_0), (0, .ref a0), (1, .int x0), (2, .ref y40_2)]) hx hb dX4_deliver_40 rfl hl (by decide) rfl (fun ls hl => ?_)
    refine lv_aload_n hx hb dX4_deliver_41 rfl (lv_at hl 0 rfl) ?_
    refine lv_aload_n hx hb dX4_deliver_42 rfl (lv_at hl 3 rfl) ?_
    refine th_Vv (As := [.ref y40_2]) (rest := []) E hml hl.1 (z_X6_receive l D cI cS τ ρ hW H_c40 hT_c40 z40_0 y40_2 tz40_0 ty40_2) lk_X4_104 yd_X6_receive hT_c40 tz40_0 rfl (by decide) hS_c40 (AT.sub (by decide)) ⟨by decide, by decide⟩ (Nat.le_of_ble_eq_true rfl) ⟨by decide, by decide⟩ rfl dX4_deliver_43 (fun H_3 locs_3 p_3 hT_3 hk_3 hS_3 => ?_)
    refine lv_aload_n hx hb dX4_deliver_46 rfl (lv_at hl 1 rfl) ?_
    refine lv_aload_n hx hb dX4_deliver_47 rfl (lv_at hl 0 rfl) ?_
    refine gf_X4_108 E hT_3 tz40_0 dX4_deliver_48 ?_
    refine lv_topi (fun x_4 ex_4 => ?_)
    refine pf_X4_70 E hT_3 hS_3 ha0 ⟨_, ha0, by decide⟩ dX4_deliver_51 (fun H_5 locs_5 hT_5 hU_5 hS_5 => ?_)
    refine lv_aload_n hx hb dX4_deliver_54 rfl (lv_at hl 1 rfl) ?_
    refine lv_aload_n hx hb dX4_deliver_55 rfl (lv_at hl 0 rfl) ?_
    refine gf_X4_109 E hT_5 tz40_0 dX4_deliver_56 ?_
    refine th_topi (y := fi D 6 2 H_3 z40_0) (fi_q (hU_5.2.2 _ (th_ne tz40_0 ha0 (by decide)))) ?_
    refine lv_topi (fun x_6 ex_6 => ?_)
    refine pf_X4_73 E hT_5 hS_5 ha0 ⟨_, ha0, by decide⟩ dX4_deliver_59 (fun H_7 locs_7 hT_7 hU_7 hS_7 => ?_)
    refine lv_aload_n hx hb dX4_deliver_62 rfl (lv_at hl 1 rfl) ?_
    refine gf_X4_70 E hT_7 ha0 dX4_deliver_63 ?_
    refine th_topi (y := x_4) (Eq.trans (PU.io hU_7 (j := 7) (by decide) (by decide)) (PU.i hU_5)) ?_
    refine lv_bipush (v := (-4)) hx hb dX4_deliver_66 (by decide) ?_
    refine lv_icmp_eq (tgt := 81) hx hb dX4_deliver_68 (by decide) (fun c_8 => ?_) (fun c_8 => ?_)
    · have f_8 : x_4.toInt = -4 := r_eq rfl (by decide) c_8
      exact J_81 H_7 locs_7 _ y40_2 z40_0 hT_7 hS_7 (lv_sub hl [1, 2, 3, 0] rfl) (by omega) (by omega) ty40_2 tz40_0
    · have f_8 : ¬ x_4.toInt = -4 := r_ne rfl (by decide) c_8
      refine lv_aload_n hx hb dX4_deliver_71 rfl (lv_at hl 1 rfl) ?_
      refine lv_dup hx hb dX4_deliver_72 rfl ?_
      refine gf_X4_76 E hT_7 ha0 dX4_deliver_73 ?_
      refine th_topi (y := fi D 4 9 H_c40 a0) (Eq.trans (PU.io hU_7 (j := 9) (by decide) (by decide)) (Eq.trans (PU.io hU_5 (j := 9) (by decide) (by decide)) (fi_q (hk_3 _ (AT.out ha0 (by decide)))))) ?_
      refine lv_topi (fun x_9 ex_9 => ?_)
      refine lv_iconst (v := 1) hx hb dX4_deliver_76 (by decide) ?_
      refine lv_iadd hx hb dX4_deliver_77 ?_
      refine lv_topi (fun x_10 ex_10 => ?_)
      refine pf_X4_76 E hT_7 hS_7 ha0 ⟨_, ha0, by decide⟩ dX4_deliver_78 (fun H_11 locs_11 hT_11 hU_11 hS_11 => ?_)
      exact J_81 H_11 locs_11 _ y40_2 z40_0 hT_11 hS_11 (lv_sub hl [1, 2, 3, 0] rfl) (by omega) (by omega) ty40_2 tz40_0
  refine lv_aload_n hx hb dX4_deliver_0 rfl (lv_at hl 0 rfl) ?_
  refine gf_X4_21 E hT hW ha0 dX4_deliver_1 (fun h_12 => ?_)
  refine lv_iload_n hx hb dX4_deliver_4 rfl (lv_at hl 1 rfl) ?_
  refine th_Vi (As := [.int x0]) (rest := []) E hml hl.1 (z_X10_has l D cI cS τ ρ hW H hT (ρ a0 1) x0 h_12) lk_X4_91 yd_X10_has hT h_12 rfl (by decide) hS (AT.sub (by decide)) ⟨by decide, by decide⟩ (Nat.le_of_ble_eq_true rfl) ⟨by decide, by decide⟩ rfl dX4_deliver_5 (fun r_13 H_13 locs_13 p_13 hT_13 hk_13 hS_13 => ?_)
  have z_13 := b_iv p_13.1
  refine lv_if_ne (tgt := 13) hx hb dX4_deliver_8 (by decide) (fun c_14 => ?_) (fun c_14 => ?_)
  · have f_14 : ¬ r_13.toInt = 0 := r_ne rfl (by decide) c_14
    have nz_r_13 : ¬ r_13 = 0 := c_14
    have w_14 := p_13.2 (p_13.1.resolve_left c_14)
    refine lv_aload_n hx hb dX4_deliver_13 rfl (lv_at hl 0 rfl) ?_
    refine gf_X4_21 E hT_13 hW ha0 dX4_deliver_14 (fun h_15 => ?_)
    refine lv_iload_n hx hb dX4_deliver_17 rfl (lv_at hl 1 rfl) ?_
    refine th_Vr (As := [.int x0]) (rest := []) E hml hl.1 (z_X10_remove l D cI cS τ ρ hW H_13 hT_13 (ρ a0 1) x0 h_15) lk_X4_95 yd_X10_remove hT_13 h_15 rfl (by decide) hS_13 (AT.sub (by decide)) ⟨by decide, by decide⟩ (Nat.le_of_ble_eq_true rfl) ⟨by decide, by decide⟩ rfl dX4_deliver_18 (fun r_16 H_16 locs_16 p_16 hT_16 hk_16 hS_16 => ?_)
    refine lv_astore_n (lv' := [(2, .ref r_16), (0, .ref a0), (1, .int x0)]) hx hb dX4_deliver_21 rfl hl (by decide) rfl (fun ls hl => ?_)
    refine lv_aload_n hx hb dX4_deliver_22 rfl (lv_at hl 0 rfl) ?_
    refine gf_X4_99 E hT_16 p_16 dX4_deliver_23 ?_
    refine th_topi (y := fi D 8 0 H r_16) (Eq.trans (fi_q (hk_16 _ (AT.out p_16 (by decide)))) (fi_q (hk_13 _ (AT.out p_16 (by decide))))) ?_
    refine lv_topi (fun x_17 ex_17 => ?_)
    refine lv_if_ne (tgt := 36) hx hb dX4_deliver_26 (by decide) (fun c_18 => ?_) (fun c_18 => ?_)
    · have f_18 : ¬ x_17.toInt = 0 := r_ne rfl (by decide) c_18
      have nz_x_17 : ¬ x_17 = 0 := c_18
      refine lv_aload_n hx hb dX4_deliver_36 rfl (lv_at hl 1 rfl) ?_
      refine gf_X4_49 E hT_16 hW ha0 dX4_deliver_37 (fun h_19 => ?_)
      exact J_40 H_16 locs_16 _ r_16 (ρ a0 5) hT_16 hS_16 (lv_sub hl [1, 2, 0] rfl) (by omega) (by omega) p_16 h_19
    · have f_18 : x_17.toInt = 0 := r_eq rfl (by decide) c_18
      refine lv_aload_n hx hb dX4_deliver_29 rfl (lv_at hl 1 rfl) ?_
      refine gf_X4_53 E hT_16 hW ha0 dX4_deliver_30 (fun h_20 => ?_)
      refine lv_goto (tgt := 40) hx hb dX4_deliver_33 (by decide) ?_
      exact J_40 H_16 locs_16 _ r_16 (ρ a0 6) hT_16 hS_16 (lv_sub hl [1, 2, 0] rfl) (by omega) (by omega) p_16 h_20
  · have f_14 : r_13.toInt = 0 := r_eq rfl (by decide) c_14
    refine lv_iconst (v := 0) hx hb dX4_deliver_11 (by decide) ?_
    exact th_zret E hr hlk hs (Or.inl rfl) hT_13 hS_13 (Or.inl rfl) dX4_deliver_12
set_option maxHeartbeats 4000000 in
set_option maxRecDepth 100000 in
/-- StreamEnds$Network.endpoint: it ends, and the heap stays typed -/
theorem z_X4_endpoint (l : Launch) (D : va_G) (cI cS : ClassId) (τ : Nat → Option Nat) (ρ : Nat → Nat → Nat) (hW : WF τ ρ) (H : Heap) (hT : TH D cI cS τ ρ H) (a0 : Nat) (x0 : Int32) (ha0 : τ a0 = some 4) : MR l D cI cS τ ρ yX4_endpoint cX4_endpoint 2 (some (.object "StreamEnds$Endpoint")) 0 0 H [.ref a0, .int x0] (fun (r : Nat) (u : Heap) => τ r = some 2) (AT τ []) := by
  refine MR.of (by decide) (Nat.le_of_ble_eq_true rfl) ?_
  intro p e s m args below meth c E hml hr hlk hs ls hl
  have hx := E.1
  have hb := E.2.1
  have hown := E.2.2.1
  have hts := E.2.2.2.1
  have hS : SS (AT τ []) H H [] := SS.rf
  have hl : lv_has ls 2 [(0, .ref a0), (1, .int x0)] := hl
  refine lv_iload_n hx hb dX4_endpoint_0 rfl (lv_at hl 1 rfl) ?_
  refine lv_if_ne (tgt := 11) hx hb dX4_endpoint_1 (by decide) (fun c_1 => ?_) (fun c_1 => ?_)
  · have f_1 : ¬ x0.toInt = 0 := r_ne rfl (by decide) c_1
    have nz_x0 : ¬ x0 = 0 := c_1
    refine lv_aload_n hx hb dX4_endpoint_11 rfl (lv_at hl 0 rfl) ?_
    refine gf_X4_41 E hT hW ha0 dX4_endpoint_12 (fun h_2 => ?_)
    exact th_aret E hr hlk hs hT hS h_2 dX4_endpoint_15
  · have f_1 : x0.toInt = 0 := r_eq rfl (by decide) c_1
    refine lv_aload_n hx hb dX4_endpoint_4 rfl (lv_at hl 0 rfl) ?_
    refine gf_X4_37 E hT hW ha0 dX4_endpoint_5 (fun h_3 => ?_)
    refine lv_goto (tgt := 15) hx hb dX4_endpoint_8 (by decide) ?_
    exact th_aret E hr hlk hs hT hS h_3 dX4_endpoint_15
set_option maxHeartbeats 4000000 in
set_option maxRecDepth 100000 in
/-- StreamEnds$Network.isBusy: it ends, and the heap stays typed -/
theorem z_X4_isBusy (l : Launch) (D : va_G) (cI cS : ClassId) (τ : Nat → Option Nat) (ρ : Nat → Nat → Nat) (hW : WF τ ρ) (H : Heap) (hT : TH D cI cS τ ρ H) (a0 : Nat) (ha0 : τ a0 = some 4) : MI l D cI cS τ ρ yX4_isBusy cX4_isBusy 1 (some .boolean) 1 20 H [.ref a0] (fun (r : Int32) (u : Heap) => r = 0 ∨ r = 1) (AT τ []) := by
  refine MI.of (by decide) (Nat.le_of_ble_eq_true rfl) ?_
  intro p e s m args below meth c E hml hr hlk hs ls hl
  have hx := E.1
  have hb := E.2.1
  have hown := E.2.2.1
  have hts := E.2.2.2.1
  have hS : SS (AT τ []) H H [] := SS.rf
  have hl : lv_has ls 1 [(0, .ref a0)] := hl
  refine lv_aload_n hx hb dX4_isBusy_0 rfl (lv_at hl 0 rfl) ?_
  refine gf_X4_21 E hT hW ha0 dX4_isBusy_1 (fun h_1 => ?_)
  refine gf_X4_84 E hT h_1 dX4_isBusy_4 ?_
  refine lv_topi (fun x_2 ex_2 => ?_)
  refine lv_if_gt (tgt := 30) hx hb dX4_isBusy_7 (by decide) (fun c_3 => ?_) (fun c_3 => ?_)
  · have f_3 : 0 < x_2.toInt := r_lt (by decide) rfl c_3
    refine lv_iconst (v := 1) hx hb dX4_isBusy_30 (by decide) ?_
    refine lv_goto (tgt := 35) hx hb dX4_isBusy_31 (by decide) ?_
    exact th_zret E hr hlk hs (Or.inr rfl) hT hS (Or.inr rfl) dX4_isBusy_35
  · have f_3 : x_2.toInt ≤ 0 := r_nlt (by decide) rfl c_3
    refine lv_aload_n hx hb dX4_isBusy_10 rfl (lv_at hl 0 rfl) ?_
    refine gf_X4_37 E hT hW ha0 dX4_isBusy_11 (fun h_4 => ?_)
    refine th_Vi (As := []) (rest := []) E hml hl.1 (z_X2_isBusy l D cI cS τ ρ hW H hT (ρ a0 3) h_4) lk_X4_87 yd_X2_isBusy hT h_4 rfl (by decide) hS (AT.sub (by decide)) ⟨by decide, by decide⟩ (Nat.le_of_ble_eq_true rfl) ⟨by decide, by decide⟩ rfl dX4_isBusy_14 (fun r_5 H_5 locs_5 p_5 hT_5 hk_5 hS_5 => ?_)
    have z_5 := b_iv p_5
    refine lv_if_ne (tgt := 30) hx hb dX4_isBusy_17 (by decide) (fun c_6 => ?_) (fun c_6 => ?_)
    · have f_6 : ¬ r_5.toInt = 0 := r_ne rfl (by decide) c_6
      have nz_r_5 : ¬ r_5 = 0 := c_6
      refine lv_iconst (v := 1) hx hb dX4_isBusy_30 (by decide) ?_
      refine lv_goto (tgt := 35) hx hb dX4_isBusy_31 (by decide) ?_
      exact th_zret E hr hlk hs (Or.inr rfl) hT_5 hS_5 (Or.inr rfl) dX4_isBusy_35
    · have f_6 : r_5.toInt = 0 := r_eq rfl (by decide) c_6
      refine lv_aload_n hx hb dX4_isBusy_20 rfl (lv_at hl 0 rfl) ?_
      refine gf_X4_41 E hT_5 hW ha0 dX4_isBusy_21 (fun h_7 => ?_)
      refine th_Vi (As := []) (rest := []) E hml hl.1 (z_X2_isBusy l D cI cS τ ρ hW H_5 hT_5 (ρ a0 4) h_7) lk_X4_87 yd_X2_isBusy hT_5 h_7 rfl (by decide) hS_5 (AT.sub (by decide)) ⟨by decide, by decide⟩ (Nat.le_of_ble_eq_true rfl) ⟨by decide, by decide⟩ rfl dX4_isBusy_24 (fun r_8 H_8 locs_8 p_8 hT_8 hk_8 hS_8 => ?_)
      have z_8 := b_iv p_8
      refine lv_if_eq (tgt := 34) hx hb dX4_isBusy_27 (by decide) (fun c_9 => ?_) (fun c_9 => ?_)
      · have f_9 : r_8.toInt = 0 := r_eq rfl (by decide) c_9
        refine lv_iconst (v := 0) hx hb dX4_isBusy_34 (by decide) ?_
        exact th_zret E hr hlk hs (Or.inl rfl) hT_8 hS_8 (Or.inl rfl) dX4_isBusy_35
      · have f_9 : ¬ r_8.toInt = 0 := r_ne rfl (by decide) c_9
        have nz_r_8 : ¬ r_8 = 0 := c_9
        refine lv_iconst (v := 1) hx hb dX4_isBusy_30 (by decide) ?_
        refine lv_goto (tgt := 35) hx hb dX4_isBusy_31 (by decide) ?_
        exact th_zret E hr hlk hs (Or.inr rfl) hT_8 hS_8 (Or.inr rfl) dX4_isBusy_35
set_option maxHeartbeats 4000000 in
set_option maxRecDepth 100000 in
/-- StreamEnds$Wire.clear: it ends, and the heap stays typed -/
theorem z_X10_clear (l : Launch) (D : va_G) (cI cS : ClassId) (τ : Nat → Option Nat) (ρ : Nat → Nat → Nat) (hW : WF τ ρ) (H : Heap) (hT : TH D cI cS τ ρ H) (a0 : Nat) (ha0 : τ a0 = some 10) : MV l D cI cS τ ρ yX10_clear cX10_clear 1 none 0 0 H [.ref a0] (fun (u : Heap) => True) (AT τ [10]) := by
  refine MV.of (by decide) (Nat.le_of_ble_eq_true rfl) ?_
  intro p e s m args below meth c E hml hr hlk hs ls hl
  have hx := E.1
  have hb := E.2.1
  have hown := E.2.2.1
  have hts := E.2.2.2.1
  have hS : SS (AT τ [10]) H H [] := SS.rf
  have hl : lv_has ls 1 [(0, .ref a0)] := hl
  refine lv_aload_n hx hb dX10_clear_0 rfl (lv_at hl 0 rfl) ?_
  refine lv_iconst (v := 0) hx hb dX10_clear_1 (by decide) ?_
  refine pf_X10_22 E hT hS ha0 ⟨_, ha0, by decide⟩ dX10_clear_2 (fun H_1 locs_1 hT_1 hU_1 hS_1 => ?_)
  refine lv_aload_n hx hb dX10_clear_5 rfl (lv_at hl 0 rfl) ?_
  refine lv_iconst (v := 0) hx hb dX10_clear_6 (by decide) ?_
  refine pf_X10_26 E hT_1 hS_1 ha0 ⟨_, ha0, by decide⟩ dX10_clear_7 (fun H_2 locs_2 hT_2 hU_2 hS_2 => ?_)
  refine lv_aload_n hx hb dX10_clear_10 rfl (lv_at hl 0 rfl) ?_
  refine lv_iconst (v := 0) hx hb dX10_clear_11 (by decide) ?_
  refine pf_X10_29 E hT_2 hS_2 ha0 ⟨_, ha0, by decide⟩ dX10_clear_12 (fun H_3 locs_3 hT_3 hU_3 hS_3 => ?_)
  refine lv_aload_n hx hb dX10_clear_15 rfl (lv_at hl 0 rfl) ?_
  refine lv_iconst (v := 0) hx hb dX10_clear_16 (by decide) ?_
  refine pf_X10_32 E hT_3 hS_3 ha0 ⟨_, ha0, by decide⟩ dX10_clear_17 (fun H_4 locs_4 hT_4 hU_4 hS_4 => ?_)
  exact th_vret E hr hlk hs hT_4 hS_4 trivial dX10_clear_20
set_option maxHeartbeats 4000000 in
set_option maxRecDepth 100000 in
/-- StreamEnds$Network.setUp: it ends, and the heap stays typed -/
theorem z_X4_setUp (l : Launch) (D : va_G) (cI cS : ClassId) (τ : Nat → Option Nat) (ρ : Nat → Nat → Nat) (hW : WF τ ρ) (H : Heap) (hT : TH D cI cS τ ρ H) (a0 : Nat) (a1 : Nat) (ha0 : τ a0 = some 4) (ha1 : τ a1 = some 1) : MV l D cI cS τ ρ yX4_setUp cX4_setUp 2 none 2 41 H [.ref a0, .ref a1] (fun (u : Heap) => True) (AT τ [0, 1, 2, 3, 4, 5, 7, 10]) := by
  refine MV.of (by decide) (Nat.le_of_ble_eq_true rfl) ?_
  intro p e s m args below meth c E hml hr hlk hs ls hl
  have hx := E.1
  have hb := E.2.1
  have hown := E.2.2.1
  have hts := E.2.2.2.1
  have hS : SS (AT τ [0, 1, 2, 3, 4, 5, 7, 10]) H H [] := SS.rf
  have hl : lv_has ls 2 [(0, .ref a0), (1, .ref a1)] := hl
  refine lv_aload_n hx hb dX4_setUp_0 rfl (lv_at hl 0 rfl) ?_
  refine gf_X4_12 E hT hW ha0 dX4_setUp_1 (fun h_1 => ?_)
  refine lv_aload_n hx hb dX4_setUp_4 rfl (lv_at hl 1 rfl) ?_
  refine th_Vv (As := [.ref a1]) (rest := []) E hml hl.1 (z_X1_copyFrom l D cI cS τ ρ hW H hT (ρ a0 0) a1 h_1 ha1) lk_X4_56 yd_X1_copyFrom hT h_1 rfl (by decide) hS (AT.sub (by decide)) ⟨by decide, by decide⟩ (Nat.le_of_ble_eq_true rfl) ⟨by decide, by decide⟩ rfl dX4_setUp_5 (fun H_2 locs_2 p_2 hT_2 hk_2 hS_2 => ?_)
  refine lv_aload_n hx hb dX4_setUp_8 rfl (lv_at hl 0 rfl) ?_
  refine gf_X4_21 E hT_2 hW ha0 dX4_setUp_9 (fun h_3 => ?_)
  refine th_Vv (As := []) (rest := []) E hml hl.1 (z_X10_clear l D cI cS τ ρ hW H_2 hT_2 (ρ a0 1) h_3) lk_X4_60 yd_X10_clear hT_2 h_3 rfl (by decide) hS_2 (AT.sub (by decide)) ⟨by decide, by decide⟩ (Nat.le_of_ble_eq_true rfl) ⟨by decide, by decide⟩ rfl dX4_setUp_12 (fun H_4 locs_4 p_4 hT_4 hk_4 hS_4 => ?_)
  refine lv_aload_n hx hb dX4_setUp_15 rfl (lv_at hl 0 rfl) ?_
  refine gf_X4_28 E hT_4 hW ha0 dX4_setUp_16 (fun h_5 => ?_)
  refine lv_iconst (v := 0) hx hb dX4_setUp_19 (by decide) ?_
  refine pf_X4_63 E hT_4 hS_4 h_5 ⟨_, h_5, by decide⟩ dX4_setUp_20 (fun H_6 locs_6 hT_6 hU_6 hS_6 => ?_)
  refine lv_aload_n hx hb dX4_setUp_23 rfl (lv_at hl 0 rfl) ?_
  refine gf_X4_37 E hT_6 hW ha0 dX4_setUp_24 (fun h_7 => ?_)
  refine th_Vv (As := []) (rest := []) E hml hl.1 (z_X2_start l D cI cS τ ρ hW H_6 hT_6 (ρ a0 3) h_7) lk_X4_67 yd_X2_start hT_6 h_7 rfl (by decide) hS_6 (AT.sub (by decide)) ⟨by decide, by decide⟩ (Nat.le_of_ble_eq_true rfl) ⟨by decide, by decide⟩ rfl dX4_setUp_27 (fun H_8 locs_8 p_8 hT_8 hk_8 hS_8 => ?_)
  refine lv_aload_n hx hb dX4_setUp_30 rfl (lv_at hl 0 rfl) ?_
  refine gf_X4_41 E hT_8 hW ha0 dX4_setUp_31 (fun h_9 => ?_)
  refine th_Vv (As := []) (rest := []) E hml hl.1 (z_X2_start l D cI cS τ ρ hW H_8 hT_8 (ρ a0 4) h_9) lk_X4_67 yd_X2_start hT_8 h_9 rfl (by decide) hS_8 (AT.sub (by decide)) ⟨by decide, by decide⟩ (Nat.le_of_ble_eq_true rfl) ⟨by decide, by decide⟩ rfl dX4_setUp_34 (fun H_10 locs_10 p_10 hT_10 hk_10 hS_10 => ?_)
  refine lv_aload_n hx hb dX4_setUp_37 rfl (lv_at hl 0 rfl) ?_
  refine lv_bipush (v := (-4)) hx hb dX4_setUp_38 (by decide) ?_
  refine pf_X4_70 E hT_10 hS_10 ha0 ⟨_, ha0, by decide⟩ dX4_setUp_40 (fun H_11 locs_11 hT_11 hU_11 hS_11 => ?_)
  refine lv_aload_n hx hb dX4_setUp_43 rfl (lv_at hl 0 rfl) ?_
  refine lv_bipush (v := (-4)) hx hb dX4_setUp_44 (by decide) ?_
  refine pf_X4_73 E hT_11 hS_11 ha0 ⟨_, ha0, by decide⟩ dX4_setUp_46 (fun H_12 locs_12 hT_12 hU_12 hS_12 => ?_)
  refine lv_aload_n hx hb dX4_setUp_49 rfl (lv_at hl 0 rfl) ?_
  refine lv_iconst (v := 0) hx hb dX4_setUp_50 (by decide) ?_
  refine pf_X4_76 E hT_12 hS_12 ha0 ⟨_, ha0, by decide⟩ dX4_setUp_51 (fun H_13 locs_13 hT_13 hU_13 hS_13 => ?_)
  exact th_vret E hr hlk hs hT_13 hS_13 trivial dX4_setUp_54
set_option maxHeartbeats 4000000 in
set_option maxRecDepth 100000 in
/-- StreamEnds$Network.tick: it ends, and the heap stays typed -/
theorem z_X4_tick (l : Launch) (D : va_G) (cI cS : ClassId) (τ : Nat → Option Nat) (ρ : Nat → Nat → Nat) (hW : WF τ ρ) (H : Heap) (hT : TH D cI cS τ ρ H) (a0 : Nat) (ha0 : τ a0 = some 4) : MV l D cI cS τ ρ yX4_tick cX4_tick 1 none 6 137 H [.ref a0] (fun (u : Heap) => True) (AT τ [0, 2, 5, 7, 8, 10, 104, 108]) := by
  refine MV.of (by decide) (Nat.le_of_ble_eq_true rfl) ?_
  intro p e s m args below meth c E hml hr hlk hs ls hl
  have hx := E.1
  have hb := E.2.1
  have hown := E.2.2.1
  have hts := E.2.2.2.1
  have hS : SS (AT τ [0, 2, 5, 7, 8, 10, 104, 108]) H H [] := SS.rf
  have hl : lv_has ls 1 [(0, .ref a0)] := hl
  refine lv_aload_n hx hb dX4_tick_0 rfl (lv_at hl 0 rfl) ?_
  refine gf_X4_28 E hT hW ha0 dX4_tick_1 (fun h_1 => ?_)
  refine lv_dup hx hb dX4_tick_4 rfl ?_
  refine gf_X4_63 E hT h_1 dX4_tick_5 ?_
  refine lv_topi (fun x_2 ex_2 => ?_)
  refine lv_iconst (v := 1) hx hb dX4_tick_8 (by decide) ?_
  refine lv_iadd hx hb dX4_tick_9 ?_
  refine lv_topi (fun x_3 ex_3 => ?_)
  refine pf_X4_63 E hT hS h_1 ⟨_, h_1, by decide⟩ dX4_tick_10 (fun H_4 locs_4 hT_4 hU_4 hS_4 => ?_)
  refine lv_aload_n hx hb dX4_tick_13 rfl (lv_at hl 0 rfl) ?_
  refine gf_X4_37 E hT_4 hW ha0 dX4_tick_14 (fun h_5 => ?_)
  refine th_Vv (As := []) (rest := []) E hml hl.1 (z_X2_tick l D cI cS τ ρ hW H_4 hT_4 (ρ a0 3) h_5) lk_X4_110 yd_X2_tick hT_4 h_5 rfl (by decide) hS_4 (AT.sub (by decide)) ⟨by decide, by decide⟩ (Nat.le_of_ble_eq_true rfl) ⟨by decide, by decide⟩ rfl dX4_tick_17 (fun H_6 locs_6 p_6 hT_6 hk_6 hS_6 => ?_)
  refine lv_aload_n hx hb dX4_tick_20 rfl (lv_at hl 0 rfl) ?_
  refine gf_X4_41 E hT_6 hW ha0 dX4_tick_21 (fun h_7 => ?_)
  refine th_Vv (As := []) (rest := []) E hml hl.1 (z_X2_tick l D cI cS τ ρ hW H_6 hT_6 (ρ a0 4) h_7) lk_X4_110 yd_X2_tick hT_6 h_7 rfl (by decide) hS_6 (AT.sub (by decide)) ⟨by decide, by decide⟩ (Nat.le_of_ble_eq_true rfl) ⟨by decide, by decide⟩ rfl dX4_tick_24 (fun H_8 locs_8 p_8 hT_8 hk_8 hS_8 => ?_)
  exact th_vret E hr hlk hs hT_8 hS_8 trivial dX4_tick_27
set_option maxHeartbeats 4000000 in
set_option maxRecDepth 100000 in
/-- StreamEnds$Outgoing.append: it ends, and the heap stays typed -/
theorem z_X5_append (l : Launch) (D : va_G) (cI cS : ClassId) (τ : Nat → Option Nat) (ρ : Nat → Nat → Nat) (hW : WF τ ρ) (H : Heap) (hT : TH D cI cS τ ρ H) (a0 : Nat) (x0 : Int32) (ha0 : τ a0 = some 5) : MV l D cI cS τ ρ yX5_append cX5_append 2 none 0 0 H [.ref a0, .int x0] (fun (u : Heap) => True) (AT τ [5, 164]) := by
  refine MV.of (by decide) (Nat.le_of_ble_eq_true rfl) ?_
  intro p e s m args below meth c E hml hr hlk hs ls hl
  have hx := E.1
  have hb := E.2.1
  have hown := E.2.2.1
  have hts := E.2.2.2.1
  have hS : SS (AT τ [5, 164]) H H [] := SS.rf
  have hl : lv_has ls 2 [(0, .ref a0), (1, .int x0)] := hl
  refine lv_aload_n hx hb dX5_append_0 rfl (lv_at hl 0 rfl) ?_
  refine lv_dup hx hb dX5_append_1 rfl ?_
  refine gf_X5_25 E hT ha0 dX5_append_2 ?_
  refine lv_topi (fun x_1 ex_1 => ?_)
  refine lv_iconst (v := 1) hx hb dX5_append_5 (by decide) ?_
  refine lv_iadd hx hb dX5_append_6 ?_
  refine lv_topi (fun x_2 ex_2 => ?_)
  refine pf_X5_25 E hT hS ha0 ⟨_, ha0, by decide⟩ dX5_append_7 (fun H_3 locs_3 hT_3 hU_3 hS_3 => ?_)
  refine lv_aload_n hx hb dX5_append_10 rfl (lv_at hl 0 rfl) ?_
  refine gf_X5_9 E hT_3 hW ha0 dX5_append_11 (fun h_4 => ?_)
  refine lv_aload_n hx hb dX5_append_14 rfl (lv_at hl 0 rfl) ?_
  refine gf_X5_25 E hT_3 ha0 dX5_append_15 ?_
  refine th_topi (y := x_2) (PU.i hU_3) ?_
  refine lv_bipush (v := 63) hx hb dX5_append_18 (by decide) ?_
  refine lv_iand hx hb dX5_append_20 ?_
  refine lv_topi (fun x_5 ex_5 => ?_)
  have m_5 : 0 ≤ x_5.toInt ∧ x_5.toInt ≤ 63 := by rw [ex_5]; exact i_mask
  refine lv_iload_n hx hb dX5_append_21 rfl (lv_at hl 1 rfl) ?_
  refine th_iast E hT_3 hS_3 h_4 ⟨_, h_4, by decide⟩ (by decide) (vp_in_iff.mpr ⟨by omega, by omega⟩) dX5_append_22 (fun H_6 locs_6 hT_6 hU_6 hS_6 => ?_)
  exact th_vret E hr hlk hs hT_6 hS_6 trivial dX5_append_23
set_option maxHeartbeats 4000000 in
set_option maxRecDepth 100000 in
/-- StreamEnds$RoundTrips.roundTrip: it ends, and the heap stays typed -/
theorem z_X7_roundTrip (l : Launch) (D : va_G) (cI cS : ClassId) (τ : Nat → Option Nat) (ρ : Nat → Nat → Nat) (hW : WF τ ρ) (H : Heap) (hT : TH D cI cS τ ρ H) (a0 : Nat) (x0 : Int32) (ha0 : τ a0 = some 7) : MI l D cI cS τ ρ yX7_roundTrip cX7_roundTrip 2 (some .int) 0 0 H [.ref a0, .int x0] (fun (r : Int32) (u : Heap) => True) (AT τ []) := by
  refine MI.of (by decide) (Nat.le_of_ble_eq_true rfl) ?_
  intro p e s m args below meth c E hml hr hlk hs ls hl
  have hx := E.1
  have hb := E.2.1
  have hown := E.2.2.1
  have hts := E.2.2.2.1
  have hS : SS (AT τ []) H H [] := SS.rf
  have hl : lv_has ls 2 [(0, .ref a0), (1, .int x0)] := hl
  refine lv_iload_n hx hb dX7_roundTrip_0 rfl (lv_at hl 1 rfl) ?_
  refine lv_if_lt (tgt := 27) hx hb dX7_roundTrip_1 (by decide) (fun c_1 => ?_) (fun c_1 => ?_)
  · have f_1 : x0.toInt < 0 := r_lt rfl (by decide) c_1
    refine lv_bipush (v := (-4)) hx hb dX7_roundTrip_27 (by decide) ?_
    exact th_iret E hr hlk hs hT hS trivial dX7_roundTrip_29
  · have f_1 : 0 ≤ x0.toInt := r_nlt rfl (by decide) c_1
    refine lv_iload_n hx hb dX7_roundTrip_4 rfl (lv_at hl 1 rfl) ?_
    refine lv_bipush (v := 6) hx hb dX7_roundTrip_5 (by decide) ?_
    refine lv_icmp_ge (tgt := 27) hx hb dX7_roundTrip_7 (by decide) (fun c_2 => ?_) (fun c_2 => ?_)
    · have f_2 : 6 ≤ x0.toInt := r_le (by decide) rfl c_2
      refine lv_bipush (v := (-4)) hx hb dX7_roundTrip_27 (by decide) ?_
      exact th_iret E hr hlk hs hT hS trivial dX7_roundTrip_29
    · have f_2 : x0.toInt < 6 := r_nle (by decide) rfl c_2
      refine lv_iload_n hx hb dX7_roundTrip_10 rfl (lv_at hl 1 rfl) ?_
      refine lv_aload_n hx hb dX7_roundTrip_11 rfl (lv_at hl 0 rfl) ?_
      refine gf_X7_31 E hT ha0 dX7_roundTrip_12 ?_
      refine lv_topi (fun x_3 ex_3 => ?_)
      refine lv_icmp_ge (tgt := 27) hx hb dX7_roundTrip_15 (by decide) (fun c_4 => ?_) (fun c_4 => ?_)
      · have f_4 : x_3.toInt ≤ x0.toInt := r_le rfl rfl c_4
        refine lv_bipush (v := (-4)) hx hb dX7_roundTrip_27 (by decide) ?_
        exact th_iret E hr hlk hs hT hS trivial dX7_roundTrip_29
      · have f_4 : x0.toInt < x_3.toInt := r_nle rfl rfl c_4
        refine lv_aload_n hx hb dX7_roundTrip_18 rfl (lv_at hl 0 rfl) ?_
        refine gf_X7_9 E hT hW ha0 dX7_roundTrip_19 (fun h_5 => ?_)
        refine lv_iload_n hx hb dX7_roundTrip_22 rfl (lv_at hl 1 rfl) ?_
        refine th_iald E hT h_5 (by decide) (vp_in_iff.mpr ⟨by omega, by omega⟩) dX7_roundTrip_23 ?_
        refine lv_topi (fun x_6 ex_6 => ?_)
        refine lv_goto (tgt := 29) hx hb dX7_roundTrip_24 (by decide) ?_
        exact th_iret E hr hlk hs hT hS trivial dX7_roundTrip_29
set_option maxHeartbeats 4000000 in
set_option maxRecDepth 100000 in
/-- StreamEnds$Segment.rangeNumber: it ends, and the heap stays typed -/
theorem z_X8_rangeNumber (l : Launch) (D : va_G) (cI cS : ClassId) (τ : Nat → Option Nat) (ρ : Nat → Nat → Nat) (hW : WF τ ρ) (H : Heap) (hT : TH D cI cS τ ρ H) (a0 : Nat) (x0 : Int32) (ha0 : τ a0 = some 8) : MI l D cI cS τ ρ yX8_rangeNumber cX8_rangeNumber 2 (some .int) 0 0 H [.ref a0, .int x0] (fun (r : Int32) (u : Heap) => True) (AT τ []) := by
  refine MI.of (by decide) (Nat.le_of_ble_eq_true rfl) ?_
  intro p e s m args below meth c E hml hr hlk hs ls hl
  have hx := E.1
  have hb := E.2.1
  have hown := E.2.2.1
  have hts := E.2.2.2.1
  have hS : SS (AT τ []) H H [] := SS.rf
  have hl : lv_has ls 2 [(0, .ref a0), (1, .int x0)] := hl
  refine lv_iload_n hx hb dX8_rangeNumber_0 rfl (lv_at hl 1 rfl) ?_
  refine lv_if_lt (tgt := 28) hx hb dX8_rangeNumber_1 (by decide) (fun c_1 => ?_) (fun c_1 => ?_)
  · have f_1 : x0.toInt < 0 := r_lt rfl (by decide) c_1
    refine lv_bipush (v := (-4)) hx hb dX8_rangeNumber_28 (by decide) ?_
    exact th_iret E hr hlk hs hT hS trivial dX8_rangeNumber_30
  · have f_1 : 0 ≤ x0.toInt := r_nlt rfl (by decide) c_1
    refine lv_iload_n hx hb dX8_rangeNumber_4 rfl (lv_at hl 1 rfl) ?_
    refine lv_iconst (v := 2) hx hb dX8_rangeNumber_5 (by decide) ?_
    refine lv_aload_n hx hb dX8_rangeNumber_6 rfl (lv_at hl 0 rfl) ?_
    refine gf_X8_40 E hT ha0 dX8_rangeNumber_7 ?_
    refine lv_topi (fun x_2 ex_2 => ?_)
    refine lv_imul hx hb dX8_rangeNumber_10 ?_
    refine lv_topi (fun x_3 ex_3 => ?_)
    refine lv_icmp_ge (tgt := 28) hx hb dX8_rangeNumber_11 (by decide) (fun c_4 => ?_) (fun c_4 => ?_)
    · have f_4 : x_3.toInt ≤ x0.toInt := r_le rfl rfl c_4
      refine lv_bipush (v := (-4)) hx hb dX8_rangeNumber_28 (by decide) ?_
      exact th_iret E hr hlk hs hT hS trivial dX8_rangeNumber_30
    · have f_4 : x0.toInt < x_3.toInt := r_nle rfl rfl c_4
      refine lv_iload_n hx hb dX8_rangeNumber_14 rfl (lv_at hl 1 rfl) ?_
      refine lv_iconst (v := 4) hx hb dX8_rangeNumber_15 (by decide) ?_
      refine lv_icmp_ge (tgt := 28) hx hb dX8_rangeNumber_16 (by decide) (fun c_5 => ?_) (fun c_5 => ?_)
      · have f_5 : 4 ≤ x0.toInt := r_le (by decide) rfl c_5
        refine lv_bipush (v := (-4)) hx hb dX8_rangeNumber_28 (by decide) ?_
        exact th_iret E hr hlk hs hT hS trivial dX8_rangeNumber_30
      · have f_5 : x0.toInt < 4 := r_nle (by decide) rfl c_5
        refine lv_aload_n hx hb dX8_rangeNumber_19 rfl (lv_at hl 0 rfl) ?_
        refine gf_X8_15 E hT hW ha0 dX8_rangeNumber_20 (fun h_6 => ?_)
        refine lv_iload_n hx hb dX8_rangeNumber_23 rfl (lv_at hl 1 rfl) ?_
        refine th_iald E hT h_6 (by decide) (vp_in_iff.mpr ⟨by omega, by omega⟩) dX8_rangeNumber_24 ?_
        refine lv_topi (fun x_7 ex_7 => ?_)
        refine lv_goto (tgt := 30) hx hb dX8_rangeNumber_25 (by decide) ?_
        exact th_iret E hr hlk hs hT hS trivial dX8_rangeNumber_30
set_option maxHeartbeats 4000000 in
set_option maxRecDepth 100000 in
/-- StreamEnds$Segment.property: it ends, and the heap stays typed -/
theorem z_X8_property (l : Launch) (D : va_G) (cI cS : ClassId) (τ : Nat → Option Nat) (ρ : Nat → Nat → Nat) (hW : WF τ ρ) (H : Heap) (hT : TH D cI cS τ ρ H) (a0 : Nat) (x0 : Int32) (ha0 : τ a0 = some 8) : MI l D cI cS τ ρ yX8_property cX8_property 2 (some .int) 1 21 H [.ref a0, .int x0] (fun (r : Int32) (u : Heap) => True) (AT τ []) := by
  refine MI.of (by decide) (Nat.le_of_ble_eq_true rfl) ?_
  intro p e s m args below meth c E hml hr hlk hs ls hl
  have hx := E.1
  have hb := E.2.1
  have hown := E.2.2.1
  have hts := E.2.2.2.1
  have hS : SS (AT τ []) H H [] := SS.rf
  have hl : lv_has ls 2 [(0, .ref a0), (1, .int x0)] := hl
  refine lv_iload_n hx hb dX8_property_0 rfl (lv_at hl 1 rfl) ?_
  by_cases k1_0 : x0 = 0
  · refine th_topi k1_0 ?_
    refine lv_tableIn (tgt := 48) hx hb dX8_property_1 (by decide) (by decide) rfl (by decide) ?_
    refine lv_aload_n hx hb dX8_property_48 rfl (lv_at hl 0 rfl) ?_
    refine gf_X8_18 E hT ha0 dX8_property_49 ?_
    refine lv_topi (fun x_2 ex_2 => ?_)
    exact th_iret E hr hlk hs hT hS trivial dX8_property_52
  by_cases k1_1 : x0 = 1
  · refine th_topi k1_1 ?_
    refine lv_tableIn (tgt := 53) hx hb dX8_property_1 (by decide) (by decide) rfl (by decide) ?_
    refine lv_aload_n hx hb dX8_property_53 rfl (lv_at hl 0 rfl) ?_
    refine gf_X8_22 E hT ha0 dX8_property_54 ?_
    refine lv_topi (fun x_3 ex_3 => ?_)
    exact th_iret E hr hlk hs hT hS trivial dX8_property_57
  by_cases k1_2 : x0 = 2
  · refine th_topi k1_2 ?_
    refine lv_tableIn (tgt := 58) hx hb dX8_property_1 (by decide) (by decide) rfl (by decide) ?_
    refine lv_aload_n hx hb dX8_property_58 rfl (lv_at hl 0 rfl) ?_
    refine gf_X8_25 E hT ha0 dX8_property_59 ?_
    refine lv_topi (fun x_4 ex_4 => ?_)
    exact th_iret E hr hlk hs hT hS trivial dX8_property_62
  by_cases k1_3 : x0 = 3
  · refine th_topi k1_3 ?_
    refine lv_tableIn (tgt := 63) hx hb dX8_property_1 (by decide) (by decide) rfl (by decide) ?_
    refine lv_aload_n hx hb dX8_property_63 rfl (lv_at hl 0 rfl) ?_
    refine gf_X8_28 E hT ha0 dX8_property_64 ?_
    refine lv_topi (fun x_5 ex_5 => ?_)
    exact th_iret E hr hlk hs hT hS trivial dX8_property_67
  by_cases k1_4 : x0 = 4
  · refine th_topi k1_4 ?_
    refine lv_tableIn (tgt := 68) hx hb dX8_property_1 (by decide) (by decide) rfl (by decide) ?_
    refine lv_aload_n hx hb dX8_property_68 rfl (lv_at hl 0 rfl) ?_
    refine gf_X8_31 E hT ha0 dX8_property_69 ?_
    refine lv_topi (fun x_6 ex_6 => ?_)
    exact th_iret E hr hlk hs hT hS trivial dX8_property_72
  by_cases k1_5 : x0 = 5
  · refine th_topi k1_5 ?_
    refine lv_tableIn (tgt := 73) hx hb dX8_property_1 (by decide) (by decide) rfl (by decide) ?_
    refine lv_aload_n hx hb dX8_property_73 rfl (lv_at hl 0 rfl) ?_
    refine gf_X8_37 E hT ha0 dX8_property_74 ?_
    refine lv_topi (fun x_7 ex_7 => ?_)
    exact th_iret E hr hlk hs hT hS trivial dX8_property_77
  by_cases k1_6 : x0 = 6
  · refine th_topi k1_6 ?_
    refine lv_tableIn (tgt := 78) hx hb dX8_property_1 (by decide) (by decide) rfl (by decide) ?_
    refine lv_aload_n hx hb dX8_property_78 rfl (lv_at hl 0 rfl) ?_
    refine gf_X8_40 E hT ha0 dX8_property_79 ?_
    refine lv_topi (fun x_8 ex_8 => ?_)
    exact th_iret E hr hlk hs hT hS trivial dX8_property_82
  by_cases k1_7 : x0 = 7
  · refine th_topi k1_7 ?_
    refine lv_tableIn (tgt := 83) hx hb dX8_property_1 (by decide) (by decide) rfl (by decide) ?_
    refine lv_aload_n hx hb dX8_property_83 rfl (lv_at hl 0 rfl) ?_
    refine gf_X8_34 E hT ha0 dX8_property_84 ?_
    refine lv_topi (fun x_9 ex_9 => ?_)
    exact th_iret E hr hlk hs hT hS trivial dX8_property_87
  have n1_0 := i_ne k1_0 (k := 0) (by decide)
  have n1_1 := i_ne k1_1 (k := 1) (by decide)
  have n1_2 := i_ne k1_2 (k := 2) (by decide)
  have n1_3 := i_ne k1_3 (k := 3) (by decide)
  have n1_4 := i_ne k1_4 (k := 4) (by decide)
  have n1_5 := i_ne k1_5 (k := 5) (by decide)
  have n1_6 := i_ne k1_6 (k := 6) (by decide)
  have n1_7 := i_ne k1_7 (k := 7) (by decide)
  refine lv_tableOut (tgt := 88) hx hb dX8_property_1 (by omega) (by decide) ?_
  refine lv_aload_n hx hb dX8_property_88 rfl (lv_at hl 0 rfl) ?_
  refine lv_iload_n hx hb dX8_property_89 rfl (lv_at hl 1 rfl) ?_
  refine lv_bipush (v := 8) hx hb dX8_property_90 (by decide) ?_
  refine lv_isub hx hb dX8_property_92 ?_
  refine lv_topi (fun x_10 ex_10 => ?_)
  refine th_Vi (As := [.int x_10]) (rest := []) E hml hl.1 (z_X8_rangeNumber l D cI cS τ ρ hW H hT a0 x_10 ha0) lk_X8_53 yd_X8_rangeNumber hT ha0 rfl (by decide) hS (AT.sub (by decide)) ⟨by decide, by decide⟩ (Nat.le_of_ble_eq_true rfl) ⟨by decide, by decide⟩ rfl dX8_property_93 (fun r_11 H_11 locs_11 p_11 hT_11 hk_11 hS_11 => ?_)
  exact th_iret E hr hlk hs hT_11 hS_11 trivial dX8_property_96
set_option maxHeartbeats 4000000 in
set_option maxRecDepth 100000 in
/-- StreamEnds$Text.append: it ends, and the heap stays typed -/
theorem z_X9_append (l : Launch) (D : va_G) (cI cS : ClassId) (τ : Nat → Option Nat) (ρ : Nat → Nat → Nat) (hW : WF τ ρ) (H : Heap) (hT : TH D cI cS τ ρ H) (a0 : Nat) (x0 : Int32) (ha0 : τ a0 = some 9) : MI l D cI cS τ ρ yX9_append cX9_append 2 (some .boolean) 0 0 H [.ref a0, .int x0] (fun (r : Int32) (u : Heap) => r = 0 ∨ r = 1) (AT τ [9, 300]) := by
  refine MI.of (by decide) (Nat.le_of_ble_eq_true rfl) ?_
  intro p e s m args below meth c E hml hr hlk hs ls hl
  have hx := E.1
  have hb := E.2.1
  have hown := E.2.2.1
  have hts := E.2.2.2.1
  have hS : SS (AT τ [9, 300]) H H [] := SS.rf
  have hl : lv_has ls 2 [(0, .ref a0), (1, .int x0)] := hl
  refine lv_aload_n hx hb dX9_append_0 rfl (lv_at hl 0 rfl) ?_
  refine gf_X9_15 E hT ha0 dX9_append_1 ?_
  refine lv_topi (fun x_1 ex_1 => ?_)
  refine lv_if_lt (tgt := 17) hx hb dX9_append_4 (by decide) (fun c_2 => ?_) (fun c_2 => ?_)
  · have f_2 : x_1.toInt < 0 := r_lt rfl (by decide) c_2
    refine lv_iconst (v := 0) hx hb dX9_append_17 (by decide) ?_
    exact th_zret E hr hlk hs (Or.inl rfl) hT hS (Or.inl rfl) dX9_append_18
  · have f_2 : 0 ≤ x_1.toInt := r_nlt rfl (by decide) c_2
    refine lv_aload_n hx hb dX9_append_7 rfl (lv_at hl 0 rfl) ?_
    refine gf_X9_15 E hT ha0 dX9_append_8 ?_
    refine th_topi (y := x_1) ex_1.symm ?_
    refine lv_sipush (v := 200) hx hb dX9_append_11 (by decide) ?_
    refine lv_icmp_lt (tgt := 19) hx hb dX9_append_14 (by decide) (fun c_3 => ?_) (fun c_3 => ?_)
    · have f_3 : x_1.toInt < 200 := r_lt rfl (by decide) c_3
      refine lv_aload_n hx hb dX9_append_19 rfl (lv_at hl 0 rfl) ?_
      refine gf_X9_9 E hT hW ha0 dX9_append_20 (fun h_4 => ?_)
      refine lv_aload_n hx hb dX9_append_23 rfl (lv_at hl 0 rfl) ?_
      refine gf_X9_15 E hT ha0 dX9_append_24 ?_
      refine th_topi (y := x_1) ex_1.symm ?_
      refine lv_iload_n hx hb dX9_append_27 rfl (lv_at hl 1 rfl) ?_
      refine th_iast E hT hS h_4 ⟨_, h_4, by decide⟩ (by decide) (vp_in_iff.mpr ⟨by omega, by omega⟩) dX9_append_28 (fun H_5 locs_5 hT_5 hU_5 hS_5 => ?_)
      refine lv_aload_n hx hb dX9_append_29 rfl (lv_at hl 0 rfl) ?_
      refine lv_dup hx hb dX9_append_30 rfl ?_
      refine gf_X9_15 E hT_5 ha0 dX9_append_31 ?_
      refine th_topi (y := x_1) (Eq.trans (fi_q (hU_5.2 _ (th_ne ha0 h_4 (by decide)))) ex_1.symm) ?_
      refine lv_iconst (v := 1) hx hb dX9_append_34 (by decide) ?_
      refine lv_iadd hx hb dX9_append_35 ?_
      refine lv_topi (fun x_6 ex_6 => ?_)
      have q_6 : x_6.toInt = x_1.toInt + 1 := i_pl rfl (by decide) ex_6 (by omega) (by omega)
      refine pf_X9_15 E hT_5 hS_5 ha0 ⟨_, ha0, by decide⟩ dX9_append_36 (fun H_7 locs_7 hT_7 hU_7 hS_7 => ?_)
      refine lv_iconst (v := 1) hx hb dX9_append_39 (by decide) ?_
      exact th_zret E hr hlk hs (Or.inr rfl) hT_7 hS_7 (Or.inr rfl) dX9_append_40
    · have f_3 : 200 ≤ x_1.toInt := r_nlt rfl (by decide) c_3
      refine lv_iconst (v := 0) hx hb dX9_append_17 (by decide) ?_
      exact th_zret E hr hlk hs (Or.inl rfl) hT hS (Or.inl rfl) dX9_append_18
set_option maxHeartbeats 4000000 in
set_option maxRecDepth 100000 in
/-- StreamEnds$Wire.at: it ends, and the heap stays typed -/
theorem z_X10_at (l : Launch) (D : va_G) (cI cS : ClassId) (τ : Nat → Option Nat) (ρ : Nat → Nat → Nat) (hW : WF τ ρ) (H : Heap) (hT : TH D cI cS τ ρ H) (a0 : Nat) (x0 : Int32) (ha0 : τ a0 = some 10) : MR l D cI cS τ ρ yX10_at cX10_at 2 (some (.object "StreamEnds$Segment")) 1 21 H [.ref a0, .int x0] (fun (r : Nat) (u : Heap) => τ r = some 8) (AT τ []) := by
  refine MR.of (by decide) (Nat.le_of_ble_eq_true rfl) ?_
  intro p e s m args below meth c E hml hr hlk hs ls hl
  have hx := E.1
  have hb := E.2.1
  have hown := E.2.2.1
  have hts := E.2.2.2.1
  have hS : SS (AT τ []) H H [] := SS.rf
  have hl : lv_has ls 2 [(0, .ref a0), (1, .int x0)] := hl
  refine lv_aload_n hx hb dX10_at_0 rfl (lv_at hl 0 rfl) ?_
  refine lv_iload_n hx hb dX10_at_1 rfl (lv_at hl 1 rfl) ?_
  refine th_Vi (As := [.int x0]) (rest := []) E hml hl.1 (z_X10_has l D cI cS τ ρ hW H hT a0 x0 ha0) lk_X10_39 yd_X10_has hT ha0 rfl (by decide) hS (AT.sub (by decide)) ⟨by decide, by decide⟩ (Nat.le_of_ble_eq_true rfl) ⟨by decide, by decide⟩ rfl dX10_at_2 (fun r_1 H_1 locs_1 p_1 hT_1 hk_1 hS_1 => ?_)
  have z_1 := b_iv p_1.1
  refine lv_if_eq (tgt := 17) hx hb dX10_at_5 (by decide) (fun c_2 => ?_) (fun c_2 => ?_)
  · have f_2 : r_1.toInt = 0 := r_eq rfl (by decide) c_2
    refine lv_aload_n hx hb dX10_at_17 rfl (lv_at hl 0 rfl) ?_
    refine gf_X10_18 E hT_1 ha0 dX10_at_18 (fun h_3 => ?_)
    exact th_aret E hr hlk hs hT_1 hS_1 h_3 dX10_at_21
  · have f_2 : ¬ r_1.toInt = 0 := r_ne rfl (by decide) c_2
    have nz_r_1 : ¬ r_1 = 0 := c_2
    have w_2 := p_1.2 (p_1.1.resolve_left c_2)
    refine lv_aload_n hx hb dX10_at_8 rfl (lv_at hl 0 rfl) ?_
    refine gf_X10_11 E hT_1 hW ha0 dX10_at_9 (fun h_4 => ?_)
    refine lv_iload_n hx hb dX10_at_12 rfl (lv_at hl 1 rfl) ?_
    refine th_aald E hT_1 h_4 (vp_in_iff.mpr ⟨by omega, by omega⟩) dX10_at_13 (fun h_5 => ?_)
    refine lv_goto (tgt := 21) hx hb dX10_at_14 (by decide) ?_
    exact th_aret E hr hlk hs hT_1 hS_1 h_5 dX10_at_21
set_option maxHeartbeats 4000000 in
set_option maxRecDepth 100000 in
/-- StreamEnds$Wire.duplicate: it ends, and the heap stays typed -/
theorem z_X10_duplicate (l : Launch) (D : va_G) (cI cS : ClassId) (τ : Nat → Option Nat) (ρ : Nat → Nat → Nat) (hW : WF τ ρ) (H : Heap) (hT : TH D cI cS τ ρ H) (a0 : Nat) (x0 : Int32) (ha0 : τ a0 = some 10) : MI l D cI cS τ ρ yX10_duplicate cX10_duplicate 2 (some .boolean) 2 61 H [.ref a0, .int x0] (fun (r : Int32) (u : Heap) => r = 0 ∨ r = 1) (AT τ [8, 10, 104, 108]) := by
  refine MI.of (by decide) (Nat.le_of_ble_eq_true rfl) ?_
  intro p e s m args below meth c E hml hr hlk hs ls hl
  have hx := E.1
  have hb := E.2.1
  have hown := E.2.2.1
  have hts := E.2.2.2.1
  have hS : SS (AT τ [8, 10, 104, 108]) H H [] := SS.rf
  have hl : lv_has ls 2 [(0, .ref a0), (1, .int x0)] := hl
  refine lv_aload_n hx hb dX10_duplicate_0 rfl (lv_at hl 0 rfl) ?_
  refine lv_iload_n hx hb dX10_duplicate_1 rfl (lv_at hl 1 rfl) ?_
  refine th_Vi (As := [.int x0]) (rest := []) E hml hl.1 (z_X10_has l D cI cS τ ρ hW H hT a0 x0 ha0) lk_X10_39 yd_X10_has hT ha0 rfl (by decide) hS (AT.sub (by decide)) ⟨by decide, by decide⟩ (Nat.le_of_ble_eq_true rfl) ⟨by decide, by decide⟩ rfl dX10_duplicate_2 (fun r_1 H_1 locs_1 p_1 hT_1 hk_1 hS_1 => ?_)
  have z_1 := b_iv p_1.1
  refine lv_if_eq (tgt := 17) hx hb dX10_duplicate_5 (by decide) (fun c_2 => ?_) (fun c_2 => ?_)
  · have f_2 : r_1.toInt = 0 := r_eq rfl (by decide) c_2
    refine lv_iconst (v := 0) hx hb dX10_duplicate_17 (by decide) ?_
    exact th_zret E hr hlk hs (Or.inl rfl) hT_1 hS_1 (Or.inl rfl) dX10_duplicate_18
  · have f_2 : ¬ r_1.toInt = 0 := r_ne rfl (by decide) c_2
    have nz_r_1 : ¬ r_1 = 0 := c_2
    have w_2 := p_1.2 (p_1.1.resolve_left c_2)
    refine lv_aload_n hx hb dX10_duplicate_8 rfl (lv_at hl 0 rfl) ?_
    refine gf_X10_22 E hT_1 ha0 dX10_duplicate_9 ?_
    refine th_topi (y := fi D 10 2 H a0) (fi_q (hk_1 _ (AT.out ha0 (by decide)))) ?_
    refine lv_topi (fun x_3 ex_3 => ?_)
    have e_3 : x_3.toInt = (fi D 10 2 H a0).toInt := congrArg Int32.toInt ex_3
    refine lv_bipush (v := 20) hx hb dX10_duplicate_12 (by decide) ?_
    refine lv_icmp_lt (tgt := 19) hx hb dX10_duplicate_14 (by decide) (fun c_4 => ?_) (fun c_4 => ?_)
    · have f_4 : x_3.toInt < 20 := r_lt rfl (by decide) c_4
      refine lv_aload_n hx hb dX10_duplicate_19 rfl (lv_at hl 0 rfl) ?_
      refine gf_X10_11 E hT_1 hW ha0 dX10_duplicate_20 (fun h_5 => ?_)
      refine lv_aload_n hx hb dX10_duplicate_23 rfl (lv_at hl 0 rfl) ?_
      refine gf_X10_22 E hT_1 ha0 dX10_duplicate_24 ?_
      refine th_topi (y := x_3) ((fi_q (hk_1 _ (AT.out ha0 (by decide)))).trans ex_3.symm) ?_
      refine th_aald E hT_1 h_5 (vp_in_iff.mpr ⟨by omega, by omega⟩) dX10_duplicate_27 (fun h_6 => ?_)
      refine lv_aload_n hx hb dX10_duplicate_28 rfl (lv_at hl 0 rfl) ?_
      refine gf_X10_11 E hT_1 hW ha0 dX10_duplicate_29 (fun h_7 => ?_)
      refine lv_iload_n hx hb dX10_duplicate_32 rfl (lv_at hl 1 rfl) ?_
      refine th_aald E hT_1 h_7 (vp_in_iff.mpr ⟨by omega, by omega⟩) dX10_duplicate_33 (fun h_8 => ?_)
      refine th_Vv (As := [.ref (ar H_1 (ρ a0 0) x0.toNatClampNeg)]) (rest := []) E hml hl.1 (z_X8_copyFrom l D cI cS τ ρ hW H_1 hT_1 (ar H_1 (ρ a0 0) x_3.toNatClampNeg) (ar H_1 (ρ a0 0) x0.toNatClampNeg) h_6 h_8) lk_X10_35 yd_X8_copyFrom hT_1 h_6 rfl (by decide) hS_1 (AT.sub (by decide)) ⟨by decide, by decide⟩ (Nat.le_of_ble_eq_true rfl) ⟨by decide, by decide⟩ rfl dX10_duplicate_34 (fun H_9 locs_9 p_9 hT_9 hk_9 hS_9 => ?_)
      refine lv_aload_n hx hb dX10_duplicate_37 rfl (lv_at hl 0 rfl) ?_
      refine lv_dup hx hb dX10_duplicate_38 rfl ?_
      refine gf_X10_22 E hT_9 ha0 dX10_duplicate_39 ?_
      refine th_topi (y := x_3) (Eq.trans (fi_q (hk_9 _ (AT.out ha0 (by decide)))) ((fi_q (hk_1 _ (AT.out ha0 (by decide)))).trans ex_3.symm)) ?_
      refine lv_iconst (v := 1) hx hb dX10_duplicate_42 (by decide) ?_
      refine lv_iadd hx hb dX10_duplicate_43 ?_
      refine lv_topi (fun x_10 ex_10 => ?_)
      have q_x_10 : x_10.toInt = x_3.toInt + 1 := i_add (k := 1) (by decide) ex_10.symm (by have := i_min x_3; omega) (by have := i_max x_3; omega)
      refine pf_X10_22 E hT_9 hS_9 ha0 ⟨_, ha0, by decide⟩ dX10_duplicate_44 (fun H_11 locs_11 hT_11 hU_11 hS_11 => ?_)
      refine lv_iconst (v := 1) hx hb dX10_duplicate_47 (by decide) ?_
      exact th_zret E hr hlk hs (Or.inr rfl) hT_11 hS_11 (Or.inr rfl) dX10_duplicate_48
    · have f_4 : 20 ≤ x_3.toInt := r_nlt rfl (by decide) c_4
      refine lv_iconst (v := 0) hx hb dX10_duplicate_17 (by decide) ?_
      exact th_zret E hr hlk hs (Or.inl rfl) hT_1 hS_1 (Or.inl rfl) dX10_duplicate_18
set_option maxHeartbeats 4000000 in
set_option maxRecDepth 100000 in
/-- StreamEnds.arrive: it ends, and the heap stays typed -/
theorem z_X11_arrive (l : Launch) (D : va_G) (cI cS : ClassId) (τ : Nat → Option Nat) (ρ : Nat → Nat → Nat) (hW : WF τ ρ) (H : Heap) (hT : TH D cI cS τ ρ H) (a0 : Nat) (x0 : Int32) (ha0 : τ a0 = some 11) : MI l D cI cS τ ρ yX11_arrive cX11_arrive 2 (some .int) 7 167 H [.ref a0, .int x0] (fun (r : Int32) (u : Heap) => True) (AT τ [2, 3, 4, 5, 6, 7, 8, 10, 50, 104, 106, 108, 164]) := by
  refine MI.of (by decide) (Nat.le_of_ble_eq_true rfl) ?_
  intro p e s m args below meth c E hml hr hlk hs ls hl
  have hx := E.1
  have hb := E.2.1
  have hown := E.2.2.1
  have hts := E.2.2.2.1
  have hS : SS (AT τ [2, 3, 4, 5, 6, 7, 8, 10, 50, 104, 106, 108, 164]) H H [] := SS.rf
  have hl : lv_has ls 2 [(0, .ref a0), (1, .int x0)] := hl
  refine lv_aload_n hx hb dX11_arrive_0 rfl (lv_at hl 0 rfl) ?_
  refine gf_X11_26 E hT hW ha0 dX11_arrive_1 (fun h_1 => ?_)
  refine gf_X11_86 E hT hW h_1 dX11_arrive_4 (fun h_2 => ?_)
  refine lv_iload_n hx hb dX11_arrive_7 rfl (lv_at hl 1 rfl) ?_
  refine th_Vi (As := [.int x0]) (rest := []) E hml hl.1 (z_X10_has l D cI cS τ ρ hW H hT (ρ (ρ a0 2) 1) x0 h_2) lk_X11_158 yd_X10_has hT h_2 rfl (by decide) hS (AT.sub (by decide)) ⟨by decide, by decide⟩ (Nat.le_of_ble_eq_true rfl) ⟨by decide, by decide⟩ rfl dX11_arrive_8 (fun r_3 H_3 locs_3 p_3 hT_3 hk_3 hS_3 => ?_)
  have z_3 := b_iv p_3.1
  refine lv_if_ne (tgt := 16) hx hb dX11_arrive_11 (by decide) (fun c_4 => ?_) (fun c_4 => ?_)
  · have f_4 : ¬ r_3.toInt = 0 := r_ne rfl (by decide) c_4
    have nz_r_3 : ¬ r_3 = 0 := c_4
    have w_4 := p_3.2 (p_3.1.resolve_left c_4)
    refine lv_aload_n hx hb dX11_arrive_16 rfl (lv_at hl 0 rfl) ?_
    refine gf_X11_26 E hT_3 hW ha0 dX11_arrive_17 (fun h_5 => ?_)
    refine lv_iload_n hx hb dX11_arrive_20 rfl (lv_at hl 1 rfl) ?_
    refine th_Vi (As := [.int x0]) (rest := []) E hml hl.1 (z_X4_deliver l D cI cS τ ρ hW H_3 hT_3 (ρ a0 2) x0 h_5) lk_X11_161 yd_X4_deliver hT_3 h_5 rfl (by decide) hS_3 (AT.sub (by decide)) ⟨by decide, by decide⟩ (Nat.le_of_ble_eq_true rfl) ⟨by decide, by decide⟩ rfl dX11_arrive_21 (fun r_6 H_6 locs_6 p_6 hT_6 hk_6 hS_6 => ?_)
    have z_6 := b_iv p_6
    refine lv_if_eq (tgt := 31) hx hb dX11_arrive_24 (by decide) (fun c_7 => ?_) (fun c_7 => ?_)
    · have f_7 : r_6.toInt = 0 := r_eq rfl (by decide) c_7
      refine lv_iconst (v := 0) hx hb dX11_arrive_31 (by decide) ?_
      exact th_iret E hr hlk hs hT_6 hS_6 trivial dX11_arrive_32
    · have f_7 : ¬ r_6.toInt = 0 := r_ne rfl (by decide) c_7
      have nz_r_6 : ¬ r_6 = 0 := c_7
      refine lv_iconst (v := 1) hx hb dX11_arrive_27 (by decide) ?_
      refine lv_goto (tgt := 32) hx hb dX11_arrive_28 (by decide) ?_
      exact th_iret E hr hlk hs hT_6 hS_6 trivial dX11_arrive_32
  · have f_4 : r_3.toInt = 0 := r_eq rfl (by decide) c_4
    refine lv_iconst (v := (-1)) hx hb dX11_arrive_14 (by decide) ?_
    exact th_iret E hr hlk hs hT_3 hS_3 trivial dX11_arrive_15
set_option maxHeartbeats 4000000 in
set_option maxRecDepth 100000 in
/-- StreamEnds.byteOf: it ends, and the heap stays typed -/
theorem z_X11_byteOf (l : Launch) (D : va_G) (cI cS : ClassId) (τ : Nat → Option Nat) (ρ : Nat → Nat → Nat) (hW : WF τ ρ) (H : Heap) (hT : TH D cI cS τ ρ H) (a0 : Nat) (x0 : Int32) (x1 : Int32) (ha0 : τ a0 = some 11) : MI l D cI cS τ ρ yX11_byteOf cX11_byteOf 3 (some .int) 2 42 H [.ref a0, .int x0, .int x1] (fun (r : Int32) (u : Heap) => True) (AT τ []) := by
  refine MI.of (by decide) (Nat.le_of_ble_eq_true rfl) ?_
  intro p e s m args below meth c E hml hr hlk hs ls hl
  have hx := E.1
  have hb := E.2.1
  have hown := E.2.2.1
  have hts := E.2.2.2.1
  have hS : SS (AT τ []) H H [] := SS.rf
  have hl : lv_has ls 3 [(0, .ref a0), (1, .int x0), (2, .int x1)] := hl
  refine lv_aload_n hx hb dX11_byteOf_0 rfl (lv_at hl 0 rfl) ?_
  refine gf_X11_26 E hT hW ha0 dX11_byteOf_1 (fun h_1 => ?_)
  refine gf_X11_86 E hT hW h_1 dX11_byteOf_4 (fun h_2 => ?_)
  refine lv_iload_n hx hb dX11_byteOf_7 rfl (lv_at hl 1 rfl) ?_
  refine th_Vi (As := [.int x0]) (rest := []) E hml hl.1 (z_X10_has l D cI cS τ ρ hW H hT (ρ (ρ a0 2) 1) x0 h_2) lk_X11_158 yd_X10_has hT h_2 rfl (by decide) hS (AT.sub (by decide)) ⟨by decide, by decide⟩ (Nat.le_of_ble_eq_true rfl) ⟨by decide, by decide⟩ rfl dX11_byteOf_8 (fun r_3 H_3 locs_3 p_3 hT_3 hk_3 hS_3 => ?_)
  have z_3 := b_iv p_3.1
  refine lv_if_eq (tgt := 18) hx hb dX11_byteOf_11 (by decide) (fun c_4 => ?_) (fun c_4 => ?_)
  · have f_4 : r_3.toInt = 0 := r_eq rfl (by decide) c_4
    refine lv_iconst (v := (-1)) hx hb dX11_byteOf_18 (by decide) ?_
    exact th_iret E hr hlk hs hT_3 hS_3 trivial dX11_byteOf_19
  · have f_4 : ¬ r_3.toInt = 0 := r_ne rfl (by decide) c_4
    have nz_r_3 : ¬ r_3 = 0 := c_4
    have w_4 := p_3.2 (p_3.1.resolve_left c_4)
    refine lv_iload_n hx hb dX11_byteOf_14 rfl (lv_at hl 2 rfl) ?_
    refine lv_if_ge (tgt := 20) hx hb dX11_byteOf_15 (by decide) (fun c_5 => ?_) (fun c_5 => ?_)
    · have f_5 : 0 ≤ x1.toInt := r_le (by decide) rfl c_5
      refine lv_aload_n hx hb dX11_byteOf_20 rfl (lv_at hl 0 rfl) ?_
      refine gf_X11_26 E hT_3 hW ha0 dX11_byteOf_21 (fun h_6 => ?_)
      refine gf_X11_86 E hT_3 hW h_6 dX11_byteOf_24 (fun h_7 => ?_)
      refine lv_iload_n hx hb dX11_byteOf_27 rfl (lv_at hl 1 rfl) ?_
      refine th_Vr (As := [.int x0]) (rest := []) E hml hl.1 (z_X10_at l D cI cS τ ρ hW H_3 hT_3 (ρ (ρ a0 2) 1) x0 h_7) lk_X11_232 yd_X10_at hT_3 h_7 rfl (by decide) hS_3 (AT.sub (by decide)) ⟨by decide, by decide⟩ (Nat.le_of_ble_eq_true rfl) ⟨by decide, by decide⟩ rfl dX11_byteOf_28 (fun r_8 H_8 locs_8 p_8 hT_8 hk_8 hS_8 => ?_)
      refine lv_iload_n hx hb dX11_byteOf_31 rfl (lv_at hl 2 rfl) ?_
      refine th_Vi (As := [.int x1]) (rest := []) E hml hl.1 (z_X8_byteAt l D cI cS τ ρ hW H_8 hT_8 r_8 x1 p_8) lk_X11_240 yd_X8_byteAt hT_8 p_8 rfl (by decide) hS_8 (AT.sub (by decide)) ⟨by decide, by decide⟩ (Nat.le_of_ble_eq_true rfl) ⟨by decide, by decide⟩ rfl dX11_byteOf_32 (fun r_9 H_9 locs_9 p_9 hT_9 hk_9 hS_9 => ?_)
      exact th_iret E hr hlk hs hT_9 hS_9 trivial dX11_byteOf_35
    · have f_5 : x1.toInt < 0 := r_nle (by decide) rfl c_5
      refine lv_iconst (v := (-1)) hx hb dX11_byteOf_18 (by decide) ?_
      exact th_iret E hr hlk hs hT_3 hS_3 trivial dX11_byteOf_19
set_option maxHeartbeats 4000000 in
set_option maxRecDepth 100000 in
/-- StreamEnds.calm: it ends, and the heap stays typed -/
theorem z_X11_calm (l : Launch) (D : va_G) (cI cS : ClassId) (τ : Nat → Option Nat) (ρ : Nat → Nat → Nat) (hW : WF τ ρ) (H : Heap) (hT : TH D cI cS τ ρ H) (a0 : Nat) (x0 : Int32) (ha0 : τ a0 = some 11) : MI l D cI cS τ ρ yX11_calm cX11_calm 5 (some .int) 7 167 H [.ref a0, .int x0] (fun (r : Int32) (u : Heap) => True) (AT τ [0, 1, 2, 3, 4, 5, 6, 7, 8, 10, 50, 104, 106, 108, 164]) := by
  refine MI.of (by decide) (Nat.le_of_ble_eq_true rfl) ?_
  intro p e s m args below meth c E hml hr hlk hs ls hl
  have hx := E.1
  have hb := E.2.1
  have hown := E.2.2.1
  have hts := E.2.2.2.1
  have hS : SS (AT τ [0, 1, 2, 3, 4, 5, 6, 7, 8, 10, 50, 104, 106, 108, 164]) H H [] := SS.rf
  have hl : lv_has ls 5 [(0, .ref a0), (1, .int x0)] := hl
  have J_89 : ∀ (H_c89 : Heap) (lc_c89 : List Loc) (ls : Array Slot) (y89_2 : Int32), TH D cI cS τ ρ H_c89 → SS (AT τ [0, 1, 2, 3, 4, 5, 6, 7, 8, 10, 50, 104, 106, 108, 164]) H H_c89 lc_c89 → lv_has ls 5 [(0, .ref a0), (1, .int x0), (2, .int y89_2)] → 0 ≤ x0.toInt → x0.toInt ≤ 5 → 0 ≤ y89_2.toInt → W p l e (rmO 7 167) s m args below meth c H_c89 lc_c89 0 0 (MQ below (va_Qi (fun (r : Int32) (u : Heap) => True) (Bt D cI cS τ ρ H) (AT τ [0, 1, 2, 3, 4, 5, 6, 7, 8, 10, 50, 104, 106, 108, 164])) args s 0 0 (AT τ [0, 1, 2, 3, 4, 5, 6, 7, 8, 10, 50, 104, 106, 108, 164])) (F0 m 89 ls []) := by
    intro H_c89 lc_c89 ls y89_2 hT_c89 hS_c89 hl ly89_1 uy89_1 ly89_2
    refine lv_iload_n hx hb dX11_calm_89 rfl (lv_at hl 1 rfl) ?_
    by_cases k1_0 : x0 = 0
    · refine th_topi k1_0 ?_
      refine lv_tableIn (tgt := 124) hx hb dX11_calm_90 (by decide) (by decide) rfl (by decide) ?_
      refine lv_iload_n hx hb dX11_calm_124 rfl (lv_at hl 2 rfl) ?_
      exact th_iret E hr hlk hs hT_c89 hS_c89 trivial dX11_calm_125
    by_cases k1_1 : x0 = 1
    · refine th_topi k1_1 ?_
      refine lv_tableIn (tgt := 126) hx hb dX11_calm_90 (by decide) (by decide) rfl (by decide) ?_
      refine lv_aload_n hx hb dX11_calm_126 rfl (lv_at hl 0 rfl) ?_
      refine gf_X11_30 E hT_c89 hW ha0 dX11_calm_127 (fun h_2 => ?_)
      refine gf_X11_196 E hT_c89 hW h_2 dX11_calm_130 (fun h_3 => ?_)
      refine gf_X11_72 E hT_c89 h_3 dX11_calm_133 ?_
      refine lv_topi (fun x_4 ex_4 => ?_)
      exact th_iret E hr hlk hs hT_c89 hS_c89 trivial dX11_calm_136
    by_cases k1_2 : x0 = 2
    · refine th_topi k1_2 ?_
      refine lv_tableIn (tgt := 137) hx hb dX11_calm_90 (by decide) (by decide) rfl (by decide) ?_
      refine lv_aload_n hx hb dX11_calm_137 rfl (lv_at hl 0 rfl) ?_
      refine gf_X11_30 E hT_c89 hW ha0 dX11_calm_138 (fun h_5 => ?_)
      refine gf_X11_200 E hT_c89 hW h_5 dX11_calm_141 (fun h_6 => ?_)
      refine gf_X11_72 E hT_c89 h_6 dX11_calm_144 ?_
      refine lv_topi (fun x_7 ex_7 => ?_)
      exact th_iret E hr hlk hs hT_c89 hS_c89 trivial dX11_calm_147
    by_cases k1_3 : x0 = 3
    · refine th_topi k1_3 ?_
      refine lv_tableIn (tgt := 148) hx hb dX11_calm_90 (by decide) (by decide) rfl (by decide) ?_
      refine lv_aload_n hx hb dX11_calm_148 rfl (lv_at hl 0 rfl) ?_
      refine gf_X11_30 E hT_c89 hW ha0 dX11_calm_149 (fun h_8 => ?_)
      refine gf_X11_196 E hT_c89 hW h_8 dX11_calm_152 (fun h_9 => ?_)
      refine gf_X11_143 E hT_c89 hW h_9 dX11_calm_155 (fun h_10 => ?_)
      refine th_Vi (As := []) (rest := []) E hml hl.1 (z_X3_consumable l D cI cS τ ρ hW H_c89 hT_c89 (ρ (ρ (ρ a0 3) 3) 5) h_10) lk_X11_147 yd_X3_consumable hT_c89 h_10 rfl (by decide) hS_c89 (AT.sub (by decide)) ⟨by decide, by decide⟩ (Nat.le_of_ble_eq_true rfl) ⟨by decide, by decide⟩ rfl dX11_calm_158 (fun r_11 H_11 locs_11 p_11 hT_11 hk_11 hS_11 => ?_)
      exact th_iret E hr hlk hs hT_11 hS_11 trivial dX11_calm_161
    by_cases k1_4 : x0 = 4
    · refine th_topi k1_4 ?_
      refine lv_tableIn (tgt := 162) hx hb dX11_calm_90 (by decide) (by decide) rfl (by decide) ?_
      refine lv_aload_n hx hb dX11_calm_162 rfl (lv_at hl 0 rfl) ?_
      refine gf_X11_30 E hT_c89 hW ha0 dX11_calm_163 (fun h_12 => ?_)
      refine gf_X11_200 E hT_c89 hW h_12 dX11_calm_166 (fun h_13 => ?_)
      refine gf_X11_143 E hT_c89 hW h_13 dX11_calm_169 (fun h_14 => ?_)
      refine th_Vi (As := []) (rest := []) E hml hl.1 (z_X3_consumable l D cI cS τ ρ hW H_c89 hT_c89 (ρ (ρ (ρ a0 3) 4) 5) h_14) lk_X11_147 yd_X3_consumable hT_c89 h_14 rfl (by decide) hS_c89 (AT.sub (by decide)) ⟨by decide, by decide⟩ (Nat.le_of_ble_eq_true rfl) ⟨by decide, by decide⟩ rfl dX11_calm_172 (fun r_15 H_15 locs_15 p_15 hT_15 hk_15 hS_15 => ?_)
      exact th_iret E hr hlk hs hT_15 hS_15 trivial dX11_calm_175
    have n1_0 := i_ne k1_0 (k := 0) (by decide)
    have n1_1 := i_ne k1_1 (k := 1) (by decide)
    have n1_2 := i_ne k1_2 (k := 2) (by decide)
    have n1_3 := i_ne k1_3 (k := 3) (by decide)
    have n1_4 := i_ne k1_4 (k := 4) (by decide)
    refine lv_tableOut (tgt := 176) hx hb dX11_calm_90 (by omega) (by decide) ?_
    refine lv_aload_n hx hb dX11_calm_176 rfl (lv_at hl 0 rfl) ?_
    refine gf_X11_30 E hT_c89 hW ha0 dX11_calm_177 (fun h_16 => ?_)
    refine gf_X11_86 E hT_c89 hW h_16 dX11_calm_180 (fun h_17 => ?_)
    refine gf_X11_203 E hT_c89 h_17 dX11_calm_183 ?_
    refine lv_topi (fun x_18 ex_18 => ?_)
    refine lv_aload_n hx hb dX11_calm_186 rfl (lv_at hl 0 rfl) ?_
    refine gf_X11_26 E hT_c89 hW ha0 dX11_calm_187 (fun h_19 => ?_)
    refine gf_X11_86 E hT_c89 hW h_19 dX11_calm_190 (fun h_20 => ?_)
    refine gf_X11_203 E hT_c89 h_20 dX11_calm_193 ?_
    refine lv_topi (fun x_21 ex_21 => ?_)
    refine lv_isub hx hb dX11_calm_196 ?_
    refine lv_topi (fun x_22 ex_22 => ?_)
    exact th_iret E hr hlk hs hT_c89 hS_c89 trivial dX11_calm_197
  have L_24 : ∀ (n : Nat) (H_c24 : Heap) (lc_c24 : List Loc) (ls : Array Slot) (y24_2 : Int32), TH D cI cS τ ρ H_c24 → SS (AT τ [0, 1, 2, 3, 4, 5, 6, 7, 8, 10, 50, 104, 106, 108, 164]) H H_c24 lc_c24 → lv_has ls 5 [(0, .ref a0), (1, .int x0), (2, .int y24_2)] → 0 ≤ x0.toInt → x0.toInt ≤ 5 → 0 ≤ y24_2.toInt → (300 - y24_2.toInt).toNat < n → W p l e (rmO 7 167) s m args below meth c H_c24 lc_c24 0 0 (MQ below (va_Qi (fun (r : Int32) (u : Heap) => True) (Bt D cI cS τ ρ H) (AT τ [0, 1, 2, 3, 4, 5, 6, 7, 8, 10, 50, 104, 106, 108, 164])) args s 0 0 (AT τ [0, 1, 2, 3, 4, 5, 6, 7, 8, 10, 50, 104, 106, 108, 164])) (F0 m 24 ls []) := by
    intro n
    induction n with
    | zero => intro H_c24 lc_c24 ls y24_2 hT_c24 hS_c24 hl ly24_1 uy24_1 ly24_2 hm; exact absurd hm (Nat.not_lt_zero _)
    | succ n ih_24 =>
      intro H_c24 lc_c24 ls y24_2 hT_c24 hS_c24 hl ly24_1 uy24_1 ly24_2 hm_24
      have L_55 : ∀ (n : Nat) (H_c55 : Heap) (lc_c55 : List Loc) (ls : Array Slot) (y55_3 : Int32) (y55_4 : Int32), TH D cI cS τ ρ H_c55 → SS (AT τ [0, 1, 2, 3, 4, 5, 6, 7, 8, 10, 50, 104, 106, 108, 164]) H H_c55 lc_c55 → lv_has ls 5 [(0, .ref a0), (1, .int x0), (2, .int y24_2), (3, .int y55_3), (4, .int y55_4)] → 0 ≤ x0.toInt → x0.toInt ≤ 5 → 0 ≤ y24_2.toInt → y24_2.toInt ≤ 299 → 0 ≤ y55_4.toInt → (y55_3.toInt - y55_4.toInt).toNat < n → W p l e (rmO 7 167) s m args below meth c H_c55 lc_c55 0 0 (MQ below (va_Qi (fun (r : Int32) (u : Heap) => True) (Bt D cI cS τ ρ H) (AT τ [0, 1, 2, 3, 4, 5, 6, 7, 8, 10, 50, 104, 106, 108, 164])) args s 0 0 (AT τ [0, 1, 2, 3, 4, 5, 6, 7, 8, 10, 50, 104, 106, 108, 164])) (F0 m 55 ls []) := by
        intro n
        induction n with
        | zero => intro H_c55 lc_c55 ls y55_3 y55_4 hT_c55 hS_c55 hl ly55_1 uy55_1 ly55_2 uy55_2 ly55_4 hm; exact absurd hm (Nat.not_lt_zero _)
        | succ n ih_55 =>
          intro H_c55 lc_c55 ls y55_3 y55_4 hT_c55 hS_c55 hl ly55_1 uy55_1 ly55_2 uy55_2 ly55_4 hm_55
          refine lv_iload hx hb dX11_calm_55 (lv_at hl 4 rfl) ?_
          refine lv_iload_n hx hb dX11_calm_57 rfl (lv_at hl 3 rfl) ?_
          refine lv_icmp_ge (tgt := 76) hx hb dX11_calm_58 (by decide) (fun c_23 => ?_) (fun c_23 => ?_)
          · have f_23 : y55_3.toInt ≤ y55_4.toInt := r_le rfl rfl c_23
            refine lv_aload_n hx hb dX11_calm_76 rfl (lv_at hl 0 rfl) ?_
            refine gf_X11_30 E hT_c55 hW ha0 dX11_calm_77 (fun h_24 => ?_)
            refine th_Vv (As := []) (rest := []) E hml hl.1 (z_X4_tick l D cI cS τ ρ hW H_c55 hT_c55 (ρ a0 3) h_24) lk_X11_171 yd_X4_tick hT_c55 h_24 rfl (by decide) hS_c55 (AT.sub (by decide)) ⟨by decide, by decide⟩ (Nat.le_of_ble_eq_true rfl) ⟨by decide, by decide⟩ rfl dX11_calm_80 (fun H_25 locs_25 p_25 hT_25 hk_25 hS_25 => ?_)
            obtain ⟨x_26, ex_26⟩ : ∃ y : Int32, y24_2 + 1 = y := ⟨_, rfl⟩
            have q_x_26 : x_26.toInt = y24_2.toInt + 1 := i_add (k := 1) (by decide) ex_26 (by have := i_min y24_2; omega) (by have := i_max y24_2; omega)
            refine lv_iinc (v := x_26) (lv' := [(2, .int x_26), (0, .ref a0), (1, .int x0), (3, .int y55_3), (4, .int y55_4)]) hx hb dX11_calm_83 hl (k := 2) rfl (by rw [← ex_26]; rfl) (by decide) rfl (fun ls hl => ?_)
            refine lv_goto (tgt := 24) hx hb dX11_calm_86 (by decide) ?_
            exact ih_24 H_25 locs_25 _ x_26 hT_25 hS_25 (lv_sub hl [1, 2, 0] rfl) (by omega) (by omega) (by omega) (by omega)
          · have f_23 : y55_4.toInt < y55_3.toInt := r_nle rfl rfl c_23
            refine lv_aload_n hx hb dX11_calm_61 rfl (lv_at hl 0 rfl) ?_
            refine gf_X11_30 E hT_c55 hW ha0 dX11_calm_62 (fun h_27 => ?_)
            refine lv_iconst (v := 0) hx hb dX11_calm_65 (by decide) ?_
            refine th_Vi (As := [.int 0]) (rest := []) E hml hl.1 (z_X4_deliver l D cI cS τ ρ hW H_c55 hT_c55 (ρ a0 3) 0 h_27) lk_X11_161 yd_X4_deliver hT_c55 h_27 rfl (by decide) hS_c55 (AT.sub (by decide)) ⟨by decide, by decide⟩ (Nat.le_of_ble_eq_true rfl) ⟨by decide, by decide⟩ rfl dX11_calm_66 (fun r_28 H_28 locs_28 p_28 hT_28 hk_28 hS_28 => ?_)
            have z_28 := b_iv p_28
            refine lv_pop hx hb dX11_calm_69 rfl ?_
            obtain ⟨x_29, ex_29⟩ : ∃ y : Int32, y55_4 + 1 = y := ⟨_, rfl⟩
            have q_x_29 : x_29.toInt = y55_4.toInt + 1 := i_add (k := 1) (by decide) ex_29 (by have := i_min y55_4; omega) (by have := i_max y55_4; have := i_max y55_3; omega)
            refine lv_iinc (v := x_29) (lv' := [(4, .int x_29), (0, .ref a0), (1, .int x0), (2, .int y24_2), (3, .int y55_3)]) hx hb dX11_calm_70 hl (k := 4) rfl (by rw [← ex_29]; rfl) (by decide) rfl (fun ls hl => ?_)
            refine lv_goto (tgt := 55) hx hb dX11_calm_73 (by decide) ?_
            exact ih_55 H_28 locs_28 _ y55_3 x_29 hT_28 hS_28 (lv_sub hl [1, 2, 3, 4, 0] rfl) (by omega) (by omega) (by omega) (by omega) (by omega) (by omega)
      refine lv_iload_n hx hb dX11_calm_24 rfl (lv_at hl 2 rfl) ?_
      refine lv_sipush (v := 300) hx hb dX11_calm_25 (by decide) ?_
      refine lv_icmp_ge (tgt := 89) hx hb dX11_calm_28 (by decide) (fun c_30 => ?_) (fun c_30 => ?_)
      · have f_30 : 300 ≤ y24_2.toInt := r_le (by decide) rfl c_30
        exact J_89 H_c24 lc_c24 _ y24_2 hT_c24 hS_c24 hl (by omega) (by omega) (by omega)
      · have f_30 : y24_2.toInt < 300 := r_nle (by decide) rfl c_30
        refine lv_aload_n hx hb dX11_calm_31 rfl (lv_at hl 0 rfl) ?_
        refine gf_X11_30 E hT_c24 hW ha0 dX11_calm_32 (fun h_31 => ?_)
        refine th_Vi (As := []) (rest := []) E hml hl.1 (z_X4_isBusy l D cI cS τ ρ hW H_c24 hT_c24 (ρ a0 3) h_31) lk_X11_193 yd_X4_isBusy hT_c24 h_31 rfl (by decide) hS_c24 (AT.sub (by decide)) ⟨by decide, by decide⟩ (Nat.le_of_ble_eq_true rfl) ⟨by decide, by decide⟩ rfl dX11_calm_35 (fun r_32 H_32 locs_32 p_32 hT_32 hk_32 hS_32 => ?_)
        have z_32 := b_iv p_32
        refine lv_if_eq (tgt := 89) hx hb dX11_calm_38 (by decide) (fun c_33 => ?_) (fun c_33 => ?_)
        · have f_33 : r_32.toInt = 0 := r_eq rfl (by decide) c_33
          exact J_89 H_32 locs_32 _ y24_2 hT_32 hS_32 hl (by omega) (by omega) (by omega)
        · have f_33 : ¬ r_32.toInt = 0 := r_ne rfl (by decide) c_33
          have nz_r_32 : ¬ r_32 = 0 := c_33
          refine lv_aload_n hx hb dX11_calm_41 rfl (lv_at hl 0 rfl) ?_
          refine gf_X11_30 E hT_32 hW ha0 dX11_calm_42 (fun h_34 => ?_)
          refine gf_X11_86 E hT_32 hW h_34 dX11_calm_45 (fun h_35 => ?_)
          refine gf_X11_90 E hT_32 h_35 dX11_calm_48 ?_
          refine th_topi (y := fi D 10 2 H_c24 (ρ (ρ a0 3) 1)) (fi_q (hk_32 _ (AT.out h_35 (by decide)))) ?_
          refine lv_topi (fun x_36 ex_36 => ?_)
          refine lv_istore_n (lv' := [(3, .int x_36), (0, .ref a0), (1, .int x0), (2, .int y24_2)]) hx hb dX11_calm_51 rfl hl (by decide) rfl (fun ls hl => ?_)
          refine lv_iconst (v := 0) hx hb dX11_calm_52 (by decide) ?_
          refine lv_istore (lv' := [(4, .int 0), (3, .int x_36), (0, .ref a0), (1, .int x0), (2, .int y24_2)]) hx hb dX11_calm_53 hl (by decide) rfl (fun ls hl => ?_)
          exact L_55 _ H_32 locs_32 _ x_36 0 hT_32 hS_32 (lv_sub hl [2, 3, 4, 1, 0] rfl) (by omega) (by omega) (by omega) (by omega) (by decide) (Nat.lt_succ_self _)
  refine lv_iload_n hx hb dX11_calm_0 rfl (lv_at hl 1 rfl) ?_
  refine lv_if_lt (tgt := 9) hx hb dX11_calm_1 (by decide) (fun c_37 => ?_) (fun c_37 => ?_)
  · have f_37 : x0.toInt < 0 := r_lt rfl (by decide) c_37
    refine lv_iconst (v := (-1)) hx hb dX11_calm_9 (by decide) ?_
    exact th_iret E hr hlk hs hT hS trivial dX11_calm_10
  · have f_37 : 0 ≤ x0.toInt := r_nlt rfl (by decide) c_37
    refine lv_iload_n hx hb dX11_calm_4 rfl (lv_at hl 1 rfl) ?_
    refine lv_iconst (v := 5) hx hb dX11_calm_5 (by decide) ?_
    refine lv_icmp_le (tgt := 11) hx hb dX11_calm_6 (by decide) (fun c_38 => ?_) (fun c_38 => ?_)
    · have f_38 : x0.toInt ≤ 5 := r_le rfl (by decide) c_38
      refine lv_aload_n hx hb dX11_calm_11 rfl (lv_at hl 0 rfl) ?_
      refine gf_X11_30 E hT hW ha0 dX11_calm_12 (fun h_39 => ?_)
      refine lv_aload_n hx hb dX11_calm_15 rfl (lv_at hl 0 rfl) ?_
      refine gf_X11_26 E hT hW ha0 dX11_calm_16 (fun h_40 => ?_)
      refine th_Vv (As := [.ref (ρ a0 2)]) (rest := []) E hml hl.1 (z_X4_copyFrom l D cI cS τ ρ hW H hT (ρ a0 3) (ρ a0 2) h_39 h_40) lk_X11_189 yd_X4_copyFrom hT h_39 rfl (by decide) hS (AT.sub (by decide)) ⟨by decide, by decide⟩ (Nat.le_of_ble_eq_true rfl) ⟨by decide, by decide⟩ rfl dX11_calm_19 (fun H_41 locs_41 p_41 hT_41 hk_41 hS_41 => ?_)
      refine lv_iconst (v := 0) hx hb dX11_calm_22 (by decide) ?_
      refine lv_istore_n (lv' := [(2, .int 0), (0, .ref a0), (1, .int x0)]) hx hb dX11_calm_23 rfl hl (by decide) rfl (fun ls hl => ?_)
      exact L_24 _ H_41 locs_41 _ 0 hT_41 hS_41 (lv_sub hl [1, 2, 0] rfl) (by omega) (by omega) (by decide) (Nat.lt_succ_self _)
    · have f_38 : 5 < x0.toInt := r_nle rfl (by decide) c_38
      refine lv_iconst (v := (-1)) hx hb dX11_calm_9 (by decide) ?_
      exact th_iret E hr hlk hs hT hS trivial dX11_calm_10
set_option maxHeartbeats 4000000 in
set_option maxRecDepth 100000 in
/-- StreamEnds.cause: it ends, and the heap stays typed -/
theorem z_X11_cause (l : Launch) (D : va_G) (cI cS : ClassId) (τ : Nat → Option Nat) (ρ : Nat → Nat → Nat) (hW : WF τ ρ) (H : Heap) (hT : TH D cI cS τ ρ H) (a0 : Nat) (x0 : Int32) (ha0 : τ a0 = some 11) : MI l D cI cS τ ρ yX11_cause cX11_cause 2 (some .int) 0 0 H [.ref a0, .int x0] (fun (r : Int32) (u : Heap) => True) (AT τ []) := by
  refine MI.of (by decide) (Nat.le_of_ble_eq_true rfl) ?_
  intro p e s m args below meth c E hml hr hlk hs ls hl
  have hx := E.1
  have hb := E.2.1
  have hown := E.2.2.1
  have hts := E.2.2.2.1
  have hS : SS (AT τ []) H H [] := SS.rf
  have hl : lv_has ls 2 [(0, .ref a0), (1, .int x0)] := hl
  refine lv_iload_n hx hb dX11_cause_0 rfl (lv_at hl 1 rfl) ?_
  refine lv_if_ge (tgt := 6) hx hb dX11_cause_1 (by decide) (fun c_1 => ?_) (fun c_1 => ?_)
  · have f_1 : 0 ≤ x0.toInt := r_le (by decide) rfl c_1
    refine lv_iload_n hx hb dX11_cause_6 rfl (lv_at hl 1 rfl) ?_
    refine lv_if_ne (tgt := 18) hx hb dX11_cause_7 (by decide) (fun c_2 => ?_) (fun c_2 => ?_)
    · have f_2 : ¬ x0.toInt = 0 := r_ne rfl (by decide) c_2
      have nz_x0 : ¬ x0 = 0 := c_2
      refine lv_iload_n hx hb dX11_cause_18 rfl (lv_at hl 1 rfl) ?_
      refine lv_iconst (v := 1) hx hb dX11_cause_19 (by decide) ?_
      refine lv_icmp_ne (tgt := 33) hx hb dX11_cause_20 (by decide) (fun c_3 => ?_) (fun c_3 => ?_)
      · have f_3 : ¬ x0.toInt = 1 := r_ne rfl (by decide) c_3
        refine lv_bipush (v := (-4)) hx hb dX11_cause_33 (by decide) ?_
        exact th_iret E hr hlk hs hT hS trivial dX11_cause_35
      · have f_3 : x0.toInt = 1 := r_eq rfl (by decide) c_3
        refine lv_aload_n hx hb dX11_cause_23 rfl (lv_at hl 0 rfl) ?_
        refine gf_X11_26 E hT hW ha0 dX11_cause_24 (fun h_4 => ?_)
        refine gf_X11_246 E hT h_4 dX11_cause_27 ?_
        refine lv_topi (fun x_5 ex_5 => ?_)
        refine lv_goto (tgt := 35) hx hb dX11_cause_30 (by decide) ?_
        exact th_iret E hr hlk hs hT hS trivial dX11_cause_35
    · have f_2 : x0.toInt = 0 := r_eq rfl (by decide) c_2
      refine lv_aload_n hx hb dX11_cause_10 rfl (lv_at hl 0 rfl) ?_
      refine gf_X11_26 E hT hW ha0 dX11_cause_11 (fun h_6 => ?_)
      refine gf_X11_243 E hT h_6 dX11_cause_14 ?_
      refine lv_topi (fun x_7 ex_7 => ?_)
      exact th_iret E hr hlk hs hT hS trivial dX11_cause_17
  · have f_1 : x0.toInt < 0 := r_nle (by decide) rfl c_1
    refine lv_iconst (v := (-1)) hx hb dX11_cause_4 (by decide) ?_
    exact th_iret E hr hlk hs hT hS trivial dX11_cause_5
set_option maxHeartbeats 4000000 in
set_option maxRecDepth 100000 in
/-- StreamEnds.count: it ends, and the heap stays typed -/
theorem z_X11_count (l : Launch) (D : va_G) (cI cS : ClassId) (τ : Nat → Option Nat) (ρ : Nat → Nat → Nat) (hW : WF τ ρ) (H : Heap) (hT : TH D cI cS τ ρ H) (a0 : Nat) (x0 : Int32) (ha0 : τ a0 = some 11) : MI l D cI cS τ ρ yX11_count cX11_count 2 (some .int) 0 0 H [.ref a0, .int x0] (fun (r : Int32) (u : Heap) => True) (AT τ []) := by
  refine MI.of (by decide) (Nat.le_of_ble_eq_true rfl) ?_
  intro p e s m args below meth c E hml hr hlk hs ls hl
  have hx := E.1
  have hb := E.2.1
  have hown := E.2.2.1
  have hts := E.2.2.2.1
  have hS : SS (AT τ []) H H [] := SS.rf
  have hl : lv_has ls 2 [(0, .ref a0), (1, .int x0)] := hl
  refine lv_iload_n hx hb dX11_count_0 rfl (lv_at hl 1 rfl) ?_
  by_cases k1_0 : x0 = 0
  · refine th_topi k1_0 ?_
    refine lv_tableIn (tgt := 64) hx hb dX11_count_1 (by decide) (by decide) rfl (by decide) ?_
    refine lv_aload_n hx hb dX11_count_64 rfl (lv_at hl 0 rfl) ?_
    refine gf_X11_26 E hT hW ha0 dX11_count_65 (fun h_2 => ?_)
    refine gf_X11_130 E hT hW h_2 dX11_count_68 (fun h_3 => ?_)
    refine gf_X11_62 E hT h_3 dX11_count_71 ?_
    refine lv_topi (fun x_4 ex_4 => ?_)
    exact th_iret E hr hlk hs hT hS trivial dX11_count_74
  by_cases k1_1 : x0 = 1
  · refine th_topi k1_1 ?_
    refine lv_tableIn (tgt := 75) hx hb dX11_count_1 (by decide) (by decide) rfl (by decide) ?_
    refine lv_aload_n hx hb dX11_count_75 rfl (lv_at hl 0 rfl) ?_
    refine gf_X11_26 E hT hW ha0 dX11_count_76 (fun h_5 => ?_)
    refine gf_X11_130 E hT hW h_5 dX11_count_79 (fun h_6 => ?_)
    refine gf_X11_33 E hT h_6 dX11_count_82 ?_
    refine lv_topi (fun x_7 ex_7 => ?_)
    exact th_iret E hr hlk hs hT hS trivial dX11_count_85
  by_cases k1_2 : x0 = 2
  · refine th_topi k1_2 ?_
    refine lv_tableIn (tgt := 86) hx hb dX11_count_1 (by decide) (by decide) rfl (by decide) ?_
    refine lv_aload_n hx hb dX11_count_86 rfl (lv_at hl 0 rfl) ?_
    refine gf_X11_26 E hT hW ha0 dX11_count_87 (fun h_8 => ?_)
    refine gf_X11_130 E hT hW h_8 dX11_count_90 (fun h_9 => ?_)
    refine gf_X11_37 E hT h_9 dX11_count_93 ?_
    refine lv_topi (fun x_10 ex_10 => ?_)
    exact th_iret E hr hlk hs hT hS trivial dX11_count_96
  by_cases k1_3 : x0 = 3
  · refine th_topi k1_3 ?_
    refine lv_tableIn (tgt := 97) hx hb dX11_count_1 (by decide) (by decide) rfl (by decide) ?_
    refine lv_aload_n hx hb dX11_count_97 rfl (lv_at hl 0 rfl) ?_
    refine gf_X11_26 E hT hW ha0 dX11_count_98 (fun h_11 => ?_)
    refine gf_X11_130 E hT hW h_11 dX11_count_101 (fun h_12 => ?_)
    refine gf_X11_40 E hT h_12 dX11_count_104 ?_
    refine lv_topi (fun x_13 ex_13 => ?_)
    exact th_iret E hr hlk hs hT hS trivial dX11_count_107
  by_cases k1_4 : x0 = 4
  · refine th_topi k1_4 ?_
    refine lv_tableIn (tgt := 108) hx hb dX11_count_1 (by decide) (by decide) rfl (by decide) ?_
    refine lv_aload_n hx hb dX11_count_108 rfl (lv_at hl 0 rfl) ?_
    refine gf_X11_26 E hT hW ha0 dX11_count_109 (fun h_14 => ?_)
    refine gf_X11_130 E hT hW h_14 dX11_count_112 (fun h_15 => ?_)
    refine gf_X11_249 E hT h_15 dX11_count_115 ?_
    refine lv_topi (fun x_16 ex_16 => ?_)
    exact th_iret E hr hlk hs hT hS trivial dX11_count_118
  by_cases k1_5 : x0 = 5
  · refine th_topi k1_5 ?_
    refine lv_tableIn (tgt := 119) hx hb dX11_count_1 (by decide) (by decide) rfl (by decide) ?_
    refine lv_aload_n hx hb dX11_count_119 rfl (lv_at hl 0 rfl) ?_
    refine gf_X11_26 E hT hW ha0 dX11_count_120 (fun h_17 => ?_)
    refine gf_X11_86 E hT hW h_17 dX11_count_123 (fun h_18 => ?_)
    refine gf_X11_90 E hT h_18 dX11_count_126 ?_
    refine lv_topi (fun x_19 ex_19 => ?_)
    exact th_iret E hr hlk hs hT hS trivial dX11_count_129
  by_cases k1_6 : x0 = 6
  · refine th_topi k1_6 ?_
    refine lv_tableIn (tgt := 130) hx hb dX11_count_1 (by decide) (by decide) rfl (by decide) ?_
    refine lv_aload_n hx hb dX11_count_130 rfl (lv_at hl 0 rfl) ?_
    refine gf_X11_26 E hT hW ha0 dX11_count_131 (fun h_20 => ?_)
    refine gf_X11_174 E hT hW h_20 dX11_count_134 (fun h_21 => ?_)
    refine gf_X11_178 E hT h_21 dX11_count_137 ?_
    refine lv_topi (fun x_22 ex_22 => ?_)
    exact th_iret E hr hlk hs hT hS trivial dX11_count_140
  by_cases k1_7 : x0 = 7
  · refine th_topi k1_7 ?_
    refine lv_tableIn (tgt := 141) hx hb dX11_count_1 (by decide) (by decide) rfl (by decide) ?_
    refine lv_aload_n hx hb dX11_count_141 rfl (lv_at hl 0 rfl) ?_
    refine gf_X11_26 E hT hW ha0 dX11_count_142 (fun h_23 => ?_)
    refine gf_X11_86 E hT hW h_23 dX11_count_145 (fun h_24 => ?_)
    refine gf_X11_203 E hT h_24 dX11_count_148 ?_
    refine lv_topi (fun x_25 ex_25 => ?_)
    exact th_iret E hr hlk hs hT hS trivial dX11_count_151
  by_cases k1_8 : x0 = 8
  · refine th_topi k1_8 ?_
    refine lv_tableIn (tgt := 152) hx hb dX11_count_1 (by decide) (by decide) rfl (by decide) ?_
    refine lv_aload_n hx hb dX11_count_152 rfl (lv_at hl 0 rfl) ?_
    refine gf_X11_26 E hT hW ha0 dX11_count_153 (fun h_26 => ?_)
    refine gf_X11_86 E hT hW h_26 dX11_count_156 (fun h_27 => ?_)
    refine gf_X11_252 E hT h_27 dX11_count_159 ?_
    refine lv_topi (fun x_28 ex_28 => ?_)
    exact th_iret E hr hlk hs hT hS trivial dX11_count_162
  by_cases k1_9 : x0 = 9
  · refine th_topi k1_9 ?_
    refine lv_tableIn (tgt := 163) hx hb dX11_count_1 (by decide) (by decide) rfl (by decide) ?_
    refine lv_aload_n hx hb dX11_count_163 rfl (lv_at hl 0 rfl) ?_
    refine gf_X11_26 E hT hW ha0 dX11_count_164 (fun h_29 => ?_)
    refine gf_X11_86 E hT hW h_29 dX11_count_167 (fun h_30 => ?_)
    refine gf_X11_255 E hT h_30 dX11_count_170 ?_
    refine lv_topi (fun x_31 ex_31 => ?_)
    exact th_iret E hr hlk hs hT hS trivial dX11_count_173
  by_cases k1_10 : x0 = 10
  · refine th_topi k1_10 ?_
    refine lv_tableIn (tgt := 174) hx hb dX11_count_1 (by decide) (by decide) rfl (by decide) ?_
    refine lv_aload_n hx hb dX11_count_174 rfl (lv_at hl 0 rfl) ?_
    refine gf_X11_26 E hT hW ha0 dX11_count_175 (fun h_32 => ?_)
    refine gf_X11_258 E hT h_32 dX11_count_178 ?_
    refine lv_topi (fun x_33 ex_33 => ?_)
    exact th_iret E hr hlk hs hT hS trivial dX11_count_181
  by_cases k1_11 : x0 = 11
  · refine th_topi k1_11 ?_
    refine lv_tableIn (tgt := 182) hx hb dX11_count_1 (by decide) (by decide) rfl (by decide) ?_
    refine lv_aload_n hx hb dX11_count_182 rfl (lv_at hl 0 rfl) ?_
    refine gf_X11_10 E hT hW ha0 dX11_count_183 (fun h_34 => ?_)
    refine gf_X11_51 E hT h_34 dX11_count_186 ?_
    refine lv_topi (fun x_35 ex_35 => ?_)
    exact th_iret E hr hlk hs hT hS trivial dX11_count_189
  have n1_0 := i_ne k1_0 (k := 0) (by decide)
  have n1_1 := i_ne k1_1 (k := 1) (by decide)
  have n1_2 := i_ne k1_2 (k := 2) (by decide)
  have n1_3 := i_ne k1_3 (k := 3) (by decide)
  have n1_4 := i_ne k1_4 (k := 4) (by decide)
  have n1_5 := i_ne k1_5 (k := 5) (by decide)
  have n1_6 := i_ne k1_6 (k := 6) (by decide)
  have n1_7 := i_ne k1_7 (k := 7) (by decide)
  have n1_8 := i_ne k1_8 (k := 8) (by decide)
  have n1_9 := i_ne k1_9 (k := 9) (by decide)
  have n1_10 := i_ne k1_10 (k := 10) (by decide)
  have n1_11 := i_ne k1_11 (k := 11) (by decide)
  refine lv_tableOut (tgt := 190) hx hb dX11_count_1 (by omega) (by decide) ?_
  refine lv_iconst (v := (-1)) hx hb dX11_count_190 (by decide) ?_
  exact th_iret E hr hlk hs hT hS trivial dX11_count_191
set_option maxHeartbeats 4000000 in
set_option maxRecDepth 100000 in
/-- StreamEnds.isEnd: it ends, and the heap stays typed -/
theorem z_X11_isEnd (l : Launch) (D : va_G) (cI cS : ClassId) (τ : Nat → Option Nat) (ρ : Nat → Nat → Nat) (hW : WF τ ρ) (H : Heap) (hT : TH D cI cS τ ρ H) (x0 : Int32) : MI l D cI cS τ ρ yX11_isEnd cX11_isEnd 1 (some .boolean) 0 0 H [.int x0] (fun (r : Int32) (u : Heap) => r = 0 ∨ r = 1) (AT τ []) := by
  refine MI.of (by decide) (Nat.le_of_ble_eq_true rfl) ?_
  intro p e s m args below meth c E hml hr hlk hs ls hl
  have hx := E.1
  have hb := E.2.1
  have hown := E.2.2.1
  have hts := E.2.2.2.1
  have hS : SS (AT τ []) H H [] := SS.rf
  have hl : lv_has ls 1 [(0, .int x0)] := hl
  refine lv_iload_n hx hb dX11_isEnd_0 rfl (lv_at hl 0 rfl) ?_
  refine lv_if_eq (tgt := 9) hx hb dX11_isEnd_1 (by decide) (fun c_1 => ?_) (fun c_1 => ?_)
  · have f_1 : x0.toInt = 0 := r_eq rfl (by decide) c_1
    refine lv_iconst (v := 1) hx hb dX11_isEnd_9 (by decide) ?_
    refine lv_goto (tgt := 14) hx hb dX11_isEnd_10 (by decide) ?_
    exact th_zret E hr hlk hs (Or.inr rfl) hT hS (Or.inr rfl) dX11_isEnd_14
  · have f_1 : ¬ x0.toInt = 0 := r_ne rfl (by decide) c_1
    have nz_x0 : ¬ x0 = 0 := c_1
    refine lv_iload_n hx hb dX11_isEnd_4 rfl (lv_at hl 0 rfl) ?_
    refine lv_iconst (v := 1) hx hb dX11_isEnd_5 (by decide) ?_
    refine lv_icmp_ne (tgt := 13) hx hb dX11_isEnd_6 (by decide) (fun c_2 => ?_) (fun c_2 => ?_)
    · have f_2 : ¬ x0.toInt = 1 := r_ne rfl (by decide) c_2
      refine lv_iconst (v := 0) hx hb dX11_isEnd_13 (by decide) ?_
      exact th_zret E hr hlk hs (Or.inl rfl) hT hS (Or.inl rfl) dX11_isEnd_14
    · have f_2 : x0.toInt = 1 := r_eq rfl (by decide) c_2
      refine lv_iconst (v := 1) hx hb dX11_isEnd_9 (by decide) ?_
      refine lv_goto (tgt := 14) hx hb dX11_isEnd_10 (by decide) ?_
      exact th_zret E hr hlk hs (Or.inr rfl) hT hS (Or.inr rfl) dX11_isEnd_14
set_option maxHeartbeats 4000000 in
set_option maxRecDepth 100000 in
/-- StreamEnds.cry: it ends, and the heap stays typed -/
theorem z_X11_cry (l : Launch) (D : va_G) (cI cS : ClassId) (τ : Nat → Option Nat) (ρ : Nat → Nat → Nat) (hW : WF τ ρ) (H : Heap) (hT : TH D cI cS τ ρ H) (a0 : Nat) (x0 : Int32) (ha0 : τ a0 = some 11) : MI l D cI cS τ ρ yX11_cry cX11_cry 3 (some .int) 2 40 H [.ref a0, .int x0] (fun (r : Int32) (u : Heap) => True) (AT τ [5]) := by
  refine MI.of (by decide) (Nat.le_of_ble_eq_true rfl) ?_
  intro p e s m args below meth c E hml hr hlk hs ls hl
  have hx := E.1
  have hb := E.2.1
  have hown := E.2.2.1
  have hts := E.2.2.2.1
  have hS : SS (AT τ [5]) H H [] := SS.rf
  have hl : lv_has ls 3 [(0, .ref a0), (1, .int x0)] := hl
  refine lv_iload_n hx hb dX11_cry_0 rfl (lv_at hl 1 rfl) ?_
  refine th_Si (As := [.int x0]) (rest := []) E hml hl.1 (z_X11_isEnd l D cI cS τ ρ hW H hT x0) lk_X11_65 yd_X11_isEnd hS (AT.sub (by decide)) ⟨by decide, by decide⟩ (Nat.le_of_ble_eq_true rfl) ⟨by decide, by decide⟩ rfl dX11_cry_1 (fun r_1 H_1 locs_1 p_1 hT_1 hk_1 hS_1 => ?_)
  have z_1 := b_iv p_1
  refine lv_if_ne (tgt := 9) hx hb dX11_cry_4 (by decide) (fun c_2 => ?_) (fun c_2 => ?_)
  · have f_2 : ¬ r_1.toInt = 0 := r_ne rfl (by decide) c_2
    have nz_r_1 : ¬ r_1 = 0 := c_2
    refine lv_aload_n hx hb dX11_cry_9 rfl (lv_at hl 0 rfl) ?_
    refine gf_X11_26 E hT_1 hW ha0 dX11_cry_10 (fun h_3 => ?_)
    refine lv_iload_n hx hb dX11_cry_13 rfl (lv_at hl 1 rfl) ?_
    refine th_Vr (As := [.int x0]) (rest := []) E hml hl.1 (z_X4_endpoint l D cI cS τ ρ hW H_1 hT_1 (ρ a0 2) x0 h_3) lk_X11_68 yd_X4_endpoint hT_1 h_3 rfl (by decide) hS_1 (AT.sub (by decide)) ⟨by decide, by decide⟩ (Nat.le_of_ble_eq_true rfl) ⟨by decide, by decide⟩ rfl dX11_cry_14 (fun r_4 H_4 locs_4 p_4 hT_4 hk_4 hS_4 => ?_)
    refine lv_astore_n (lv' := [(2, .ref r_4), (0, .ref a0), (1, .int x0)]) hx hb dX11_cry_17 rfl hl (by decide) rfl (fun ls hl => ?_)
    refine lv_aload_n hx hb dX11_cry_18 rfl (lv_at hl 0 rfl) ?_
    refine th_Vi (As := []) (rest := []) E hml hl.1 (z_X2_maySay l D cI cS τ ρ hW H_4 hT_4 r_4 p_4) lk_X11_95 yd_X2_maySay hT_4 p_4 rfl (by decide) hS_4 (AT.sub (by decide)) ⟨by decide, by decide⟩ (Nat.le_of_ble_eq_true rfl) ⟨by decide, by decide⟩ rfl dX11_cry_19 (fun r_5 H_5 locs_5 p_5 hT_5 hk_5 hS_5 => ?_)
    have z_5 := b_iv p_5
    refine lv_if_eq (tgt := 35) hx hb dX11_cry_22 (by decide) (fun c_6 => ?_) (fun c_6 => ?_)
    · have f_6 : r_5.toInt = 0 := r_eq rfl (by decide) c_6
      refine lv_bipush (v := (-2)) hx hb dX11_cry_35 (by decide) ?_
      exact th_iret E hr hlk hs hT_5 hS_5 trivial dX11_cry_37
    · have f_6 : ¬ r_5.toInt = 0 := r_ne rfl (by decide) c_6
      have nz_r_5 : ¬ r_5 = 0 := c_6
      refine lv_aload_n hx hb dX11_cry_25 rfl (lv_at hl 0 rfl) ?_
      refine gf_X11_98 E hT_5 hW p_4 dX11_cry_26 (fun h_7 => ?_)
      refine gf_X11_114 E hT_5 h_7 dX11_cry_29 ?_
      refine th_topi (y := fi D 5 3 H (ρ r_4 4)) (Eq.trans (fi_q (hk_5 _ (AT.out h_7 (by decide)))) (Eq.trans (fi_q (hk_4 _ (AT.out h_7 (by decide)))) (fi_q (hk_1 _ (AT.out h_7 (by decide)))))) ?_
      refine lv_topi (fun x_8 ex_8 => ?_)
      refine lv_if_ne (tgt := 38) hx hb dX11_cry_32 (by decide) (fun c_9 => ?_) (fun c_9 => ?_)
      · have f_9 : ¬ x_8.toInt = 0 := r_ne rfl (by decide) c_9
        have nz_x_8 : ¬ x_8 = 0 := c_9
        refine lv_aload_n hx hb dX11_cry_38 rfl (lv_at hl 0 rfl) ?_
        refine gf_X11_98 E hT_5 hW p_4 dX11_cry_39 (fun h_10 => ?_)
        refine lv_aload_n hx hb dX11_cry_42 rfl (lv_at hl 0 rfl) ?_
        refine gf_X11_98 E hT_5 hW p_4 dX11_cry_43 (fun h_11 => ?_)
        refine gf_X11_114 E hT_5 h_11 dX11_cry_46 ?_
        refine th_topi (y := x_8) ((Eq.trans (fi_q (hk_5 _ (AT.out h_7 (by decide)))) (Eq.trans (fi_q (hk_4 _ (AT.out h_7 (by decide)))) (fi_q (hk_1 _ (AT.out h_7 (by decide)))))).trans ex_8.symm) ?_
        refine lv_iconst (v := 1) hx hb dX11_cry_49 (by decide) ?_
        refine lv_iadd hx hb dX11_cry_50 ?_
        refine lv_topi (fun x_12 ex_12 => ?_)
        refine pf_X11_117 E hT_5 hS_5 h_10 ⟨_, h_10, by decide⟩ dX11_cry_51 (fun H_13 locs_13 hT_13 hU_13 hS_13 => ?_)
        refine lv_aload_n hx hb dX11_cry_54 rfl (lv_at hl 0 rfl) ?_
        refine gf_X11_98 E hT_13 hW p_4 dX11_cry_55 (fun h_14 => ?_)
        refine gf_X11_117 E hT_13 h_14 dX11_cry_58 ?_
        refine th_topi (y := x_12) (PU.i hU_13) ?_
        exact th_iret E hr hlk hs hT_13 hS_13 trivial dX11_cry_61
      · have f_9 : x_8.toInt = 0 := r_eq rfl (by decide) c_9
        refine lv_bipush (v := (-2)) hx hb dX11_cry_35 (by decide) ?_
        exact th_iret E hr hlk hs hT_5 hS_5 trivial dX11_cry_37
  · have f_2 : r_1.toInt = 0 := r_eq rfl (by decide) c_2
    refine lv_iconst (v := (-1)) hx hb dX11_cry_7 (by decide) ?_
    exact th_iret E hr hlk hs hT_1 hS_1 trivial dX11_cry_8
set_option maxHeartbeats 4000000 in
set_option maxRecDepth 100000 in
/-- StreamEnds.drive: it ends, and the heap stays typed -/
theorem z_X11_drive (l : Launch) (D : va_G) (cI cS : ClassId) (τ : Nat → Option Nat) (ρ : Nat → Nat → Nat) (hW : WF τ ρ) (H : Heap) (hT : TH D cI cS τ ρ H) (a0 : Nat) (x0 : Int32) (x1 : Int32) (ha0 : τ a0 = some 11) : MI l D cI cS τ ρ yX11_drive cX11_drive 10 (some .int) 7 167 H [.ref a0, .int x0, .int x1] (fun (r : Int32) (u : Heap) => True) (AT τ [0, 2, 3, 4, 5, 6, 7, 8, 10, 50, 104, 106, 108, 164]) := by
  refine MI.of (by decide) (Nat.le_of_ble_eq_true rfl) ?_
  intro p e s m args below meth c E hml hr hlk hs ls hl
  have hx := E.1
  have hb := E.2.1
  have hown := E.2.2.1
  have hts := E.2.2.2.1
  have hS : SS (AT τ [0, 2, 3, 4, 5, 6, 7, 8, 10, 50, 104, 106, 108, 164]) H H [] := SS.rf
  have hl : lv_has ls 10 [(0, .ref a0), (1, .int x0), (2, .int x1)] := hl
  have L_26 : ∀ (n : Nat) (H_c26 : Heap) (lc_c26 : List Loc) (ls : Array Slot) (y26_3 : Int32), TH D cI cS τ ρ H_c26 → SS (AT τ [0, 2, 3, 4, 5, 6, 7, 8, 10, 50, 104, 106, 108, 164]) H H_c26 lc_c26 → lv_has ls 10 [(0, .ref a0), (1, .int x0), (2, .int x1), (3, .int y26_3)] → 0 ≤ x0.toInt → x0.toInt ≤ 9999 → 1 ≤ x1.toInt → x1.toInt ≤ 60 → 0 ≤ y26_3.toInt → (60 - y26_3.toInt).toNat < n → W p l e (rmO 7 167) s m args below meth c H_c26 lc_c26 0 0 (MQ below (va_Qi (fun (r : Int32) (u : Heap) => True) (Bt D cI cS τ ρ H) (AT τ [0, 2, 3, 4, 5, 6, 7, 8, 10, 50, 104, 106, 108, 164])) args s 0 0 (AT τ [0, 2, 3, 4, 5, 6, 7, 8, 10, 50, 104, 106, 108, 164])) (F0 m 26 ls []) := by
    intro n
    induction n with
    | zero => intro H_c26 lc_c26 ls y26_3 hT_c26 hS_c26 hl ly26_1 uy26_1 ly26_2 uy26_2 ly26_3 hm; exact absurd hm (Nat.not_lt_zero _)
    | succ n ih_26 =>
      intro H_c26 lc_c26 ls y26_3 hT_c26 hS_c26 hl ly26_1 uy26_1 ly26_2 uy26_2 ly26_3 hm_26
      have J_169 : ∀ (H_c169 : Heap) (lc_c169 : List Loc) (ls : Array Slot) (y169_4 : Int64) (y169_6 : Int32) (y169_7 : Int32), TH D cI cS τ ρ H_c169 → SS (AT τ [0, 2, 3, 4, 5, 6, 7, 8, 10, 50, 104, 106, 108, 164]) H H_c169 lc_c169 → lv_has ls 10 [(0, .ref a0), (1, .int x0), (2, .int x1), (3, .int y26_3), (4, .long y169_4), (6, .int y169_6), (7, .int y169_7)] → 0 ≤ x0.toInt → x0.toInt ≤ 9999 → 1 ≤ x1.toInt → x1.toInt ≤ 60 → 0 ≤ y26_3.toInt → y26_3.toInt ≤ 59 → W p l e (rmO 7 167) s m args below meth c H_c169 lc_c169 0 0 (MQ below (va_Qi (fun (r : Int32) (u : Heap) => True) (Bt D cI cS τ ρ H) (AT τ [0, 2, 3, 4, 5, 6, 7, 8, 10, 50, 104, 106, 108, 164])) args s 0 0 (AT τ [0, 2, 3, 4, 5, 6, 7, 8, 10, 50, 104, 106, 108, 164])) (F0 m 169 ls []) := by
        intro H_c169 lc_c169 ls y169_4 y169_6 y169_7 hT_c169 hS_c169 hl ly169_1 uy169_1 ly169_2 uy169_2 ly169_3 uy169_3
        obtain ⟨x_1, ex_1⟩ : ∃ y : Int32, y26_3 + 1 = y := ⟨_, rfl⟩
        have q_x_1 : x_1.toInt = y26_3.toInt + 1 := i_add (k := 1) (by decide) ex_1 (by have := i_min y26_3; omega) (by have := i_max y26_3; omega)
        refine lv_iinc (v := x_1) (lv' := [(3, .int x_1), (0, .ref a0), (1, .int x0), (2, .int x1), (4, .long y169_4), (6, .int y169_6), (7, .int y169_7)]) hx hb dX11_drive_169 hl (k := 3) rfl (by rw [← ex_1]; rfl) (by decide) rfl (fun ls hl => ?_)
        refine lv_goto (tgt := 26) hx hb dX11_drive_172 (by decide) ?_
        exact ih_26 H_c169 lc_c169 _ x_1 hT_c169 hS_c169 (lv_sub hl [1, 2, 3, 0] rfl) (by omega) (by omega) (by omega) (by omega) (by omega) (by omega)
      have J_85 : ∀ (H_c85 : Heap) (lc_c85 : List Loc) (ls : Array Slot) (y85_4 : Int64) (y85_6 : Int32) (y85_7 : Int32), TH D cI cS τ ρ H_c85 → SS (AT τ [0, 2, 3, 4, 5, 6, 7, 8, 10, 50, 104, 106, 108, 164]) H H_c85 lc_c85 → lv_has ls 10 [(0, .ref a0), (1, .int x0), (2, .int x1), (3, .int y26_3), (4, .long y85_4), (6, .int y85_6), (7, .int y85_7)] → 0 ≤ x0.toInt → x0.toInt ≤ 9999 → 1 ≤ x1.toInt → x1.toInt ≤ 60 → 0 ≤ y26_3.toInt → y26_3.toInt ≤ 59 → W p l e (rmO 7 167) s m args below meth c H_c85 lc_c85 0 0 (MQ below (va_Qi (fun (r : Int32) (u : Heap) => True) (Bt D cI cS τ ρ H) (AT τ [0, 2, 3, 4, 5, 6, 7, 8, 10, 50, 104, 106, 108, 164])) args s 0 0 (AT τ [0, 2, 3, 4, 5, 6, 7, 8, 10, 50, 104, 106, 108, 164])) (F0 m 85 ls []) := by
        intro H_c85 lc_c85 ls y85_4 y85_6 y85_7 hT_c85 hS_c85 hl ly85_1 uy85_1 ly85_2 uy85_2 ly85_3 uy85_3
        refine lv_aload_n hx hb dX11_drive_85 rfl (lv_at hl 0 rfl) ?_
        refine gf_X11_26 E hT_c85 hW ha0 dX11_drive_86 (fun h_2 => ?_)
        refine th_Vv (As := []) (rest := []) E hml hl.1 (z_X4_tick l D cI cS τ ρ hW H_c85 hT_c85 (ρ a0 2) h_2) lk_X11_171 yd_X4_tick hT_c85 h_2 rfl (by decide) hS_c85 (AT.sub (by decide)) ⟨by decide, by decide⟩ (Nat.le_of_ble_eq_true rfl) ⟨by decide, by decide⟩ rfl dX11_drive_89 (fun H_3 locs_3 p_3 hT_3 hk_3 hS_3 => ?_)
        refine lv_goto (tgt := 169) hx hb dX11_drive_92 (by decide) ?_
        exact J_169 H_3 locs_3 _ y85_4 y85_6 y85_7 hT_3 hS_3 hl (by omega) (by omega) (by omega) (by omega) (by omega) (by omega)
      refine lv_iload_n hx hb dX11_drive_26 rfl (lv_at hl 3 rfl) ?_
      refine lv_iload_n hx hb dX11_drive_27 rfl (lv_at hl 2 rfl) ?_
      refine lv_icmp_ge (tgt := 175) hx hb dX11_drive_28 (by decide) (fun c_4 => ?_) (fun c_4 => ?_)
      · have f_4 : x1.toInt ≤ y26_3.toInt := r_le rfl rfl c_4
        refine lv_aload_n hx hb dX11_drive_175 rfl (lv_at hl 0 rfl) ?_
        refine gf_X11_26 E hT_c26 hW ha0 dX11_drive_176 (fun h_5 => ?_)
        refine gf_X11_86 E hT_c26 hW h_5 dX11_drive_179 (fun h_6 => ?_)
        refine gf_X11_90 E hT_c26 h_6 dX11_drive_182 ?_
        refine lv_topi (fun x_7 ex_7 => ?_)
        exact th_iret E hr hlk hs hT_c26 hS_c26 trivial dX11_drive_185
      · have f_4 : y26_3.toInt < x1.toInt := r_nle rfl rfl c_4
        refine lv_ldc2 (v := 7919) hx hb hown (hts _ qw_1201) dX11_drive_31 ?_
        refine lv_iload_n hx hb dX11_drive_34 rfl (lv_at hl 1 rfl) ?_
        obtain ⟨x_8, ex_8⟩ : ∃ y : Int64, x0.toInt64 = y := ⟨_, rfl⟩
        refine lv_i2l (v := x_8) hx hb dX11_drive_35 ex_8 ?_
        refine lv_lmul hx hb dX11_drive_36 ?_
        refine lv_topl (fun x_9 ex_9 => ?_)
        refine lv_ldc2 (v := 6151) hx hb hown (hts _ qw_1202) dX11_drive_37 ?_
        refine lv_iload_n hx hb dX11_drive_40 rfl (lv_at hl 3 rfl) ?_
        obtain ⟨x_10, ex_10⟩ : ∃ y : Int64, y26_3.toInt64 = y := ⟨_, rfl⟩
        refine lv_i2l (v := x_10) hx hb dX11_drive_41 ex_10 ?_
        refine lv_lmul hx hb dX11_drive_42 ?_
        refine lv_topl (fun x_11 ex_11 => ?_)
        refine lv_ladd hx hb dX11_drive_43 ?_
        refine lv_topl (fun x_12 ex_12 => ?_)
        refine lv_lconst (v := 1) hx hb dX11_drive_44 (by decide) ?_
        refine lv_ladd hx hb dX11_drive_45 ?_
        refine lv_topl (fun x_13 ex_13 => ?_)
        refine lv_lstore (lv' := [(4, .long x_13), (0, .ref a0), (1, .int x0), (2, .int x1), (3, .int y26_3)]) hx hb dX11_drive_46 hl (by decide) rfl (fun ls hl => ?_)
        refine lv_lload hx hb dX11_drive_48 (lv_at hl 0 rfl) ?_
        refine lv_lload hx hb dX11_drive_50 (lv_at hl 0 rfl) ?_
        refine lv_lmul hx hb dX11_drive_52 ?_
        refine lv_topl (fun x_14 ex_14 => ?_)
        refine lv_ldc2 (v := 65521) hx hb hown (hts _ qw_1203) dX11_drive_53 ?_
        refine lv_lrem hx hb dX11_drive_56 (by decide) ?_
        refine lv_topl (fun x_15 ex_15 => ?_)
        obtain ⟨x_16, ex_16⟩ : ∃ y : Int32, x_15.toInt32 = y := ⟨_, rfl⟩
        refine lv_l2i (v := x_16) hx hb dX11_drive_57 ex_16 ?_
        refine lv_istore (lv' := [(6, .int x_16), (4, .long x_13), (0, .ref a0), (1, .int x0), (2, .int x1), (3, .int y26_3)]) hx hb dX11_drive_58 hl (by decide) rfl (fun ls hl => ?_)
        refine lv_aload_n hx hb dX11_drive_60 rfl (lv_at hl 2 rfl) ?_
        refine gf_X11_26 E hT_c26 hW ha0 dX11_drive_61 (fun h_17 => ?_)
        refine gf_X11_86 E hT_c26 hW h_17 dX11_drive_64 (fun h_18 => ?_)
        refine gf_X11_90 E hT_c26 h_18 dX11_drive_67 ?_
        refine lv_topi (fun x_19 ex_19 => ?_)
        refine lv_istore (lv' := [(7, .int x_19), (6, .int x_16), (4, .long x_13), (0, .ref a0), (1, .int x0), (2, .int x1), (3, .int y26_3)]) hx hb dX11_drive_70 hl (by decide) rfl (fun ls hl => ?_)
        refine lv_iload hx hb dX11_drive_72 (lv_at hl 0 rfl) ?_
        refine lv_if_eq (tgt := 85) hx hb dX11_drive_74 (by decide) (fun c_20 => ?_) (fun c_20 => ?_)
        · have f_20 : x_19.toInt = 0 := r_eq rfl (by decide) c_20
          exact J_85 H_c26 lc_c26 _ x_13 x_16 x_19 hT_c26 hS_c26 (lv_sub hl [3, 4, 5, 6, 2, 1, 0] rfl) (by omega) (by omega) (by omega) (by omega) (by omega) (by omega)
        · have f_20 : ¬ x_19.toInt = 0 := r_ne rfl (by decide) c_20
          have nz_x_19 : ¬ x_19 = 0 := c_20
          refine lv_iload hx hb dX11_drive_77 (lv_at hl 1 rfl) ?_
          refine lv_bipush (v := 8) hx hb dX11_drive_79 (by decide) ?_
          refine lv_irem hx hb dX11_drive_81 (by decide) ?_
          refine lv_topi (fun x_21 ex_21 => ?_)
          refine lv_if_ne (tgt := 95) hx hb dX11_drive_82 (by decide) (fun c_22 => ?_) (fun c_22 => ?_)
          · have f_22 : ¬ x_21.toInt = 0 := r_ne rfl (by decide) c_22
            have nz_x_21 : ¬ x_21 = 0 := c_22
            refine lv_iload hx hb dX11_drive_95 (lv_at hl 1 rfl) ?_
            refine lv_bipush (v := 8) hx hb dX11_drive_97 (by decide) ?_
            refine lv_idiv hx hb dX11_drive_99 (by decide) ?_
            refine lv_topi (fun x_23 ex_23 => ?_)
            refine lv_iload hx hb dX11_drive_100 (lv_at hl 0 rfl) ?_
            refine lv_irem hx hb dX11_drive_102 nz_x_19 ?_
            refine lv_topi (fun x_24 ex_24 => ?_)
            refine lv_istore (lv' := [(8, .int x_24), (7, .int x_19), (6, .int x_16), (4, .long x_13), (0, .ref a0), (1, .int x0), (2, .int x1), (3, .int y26_3)]) hx hb dX11_drive_103 hl (by decide) rfl (fun ls hl => ?_)
            refine lv_iload hx hb dX11_drive_105 (lv_at hl 2 rfl) ?_
            refine lv_sipush (v := 256) hx hb dX11_drive_107 (by decide) ?_
            refine lv_idiv hx hb dX11_drive_110 (by decide) ?_
            refine lv_topi (fun x_25 ex_25 => ?_)
            refine lv_bipush (v := 8) hx hb dX11_drive_111 (by decide) ?_
            refine lv_irem hx hb dX11_drive_113 (by decide) ?_
            refine lv_topi (fun x_26 ex_26 => ?_)
            refine lv_istore (lv' := [(9, .int x_26), (8, .int x_24), (7, .int x_19), (6, .int x_16), (4, .long x_13), (0, .ref a0), (1, .int x0), (2, .int x1), (3, .int y26_3)]) hx hb dX11_drive_114 hl (by decide) rfl (fun ls hl => ?_)
            refine lv_iload hx hb dX11_drive_116 (lv_at hl 0 rfl) ?_
            refine lv_if_ne (tgt := 137) hx hb dX11_drive_118 (by decide) (fun c_27 => ?_) (fun c_27 => ?_)
            · have f_27 : ¬ x_26.toInt = 0 := r_ne rfl (by decide) c_27
              have nz_x_26 : ¬ x_26 = 0 := c_27
              refine lv_iload hx hb dX11_drive_137 (lv_at hl 0 rfl) ?_
              refine lv_iconst (v := 1) hx hb dX11_drive_139 (by decide) ?_
              refine lv_icmp_ne (tgt := 159) hx hb dX11_drive_140 (by decide) (fun c_28 => ?_) (fun c_28 => ?_)
              · have f_28 : ¬ x_26.toInt = 1 := r_ne rfl (by decide) c_28
                refine lv_aload_n hx hb dX11_drive_159 rfl (lv_at hl 5 rfl) ?_
                refine gf_X11_26 E hT_c26 hW ha0 dX11_drive_160 (fun h_29 => ?_)
                refine lv_iload hx hb dX11_drive_163 (lv_at hl 1 rfl) ?_
                refine th_Vi (As := [.int x_24]) (rest := []) E hml hl.1 (z_X4_deliver l D cI cS τ ρ hW H_c26 hT_c26 (ρ a0 2) x_24 h_29) lk_X11_161 yd_X4_deliver hT_c26 h_29 rfl (by decide) hS_c26 (AT.sub (by decide)) ⟨by decide, by decide⟩ (Nat.le_of_ble_eq_true rfl) ⟨by decide, by decide⟩ rfl dX11_drive_165 (fun r_30 H_30 locs_30 p_30 hT_30 hk_30 hS_30 => ?_)
                have z_30 := b_iv p_30
                refine lv_pop hx hb dX11_drive_168 rfl ?_
                exact J_169 H_30 locs_30 _ x_13 x_16 x_19 hT_30 hS_30 (lv_sub hl [5, 6, 7, 8, 4, 3, 2] rfl) (by omega) (by omega) (by omega) (by omega) (by omega) (by omega)
              · have f_28 : x_26.toInt = 1 := r_eq rfl (by decide) c_28
                refine lv_aload_n hx hb dX11_drive_143 rfl (lv_at hl 5 rfl) ?_
                refine gf_X11_26 E hT_c26 hW ha0 dX11_drive_144 (fun h_31 => ?_)
                refine gf_X11_86 E hT_c26 hW h_31 dX11_drive_147 (fun h_32 => ?_)
                refine lv_iload hx hb dX11_drive_150 (lv_at hl 1 rfl) ?_
                refine th_Vi (As := [.int x_24]) (rest := []) E hml hl.1 (z_X10_duplicate l D cI cS τ ρ hW H_c26 hT_c26 (ρ (ρ a0 2) 1) x_24 h_32) lk_X11_168 yd_X10_duplicate hT_c26 h_32 rfl (by decide) hS_c26 (AT.sub (by decide)) ⟨by decide, by decide⟩ (Nat.le_of_ble_eq_true rfl) ⟨by decide, by decide⟩ rfl dX11_drive_152 (fun r_33 H_33 locs_33 p_33 hT_33 hk_33 hS_33 => ?_)
                have z_33 := b_iv p_33
                refine lv_pop hx hb dX11_drive_155 rfl ?_
                refine lv_goto (tgt := 169) hx hb dX11_drive_156 (by decide) ?_
                exact J_169 H_33 locs_33 _ x_13 x_16 x_19 hT_33 hS_33 (lv_sub hl [5, 6, 7, 8, 4, 3, 2] rfl) (by omega) (by omega) (by omega) (by omega) (by omega) (by omega)
            · have f_27 : x_26.toInt = 0 := r_eq rfl (by decide) c_27
              refine lv_aload_n hx hb dX11_drive_121 rfl (lv_at hl 5 rfl) ?_
              refine gf_X11_26 E hT_c26 hW ha0 dX11_drive_122 (fun h_34 => ?_)
              refine gf_X11_86 E hT_c26 hW h_34 dX11_drive_125 (fun h_35 => ?_)
              refine lv_iload hx hb dX11_drive_128 (lv_at hl 1 rfl) ?_
              refine th_Vr (As := [.int x_24]) (rest := []) E hml hl.1 (z_X10_remove l D cI cS τ ρ hW H_c26 hT_c26 (ρ (ρ a0 2) 1) x_24 h_35) lk_X11_164 yd_X10_remove hT_c26 h_35 rfl (by decide) hS_c26 (AT.sub (by decide)) ⟨by decide, by decide⟩ (Nat.le_of_ble_eq_true rfl) ⟨by decide, by decide⟩ rfl dX11_drive_130 (fun r_36 H_36 locs_36 p_36 hT_36 hk_36 hS_36 => ?_)
              refine lv_pop hx hb dX11_drive_133 rfl ?_
              refine lv_goto (tgt := 169) hx hb dX11_drive_134 (by decide) ?_
              exact J_169 H_36 locs_36 _ x_13 x_16 x_19 hT_36 hS_36 (lv_sub hl [5, 6, 7, 8, 4, 3, 2] rfl) (by omega) (by omega) (by omega) (by omega) (by omega) (by omega)
          · have f_22 : x_21.toInt = 0 := r_eq rfl (by decide) c_22
            exact J_85 H_c26 lc_c26 _ x_13 x_16 x_19 hT_c26 hS_c26 (lv_sub hl [3, 4, 5, 6, 2, 1, 0] rfl) (by omega) (by omega) (by omega) (by omega) (by omega) (by omega)
  refine lv_iload_n hx hb dX11_drive_0 rfl (lv_at hl 1 rfl) ?_
  refine lv_if_lt (tgt := 22) hx hb dX11_drive_1 (by decide) (fun c_37 => ?_) (fun c_37 => ?_)
  · have f_37 : x0.toInt < 0 := r_lt rfl (by decide) c_37
    refine lv_iconst (v := (-1)) hx hb dX11_drive_22 (by decide) ?_
    exact th_iret E hr hlk hs hT hS trivial dX11_drive_23
  · have f_37 : 0 ≤ x0.toInt := r_nlt rfl (by decide) c_37
    refine lv_iload_n hx hb dX11_drive_4 rfl (lv_at hl 1 rfl) ?_
    refine lv_sipush (v := 9999) hx hb dX11_drive_5 (by decide) ?_
    refine lv_icmp_gt (tgt := 22) hx hb dX11_drive_8 (by decide) (fun c_38 => ?_) (fun c_38 => ?_)
    · have f_38 : 9999 < x0.toInt := r_lt (by decide) rfl c_38
      refine lv_iconst (v := (-1)) hx hb dX11_drive_22 (by decide) ?_
      exact th_iret E hr hlk hs hT hS trivial dX11_drive_23
    · have f_38 : x0.toInt ≤ 9999 := r_nlt (by decide) rfl c_38
      refine lv_iload_n hx hb dX11_drive_11 rfl (lv_at hl 2 rfl) ?_
      refine lv_iconst (v := 1) hx hb dX11_drive_12 (by decide) ?_
      refine lv_icmp_lt (tgt := 22) hx hb dX11_drive_13 (by decide) (fun c_39 => ?_) (fun c_39 => ?_)
      · have f_39 : x1.toInt < 1 := r_lt rfl (by decide) c_39
        refine lv_iconst (v := (-1)) hx hb dX11_drive_22 (by decide) ?_
        exact th_iret E hr hlk hs hT hS trivial dX11_drive_23
      · have f_39 : 1 ≤ x1.toInt := r_nlt rfl (by decide) c_39
        refine lv_iload_n hx hb dX11_drive_16 rfl (lv_at hl 2 rfl) ?_
        refine lv_bipush (v := 60) hx hb dX11_drive_17 (by decide) ?_
        refine lv_icmp_le (tgt := 24) hx hb dX11_drive_19 (by decide) (fun c_40 => ?_) (fun c_40 => ?_)
        · have f_40 : x1.toInt ≤ 60 := r_le rfl (by decide) c_40
          refine lv_iconst (v := 0) hx hb dX11_drive_24 (by decide) ?_
          refine lv_istore_n (lv' := [(3, .int 0), (0, .ref a0), (1, .int x0), (2, .int x1)]) hx hb dX11_drive_25 rfl hl (by decide) rfl (fun ls hl => ?_)
          exact L_26 _ H [] _ 0 hT hS (lv_sub hl [1, 2, 3, 0] rfl) (by omega) (by omega) (by omega) (by omega) (by decide) (Nat.lt_succ_self _)
        · have f_40 : 60 < x1.toInt := r_nle rfl (by decide) c_40
          refine lv_iconst (v := (-1)) hx hb dX11_drive_22 (by decide) ?_
          exact th_iret E hr hlk hs hT hS trivial dX11_drive_23
set_option maxHeartbeats 4000000 in
set_option maxRecDepth 100000 in
/-- StreamEnds.end: it ends, and the heap stays typed -/
theorem z_X11_end (l : Launch) (D : va_G) (cI cS : ClassId) (τ : Nat → Option Nat) (ρ : Nat → Nat → Nat) (hW : WF τ ρ) (H : Heap) (hT : TH D cI cS τ ρ H) (a0 : Nat) (x0 : Int32) (x1 : Int32) (ha0 : τ a0 = some 11) : MI l D cI cS τ ρ yX11_end cX11_end 3 (some .int) 3 56 H [.ref a0, .int x0, .int x1] (fun (r : Int32) (u : Heap) => True) (AT τ []) := by
  refine MI.of (by decide) (Nat.le_of_ble_eq_true rfl) ?_
  intro p e s m args below meth c E hml hr hlk hs ls hl
  have hx := E.1
  have hb := E.2.1
  have hown := E.2.2.1
  have hts := E.2.2.2.1
  have hS : SS (AT τ []) H H [] := SS.rf
  have hl : lv_has ls 3 [(0, .ref a0), (1, .int x0), (2, .int x1)] := hl
  refine lv_iload_n hx hb dX11_end_0 rfl (lv_at hl 1 rfl) ?_
  refine th_Si (As := [.int x0]) (rest := []) E hml hl.1 (z_X11_isEnd l D cI cS τ ρ hW H hT x0) lk_X11_65 yd_X11_isEnd hS (AT.sub (by decide)) ⟨by decide, by decide⟩ (Nat.le_of_ble_eq_true rfl) ⟨by decide, by decide⟩ rfl dX11_end_1 (fun r_1 H_1 locs_1 p_1 hT_1 hk_1 hS_1 => ?_)
  have z_1 := b_iv p_1
  refine lv_if_eq (tgt := 17) hx hb dX11_end_4 (by decide) (fun c_2 => ?_) (fun c_2 => ?_)
  · have f_2 : r_1.toInt = 0 := r_eq rfl (by decide) c_2
    refine lv_iconst (v := (-1)) hx hb dX11_end_17 (by decide) ?_
    exact th_iret E hr hlk hs hT_1 hS_1 trivial dX11_end_18
  · have f_2 : ¬ r_1.toInt = 0 := r_ne rfl (by decide) c_2
    have nz_r_1 : ¬ r_1 = 0 := c_2
    refine lv_iload_n hx hb dX11_end_7 rfl (lv_at hl 2 rfl) ?_
    refine lv_if_lt (tgt := 17) hx hb dX11_end_8 (by decide) (fun c_3 => ?_) (fun c_3 => ?_)
    · have f_3 : x1.toInt < 0 := r_lt rfl (by decide) c_3
      refine lv_iconst (v := (-1)) hx hb dX11_end_17 (by decide) ?_
      exact th_iret E hr hlk hs hT_1 hS_1 trivial dX11_end_18
    · have f_3 : 0 ≤ x1.toInt := r_nlt rfl (by decide) c_3
      refine lv_iload_n hx hb dX11_end_11 rfl (lv_at hl 2 rfl) ?_
      refine lv_bipush (v := 17) hx hb dX11_end_12 (by decide) ?_
      refine lv_icmp_le (tgt := 19) hx hb dX11_end_14 (by decide) (fun c_4 => ?_) (fun c_4 => ?_)
      · have f_4 : x1.toInt ≤ 17 := r_le rfl (by decide) c_4
        refine lv_aload_n hx hb dX11_end_19 rfl (lv_at hl 0 rfl) ?_
        refine gf_X11_26 E hT_1 hW ha0 dX11_end_20 (fun h_5 => ?_)
        refine lv_iload_n hx hb dX11_end_23 rfl (lv_at hl 1 rfl) ?_
        refine th_Vr (As := [.int x0]) (rest := []) E hml hl.1 (z_X4_endpoint l D cI cS τ ρ hW H_1 hT_1 (ρ a0 2) x0 h_5) lk_X11_68 yd_X4_endpoint hT_1 h_5 rfl (by decide) hS_1 (AT.sub (by decide)) ⟨by decide, by decide⟩ (Nat.le_of_ble_eq_true rfl) ⟨by decide, by decide⟩ rfl dX11_end_24 (fun r_6 H_6 locs_6 p_6 hT_6 hk_6 hS_6 => ?_)
        refine lv_iload_n hx hb dX11_end_27 rfl (lv_at hl 2 rfl) ?_
        refine th_Vi (As := [.int x1]) (rest := []) E hml hl.1 (z_X2_value l D cI cS τ ρ hW H_6 hT_6 r_6 x1 p_6) lk_X11_204 yd_X2_value hT_6 p_6 rfl (by decide) hS_6 (AT.sub (by decide)) ⟨by decide, by decide⟩ (Nat.le_of_ble_eq_true rfl) ⟨by decide, by decide⟩ rfl dX11_end_28 (fun r_7 H_7 locs_7 p_7 hT_7 hk_7 hS_7 => ?_)
        exact th_iret E hr hlk hs hT_7 hS_7 trivial dX11_end_31
      · have f_4 : 17 < x1.toInt := r_nle rfl (by decide) c_4
        refine lv_iconst (v := (-1)) hx hb dX11_end_17 (by decide) ?_
        exact th_iret E hr hlk hs hT_1 hS_1 trivial dX11_end_18
set_option maxHeartbeats 4000000 in
set_option maxRecDepth 100000 in
/-- StreamEnds.fault: it ends, and the heap stays typed -/
theorem z_X11_fault (l : Launch) (D : va_G) (cI cS : ClassId) (τ : Nat → Option Nat) (ρ : Nat → Nat → Nat) (hW : WF τ ρ) (H : Heap) (hT : TH D cI cS τ ρ H) (a0 : Nat) (ha0 : τ a0 = some 11) : MI l D cI cS τ ρ yX11_fault cX11_fault 1 (some .int) 5 115 H [.ref a0] (fun (r : Int32) (u : Heap) => True) (AT τ [1]) := by
  refine MI.of (by decide) (Nat.le_of_ble_eq_true rfl) ?_
  intro p e s m args below meth c E hml hr hlk hs ls hl
  have hx := E.1
  have hb := E.2.1
  have hown := E.2.2.1
  have hts := E.2.2.2.1
  have hS : SS (AT τ [1]) H H [] := SS.rf
  have hl : lv_has ls 1 [(0, .ref a0)] := hl
  refine lv_aload_n hx hb dX11_fault_0 rfl (lv_at hl 0 rfl) ?_
  refine gf_X11_19 E hT hW ha0 dX11_fault_1 (fun h_1 => ?_)
  refine lv_aload_n hx hb dX11_fault_4 rfl (lv_at hl 0 rfl) ?_
  refine gf_X11_10 E hT hW ha0 dX11_fault_5 (fun h_2 => ?_)
  refine th_Vi (As := [.ref (ρ a0 0)]) (rest := []) E hml hl.1 (z_X1_read l D cI cS τ ρ hW H hT (ρ a0 1) (ρ a0 0) h_1 h_2) lk_X11_54 yd_X1_read hT h_1 rfl (by decide) hS (AT.sub (by decide)) ⟨by decide, by decide⟩ (Nat.le_of_ble_eq_true rfl) ⟨by decide, by decide⟩ rfl dX11_fault_8 (fun r_3 H_3 locs_3 p_3 hT_3 hk_3 hS_3 => ?_)
  exact th_iret E hr hlk hs hT_3 hS_3 trivial dX11_fault_11
set_option maxHeartbeats 4000000 in
set_option maxRecDepth 100000 in
/-- StreamEnds.known: it ends, and the heap stays typed -/
theorem z_X11_known (l : Launch) (D : va_G) (cI cS : ClassId) (τ : Nat → Option Nat) (ρ : Nat → Nat → Nat) (hW : WF τ ρ) (H : Heap) (hT : TH D cI cS τ ρ H) (a0 : Nat) (x0 : Int32) (x1 : Int32) (ha0 : τ a0 = some 11) : MI l D cI cS τ ρ yX11_known cX11_known 3 (some .int) 1 21 H [.ref a0, .int x0, .int x1] (fun (r : Int32) (u : Heap) => True) (AT τ []) := by
  refine MI.of (by decide) (Nat.le_of_ble_eq_true rfl) ?_
  intro p e s m args below meth c E hml hr hlk hs ls hl
  have hx := E.1
  have hb := E.2.1
  have hown := E.2.2.1
  have hts := E.2.2.2.1
  have hS : SS (AT τ []) H H [] := SS.rf
  have hl : lv_has ls 3 [(0, .ref a0), (1, .int x0), (2, .int x1)] := hl
  refine lv_iload_n hx hb dX11_known_0 rfl (lv_at hl 1 rfl) ?_
  refine th_Si (As := [.int x0]) (rest := []) E hml hl.1 (z_X11_isEnd l D cI cS τ ρ hW H hT x0) lk_X11_65 yd_X11_isEnd hS (AT.sub (by decide)) ⟨by decide, by decide⟩ (Nat.le_of_ble_eq_true rfl) ⟨by decide, by decide⟩ rfl dX11_known_1 (fun r_1 H_1 locs_1 p_1 hT_1 hk_1 hS_1 => ?_)
  have z_1 := b_iv p_1
  refine lv_if_eq (tgt := 11) hx hb dX11_known_4 (by decide) (fun c_2 => ?_) (fun c_2 => ?_)
  · have f_2 : r_1.toInt = 0 := r_eq rfl (by decide) c_2
    refine lv_iconst (v := (-1)) hx hb dX11_known_11 (by decide) ?_
    exact th_iret E hr hlk hs hT_1 hS_1 trivial dX11_known_12
  · have f_2 : ¬ r_1.toInt = 0 := r_ne rfl (by decide) c_2
    have nz_r_1 : ¬ r_1 = 0 := c_2
    refine lv_iload_n hx hb dX11_known_7 rfl (lv_at hl 2 rfl) ?_
    refine lv_if_ge (tgt := 13) hx hb dX11_known_8 (by decide) (fun c_3 => ?_) (fun c_3 => ?_)
    · have f_3 : 0 ≤ x1.toInt := r_le (by decide) rfl c_3
      refine lv_aload_n hx hb dX11_known_13 rfl (lv_at hl 0 rfl) ?_
      refine gf_X11_26 E hT_1 hW ha0 dX11_known_14 (fun h_4 => ?_)
      refine lv_iload_n hx hb dX11_known_17 rfl (lv_at hl 1 rfl) ?_
      refine th_Vr (As := [.int x0]) (rest := []) E hml hl.1 (z_X4_endpoint l D cI cS τ ρ hW H_1 hT_1 (ρ a0 2) x0 h_4) lk_X11_68 yd_X4_endpoint hT_1 h_4 rfl (by decide) hS_1 (AT.sub (by decide)) ⟨by decide, by decide⟩ (Nat.le_of_ble_eq_true rfl) ⟨by decide, by decide⟩ rfl dX11_known_18 (fun r_5 H_5 locs_5 p_5 hT_5 hk_5 hS_5 => ?_)
      refine gf_X11_98 E hT_5 hW p_5 dX11_known_21 (fun h_6 => ?_)
      refine lv_iload_n hx hb dX11_known_24 rfl (lv_at hl 2 rfl) ?_
      refine th_Vi (As := [.int x1]) (rest := []) E hml hl.1 (z_X5_isMarked l D cI cS τ ρ hW H_5 hT_5 (ρ r_5 4) x1 h_6) lk_X11_229 yd_X5_isMarked hT_5 h_6 rfl (by decide) hS_5 (AT.sub (by decide)) ⟨by decide, by decide⟩ (Nat.le_of_ble_eq_true rfl) ⟨by decide, by decide⟩ rfl dX11_known_25 (fun r_7 H_7 locs_7 p_7 hT_7 hk_7 hS_7 => ?_)
      have z_7 := b_iv p_7
      refine lv_if_eq (tgt := 35) hx hb dX11_known_28 (by decide) (fun c_8 => ?_) (fun c_8 => ?_)
      · have f_8 : r_7.toInt = 0 := r_eq rfl (by decide) c_8
        refine lv_iconst (v := 0) hx hb dX11_known_35 (by decide) ?_
        exact th_iret E hr hlk hs hT_7 hS_7 trivial dX11_known_36
      · have f_8 : ¬ r_7.toInt = 0 := r_ne rfl (by decide) c_8
        have nz_r_7 : ¬ r_7 = 0 := c_8
        refine lv_iconst (v := 1) hx hb dX11_known_31 (by decide) ?_
        refine lv_goto (tgt := 36) hx hb dX11_known_32 (by decide) ?_
        exact th_iret E hr hlk hs hT_7 hS_7 trivial dX11_known_36
    · have f_3 : x1.toInt < 0 := r_nle (by decide) rfl c_3
      refine lv_iconst (v := (-1)) hx hb dX11_known_11 (by decide) ?_
      exact th_iret E hr hlk hs hT_1 hS_1 trivial dX11_known_12
set_option maxHeartbeats 4000000 in
set_option maxRecDepth 100000 in
/-- StreamEnds.lay: it ends, and the heap stays typed -/
theorem z_X11_lay (l : Launch) (D : va_G) (cI cS : ClassId) (τ : Nat → Option Nat) (ρ : Nat → Nat → Nat) (hW : WF τ ρ) (H : Heap) (hT : TH D cI cS τ ρ H) (a0 : Nat) (ha0 : τ a0 = some 11) : MI l D cI cS τ ρ yX11_lay cX11_lay 1 (some .int) 5 115 H [.ref a0] (fun (r : Int32) (u : Heap) => True) (AT τ [0, 1, 2, 3, 4, 5, 7, 10]) := by
  refine MI.of (by decide) (Nat.le_of_ble_eq_true rfl) ?_
  intro p e s m args below meth c E hml hr hlk hs ls hl
  have hx := E.1
  have hb := E.2.1
  have hown := E.2.2.1
  have hts := E.2.2.2.1
  have hS : SS (AT τ [0, 1, 2, 3, 4, 5, 7, 10]) H H [] := SS.rf
  have hl : lv_has ls 1 [(0, .ref a0)] := hl
  refine lv_aload_n hx hb dX11_lay_0 rfl (lv_at hl 0 rfl) ?_
  refine gf_X11_19 E hT hW ha0 dX11_lay_1 (fun h_1 => ?_)
  refine lv_aload_n hx hb dX11_lay_4 rfl (lv_at hl 0 rfl) ?_
  refine gf_X11_10 E hT hW ha0 dX11_lay_5 (fun h_2 => ?_)
  refine th_Vi (As := [.ref (ρ a0 0)]) (rest := []) E hml hl.1 (z_X1_read l D cI cS τ ρ hW H hT (ρ a0 1) (ρ a0 0) h_1 h_2) lk_X11_54 yd_X1_read hT h_1 rfl (by decide) hS (AT.sub (by decide)) ⟨by decide, by decide⟩ (Nat.le_of_ble_eq_true rfl) ⟨by decide, by decide⟩ rfl dX11_lay_8 (fun r_3 H_3 locs_3 p_3 hT_3 hk_3 hS_3 => ?_)
  refine lv_bipush (v := (-4)) hx hb dX11_lay_11 (by decide) ?_
  refine lv_icmp_ne (tgt := 26) hx hb dX11_lay_13 (by decide) (fun c_4 => ?_) (fun c_4 => ?_)
  · have f_4 : ¬ r_3.toInt = -4 := r_ne rfl (by decide) c_4
    refine lv_bipush (v := (-2)) hx hb dX11_lay_26 (by decide) ?_
    exact th_iret E hr hlk hs hT_3 hS_3 trivial dX11_lay_28
  · have f_4 : r_3.toInt = -4 := r_eq rfl (by decide) c_4
    refine lv_aload_n hx hb dX11_lay_16 rfl (lv_at hl 0 rfl) ?_
    refine gf_X11_19 E hT_3 hW ha0 dX11_lay_17 (fun h_5 => ?_)
    refine th_Vi (As := []) (rest := []) E hml hl.1 (z_X1_hasRoom l D cI cS τ ρ hW H_3 hT_3 (ρ a0 1) h_5) lk_X11_58 yd_X1_hasRoom hT_3 h_5 rfl (by decide) hS_3 (AT.sub (by decide)) ⟨by decide, by decide⟩ (Nat.le_of_ble_eq_true rfl) ⟨by decide, by decide⟩ rfl dX11_lay_20 (fun r_6 H_6 locs_6 p_6 hT_6 hk_6 hS_6 => ?_)
    have z_6 := b_iv p_6
    refine lv_if_ne (tgt := 29) hx hb dX11_lay_23 (by decide) (fun c_7 => ?_) (fun c_7 => ?_)
    · have f_7 : ¬ r_6.toInt = 0 := r_ne rfl (by decide) c_7
      have nz_r_6 : ¬ r_6 = 0 := c_7
      refine lv_aload_n hx hb dX11_lay_29 rfl (lv_at hl 0 rfl) ?_
      refine gf_X11_26 E hT_6 hW ha0 dX11_lay_30 (fun h_8 => ?_)
      refine lv_aload_n hx hb dX11_lay_33 rfl (lv_at hl 0 rfl) ?_
      refine gf_X11_19 E hT_6 hW ha0 dX11_lay_34 (fun h_9 => ?_)
      refine th_Vv (As := [.ref (ρ a0 1)]) (rest := []) E hml hl.1 (z_X4_setUp l D cI cS τ ρ hW H_6 hT_6 (ρ a0 2) (ρ a0 1) h_8 h_9) lk_X11_43 yd_X4_setUp hT_6 h_8 rfl (by decide) hS_6 (AT.sub (by decide)) ⟨by decide, by decide⟩ (Nat.le_of_ble_eq_true rfl) ⟨by decide, by decide⟩ rfl dX11_lay_37 (fun H_10 locs_10 p_10 hT_10 hk_10 hS_10 => ?_)
      refine lv_aload_n hx hb dX11_lay_40 rfl (lv_at hl 0 rfl) ?_
      refine gf_X11_19 E hT_10 hW ha0 dX11_lay_41 (fun h_11 => ?_)
      refine gf_X11_62 E hT_10 h_11 dX11_lay_44 ?_
      refine lv_topi (fun x_12 ex_12 => ?_)
      exact th_iret E hr hlk hs hT_10 hS_10 trivial dX11_lay_47
    · have f_7 : r_6.toInt = 0 := r_eq rfl (by decide) c_7
      refine lv_bipush (v := (-2)) hx hb dX11_lay_26 (by decide) ?_
      exact th_iret E hr hlk hs hT_6 hS_6 trivial dX11_lay_28
set_option maxHeartbeats 4000000 in
set_option maxRecDepth 100000 in
/-- StreamEnds.leave: it ends, and the heap stays typed -/
theorem z_X11_leave (l : Launch) (D : va_G) (cI cS : ClassId) (τ : Nat → Option Nat) (ρ : Nat → Nat → Nat) (hW : WF τ ρ) (H : Heap) (hT : TH D cI cS τ ρ H) (a0 : Nat) (x0 : Int32) (ha0 : τ a0 = some 11) : MI l D cI cS τ ρ yX11_leave cX11_leave 3 (some .int) 4 99 H [.ref a0, .int x0] (fun (r : Int32) (u : Heap) => True) (AT τ [2, 5, 7, 8, 10, 104, 108]) := by
  refine MI.of (by decide) (Nat.le_of_ble_eq_true rfl) ?_
  intro p e s m args below meth c E hml hr hlk hs ls hl
  have hx := E.1
  have hb := E.2.1
  have hown := E.2.2.1
  have hts := E.2.2.2.1
  have hS : SS (AT τ [2, 5, 7, 8, 10, 104, 108]) H H [] := SS.rf
  have hl : lv_has ls 3 [(0, .ref a0), (1, .int x0)] := hl
  refine lv_iload_n hx hb dX11_leave_0 rfl (lv_at hl 1 rfl) ?_
  refine th_Si (As := [.int x0]) (rest := []) E hml hl.1 (z_X11_isEnd l D cI cS τ ρ hW H hT x0) lk_X11_65 yd_X11_isEnd hS (AT.sub (by decide)) ⟨by decide, by decide⟩ (Nat.le_of_ble_eq_true rfl) ⟨by decide, by decide⟩ rfl dX11_leave_1 (fun r_1 H_1 locs_1 p_1 hT_1 hk_1 hS_1 => ?_)
  have z_1 := b_iv p_1
  refine lv_if_ne (tgt := 9) hx hb dX11_leave_4 (by decide) (fun c_2 => ?_) (fun c_2 => ?_)
  · have f_2 : ¬ r_1.toInt = 0 := r_ne rfl (by decide) c_2
    have nz_r_1 : ¬ r_1 = 0 := c_2
    refine lv_aload_n hx hb dX11_leave_9 rfl (lv_at hl 0 rfl) ?_
    refine gf_X11_26 E hT_1 hW ha0 dX11_leave_10 (fun h_3 => ?_)
    refine lv_iload_n hx hb dX11_leave_13 rfl (lv_at hl 1 rfl) ?_
    refine th_Vr (As := [.int x0]) (rest := []) E hml hl.1 (z_X4_endpoint l D cI cS τ ρ hW H_1 hT_1 (ρ a0 2) x0 h_3) lk_X11_68 yd_X4_endpoint hT_1 h_3 rfl (by decide) hS_1 (AT.sub (by decide)) ⟨by decide, by decide⟩ (Nat.le_of_ble_eq_true rfl) ⟨by decide, by decide⟩ rfl dX11_leave_14 (fun r_4 H_4 locs_4 p_4 hT_4 hk_4 hS_4 => ?_)
    refine lv_astore_n (lv' := [(2, .ref r_4), (0, .ref a0), (1, .int x0)]) hx hb dX11_leave_17 rfl hl (by decide) rfl (fun ls hl => ?_)
    refine lv_aload_n hx hb dX11_leave_18 rfl (lv_at hl 0 rfl) ?_
    refine gf_X11_72 E hT_4 p_4 dX11_leave_19 ?_
    refine th_topi (y := fi D 2 7 H r_4) (Eq.trans (fi_q (hk_4 _ (AT.out p_4 (by decide)))) (fi_q (hk_1 _ (AT.out p_4 (by decide))))) ?_
    refine lv_topi (fun x_5 ex_5 => ?_)
    by_cases k6_1 : x_5 = 1
    · refine th_topi k6_1 ?_
      refine lv_tableIn (tgt := 64) hx hb dX11_leave_22 (by decide) (by decide) rfl (by decide) ?_
      refine lv_aload_n hx hb dX11_leave_64 rfl (lv_at hl 0 rfl) ?_
      refine th_Vv (As := []) (rest := []) E hml hl.1 (z_X2_close l D cI cS τ ρ hW H_4 hT_4 r_4 p_4) lk_X11_120 yd_X2_close hT_4 p_4 rfl (by decide) hS_4 (AT.sub (by decide)) ⟨by decide, by decide⟩ (Nat.le_of_ble_eq_true rfl) ⟨by decide, by decide⟩ rfl dX11_leave_65 (fun H_7 locs_7 p_7 hT_7 hk_7 hS_7 => ?_)
      refine lv_aload_n hx hb dX11_leave_68 rfl (lv_at hl 0 rfl) ?_
      refine gf_X11_72 E hT_7 p_4 dX11_leave_69 ?_
      refine lv_topi (fun x_8 ex_8 => ?_)
      exact th_iret E hr hlk hs hT_7 hS_7 trivial dX11_leave_72
    by_cases k6_2 : x_5 = 2
    · refine th_topi k6_2 ?_
      refine lv_tableIn (tgt := 64) hx hb dX11_leave_22 (by decide) (by decide) rfl (by decide) ?_
      refine lv_aload_n hx hb dX11_leave_64 rfl (lv_at hl 0 rfl) ?_
      refine th_Vv (As := []) (rest := []) E hml hl.1 (z_X2_close l D cI cS τ ρ hW H_4 hT_4 r_4 p_4) lk_X11_120 yd_X2_close hT_4 p_4 rfl (by decide) hS_4 (AT.sub (by decide)) ⟨by decide, by decide⟩ (Nat.le_of_ble_eq_true rfl) ⟨by decide, by decide⟩ rfl dX11_leave_65 (fun H_9 locs_9 p_9 hT_9 hk_9 hS_9 => ?_)
      refine lv_aload_n hx hb dX11_leave_68 rfl (lv_at hl 0 rfl) ?_
      refine gf_X11_72 E hT_9 p_4 dX11_leave_69 ?_
      refine lv_topi (fun x_10 ex_10 => ?_)
      exact th_iret E hr hlk hs hT_9 hS_9 trivial dX11_leave_72
    by_cases k6_3 : x_5 = 3
    · refine th_topi k6_3 ?_
      refine lv_tableIn (tgt := 73) hx hb dX11_leave_22 (by decide) (by decide) rfl (by decide) ?_
      refine lv_aload_n hx hb dX11_leave_73 rfl (lv_at hl 0 rfl) ?_
      refine gf_X11_98 E hT_4 hW p_4 dX11_leave_74 (fun h_11 => ?_)
      refine gf_X11_123 E hT_4 h_11 dX11_leave_77 ?_
      refine th_topi (y := fi D 5 5 H (ρ r_4 4)) (Eq.trans (fi_q (hk_4 _ (AT.out h_11 (by decide)))) (fi_q (hk_1 _ (AT.out h_11 (by decide))))) ?_
      refine lv_topi (fun x_12 ex_12 => ?_)
      have bx_12 : x_12 = 0 ∨ x_12 = 1 := by rw [ex_12]; exact (TH.vb hT h_11 (by decide) (by decide) rfl).2
      have z_12 := b_iv bx_12
      refine lv_if_eq (tgt := 86) hx hb dX11_leave_80 (by decide) (fun c_13 => ?_) (fun c_13 => ?_)
      · have f_13 : x_12.toInt = 0 := r_eq rfl (by decide) c_13
        refine lv_aload_n hx hb dX11_leave_86 rfl (lv_at hl 0 rfl) ?_
        refine gf_X11_98 E hT_4 hW p_4 dX11_leave_87 (fun h_14 => ?_)
        refine lv_iconst (v := 1) hx hb dX11_leave_90 (by decide) ?_
        refine pf_X11_123 E hT_4 hS_4 h_14 ⟨_, h_14, by decide⟩ (Or.inr rfl) dX11_leave_91 (fun H_15 locs_15 hT_15 hU_15 hS_15 => ?_)
        refine lv_aload_n hx hb dX11_leave_94 rfl (lv_at hl 0 rfl) ?_
        refine th_Vv (As := []) (rest := []) E hml hl.1 (z_X2_transmit l D cI cS τ ρ hW H_15 hT_15 r_4 p_4) lk_X11_111 yd_X2_transmit hT_15 p_4 rfl (by decide) hS_15 (AT.sub (by decide)) ⟨by decide, by decide⟩ (Nat.le_of_ble_eq_true rfl) ⟨by decide, by decide⟩ rfl dX11_leave_95 (fun H_16 locs_16 p_16 hT_16 hk_16 hS_16 => ?_)
        refine lv_aload_n hx hb dX11_leave_98 rfl (lv_at hl 0 rfl) ?_
        refine th_Vv (As := []) (rest := []) E hml hl.1 (z_X2_adjustTimer l D cI cS τ ρ hW H_16 hT_16 r_4 p_4) lk_X11_83 yd_X2_adjustTimer hT_16 p_4 rfl (by decide) hS_16 (AT.sub (by decide)) ⟨by decide, by decide⟩ (Nat.le_of_ble_eq_true rfl) ⟨by decide, by decide⟩ rfl dX11_leave_99 (fun H_17 locs_17 p_17 hT_17 hk_17 hS_17 => ?_)
        refine lv_aload_n hx hb dX11_leave_102 rfl (lv_at hl 0 rfl) ?_
        refine gf_X11_72 E hT_17 p_4 dX11_leave_103 ?_
        refine lv_topi (fun x_18 ex_18 => ?_)
        exact th_iret E hr hlk hs hT_17 hS_17 trivial dX11_leave_106
      · have f_13 : ¬ x_12.toInt = 0 := r_ne rfl (by decide) c_13
        have nz_x_12 : ¬ x_12 = 0 := c_13
        refine lv_bipush (v := (-2)) hx hb dX11_leave_83 (by decide) ?_
        exact th_iret E hr hlk hs hT_4 hS_4 trivial dX11_leave_85
    by_cases k6_4 : x_5 = 4
    · refine th_topi k6_4 ?_
      refine lv_tableIn (tgt := 73) hx hb dX11_leave_22 (by decide) (by decide) rfl (by decide) ?_
      refine lv_aload_n hx hb dX11_leave_73 rfl (lv_at hl 0 rfl) ?_
      refine gf_X11_98 E hT_4 hW p_4 dX11_leave_74 (fun h_19 => ?_)
      refine gf_X11_123 E hT_4 h_19 dX11_leave_77 ?_
      refine th_topi (y := fi D 5 5 H (ρ r_4 4)) (Eq.trans (fi_q (hk_4 _ (AT.out h_19 (by decide)))) (fi_q (hk_1 _ (AT.out h_19 (by decide))))) ?_
      refine lv_topi (fun x_20 ex_20 => ?_)
      have bx_20 : x_20 = 0 ∨ x_20 = 1 := by rw [ex_20]; exact (TH.vb hT h_19 (by decide) (by decide) rfl).2
      have z_20 := b_iv bx_20
      refine lv_if_eq (tgt := 86) hx hb dX11_leave_80 (by decide) (fun c_21 => ?_) (fun c_21 => ?_)
      · have f_21 : x_20.toInt = 0 := r_eq rfl (by decide) c_21
        refine lv_aload_n hx hb dX11_leave_86 rfl (lv_at hl 0 rfl) ?_
        refine gf_X11_98 E hT_4 hW p_4 dX11_leave_87 (fun h_22 => ?_)
        refine lv_iconst (v := 1) hx hb dX11_leave_90 (by decide) ?_
        refine pf_X11_123 E hT_4 hS_4 h_22 ⟨_, h_22, by decide⟩ (Or.inr rfl) dX11_leave_91 (fun H_23 locs_23 hT_23 hU_23 hS_23 => ?_)
        refine lv_aload_n hx hb dX11_leave_94 rfl (lv_at hl 0 rfl) ?_
        refine th_Vv (As := []) (rest := []) E hml hl.1 (z_X2_transmit l D cI cS τ ρ hW H_23 hT_23 r_4 p_4) lk_X11_111 yd_X2_transmit hT_23 p_4 rfl (by decide) hS_23 (AT.sub (by decide)) ⟨by decide, by decide⟩ (Nat.le_of_ble_eq_true rfl) ⟨by decide, by decide⟩ rfl dX11_leave_95 (fun H_24 locs_24 p_24 hT_24 hk_24 hS_24 => ?_)
        refine lv_aload_n hx hb dX11_leave_98 rfl (lv_at hl 0 rfl) ?_
        refine th_Vv (As := []) (rest := []) E hml hl.1 (z_X2_adjustTimer l D cI cS τ ρ hW H_24 hT_24 r_4 p_4) lk_X11_83 yd_X2_adjustTimer hT_24 p_4 rfl (by decide) hS_24 (AT.sub (by decide)) ⟨by decide, by decide⟩ (Nat.le_of_ble_eq_true rfl) ⟨by decide, by decide⟩ rfl dX11_leave_99 (fun H_25 locs_25 p_25 hT_25 hk_25 hS_25 => ?_)
        refine lv_aload_n hx hb dX11_leave_102 rfl (lv_at hl 0 rfl) ?_
        refine gf_X11_72 E hT_25 p_4 dX11_leave_103 ?_
        refine lv_topi (fun x_26 ex_26 => ?_)
        exact th_iret E hr hlk hs hT_25 hS_25 trivial dX11_leave_106
      · have f_21 : ¬ x_20.toInt = 0 := r_ne rfl (by decide) c_21
        have nz_x_20 : ¬ x_20 = 0 := c_21
        refine lv_bipush (v := (-2)) hx hb dX11_leave_83 (by decide) ?_
        exact th_iret E hr hlk hs hT_4 hS_4 trivial dX11_leave_85
    by_cases k6_7 : x_5 = 7
    · refine th_topi k6_7 ?_
      refine lv_tableIn (tgt := 73) hx hb dX11_leave_22 (by decide) (by decide) rfl (by decide) ?_
      refine lv_aload_n hx hb dX11_leave_73 rfl (lv_at hl 0 rfl) ?_
      refine gf_X11_98 E hT_4 hW p_4 dX11_leave_74 (fun h_27 => ?_)
      refine gf_X11_123 E hT_4 h_27 dX11_leave_77 ?_
      refine th_topi (y := fi D 5 5 H (ρ r_4 4)) (Eq.trans (fi_q (hk_4 _ (AT.out h_27 (by decide)))) (fi_q (hk_1 _ (AT.out h_27 (by decide))))) ?_
      refine lv_topi (fun x_28 ex_28 => ?_)
      have bx_28 : x_28 = 0 ∨ x_28 = 1 := by rw [ex_28]; exact (TH.vb hT h_27 (by decide) (by decide) rfl).2
      have z_28 := b_iv bx_28
      refine lv_if_eq (tgt := 86) hx hb dX11_leave_80 (by decide) (fun c_29 => ?_) (fun c_29 => ?_)
      · have f_29 : x_28.toInt = 0 := r_eq rfl (by decide) c_29
        refine lv_aload_n hx hb dX11_leave_86 rfl (lv_at hl 0 rfl) ?_
        refine gf_X11_98 E hT_4 hW p_4 dX11_leave_87 (fun h_30 => ?_)
        refine lv_iconst (v := 1) hx hb dX11_leave_90 (by decide) ?_
        refine pf_X11_123 E hT_4 hS_4 h_30 ⟨_, h_30, by decide⟩ (Or.inr rfl) dX11_leave_91 (fun H_31 locs_31 hT_31 hU_31 hS_31 => ?_)
        refine lv_aload_n hx hb dX11_leave_94 rfl (lv_at hl 0 rfl) ?_
        refine th_Vv (As := []) (rest := []) E hml hl.1 (z_X2_transmit l D cI cS τ ρ hW H_31 hT_31 r_4 p_4) lk_X11_111 yd_X2_transmit hT_31 p_4 rfl (by decide) hS_31 (AT.sub (by decide)) ⟨by decide, by decide⟩ (Nat.le_of_ble_eq_true rfl) ⟨by decide, by decide⟩ rfl dX11_leave_95 (fun H_32 locs_32 p_32 hT_32 hk_32 hS_32 => ?_)
        refine lv_aload_n hx hb dX11_leave_98 rfl (lv_at hl 0 rfl) ?_
        refine th_Vv (As := []) (rest := []) E hml hl.1 (z_X2_adjustTimer l D cI cS τ ρ hW H_32 hT_32 r_4 p_4) lk_X11_83 yd_X2_adjustTimer hT_32 p_4 rfl (by decide) hS_32 (AT.sub (by decide)) ⟨by decide, by decide⟩ (Nat.le_of_ble_eq_true rfl) ⟨by decide, by decide⟩ rfl dX11_leave_99 (fun H_33 locs_33 p_33 hT_33 hk_33 hS_33 => ?_)
        refine lv_aload_n hx hb dX11_leave_102 rfl (lv_at hl 0 rfl) ?_
        refine gf_X11_72 E hT_33 p_4 dX11_leave_103 ?_
        refine lv_topi (fun x_34 ex_34 => ?_)
        exact th_iret E hr hlk hs hT_33 hS_33 trivial dX11_leave_106
      · have f_29 : ¬ x_28.toInt = 0 := r_ne rfl (by decide) c_29
        have nz_x_28 : ¬ x_28 = 0 := c_29
        refine lv_bipush (v := (-2)) hx hb dX11_leave_83 (by decide) ?_
        exact th_iret E hr hlk hs hT_4 hS_4 trivial dX11_leave_85
    have n6_1 := i_ne k6_1 (k := 1) (by decide)
    have n6_2 := i_ne k6_2 (k := 2) (by decide)
    have n6_3 := i_ne k6_3 (k := 3) (by decide)
    have n6_4 := i_ne k6_4 (k := 4) (by decide)
    have n6_7 := i_ne k6_7 (k := 7) (by decide)
    by_cases k6_5 : x_5 = 5
    · refine th_topi k6_5 ?_
      refine lv_tableIn (tgt := 107) hx hb dX11_leave_22 (by decide) (by decide) rfl (by decide) ?_
      refine lv_bipush (v := (-2)) hx hb dX11_leave_107 (by decide) ?_
      exact th_iret E hr hlk hs hT_4 hS_4 trivial dX11_leave_109
    have n6_5 := i_ne k6_5 (k := 5) (by decide)
    by_cases k6_6 : x_5 = 6
    · refine th_topi k6_6 ?_
      refine lv_tableIn (tgt := 107) hx hb dX11_leave_22 (by decide) (by decide) rfl (by decide) ?_
      refine lv_bipush (v := (-2)) hx hb dX11_leave_107 (by decide) ?_
      exact th_iret E hr hlk hs hT_4 hS_4 trivial dX11_leave_109
    have n6_6 := i_ne k6_6 (k := 6) (by decide)
    refine lv_tableOut (tgt := 107) hx hb dX11_leave_22 (by omega) (by decide) ?_
    refine lv_bipush (v := (-2)) hx hb dX11_leave_107 (by decide) ?_
    exact th_iret E hr hlk hs hT_4 hS_4 trivial dX11_leave_109
  · have f_2 : r_1.toInt = 0 := r_eq rfl (by decide) c_2
    refine lv_iconst (v := (-1)) hx hb dX11_leave_7 (by decide) ?_
    exact th_iret E hr hlk hs hT_1 hS_1 trivial dX11_leave_8
set_option maxHeartbeats 4000000 in
set_option maxRecDepth 100000 in
/-- StreamEnds.letter: it ends, and the heap stays typed -/
theorem z_X11_letter (l : Launch) (D : va_G) (cI cS : ClassId) (τ : Nat → Option Nat) (ρ : Nat → Nat → Nat) (hW : WF τ ρ) (H : Heap) (hT : TH D cI cS τ ρ H) (a0 : Nat) (x0 : Int32) (x1 : Int32) (ha0 : τ a0 = some 11) : MI l D cI cS τ ρ yX11_letter cX11_letter 3 (some .int) 2 42 H [.ref a0, .int x0, .int x1] (fun (r : Int32) (u : Heap) => True) (AT τ []) := by
  refine MI.of (by decide) (Nat.le_of_ble_eq_true rfl) ?_
  intro p e s m args below meth c E hml hr hlk hs ls hl
  have hx := E.1
  have hb := E.2.1
  have hown := E.2.2.1
  have hts := E.2.2.2.1
  have hS : SS (AT τ []) H H [] := SS.rf
  have hl : lv_has ls 3 [(0, .ref a0), (1, .int x0), (2, .int x1)] := hl
  refine lv_aload_n hx hb dX11_letter_0 rfl (lv_at hl 0 rfl) ?_
  refine gf_X11_26 E hT hW ha0 dX11_letter_1 (fun h_1 => ?_)
  refine gf_X11_86 E hT hW h_1 dX11_letter_4 (fun h_2 => ?_)
  refine lv_iload_n hx hb dX11_letter_7 rfl (lv_at hl 1 rfl) ?_
  refine th_Vi (As := [.int x0]) (rest := []) E hml hl.1 (z_X10_has l D cI cS τ ρ hW H hT (ρ (ρ a0 2) 1) x0 h_2) lk_X11_158 yd_X10_has hT h_2 rfl (by decide) hS (AT.sub (by decide)) ⟨by decide, by decide⟩ (Nat.le_of_ble_eq_true rfl) ⟨by decide, by decide⟩ rfl dX11_letter_8 (fun r_3 H_3 locs_3 p_3 hT_3 hk_3 hS_3 => ?_)
  have z_3 := b_iv p_3.1
  refine lv_if_eq (tgt := 24) hx hb dX11_letter_11 (by decide) (fun c_4 => ?_) (fun c_4 => ?_)
  · have f_4 : r_3.toInt = 0 := r_eq rfl (by decide) c_4
    refine lv_iconst (v := (-1)) hx hb dX11_letter_24 (by decide) ?_
    exact th_iret E hr hlk hs hT_3 hS_3 trivial dX11_letter_25
  · have f_4 : ¬ r_3.toInt = 0 := r_ne rfl (by decide) c_4
    have nz_r_3 : ¬ r_3 = 0 := c_4
    have w_4 := p_3.2 (p_3.1.resolve_left c_4)
    refine lv_iload_n hx hb dX11_letter_14 rfl (lv_at hl 2 rfl) ?_
    refine lv_if_lt (tgt := 24) hx hb dX11_letter_15 (by decide) (fun c_5 => ?_) (fun c_5 => ?_)
    · have f_5 : x1.toInt < 0 := r_lt rfl (by decide) c_5
      refine lv_iconst (v := (-1)) hx hb dX11_letter_24 (by decide) ?_
      exact th_iret E hr hlk hs hT_3 hS_3 trivial dX11_letter_25
    · have f_5 : 0 ≤ x1.toInt := r_nlt rfl (by decide) c_5
      refine lv_iload_n hx hb dX11_letter_18 rfl (lv_at hl 2 rfl) ?_
      refine lv_bipush (v := 11) hx hb dX11_letter_19 (by decide) ?_
      refine lv_icmp_le (tgt := 26) hx hb dX11_letter_21 (by decide) (fun c_6 => ?_) (fun c_6 => ?_)
      · have f_6 : x1.toInt ≤ 11 := r_le rfl (by decide) c_6
        refine lv_aload_n hx hb dX11_letter_26 rfl (lv_at hl 0 rfl) ?_
        refine gf_X11_26 E hT_3 hW ha0 dX11_letter_27 (fun h_7 => ?_)
        refine gf_X11_86 E hT_3 hW h_7 dX11_letter_30 (fun h_8 => ?_)
        refine lv_iload_n hx hb dX11_letter_33 rfl (lv_at hl 1 rfl) ?_
        refine th_Vr (As := [.int x0]) (rest := []) E hml hl.1 (z_X10_at l D cI cS τ ρ hW H_3 hT_3 (ρ (ρ a0 2) 1) x0 h_8) lk_X11_232 yd_X10_at hT_3 h_8 rfl (by decide) hS_3 (AT.sub (by decide)) ⟨by decide, by decide⟩ (Nat.le_of_ble_eq_true rfl) ⟨by decide, by decide⟩ rfl dX11_letter_34 (fun r_9 H_9 locs_9 p_9 hT_9 hk_9 hS_9 => ?_)
        refine lv_iload_n hx hb dX11_letter_37 rfl (lv_at hl 2 rfl) ?_
        refine th_Vi (As := [.int x1]) (rest := []) E hml hl.1 (z_X8_property l D cI cS τ ρ hW H_9 hT_9 r_9 x1 p_9) lk_X11_235 yd_X8_property hT_9 p_9 rfl (by decide) hS_9 (AT.sub (by decide)) ⟨by decide, by decide⟩ (Nat.le_of_ble_eq_true rfl) ⟨by decide, by decide⟩ rfl dX11_letter_38 (fun r_10 H_10 locs_10 p_10 hT_10 hk_10 hS_10 => ?_)
        exact th_iret E hr hlk hs hT_10 hS_10 trivial dX11_letter_41
      · have f_6 : 11 < x1.toInt := r_nle rfl (by decide) c_6
        refine lv_iconst (v := (-1)) hx hb dX11_letter_24 (by decide) ?_
        exact th_iret E hr hlk hs hT_3 hS_3 trivial dX11_letter_25
set_option maxHeartbeats 4000000 in
set_option maxRecDepth 100000 in
/-- StreamEnds.lose: it ends, and the heap stays typed -/
theorem z_X11_lose (l : Launch) (D : va_G) (cI cS : ClassId) (τ : Nat → Option Nat) (ρ : Nat → Nat → Nat) (hW : WF τ ρ) (H : Heap) (hT : TH D cI cS τ ρ H) (a0 : Nat) (x0 : Int32) (ha0 : τ a0 = some 11) : MI l D cI cS τ ρ yX11_lose cX11_lose 2 (some .int) 2 45 H [.ref a0, .int x0] (fun (r : Int32) (u : Heap) => True) (AT τ [10, 50]) := by
  refine MI.of (by decide) (Nat.le_of_ble_eq_true rfl) ?_
  intro p e s m args below meth c E hml hr hlk hs ls hl
  have hx := E.1
  have hb := E.2.1
  have hown := E.2.2.1
  have hts := E.2.2.2.1
  have hS : SS (AT τ [10, 50]) H H [] := SS.rf
  have hl : lv_has ls 2 [(0, .ref a0), (1, .int x0)] := hl
  refine lv_aload_n hx hb dX11_lose_0 rfl (lv_at hl 0 rfl) ?_
  refine gf_X11_26 E hT hW ha0 dX11_lose_1 (fun h_1 => ?_)
  refine gf_X11_86 E hT hW h_1 dX11_lose_4 (fun h_2 => ?_)
  refine lv_iload_n hx hb dX11_lose_7 rfl (lv_at hl 1 rfl) ?_
  refine th_Vi (As := [.int x0]) (rest := []) E hml hl.1 (z_X10_has l D cI cS τ ρ hW H hT (ρ (ρ a0 2) 1) x0 h_2) lk_X11_158 yd_X10_has hT h_2 rfl (by decide) hS (AT.sub (by decide)) ⟨by decide, by decide⟩ (Nat.le_of_ble_eq_true rfl) ⟨by decide, by decide⟩ rfl dX11_lose_8 (fun r_3 H_3 locs_3 p_3 hT_3 hk_3 hS_3 => ?_)
  have z_3 := b_iv p_3.1
  refine lv_if_ne (tgt := 16) hx hb dX11_lose_11 (by decide) (fun c_4 => ?_) (fun c_4 => ?_)
  · have f_4 : ¬ r_3.toInt = 0 := r_ne rfl (by decide) c_4
    have nz_r_3 : ¬ r_3 = 0 := c_4
    have w_4 := p_3.2 (p_3.1.resolve_left c_4)
    refine lv_aload_n hx hb dX11_lose_16 rfl (lv_at hl 0 rfl) ?_
    refine gf_X11_26 E hT_3 hW ha0 dX11_lose_17 (fun h_5 => ?_)
    refine gf_X11_86 E hT_3 hW h_5 dX11_lose_20 (fun h_6 => ?_)
    refine lv_iload_n hx hb dX11_lose_23 rfl (lv_at hl 1 rfl) ?_
    refine th_Vr (As := [.int x0]) (rest := []) E hml hl.1 (z_X10_remove l D cI cS τ ρ hW H_3 hT_3 (ρ (ρ a0 2) 1) x0 h_6) lk_X11_164 yd_X10_remove hT_3 h_6 rfl (by decide) hS_3 (AT.sub (by decide)) ⟨by decide, by decide⟩ (Nat.le_of_ble_eq_true rfl) ⟨by decide, by decide⟩ rfl dX11_lose_24 (fun r_7 H_7 locs_7 p_7 hT_7 hk_7 hS_7 => ?_)
    refine lv_pop hx hb dX11_lose_27 rfl ?_
    refine lv_aload_n hx hb dX11_lose_28 rfl (lv_at hl 0 rfl) ?_
    refine gf_X11_26 E hT_7 hW ha0 dX11_lose_29 (fun h_8 => ?_)
    refine gf_X11_86 E hT_7 hW h_8 dX11_lose_32 (fun h_9 => ?_)
    refine gf_X11_90 E hT_7 h_9 dX11_lose_35 ?_
    refine lv_topi (fun x_10 ex_10 => ?_)
    exact th_iret E hr hlk hs hT_7 hS_7 trivial dX11_lose_38
  · have f_4 : r_3.toInt = 0 := r_eq rfl (by decide) c_4
    refine lv_iconst (v := (-1)) hx hb dX11_lose_14 (by decide) ?_
    exact th_iret E hr hlk hs hT_3 hS_3 trivial dX11_lose_15
set_option maxHeartbeats 4000000 in
set_option maxRecDepth 100000 in
/-- StreamEnds.open: it ends, and the heap stays typed -/
theorem z_X11_open (l : Launch) (D : va_G) (cI cS : ClassId) (τ : Nat → Option Nat) (ρ : Nat → Nat → Nat) (hW : WF τ ρ) (H : Heap) (hT : TH D cI cS τ ρ H) (a0 : Nat) (x0 : Int32) (x1 : Int32) (ha0 : τ a0 = some 11) : MI l D cI cS τ ρ yX11_open cX11_open 4 (some .int) 4 89 H [.ref a0, .int x0, .int x1] (fun (r : Int32) (u : Heap) => True) (AT τ [2, 3, 5, 7, 8, 10, 104]) := by
  refine MI.of (by decide) (Nat.le_of_ble_eq_true rfl) ?_
  intro p e s m args below meth c E hml hr hlk hs ls hl
  have hx := E.1
  have hb := E.2.1
  have hown := E.2.2.1
  have hts := E.2.2.2.1
  have hS : SS (AT τ [2, 3, 5, 7, 8, 10, 104]) H H [] := SS.rf
  have hl : lv_has ls 4 [(0, .ref a0), (1, .int x0), (2, .int x1)] := hl
  have J_62 : ∀ (H_c62 : Heap) (lc_c62 : List Loc) (ls : Array Slot) (y62_3 : Nat), TH D cI cS τ ρ H_c62 → SS (AT τ [2, 3, 5, 7, 8, 10, 104]) H H_c62 lc_c62 → lv_has ls 4 [(0, .ref a0), (1, .int x0), (2, .int x1), (3, .ref y62_3)] → 0 ≤ x1.toInt → x1.toInt ≤ 1 → τ y62_3 = some 2 → W p l e (rmO 4 89) s m args below meth c H_c62 lc_c62 0 0 (MQ below (va_Qi (fun (r : Int32) (u : Heap) => True) (Bt D cI cS τ ρ H) (AT τ [2, 3, 5, 7, 8, 10, 104])) args s 0 0 (AT τ [2, 3, 5, 7, 8, 10, 104])) (F0 m 62 ls []) := by
    intro H_c62 lc_c62 ls y62_3 hT_c62 hS_c62 hl ly62_2 uy62_2 ty62_3
    refine lv_aload_n hx hb dX11_open_62 rfl (lv_at hl 3 rfl) ?_
    refine th_Vv (As := []) (rest := []) E hml hl.1 (z_X2_adjustTimer l D cI cS τ ρ hW H_c62 hT_c62 y62_3 ty62_3) lk_X11_83 yd_X2_adjustTimer hT_c62 ty62_3 rfl (by decide) hS_c62 (AT.sub (by decide)) ⟨by decide, by decide⟩ (Nat.le_of_ble_eq_true rfl) ⟨by decide, by decide⟩ rfl dX11_open_63 (fun H_1 locs_1 p_1 hT_1 hk_1 hS_1 => ?_)
    refine lv_aload_n hx hb dX11_open_66 rfl (lv_at hl 0 rfl) ?_
    refine gf_X11_26 E hT_1 hW ha0 dX11_open_67 (fun h_2 => ?_)
    refine gf_X11_86 E hT_1 hW h_2 dX11_open_70 (fun h_3 => ?_)
    refine gf_X11_90 E hT_1 h_3 dX11_open_73 ?_
    refine th_topi (y := fi D 10 2 H_c62 (ρ (ρ a0 2) 1)) (fi_q (hk_1 _ (AT.out h_3 (by decide)))) ?_
    refine lv_topi (fun x_4 ex_4 => ?_)
    exact th_iret E hr hlk hs hT_1 hS_1 trivial dX11_open_76
  refine lv_iload_n hx hb dX11_open_0 rfl (lv_at hl 1 rfl) ?_
  refine th_Si (As := [.int x0]) (rest := []) E hml hl.1 (z_X11_isEnd l D cI cS τ ρ hW H hT x0) lk_X11_65 yd_X11_isEnd hS (AT.sub (by decide)) ⟨by decide, by decide⟩ (Nat.le_of_ble_eq_true rfl) ⟨by decide, by decide⟩ rfl dX11_open_1 (fun r_5 H_5 locs_5 p_5 hT_5 hk_5 hS_5 => ?_)
  have z_5 := b_iv p_5
  refine lv_if_eq (tgt := 16) hx hb dX11_open_4 (by decide) (fun c_6 => ?_) (fun c_6 => ?_)
  · have f_6 : r_5.toInt = 0 := r_eq rfl (by decide) c_6
    refine lv_iconst (v := (-1)) hx hb dX11_open_16 (by decide) ?_
    exact th_iret E hr hlk hs hT_5 hS_5 trivial dX11_open_17
  · have f_6 : ¬ r_5.toInt = 0 := r_ne rfl (by decide) c_6
    have nz_r_5 : ¬ r_5 = 0 := c_6
    refine lv_iload_n hx hb dX11_open_7 rfl (lv_at hl 2 rfl) ?_
    refine lv_if_lt (tgt := 16) hx hb dX11_open_8 (by decide) (fun c_7 => ?_) (fun c_7 => ?_)
    · have f_7 : x1.toInt < 0 := r_lt rfl (by decide) c_7
      refine lv_iconst (v := (-1)) hx hb dX11_open_16 (by decide) ?_
      exact th_iret E hr hlk hs hT_5 hS_5 trivial dX11_open_17
    · have f_7 : 0 ≤ x1.toInt := r_nlt rfl (by decide) c_7
      refine lv_iload_n hx hb dX11_open_11 rfl (lv_at hl 2 rfl) ?_
      refine lv_iconst (v := 1) hx hb dX11_open_12 (by decide) ?_
      refine lv_icmp_le (tgt := 18) hx hb dX11_open_13 (by decide) (fun c_8 => ?_) (fun c_8 => ?_)
      · have f_8 : x1.toInt ≤ 1 := r_le rfl (by decide) c_8
        refine lv_aload_n hx hb dX11_open_18 rfl (lv_at hl 0 rfl) ?_
        refine gf_X11_26 E hT_5 hW ha0 dX11_open_19 (fun h_9 => ?_)
        refine lv_iload_n hx hb dX11_open_22 rfl (lv_at hl 1 rfl) ?_
        refine th_Vr (As := [.int x0]) (rest := []) E hml hl.1 (z_X4_endpoint l D cI cS τ ρ hW H_5 hT_5 (ρ a0 2) x0 h_9) lk_X11_68 yd_X4_endpoint hT_5 h_9 rfl (by decide) hS_5 (AT.sub (by decide)) ⟨by decide, by decide⟩ (Nat.le_of_ble_eq_true rfl) ⟨by decide, by decide⟩ rfl dX11_open_23 (fun r_10 H_10 locs_10 p_10 hT_10 hk_10 hS_10 => ?_)
        refine lv_astore_n (lv' := [(3, .ref r_10), (0, .ref a0), (1, .int x0), (2, .int x1)]) hx hb dX11_open_26 rfl hl (by decide) rfl (fun ls hl => ?_)
        refine lv_aload_n hx hb dX11_open_27 rfl (lv_at hl 0 rfl) ?_
        refine gf_X11_72 E hT_10 p_10 dX11_open_28 ?_
        refine th_topi (y := fi D 2 7 H r_10) (Eq.trans (fi_q (hk_10 _ (AT.out p_10 (by decide)))) (fi_q (hk_5 _ (AT.out p_10 (by decide))))) ?_
        refine lv_topi (fun x_11 ex_11 => ?_)
        refine lv_if_eq (tgt := 37) hx hb dX11_open_31 (by decide) (fun c_12 => ?_) (fun c_12 => ?_)
        · have f_12 : x_11.toInt = 0 := r_eq rfl (by decide) c_12
          refine lv_aload_n hx hb dX11_open_37 rfl (lv_at hl 0 rfl) ?_
          refine th_Vv (As := []) (rest := []) E hml hl.1 (z_X2_start l D cI cS τ ρ hW H_10 hT_10 r_10 p_10) lk_X11_77 yd_X2_start hT_10 p_10 rfl (by decide) hS_10 (AT.sub (by decide)) ⟨by decide, by decide⟩ (Nat.le_of_ble_eq_true rfl) ⟨by decide, by decide⟩ rfl dX11_open_38 (fun H_13 locs_13 p_13 hT_13 hk_13 hS_13 => ?_)
          refine lv_iload_n hx hb dX11_open_41 rfl (lv_at hl 3 rfl) ?_
          refine lv_if_ne (tgt := 53) hx hb dX11_open_42 (by decide) (fun c_14 => ?_) (fun c_14 => ?_)
          · have f_14 : ¬ x1.toInt = 0 := r_ne rfl (by decide) c_14
            have nz_x1 : ¬ x1 = 0 := c_14
            refine lv_aload_n hx hb dX11_open_53 rfl (lv_at hl 0 rfl) ?_
            refine lv_iconst (v := 2) hx hb dX11_open_54 (by decide) ?_
            refine pf_X11_72 E hT_13 hS_13 p_10 ⟨_, p_10, by decide⟩ dX11_open_55 (fun H_15 locs_15 hT_15 hU_15 hS_15 => ?_)
            refine lv_aload_n hx hb dX11_open_58 rfl (lv_at hl 0 rfl) ?_
            refine th_Vv (As := []) (rest := []) E hml hl.1 (z_X2_sendFirstSyn l D cI cS τ ρ hW H_15 hT_15 r_10 p_10) lk_X11_80 yd_X2_sendFirstSyn hT_15 p_10 rfl (by decide) hS_15 (AT.sub (by decide)) ⟨by decide, by decide⟩ (Nat.le_of_ble_eq_true rfl) ⟨by decide, by decide⟩ rfl dX11_open_59 (fun H_16 locs_16 p_16 hT_16 hk_16 hS_16 => ?_)
            exact J_62 H_16 locs_16 _ r_10 hT_16 hS_16 (lv_sub hl [1, 2, 3, 0] rfl) (by omega) (by omega) p_10
          · have f_14 : x1.toInt = 0 := r_eq rfl (by decide) c_14
            refine lv_aload_n hx hb dX11_open_45 rfl (lv_at hl 0 rfl) ?_
            refine lv_iconst (v := 1) hx hb dX11_open_46 (by decide) ?_
            refine pf_X11_72 E hT_13 hS_13 p_10 ⟨_, p_10, by decide⟩ dX11_open_47 (fun H_17 locs_17 hT_17 hU_17 hS_17 => ?_)
            refine lv_goto (tgt := 62) hx hb dX11_open_50 (by decide) ?_
            exact J_62 H_17 locs_17 _ r_10 hT_17 hS_17 (lv_sub hl [1, 2, 3, 0] rfl) (by omega) (by omega) p_10
        · have f_12 : ¬ x_11.toInt = 0 := r_ne rfl (by decide) c_12
          have nz_x_11 : ¬ x_11 = 0 := c_12
          refine lv_bipush (v := (-2)) hx hb dX11_open_34 (by decide) ?_
          exact th_iret E hr hlk hs hT_10 hS_10 trivial dX11_open_36
      · have f_8 : 1 < x1.toInt := r_nle rfl (by decide) c_8
        refine lv_iconst (v := (-1)) hx hb dX11_open_16 (by decide) ?_
        exact th_iret E hr hlk hs hT_5 hS_5 trivial dX11_open_17
set_option maxHeartbeats 4000000 in
set_option maxRecDepth 100000 in
/-- StreamEnds.pass: it ends, and the heap stays typed -/
theorem z_X11_pass (l : Launch) (D : va_G) (cI cS : ClassId) (τ : Nat → Option Nat) (ρ : Nat → Nat → Nat) (hW : WF τ ρ) (H : Heap) (hT : TH D cI cS τ ρ H) (a0 : Nat) (x0 : Int32) (ha0 : τ a0 = some 11) : MI l D cI cS τ ρ yX11_pass cX11_pass 3 (some .int) 7 157 H [.ref a0, .int x0] (fun (r : Int32) (u : Heap) => True) (AT τ [0, 2, 5, 7, 8, 10, 104, 108]) := by
  refine MI.of (by decide) (Nat.le_of_ble_eq_true rfl) ?_
  intro p e s m args below meth c E hml hr hlk hs ls hl
  have hx := E.1
  have hb := E.2.1
  have hown := E.2.2.1
  have hts := E.2.2.2.1
  have hS : SS (AT τ [0, 2, 5, 7, 8, 10, 104, 108]) H H [] := SS.rf
  have hl : lv_has ls 3 [(0, .ref a0), (1, .int x0)] := hl
  have L_15 : ∀ (n : Nat) (H_c15 : Heap) (lc_c15 : List Loc) (ls : Array Slot) (y15_2 : Int32), TH D cI cS τ ρ H_c15 → SS (AT τ [0, 2, 5, 7, 8, 10, 104, 108]) H H_c15 lc_c15 → lv_has ls 3 [(0, .ref a0), (1, .int x0), (2, .int y15_2)] → 1 ≤ x0.toInt → x0.toInt ≤ 100 → 0 ≤ y15_2.toInt → (x0.toInt - y15_2.toInt).toNat < n → W p l e (rmO 7 157) s m args below meth c H_c15 lc_c15 0 0 (MQ below (va_Qi (fun (r : Int32) (u : Heap) => True) (Bt D cI cS τ ρ H) (AT τ [0, 2, 5, 7, 8, 10, 104, 108])) args s 0 0 (AT τ [0, 2, 5, 7, 8, 10, 104, 108])) (F0 m 15 ls []) := by
    intro n
    induction n with
    | zero => intro H_c15 lc_c15 ls y15_2 hT_c15 hS_c15 hl ly15_1 uy15_1 ly15_2 hm; exact absurd hm (Nat.not_lt_zero _)
    | succ n ih_15 =>
      intro H_c15 lc_c15 ls y15_2 hT_c15 hS_c15 hl ly15_1 uy15_1 ly15_2 hm_15
      refine lv_iload_n hx hb dX11_pass_15 rfl (lv_at hl 2 rfl) ?_
      refine lv_iload_n hx hb dX11_pass_16 rfl (lv_at hl 1 rfl) ?_
      refine lv_icmp_ge (tgt := 33) hx hb dX11_pass_17 (by decide) (fun c_1 => ?_) (fun c_1 => ?_)
      · have f_1 : x0.toInt ≤ y15_2.toInt := r_le rfl rfl c_1
        refine lv_aload_n hx hb dX11_pass_33 rfl (lv_at hl 0 rfl) ?_
        refine gf_X11_26 E hT_c15 hW ha0 dX11_pass_34 (fun h_2 => ?_)
        refine gf_X11_174 E hT_c15 hW h_2 dX11_pass_37 (fun h_3 => ?_)
        refine gf_X11_178 E hT_c15 h_3 dX11_pass_40 ?_
        refine lv_topi (fun x_4 ex_4 => ?_)
        exact th_iret E hr hlk hs hT_c15 hS_c15 trivial dX11_pass_43
      · have f_1 : y15_2.toInt < x0.toInt := r_nle rfl rfl c_1
        refine lv_aload_n hx hb dX11_pass_20 rfl (lv_at hl 0 rfl) ?_
        refine gf_X11_26 E hT_c15 hW ha0 dX11_pass_21 (fun h_5 => ?_)
        refine th_Vv (As := []) (rest := []) E hml hl.1 (z_X4_tick l D cI cS τ ρ hW H_c15 hT_c15 (ρ a0 2) h_5) lk_X11_171 yd_X4_tick hT_c15 h_5 rfl (by decide) hS_c15 (AT.sub (by decide)) ⟨by decide, by decide⟩ (Nat.le_of_ble_eq_true rfl) ⟨by decide, by decide⟩ rfl dX11_pass_24 (fun H_6 locs_6 p_6 hT_6 hk_6 hS_6 => ?_)
        obtain ⟨x_7, ex_7⟩ : ∃ y : Int32, y15_2 + 1 = y := ⟨_, rfl⟩
        have q_x_7 : x_7.toInt = y15_2.toInt + 1 := i_add (k := 1) (by decide) ex_7 (by have := i_min y15_2; omega) (by have := i_max y15_2; omega)
        refine lv_iinc (v := x_7) (lv' := [(2, .int x_7), (0, .ref a0), (1, .int x0)]) hx hb dX11_pass_27 hl (k := 2) rfl (by rw [← ex_7]; rfl) (by decide) rfl (fun ls hl => ?_)
        refine lv_goto (tgt := 15) hx hb dX11_pass_30 (by decide) ?_
        exact ih_15 H_6 locs_6 _ x_7 hT_6 hS_6 (lv_sub hl [1, 2, 0] rfl) (by omega) (by omega) (by omega) (by omega)
  refine lv_iload_n hx hb dX11_pass_0 rfl (lv_at hl 1 rfl) ?_
  refine lv_iconst (v := 1) hx hb dX11_pass_1 (by decide) ?_
  refine lv_icmp_lt (tgt := 11) hx hb dX11_pass_2 (by decide) (fun c_8 => ?_) (fun c_8 => ?_)
  · have f_8 : x0.toInt < 1 := r_lt rfl (by decide) c_8
    refine lv_iconst (v := (-1)) hx hb dX11_pass_11 (by decide) ?_
    exact th_iret E hr hlk hs hT hS trivial dX11_pass_12
  · have f_8 : 1 ≤ x0.toInt := r_nlt rfl (by decide) c_8
    refine lv_iload_n hx hb dX11_pass_5 rfl (lv_at hl 1 rfl) ?_
    refine lv_bipush (v := 100) hx hb dX11_pass_6 (by decide) ?_
    refine lv_icmp_le (tgt := 13) hx hb dX11_pass_8 (by decide) (fun c_9 => ?_) (fun c_9 => ?_)
    · have f_9 : x0.toInt ≤ 100 := r_le rfl (by decide) c_9
      refine lv_iconst (v := 0) hx hb dX11_pass_13 (by decide) ?_
      refine lv_istore_n (lv' := [(2, .int 0), (0, .ref a0), (1, .int x0)]) hx hb dX11_pass_14 rfl hl (by decide) rfl (fun ls hl => ?_)
      exact L_15 _ H [] _ 0 hT hS (lv_sub hl [1, 2, 0] rfl) (by omega) (by omega) (by decide) (Nat.lt_succ_self _)
    · have f_9 : 100 < x0.toInt := r_nle rfl (by decide) c_9
      refine lv_iconst (v := (-1)) hx hb dX11_pass_11 (by decide) ?_
      exact th_iret E hr hlk hs hT hS trivial dX11_pass_12
set_option maxHeartbeats 4000000 in
set_option maxRecDepth 100000 in
/-- StreamEnds.quit: it ends, and the heap stays typed -/
theorem z_X11_quit (l : Launch) (D : va_G) (cI cS : ClassId) (τ : Nat → Option Nat) (ρ : Nat → Nat → Nat) (hW : WF τ ρ) (H : Heap) (hT : TH D cI cS τ ρ H) (a0 : Nat) (x0 : Int32) (ha0 : τ a0 = some 11) : MI l D cI cS τ ρ yX11_quit cX11_quit 4 (some .int) 2 44 H [.ref a0, .int x0] (fun (r : Int32) (u : Heap) => True) (AT τ [2, 8, 10]) := by
  refine MI.of (by decide) (Nat.le_of_ble_eq_true rfl) ?_
  intro p e s m args below meth c E hml hr hlk hs ls hl
  have hx := E.1
  have hb := E.2.1
  have hown := E.2.2.1
  have hts := E.2.2.2.1
  have hS : SS (AT τ [2, 8, 10]) H H [] := SS.rf
  have hl : lv_has ls 4 [(0, .ref a0), (1, .int x0)] := hl
  have J_70 : ∀ (H_c70 : Heap) (lc_c70 : List Loc) (ls : Array Slot) (y70_2 : Nat) (y70_3 : Int32), TH D cI cS τ ρ H_c70 → SS (AT τ [2, 8, 10]) H H_c70 lc_c70 → lv_has ls 4 [(0, .ref a0), (1, .int x0), (2, .ref y70_2), (3, .int y70_3)] → τ y70_2 = some 2 → W p l e (rmO 2 44) s m args below meth c H_c70 lc_c70 0 0 (MQ below (va_Qi (fun (r : Int32) (u : Heap) => True) (Bt D cI cS τ ρ H) (AT τ [2, 8, 10])) args s 0 0 (AT τ [2, 8, 10])) (F0 m 70 ls []) := by
    intro H_c70 lc_c70 ls y70_2 y70_3 hT_c70 hS_c70 hl ty70_2
    refine lv_aload_n hx hb dX11_quit_70 rfl (lv_at hl 2 rfl) ?_
    refine th_Vv (As := []) (rest := []) E hml hl.1 (z_X2_close l D cI cS τ ρ hW H_c70 hT_c70 y70_2 ty70_2) lk_X11_120 yd_X2_close hT_c70 ty70_2 rfl (by decide) hS_c70 (AT.sub (by decide)) ⟨by decide, by decide⟩ (Nat.le_of_ble_eq_true rfl) ⟨by decide, by decide⟩ rfl dX11_quit_71 (fun H_1 locs_1 p_1 hT_1 hk_1 hS_1 => ?_)
    refine lv_iload_n hx hb dX11_quit_74 rfl (lv_at hl 3 rfl) ?_
    exact th_iret E hr hlk hs hT_1 hS_1 trivial dX11_quit_75
  have J_48 : ∀ (H_c48 : Heap) (lc_c48 : List Loc) (ls : Array Slot) (y48_2 : Nat) (y48_3 : Int32), TH D cI cS τ ρ H_c48 → SS (AT τ [2, 8, 10]) H H_c48 lc_c48 → lv_has ls 4 [(0, .ref a0), (1, .int x0), (2, .ref y48_2), (3, .int y48_3)] → τ y48_2 = some 2 → W p l e (rmO 2 44) s m args below meth c H_c48 lc_c48 0 0 (MQ below (va_Qi (fun (r : Int32) (u : Heap) => True) (Bt D cI cS τ ρ H) (AT τ [2, 8, 10])) args s 0 0 (AT τ [2, 8, 10])) (F0 m 48 ls []) := by
    intro H_c48 lc_c48 ls y48_2 y48_3 hT_c48 hS_c48 hl ty48_2
    refine lv_aload_n hx hb dX11_quit_48 rfl (lv_at hl 2 rfl) ?_
    refine lv_aload_n hx hb dX11_quit_49 rfl (lv_at hl 0 rfl) ?_
    refine gf_X11_26 E hT_c48 hW ha0 dX11_quit_50 (fun h_2 => ?_)
    refine gf_X11_130 E hT_c48 hW h_2 dX11_quit_53 (fun h_3 => ?_)
    refine lv_iload_n hx hb dX11_quit_56 rfl (lv_at hl 1 rfl) ?_
    refine lv_aload_n hx hb dX11_quit_57 rfl (lv_at hl 2 rfl) ?_
    refine gf_X11_98 E hT_c48 hW ty48_2 dX11_quit_58 (fun h_4 => ?_)
    refine gf_X11_133 E hT_c48 h_4 dX11_quit_61 ?_
    refine lv_topi (fun x_5 ex_5 => ?_)
    refine th_Vi (As := [.int x0, .int x_5]) (rest := [.ref y48_2]) E hml hl.1 (z_X1_number l D cI cS τ ρ hW H_c48 hT_c48 (ρ (ρ a0 2) 0) x0 x_5 h_3) lk_X11_136 yd_X1_number hT_c48 h_3 rfl (by decide) hS_c48 (AT.sub (by decide)) ⟨by decide, by decide⟩ (Nat.le_of_ble_eq_true rfl) ⟨by decide, by decide⟩ rfl dX11_quit_64 (fun r_6 H_6 locs_6 p_6 hT_6 hk_6 hS_6 => ?_)
    refine th_Vv (As := [.int r_6]) (rest := []) E hml hl.1 (z_X2_sendReset l D cI cS τ ρ hW H_6 hT_6 y48_2 r_6 ty48_2) lk_X11_140 yd_X2_sendReset hT_6 ty48_2 rfl (by decide) hS_6 (AT.sub (by decide)) ⟨by decide, by decide⟩ (Nat.le_of_ble_eq_true rfl) ⟨by decide, by decide⟩ rfl dX11_quit_67 (fun H_7 locs_7 p_7 hT_7 hk_7 hS_7 => ?_)
    exact J_70 H_7 locs_7 _ y48_2 y48_3 hT_7 hS_7 hl ty48_2
  refine lv_iload_n hx hb dX11_quit_0 rfl (lv_at hl 1 rfl) ?_
  refine th_Si (As := [.int x0]) (rest := []) E hml hl.1 (z_X11_isEnd l D cI cS τ ρ hW H hT x0) lk_X11_65 yd_X11_isEnd hS (AT.sub (by decide)) ⟨by decide, by decide⟩ (Nat.le_of_ble_eq_true rfl) ⟨by decide, by decide⟩ rfl dX11_quit_1 (fun r_8 H_8 locs_8 p_8 hT_8 hk_8 hS_8 => ?_)
  have z_8 := b_iv p_8
  refine lv_if_ne (tgt := 9) hx hb dX11_quit_4 (by decide) (fun c_9 => ?_) (fun c_9 => ?_)
  · have f_9 : ¬ r_8.toInt = 0 := r_ne rfl (by decide) c_9
    have nz_r_8 : ¬ r_8 = 0 := c_9
    refine lv_aload_n hx hb dX11_quit_9 rfl (lv_at hl 0 rfl) ?_
    refine gf_X11_26 E hT_8 hW ha0 dX11_quit_10 (fun h_10 => ?_)
    refine lv_iload_n hx hb dX11_quit_13 rfl (lv_at hl 1 rfl) ?_
    refine th_Vr (As := [.int x0]) (rest := []) E hml hl.1 (z_X4_endpoint l D cI cS τ ρ hW H_8 hT_8 (ρ a0 2) x0 h_10) lk_X11_68 yd_X4_endpoint hT_8 h_10 rfl (by decide) hS_8 (AT.sub (by decide)) ⟨by decide, by decide⟩ (Nat.le_of_ble_eq_true rfl) ⟨by decide, by decide⟩ rfl dX11_quit_14 (fun r_11 H_11 locs_11 p_11 hT_11 hk_11 hS_11 => ?_)
    refine lv_astore_n (lv' := [(2, .ref r_11), (0, .ref a0), (1, .int x0)]) hx hb dX11_quit_17 rfl hl (by decide) rfl (fun ls hl => ?_)
    refine lv_aload_n hx hb dX11_quit_18 rfl (lv_at hl 0 rfl) ?_
    refine gf_X11_72 E hT_11 p_11 dX11_quit_19 ?_
    refine th_topi (y := fi D 2 7 H r_11) (Eq.trans (fi_q (hk_11 _ (AT.out p_11 (by decide)))) (fi_q (hk_8 _ (AT.out p_11 (by decide))))) ?_
    refine lv_topi (fun x_12 ex_12 => ?_)
    refine lv_istore_n (lv' := [(3, .int x_12), (2, .ref r_11), (0, .ref a0), (1, .int x0)]) hx hb dX11_quit_22 rfl hl (by decide) rfl (fun ls hl => ?_)
    refine lv_iload_n hx hb dX11_quit_23 rfl (lv_at hl 0 rfl) ?_
    refine lv_if_ne (tgt := 30) hx hb dX11_quit_24 (by decide) (fun c_13 => ?_) (fun c_13 => ?_)
    · have f_13 : ¬ x_12.toInt = 0 := r_ne rfl (by decide) c_13
      have nz_x_12 : ¬ x_12 = 0 := c_13
      refine lv_iload_n hx hb dX11_quit_30 rfl (lv_at hl 0 rfl) ?_
      refine lv_iconst (v := 3) hx hb dX11_quit_31 (by decide) ?_
      refine lv_icmp_eq (tgt := 48) hx hb dX11_quit_32 (by decide) (fun c_14 => ?_) (fun c_14 => ?_)
      · have f_14 : x_12.toInt = 3 := r_eq rfl (by decide) c_14
        exact J_48 H_11 locs_11 _ r_11 x_12 hT_11 hS_11 (lv_sub hl [2, 3, 1, 0] rfl) p_11
      · have f_14 : ¬ x_12.toInt = 3 := r_ne rfl (by decide) c_14
        refine lv_iload_n hx hb dX11_quit_35 rfl (lv_at hl 0 rfl) ?_
        refine lv_bipush (v := 7) hx hb dX11_quit_36 (by decide) ?_
        refine lv_icmp_eq (tgt := 48) hx hb dX11_quit_38 (by decide) (fun c_15 => ?_) (fun c_15 => ?_)
        · have f_15 : x_12.toInt = 7 := r_eq rfl (by decide) c_15
          exact J_48 H_11 locs_11 _ r_11 x_12 hT_11 hS_11 (lv_sub hl [2, 3, 1, 0] rfl) p_11
        · have f_15 : ¬ x_12.toInt = 7 := r_ne rfl (by decide) c_15
          refine lv_aload_n hx hb dX11_quit_41 rfl (lv_at hl 1 rfl) ?_
          refine th_Vi (As := []) (rest := []) E hml hl.1 (z_X2_isReceiving l D cI cS τ ρ hW H_11 hT_11 r_11 p_11) lk_X11_127 yd_X2_isReceiving hT_11 p_11 rfl (by decide) hS_11 (AT.sub (by decide)) ⟨by decide, by decide⟩ (Nat.le_of_ble_eq_true rfl) ⟨by decide, by decide⟩ rfl dX11_quit_42 (fun r_16 H_16 locs_16 p_16 hT_16 hk_16 hS_16 => ?_)
          have z_16 := b_iv p_16
          refine lv_if_eq (tgt := 70) hx hb dX11_quit_45 (by decide) (fun c_17 => ?_) (fun c_17 => ?_)
          · have f_17 : r_16.toInt = 0 := r_eq rfl (by decide) c_17
            exact J_70 H_16 locs_16 _ r_11 x_12 hT_16 hS_16 (lv_sub hl [2, 3, 1, 0] rfl) p_11
          · have f_17 : ¬ r_16.toInt = 0 := r_ne rfl (by decide) c_17
            have nz_r_16 : ¬ r_16 = 0 := c_17
            exact J_48 H_16 locs_16 _ r_11 x_12 hT_16 hS_16 (lv_sub hl [2, 3, 1, 0] rfl) p_11
    · have f_13 : x_12.toInt = 0 := r_eq rfl (by decide) c_13
      refine lv_bipush (v := (-2)) hx hb dX11_quit_27 (by decide) ?_
      exact th_iret E hr hlk hs hT_11 hS_11 trivial dX11_quit_29
  · have f_9 : r_8.toInt = 0 := r_eq rfl (by decide) c_9
    refine lv_iconst (v := (-1)) hx hb dX11_quit_7 (by decide) ?_
    exact th_iret E hr hlk hs hT_8 hS_8 trivial dX11_quit_8
set_option maxHeartbeats 4000000 in
set_option maxRecDepth 100000 in
/-- StreamEnds.sample: it ends, and the heap stays typed -/
theorem z_X11_sample (l : Launch) (D : va_G) (cI cS : ClassId) (τ : Nat → Option Nat) (ρ : Nat → Nat → Nat) (hW : WF τ ρ) (H : Heap) (hT : TH D cI cS τ ρ H) (a0 : Nat) (x0 : Int32) (x1 : Int32) (ha0 : τ a0 = some 11) : MI l D cI cS τ ρ yX11_sample cX11_sample 3 (some .int) 1 21 H [.ref a0, .int x0, .int x1] (fun (r : Int32) (u : Heap) => True) (AT τ []) := by
  refine MI.of (by decide) (Nat.le_of_ble_eq_true rfl) ?_
  intro p e s m args below meth c E hml hr hlk hs ls hl
  have hx := E.1
  have hb := E.2.1
  have hown := E.2.2.1
  have hts := E.2.2.2.1
  have hS : SS (AT τ []) H H [] := SS.rf
  have hl : lv_has ls 3 [(0, .ref a0), (1, .int x0), (2, .int x1)] := hl
  refine lv_iload_n hx hb dX11_sample_0 rfl (lv_at hl 1 rfl) ?_
  refine th_Si (As := [.int x0]) (rest := []) E hml hl.1 (z_X11_isEnd l D cI cS τ ρ hW H hT x0) lk_X11_65 yd_X11_isEnd hS (AT.sub (by decide)) ⟨by decide, by decide⟩ (Nat.le_of_ble_eq_true rfl) ⟨by decide, by decide⟩ rfl dX11_sample_1 (fun r_1 H_1 locs_1 p_1 hT_1 hk_1 hS_1 => ?_)
  have z_1 := b_iv p_1
  refine lv_if_eq (tgt := 11) hx hb dX11_sample_4 (by decide) (fun c_2 => ?_) (fun c_2 => ?_)
  · have f_2 : r_1.toInt = 0 := r_eq rfl (by decide) c_2
    refine lv_iconst (v := (-1)) hx hb dX11_sample_11 (by decide) ?_
    exact th_iret E hr hlk hs hT_1 hS_1 trivial dX11_sample_12
  · have f_2 : ¬ r_1.toInt = 0 := r_ne rfl (by decide) c_2
    have nz_r_1 : ¬ r_1 = 0 := c_2
    refine lv_iload_n hx hb dX11_sample_7 rfl (lv_at hl 2 rfl) ?_
    refine lv_if_ge (tgt := 13) hx hb dX11_sample_8 (by decide) (fun c_3 => ?_) (fun c_3 => ?_)
    · have f_3 : 0 ≤ x1.toInt := r_le (by decide) rfl c_3
      refine lv_aload_n hx hb dX11_sample_13 rfl (lv_at hl 0 rfl) ?_
      refine gf_X11_26 E hT_1 hW ha0 dX11_sample_14 (fun h_4 => ?_)
      refine lv_iload_n hx hb dX11_sample_17 rfl (lv_at hl 1 rfl) ?_
      refine th_Vr (As := [.int x0]) (rest := []) E hml hl.1 (z_X4_endpoint l D cI cS τ ρ hW H_1 hT_1 (ρ a0 2) x0 h_4) lk_X11_68 yd_X4_endpoint hT_1 h_4 rfl (by decide) hS_1 (AT.sub (by decide)) ⟨by decide, by decide⟩ (Nat.le_of_ble_eq_true rfl) ⟨by decide, by decide⟩ rfl dX11_sample_18 (fun r_5 H_5 locs_5 p_5 hT_5 hk_5 hS_5 => ?_)
      refine gf_X11_208 E hT_5 hW p_5 dX11_sample_21 (fun h_6 => ?_)
      refine lv_iload_n hx hb dX11_sample_24 rfl (lv_at hl 2 rfl) ?_
      refine th_Vi (As := [.int x1]) (rest := []) E hml hl.1 (z_X7_roundTrip l D cI cS τ ρ hW H_5 hT_5 (ρ r_5 6) x1 h_6) lk_X11_212 yd_X7_roundTrip hT_5 h_6 rfl (by decide) hS_5 (AT.sub (by decide)) ⟨by decide, by decide⟩ (Nat.le_of_ble_eq_true rfl) ⟨by decide, by decide⟩ rfl dX11_sample_25 (fun r_7 H_7 locs_7 p_7 hT_7 hk_7 hS_7 => ?_)
      exact th_iret E hr hlk hs hT_7 hS_7 trivial dX11_sample_28
    · have f_3 : x1.toInt < 0 := r_nle (by decide) rfl c_3
      refine lv_iconst (v := (-1)) hx hb dX11_sample_11 (by decide) ?_
      exact th_iret E hr hlk hs hT_1 hS_1 trivial dX11_sample_12
set_option maxHeartbeats 4000000 in
set_option maxRecDepth 100000 in
/-- StreamEnds.say: it ends, and the heap stays typed -/
theorem z_X11_say (l : Launch) (D : va_G) (cI cS : ClassId) (τ : Nat → Option Nat) (ρ : Nat → Nat → Nat) (hW : WF τ ρ) (H : Heap) (hT : TH D cI cS τ ρ H) (a0 : Nat) (x0 : Int32) (x1 : Int32) (ha0 : τ a0 = some 11) : MI l D cI cS τ ρ yX11_say cX11_say 4 (some .int) 4 99 H [.ref a0, .int x0, .int x1] (fun (r : Int32) (u : Heap) => True) (AT τ [2, 5, 7, 8, 10, 104, 108, 164]) := by
  refine MI.of (by decide) (Nat.le_of_ble_eq_true rfl) ?_
  intro p e s m args below meth c E hml hr hlk hs ls hl
  have hx := E.1
  have hb := E.2.1
  have hown := E.2.2.1
  have hts := E.2.2.2.1
  have hS : SS (AT τ [2, 5, 7, 8, 10, 104, 108, 164]) H H [] := SS.rf
  have hl : lv_has ls 4 [(0, .ref a0), (1, .int x0), (2, .int x1)] := hl
  refine lv_iload_n hx hb dX11_say_0 rfl (lv_at hl 1 rfl) ?_
  refine th_Si (As := [.int x0]) (rest := []) E hml hl.1 (z_X11_isEnd l D cI cS τ ρ hW H hT x0) lk_X11_65 yd_X11_isEnd hS (AT.sub (by decide)) ⟨by decide, by decide⟩ (Nat.le_of_ble_eq_true rfl) ⟨by decide, by decide⟩ rfl dX11_say_1 (fun r_1 H_1 locs_1 p_1 hT_1 hk_1 hS_1 => ?_)
  have z_1 := b_iv p_1
  refine lv_if_eq (tgt := 18) hx hb dX11_say_4 (by decide) (fun c_2 => ?_) (fun c_2 => ?_)
  · have f_2 : r_1.toInt = 0 := r_eq rfl (by decide) c_2
    refine lv_iconst (v := (-1)) hx hb dX11_say_18 (by decide) ?_
    exact th_iret E hr hlk hs hT_1 hS_1 trivial dX11_say_19
  · have f_2 : ¬ r_1.toInt = 0 := r_ne rfl (by decide) c_2
    have nz_r_1 : ¬ r_1 = 0 := c_2
    refine lv_iload_n hx hb dX11_say_7 rfl (lv_at hl 2 rfl) ?_
    refine lv_if_lt (tgt := 18) hx hb dX11_say_8 (by decide) (fun c_3 => ?_) (fun c_3 => ?_)
    · have f_3 : x1.toInt < 0 := r_lt rfl (by decide) c_3
      refine lv_iconst (v := (-1)) hx hb dX11_say_18 (by decide) ?_
      exact th_iret E hr hlk hs hT_1 hS_1 trivial dX11_say_19
    · have f_3 : 0 ≤ x1.toInt := r_nlt rfl (by decide) c_3
      refine lv_iload_n hx hb dX11_say_11 rfl (lv_at hl 2 rfl) ?_
      refine lv_sipush (v := 255) hx hb dX11_say_12 (by decide) ?_
      refine lv_icmp_le (tgt := 20) hx hb dX11_say_15 (by decide) (fun c_4 => ?_) (fun c_4 => ?_)
      · have f_4 : x1.toInt ≤ 255 := r_le rfl (by decide) c_4
        refine lv_aload_n hx hb dX11_say_20 rfl (lv_at hl 0 rfl) ?_
        refine gf_X11_26 E hT_1 hW ha0 dX11_say_21 (fun h_5 => ?_)
        refine lv_iload_n hx hb dX11_say_24 rfl (lv_at hl 1 rfl) ?_
        refine th_Vr (As := [.int x0]) (rest := []) E hml hl.1 (z_X4_endpoint l D cI cS τ ρ hW H_1 hT_1 (ρ a0 2) x0 h_5) lk_X11_68 yd_X4_endpoint hT_1 h_5 rfl (by decide) hS_1 (AT.sub (by decide)) ⟨by decide, by decide⟩ (Nat.le_of_ble_eq_true rfl) ⟨by decide, by decide⟩ rfl dX11_say_25 (fun r_6 H_6 locs_6 p_6 hT_6 hk_6 hS_6 => ?_)
        refine lv_astore_n (lv' := [(3, .ref r_6), (0, .ref a0), (1, .int x0), (2, .int x1)]) hx hb dX11_say_28 rfl hl (by decide) rfl (fun ls hl => ?_)
        refine lv_aload_n hx hb dX11_say_29 rfl (lv_at hl 0 rfl) ?_
        refine th_Vi (As := []) (rest := []) E hml hl.1 (z_X2_maySay l D cI cS τ ρ hW H_6 hT_6 r_6 p_6) lk_X11_95 yd_X2_maySay hT_6 p_6 rfl (by decide) hS_6 (AT.sub (by decide)) ⟨by decide, by decide⟩ (Nat.le_of_ble_eq_true rfl) ⟨by decide, by decide⟩ rfl dX11_say_30 (fun r_7 H_7 locs_7 p_7 hT_7 hk_7 hS_7 => ?_)
        have z_7 := b_iv p_7
        refine lv_if_ne (tgt := 39) hx hb dX11_say_33 (by decide) (fun c_8 => ?_) (fun c_8 => ?_)
        · have f_8 : ¬ r_7.toInt = 0 := r_ne rfl (by decide) c_8
          have nz_r_7 : ¬ r_7 = 0 := c_8
          refine lv_aload_n hx hb dX11_say_39 rfl (lv_at hl 0 rfl) ?_
          refine gf_X11_98 E hT_7 hW p_6 dX11_say_40 (fun h_9 => ?_)
          refine th_Vi (As := []) (rest := []) E hml hl.1 (z_X5_pending l D cI cS τ ρ hW H_7 hT_7 (ρ r_6 4) h_9) lk_X11_102 yd_X5_pending hT_7 h_9 rfl (by decide) hS_7 (AT.sub (by decide)) ⟨by decide, by decide⟩ (Nat.le_of_ble_eq_true rfl) ⟨by decide, by decide⟩ rfl dX11_say_43 (fun r_10 H_10 locs_10 p_10 hT_10 hk_10 hS_10 => ?_)
          refine lv_bipush (v := 32) hx hb dX11_say_46 (by decide) ?_
          refine lv_icmp_lt (tgt := 54) hx hb dX11_say_48 (by decide) (fun c_11 => ?_) (fun c_11 => ?_)
          · have f_11 : r_10.toInt < 32 := r_lt rfl (by decide) c_11
            refine lv_aload_n hx hb dX11_say_54 rfl (lv_at hl 0 rfl) ?_
            refine gf_X11_98 E hT_10 hW p_6 dX11_say_55 (fun h_12 => ?_)
            refine lv_iload_n hx hb dX11_say_58 rfl (lv_at hl 3 rfl) ?_
            refine th_Vv (As := [.int x1]) (rest := []) E hml hl.1 (z_X5_append l D cI cS τ ρ hW H_10 hT_10 (ρ r_6 4) x1 h_12) lk_X11_108 yd_X5_append hT_10 h_12 rfl (by decide) hS_10 (AT.sub (by decide)) ⟨by decide, by decide⟩ (Nat.le_of_ble_eq_true rfl) ⟨by decide, by decide⟩ rfl dX11_say_59 (fun H_13 locs_13 p_13 hT_13 hk_13 hS_13 => ?_)
            refine lv_aload_n hx hb dX11_say_62 rfl (lv_at hl 0 rfl) ?_
            refine th_Vv (As := []) (rest := []) E hml hl.1 (z_X2_transmit l D cI cS τ ρ hW H_13 hT_13 r_6 p_6) lk_X11_111 yd_X2_transmit hT_13 p_6 rfl (by decide) hS_13 (AT.sub (by decide)) ⟨by decide, by decide⟩ (Nat.le_of_ble_eq_true rfl) ⟨by decide, by decide⟩ rfl dX11_say_63 (fun H_14 locs_14 p_14 hT_14 hk_14 hS_14 => ?_)
            refine lv_aload_n hx hb dX11_say_66 rfl (lv_at hl 0 rfl) ?_
            refine th_Vv (As := []) (rest := []) E hml hl.1 (z_X2_adjustTimer l D cI cS τ ρ hW H_14 hT_14 r_6 p_6) lk_X11_83 yd_X2_adjustTimer hT_14 p_6 rfl (by decide) hS_14 (AT.sub (by decide)) ⟨by decide, by decide⟩ (Nat.le_of_ble_eq_true rfl) ⟨by decide, by decide⟩ rfl dX11_say_67 (fun H_15 locs_15 p_15 hT_15 hk_15 hS_15 => ?_)
            refine lv_aload_n hx hb dX11_say_70 rfl (lv_at hl 0 rfl) ?_
            refine gf_X11_98 E hT_15 hW p_6 dX11_say_71 (fun h_16 => ?_)
            refine th_Vi (As := []) (rest := []) E hml hl.1 (z_X5_pending l D cI cS τ ρ hW H_15 hT_15 (ρ r_6 4) h_16) lk_X11_102 yd_X5_pending hT_15 h_16 rfl (by decide) hS_15 (AT.sub (by decide)) ⟨by decide, by decide⟩ (Nat.le_of_ble_eq_true rfl) ⟨by decide, by decide⟩ rfl dX11_say_74 (fun r_17 H_17 locs_17 p_17 hT_17 hk_17 hS_17 => ?_)
            exact th_iret E hr hlk hs hT_17 hS_17 trivial dX11_say_77
          · have f_11 : 32 ≤ r_10.toInt := r_nlt rfl (by decide) c_11
            refine lv_bipush (v := (-3)) hx hb dX11_say_51 (by decide) ?_
            exact th_iret E hr hlk hs hT_10 hS_10 trivial dX11_say_53
        · have f_8 : r_7.toInt = 0 := r_eq rfl (by decide) c_8
          refine lv_bipush (v := (-2)) hx hb dX11_say_36 (by decide) ?_
          exact th_iret E hr hlk hs hT_7 hS_7 trivial dX11_say_38
      · have f_4 : 255 < x1.toInt := r_nle rfl (by decide) c_4
        refine lv_iconst (v := (-1)) hx hb dX11_say_18 (by decide) ?_
        exact th_iret E hr hlk hs hT_1 hS_1 trivial dX11_say_19
set_option maxHeartbeats 4000000 in
set_option maxRecDepth 100000 in
/-- StreamEnds.span: it ends, and the heap stays typed -/
theorem z_X11_span (l : Launch) (D : va_G) (cI cS : ClassId) (τ : Nat → Option Nat) (ρ : Nat → Nat → Nat) (hW : WF τ ρ) (H : Heap) (hT : TH D cI cS τ ρ H) (a0 : Nat) (x0 : Int32) (x1 : Int32) (x2 : Int32) (ha0 : τ a0 = some 11) : MI l D cI cS τ ρ yX11_span cX11_span 8 (some .int) 1 22 H [.ref a0, .int x0, .int x1, .int x2] (fun (r : Int32) (u : Heap) => True) (AT τ []) := by
  refine MI.of (by decide) (Nat.le_of_ble_eq_true rfl) ?_
  intro p e s m args below meth c E hml hr hlk hs ls hl
  have hx := E.1
  have hb := E.2.1
  have hown := E.2.2.1
  have hts := E.2.2.2.1
  have hS : SS (AT τ []) H H [] := SS.rf
  have hl : lv_has ls 8 [(0, .ref a0), (1, .int x0), (2, .int x1), (3, .int x2)] := hl
  have J_112 : ∀ (H_c112 : Heap) (lc_c112 : List Loc) (ls : Array Slot) (y112_4 : Nat) (y112_5 : Int32) (y112_6 : Int32), TH D cI cS τ ρ H_c112 → SS (AT τ []) H H_c112 lc_c112 → lv_has ls 8 [(0, .ref a0), (1, .int x0), (2, .int x1), (3, .int x2), (4, .ref y112_4), (5, .int y112_5), (6, .int y112_6)] → -1 ≤ x1.toInt → 0 ≤ x2.toInt → x2.toInt ≤ 1 → τ y112_4 = some 3 → 0 ≤ y112_5.toInt → W p l e (rmO 1 22) s m args below meth c H_c112 lc_c112 0 0 (MQ below (va_Qi (fun (r : Int32) (u : Heap) => True) (Bt D cI cS τ ρ H) (AT τ [])) args s 0 0 (AT τ [])) (F0 m 112 ls []) := by
    intro H_c112 lc_c112 ls y112_4 y112_5 y112_6 hT_c112 hS_c112 hl ly112_2 ly112_3 uy112_3 ty112_4 ly112_5
    refine lv_iload_n hx hb dX11_span_112 rfl (lv_at hl 2 rfl) ?_
    refine lv_iconst (v := (-1)) hx hb dX11_span_113 (by decide) ?_
    refine lv_icmp_ne (tgt := 122) hx hb dX11_span_114 (by decide) (fun c_1 => ?_) (fun c_1 => ?_)
    · have f_1 : ¬ x1.toInt = -1 := r_ne rfl (by decide) c_1
      refine lv_bipush (v := (-4)) hx hb dX11_span_122 (by decide) ?_
      exact th_iret E hr hlk hs hT_c112 hS_c112 trivial dX11_span_124
    · have f_1 : x1.toInt = -1 := r_eq rfl (by decide) c_1
      refine lv_iload hx hb dX11_span_117 (lv_at hl 5 rfl) ?_
      refine lv_goto (tgt := 124) hx hb dX11_span_119 (by decide) ?_
      exact th_iret E hr hlk hs hT_c112 hS_c112 trivial dX11_span_124
  have L_53 : ∀ (n : Nat) (H_c53 : Heap) (lc_c53 : List Loc) (ls : Array Slot) (y53_4 : Nat) (y53_5 : Int32) (y53_6 : Int32), TH D cI cS τ ρ H_c53 → SS (AT τ []) H H_c53 lc_c53 → lv_has ls 8 [(0, .ref a0), (1, .int x0), (2, .int x1), (3, .int x2), (4, .ref y53_4), (5, .int y53_5), (6, .int y53_6)] → -1 ≤ x1.toInt → 0 ≤ x2.toInt → x2.toInt ≤ 1 → τ y53_4 = some 3 → 0 ≤ y53_5.toInt → (64 - y53_5.toInt).toNat < n → W p l e (rmO 1 22) s m args below meth c H_c53 lc_c53 0 0 (MQ below (va_Qi (fun (r : Int32) (u : Heap) => True) (Bt D cI cS τ ρ H) (AT τ [])) args s 0 0 (AT τ [])) (F0 m 53 ls []) := by
    intro n
    induction n with
    | zero => intro H_c53 lc_c53 ls y53_4 y53_5 y53_6 hT_c53 hS_c53 hl ly53_2 ly53_3 uy53_3 ty53_4 ly53_5 hm; exact absurd hm (Nat.not_lt_zero _)
    | succ n ih_53 =>
      intro H_c53 lc_c53 ls y53_4 y53_5 y53_6 hT_c53 hS_c53 hl ly53_2 ly53_3 uy53_3 ty53_4 ly53_5 hm_53
      refine lv_iload hx hb dX11_span_53 (lv_at hl 6 rfl) ?_
      refine lv_aload hx hb dX11_span_55 (lv_at hl 4 rfl) ?_
      refine gf_X11_223 E hT_c53 ty53_4 dX11_span_57 ?_
      refine lv_topi (fun x_2 ex_2 => ?_)
      refine lv_icmp_ge (tgt := 112) hx hb dX11_span_60 (by decide) (fun c_3 => ?_) (fun c_3 => ?_)
      · have f_3 : x_2.toInt ≤ y53_6.toInt := r_le rfl rfl c_3
        exact J_112 H_c53 lc_c53 _ y53_4 y53_5 y53_6 hT_c53 hS_c53 hl (by omega) (by omega) (by omega) ty53_4 (by omega)
      · have f_3 : y53_6.toInt < x_2.toInt := r_nle rfl rfl c_3
        refine lv_iload hx hb dX11_span_63 (lv_at hl 5 rfl) ?_
        refine lv_bipush (v := 64) hx hb dX11_span_65 (by decide) ?_
        refine lv_icmp_ge (tgt := 112) hx hb dX11_span_67 (by decide) (fun c_4 => ?_) (fun c_4 => ?_)
        · have f_4 : 64 ≤ y53_5.toInt := r_le (by decide) rfl c_4
          exact J_112 H_c53 lc_c53 _ y53_4 y53_5 y53_6 hT_c53 hS_c53 hl (by omega) (by omega) (by omega) ty53_4 (by omega)
        · have f_4 : y53_5.toInt < 64 := r_nle (by decide) rfl c_4
          refine lv_aload hx hb dX11_span_70 (lv_at hl 4 rfl) ?_
          refine lv_iload hx hb dX11_span_72 (lv_at hl 6 rfl) ?_
          refine th_Vi (As := [.int y53_6]) (rest := []) E hml hl.1 (z_X3_nextGap l D cI cS τ ρ hW H_c53 hT_c53 y53_4 y53_6 ty53_4) lk_X11_226 yd_X3_nextGap hT_c53 ty53_4 rfl (by decide) hS_c53 (AT.sub (by decide)) ⟨by decide, by decide⟩ (Nat.le_of_ble_eq_true rfl) ⟨by decide, by decide⟩ rfl dX11_span_74 (fun r_5 H_5 locs_5 p_5 hT_5 hk_5 hS_5 => ?_)
          refine lv_istore (lv' := [(7, .int r_5), (0, .ref a0), (1, .int x0), (2, .int x1), (3, .int x2), (4, .ref y53_4), (5, .int y53_5), (6, .int y53_6)]) hx hb dX11_span_77 hl (by decide) rfl (fun ls hl => ?_)
          refine lv_iload hx hb dX11_span_79 (lv_at hl 6 rfl) ?_
          refine lv_iload_n hx hb dX11_span_81 rfl (lv_at hl 3 rfl) ?_
          refine lv_icmp_ne (tgt := 97) hx hb dX11_span_82 (by decide) (fun c_6 => ?_) (fun c_6 => ?_)
          · have f_6 : ¬ y53_5.toInt = x1.toInt := r_ne rfl rfl c_6
            obtain ⟨x_7, ex_7⟩ : ∃ y : Int32, y53_5 + 1 = y := ⟨_, rfl⟩
            have q_x_7 : x_7.toInt = y53_5.toInt + 1 := i_add (k := 1) (by decide) ex_7 (by have := i_min y53_5; omega) (by have := i_max y53_5; omega)
            refine lv_iinc (v := x_7) (lv' := [(5, .int x_7), (7, .int r_5), (0, .ref a0), (1, .int x0), (2, .int x1), (3, .int x2), (4, .ref y53_4), (6, .int y53_6)]) hx hb dX11_span_97 hl (k := 6) rfl (by rw [← ex_7]; rfl) (by decide) rfl (fun ls hl => ?_)
            refine lv_aload hx hb dX11_span_100 (lv_at hl 6 rfl) ?_
            refine lv_iload hx hb dX11_span_102 (lv_at hl 1 rfl) ?_
            refine th_Vi (As := [.int r_5]) (rest := []) E hml hl.1 (z_X3_nextHeld l D cI cS τ ρ hW H_5 hT_5 y53_4 r_5 ty53_4) lk_X11_220 yd_X3_nextHeld hT_5 ty53_4 rfl (by decide) hS_5 (AT.sub (by decide)) ⟨by decide, by decide⟩ (Nat.le_of_ble_eq_true rfl) ⟨by decide, by decide⟩ rfl dX11_span_104 (fun r_8 H_8 locs_8 p_8 hT_8 hk_8 hS_8 => ?_)
            refine lv_istore (lv' := [(6, .int r_8), (5, .int x_7), (7, .int r_5), (0, .ref a0), (1, .int x0), (2, .int x1), (3, .int x2), (4, .ref y53_4)]) hx hb dX11_span_107 hl (by decide) rfl (fun ls hl => ?_)
            refine lv_goto (tgt := 53) hx hb dX11_span_109 (by decide) ?_
            exact ih_53 H_8 locs_8 _ y53_4 x_7 r_8 hT_8 hS_8 (lv_sub hl [3, 4, 5, 6, 7, 1, 0] rfl) (by omega) (by omega) (by omega) ty53_4 (by omega) (by omega)
          · have f_6 : y53_5.toInt = x1.toInt := r_eq rfl rfl c_6
            refine lv_iload_n hx hb dX11_span_85 rfl (lv_at hl 4 rfl) ?_
            refine lv_if_ne (tgt := 94) hx hb dX11_span_86 (by decide) (fun c_9 => ?_) (fun c_9 => ?_)
            · have f_9 : ¬ x2.toInt = 0 := r_ne rfl (by decide) c_9
              have nz_x2 : ¬ x2 = 0 := c_9
              refine lv_iload hx hb dX11_span_94 (lv_at hl 0 rfl) ?_
              exact th_iret E hr hlk hs hT_5 hS_5 trivial dX11_span_96
            · have f_9 : x2.toInt = 0 := r_eq rfl (by decide) c_9
              refine lv_iload hx hb dX11_span_89 (lv_at hl 7 rfl) ?_
              refine lv_goto (tgt := 96) hx hb dX11_span_91 (by decide) ?_
              exact th_iret E hr hlk hs hT_5 hS_5 trivial dX11_span_96
  refine lv_iload_n hx hb dX11_span_0 rfl (lv_at hl 1 rfl) ?_
  refine th_Si (As := [.int x0]) (rest := []) E hml hl.1 (z_X11_isEnd l D cI cS τ ρ hW H hT x0) lk_X11_65 yd_X11_isEnd hS (AT.sub (by decide)) ⟨by decide, by decide⟩ (Nat.le_of_ble_eq_true rfl) ⟨by decide, by decide⟩ rfl dX11_span_1 (fun r_10 H_10 locs_10 p_10 hT_10 hk_10 hS_10 => ?_)
  have z_10 := b_iv p_10
  refine lv_if_eq (tgt := 21) hx hb dX11_span_4 (by decide) (fun c_11 => ?_) (fun c_11 => ?_)
  · have f_11 : r_10.toInt = 0 := r_eq rfl (by decide) c_11
    refine lv_iconst (v := (-1)) hx hb dX11_span_21 (by decide) ?_
    exact th_iret E hr hlk hs hT_10 hS_10 trivial dX11_span_22
  · have f_11 : ¬ r_10.toInt = 0 := r_ne rfl (by decide) c_11
    have nz_r_10 : ¬ r_10 = 0 := c_11
    refine lv_iload_n hx hb dX11_span_7 rfl (lv_at hl 2 rfl) ?_
    refine lv_iconst (v := (-1)) hx hb dX11_span_8 (by decide) ?_
    refine lv_icmp_lt (tgt := 21) hx hb dX11_span_9 (by decide) (fun c_12 => ?_) (fun c_12 => ?_)
    · have f_12 : x1.toInt < -1 := r_lt rfl (by decide) c_12
      refine lv_iconst (v := (-1)) hx hb dX11_span_21 (by decide) ?_
      exact th_iret E hr hlk hs hT_10 hS_10 trivial dX11_span_22
    · have f_12 : -1 ≤ x1.toInt := r_nlt rfl (by decide) c_12
      refine lv_iload_n hx hb dX11_span_12 rfl (lv_at hl 3 rfl) ?_
      refine lv_if_lt (tgt := 21) hx hb dX11_span_13 (by decide) (fun c_13 => ?_) (fun c_13 => ?_)
      · have f_13 : x2.toInt < 0 := r_lt rfl (by decide) c_13
        refine lv_iconst (v := (-1)) hx hb dX11_span_21 (by decide) ?_
        exact th_iret E hr hlk hs hT_10 hS_10 trivial dX11_span_22
      · have f_13 : 0 ≤ x2.toInt := r_nlt rfl (by decide) c_13
        refine lv_iload_n hx hb dX11_span_16 rfl (lv_at hl 3 rfl) ?_
        refine lv_iconst (v := 1) hx hb dX11_span_17 (by decide) ?_
        refine lv_icmp_le (tgt := 23) hx hb dX11_span_18 (by decide) (fun c_14 => ?_) (fun c_14 => ?_)
        · have f_14 : x2.toInt ≤ 1 := r_le rfl (by decide) c_14
          refine lv_aload_n hx hb dX11_span_23 rfl (lv_at hl 0 rfl) ?_
          refine gf_X11_26 E hT_10 hW ha0 dX11_span_24 (fun h_15 => ?_)
          refine lv_iload_n hx hb dX11_span_27 rfl (lv_at hl 1 rfl) ?_
          refine th_Vr (As := [.int x0]) (rest := []) E hml hl.1 (z_X4_endpoint l D cI cS τ ρ hW H_10 hT_10 (ρ a0 2) x0 h_15) lk_X11_68 yd_X4_endpoint hT_10 h_15 rfl (by decide) hS_10 (AT.sub (by decide)) ⟨by decide, by decide⟩ (Nat.le_of_ble_eq_true rfl) ⟨by decide, by decide⟩ rfl dX11_span_28 (fun r_16 H_16 locs_16 p_16 hT_16 hk_16 hS_16 => ?_)
          refine gf_X11_143 E hT_16 hW p_16 dX11_span_31 (fun h_17 => ?_)
          refine lv_astore (lv' := [(4, .ref (ρ r_16 5)), (0, .ref a0), (1, .int x0), (2, .int x1), (3, .int x2)]) hx hb dX11_span_34 hl (by decide) rfl (fun ls hl => ?_)
          refine lv_iconst (v := 0) hx hb dX11_span_36 (by decide) ?_
          refine lv_istore (lv' := [(5, .int 0), (4, .ref (ρ r_16 5)), (0, .ref a0), (1, .int x0), (2, .int x1), (3, .int x2)]) hx hb dX11_span_37 hl (by decide) rfl (fun ls hl => ?_)
          refine lv_aload hx hb dX11_span_39 (lv_at hl 1 rfl) ?_
          refine lv_aload hx hb dX11_span_41 (lv_at hl 1 rfl) ?_
          refine gf_X11_217 E hT_16 h_17 dX11_span_43 ?_
          refine th_topi (y := fi D 3 0 H (ρ r_16 5)) (Eq.trans (fi_q (hk_16 _ (AT.out h_17 (by decide)))) (fi_q (hk_10 _ (AT.out h_17 (by decide))))) ?_
          refine lv_topi (fun x_18 ex_18 => ?_)
          refine lv_iconst (v := 1) hx hb dX11_span_46 (by decide) ?_
          refine lv_iadd hx hb dX11_span_47 ?_
          refine lv_topi (fun x_19 ex_19 => ?_)
          refine th_Vi (As := [.int x_19]) (rest := []) E hml hl.1 (z_X3_nextHeld l D cI cS τ ρ hW H_16 hT_16 (ρ r_16 5) x_19 h_17) lk_X11_220 yd_X3_nextHeld hT_16 h_17 rfl (by decide) hS_16 (AT.sub (by decide)) ⟨by decide, by decide⟩ (Nat.le_of_ble_eq_true rfl) ⟨by decide, by decide⟩ rfl dX11_span_48 (fun r_20 H_20 locs_20 p_20 hT_20 hk_20 hS_20 => ?_)
          refine lv_istore (lv' := [(6, .int r_20), (5, .int 0), (4, .ref (ρ r_16 5)), (0, .ref a0), (1, .int x0), (2, .int x1), (3, .int x2)]) hx hb dX11_span_51 hl (by decide) rfl (fun ls hl => ?_)
          exact L_53 _ H_20 locs_20 _ (ρ r_16 5) 0 r_20 hT_20 hS_20 (lv_sub hl [3, 4, 5, 6, 2, 1, 0] rfl) (by omega) (by omega) (by omega) h_17 (by decide) (Nat.lt_succ_self _)
        · have f_14 : 1 < x2.toInt := r_nle rfl (by decide) c_14
          refine lv_iconst (v := (-1)) hx hb dX11_span_21 (by decide) ?_
          exact th_iret E hr hlk hs hT_10 hS_10 trivial dX11_span_22
set_option maxHeartbeats 4000000 in
set_option maxRecDepth 100000 in
/-- StreamEnds.take: it ends, and the heap stays typed -/
theorem z_X11_take (l : Launch) (D : va_G) (cI cS : ClassId) (τ : Nat → Option Nat) (ρ : Nat → Nat → Nat) (hW : WF τ ρ) (H : Heap) (hT : TH D cI cS τ ρ H) (a0 : Nat) (x0 : Int32) (ha0 : τ a0 = some 11) : MI l D cI cS τ ρ yX11_take cX11_take 4 (some .int) 4 91 H [.ref a0, .int x0] (fun (r : Int32) (u : Heap) => True) (AT τ [2, 3, 8, 10, 104]) := by
  refine MI.of (by decide) (Nat.le_of_ble_eq_true rfl) ?_
  intro p e s m args below meth c E hml hr hlk hs ls hl
  have hx := E.1
  have hb := E.2.1
  have hown := E.2.2.1
  have hts := E.2.2.2.1
  have hS : SS (AT τ [2, 3, 8, 10, 104]) H H [] := SS.rf
  have hl : lv_has ls 4 [(0, .ref a0), (1, .int x0)] := hl
  refine lv_iload_n hx hb dX11_take_0 rfl (lv_at hl 1 rfl) ?_
  refine th_Si (As := [.int x0]) (rest := []) E hml hl.1 (z_X11_isEnd l D cI cS τ ρ hW H hT x0) lk_X11_65 yd_X11_isEnd hS (AT.sub (by decide)) ⟨by decide, by decide⟩ (Nat.le_of_ble_eq_true rfl) ⟨by decide, by decide⟩ rfl dX11_take_1 (fun r_1 H_1 locs_1 p_1 hT_1 hk_1 hS_1 => ?_)
  have z_1 := b_iv p_1
  refine lv_if_ne (tgt := 9) hx hb dX11_take_4 (by decide) (fun c_2 => ?_) (fun c_2 => ?_)
  · have f_2 : ¬ r_1.toInt = 0 := r_ne rfl (by decide) c_2
    have nz_r_1 : ¬ r_1 = 0 := c_2
    refine lv_aload_n hx hb dX11_take_9 rfl (lv_at hl 0 rfl) ?_
    refine gf_X11_26 E hT_1 hW ha0 dX11_take_10 (fun h_3 => ?_)
    refine lv_iload_n hx hb dX11_take_13 rfl (lv_at hl 1 rfl) ?_
    refine th_Vr (As := [.int x0]) (rest := []) E hml hl.1 (z_X4_endpoint l D cI cS τ ρ hW H_1 hT_1 (ρ a0 2) x0 h_3) lk_X11_68 yd_X4_endpoint hT_1 h_3 rfl (by decide) hS_1 (AT.sub (by decide)) ⟨by decide, by decide⟩ (Nat.le_of_ble_eq_true rfl) ⟨by decide, by decide⟩ rfl dX11_take_14 (fun r_4 H_4 locs_4 p_4 hT_4 hk_4 hS_4 => ?_)
    refine lv_astore_n (lv' := [(2, .ref r_4), (0, .ref a0), (1, .int x0)]) hx hb dX11_take_17 rfl hl (by decide) rfl (fun ls hl => ?_)
    refine lv_aload_n hx hb dX11_take_18 rfl (lv_at hl 0 rfl) ?_
    refine gf_X11_143 E hT_4 hW p_4 dX11_take_19 (fun h_5 => ?_)
    refine th_Vi (As := []) (rest := []) E hml hl.1 (z_X3_consumable l D cI cS τ ρ hW H_4 hT_4 (ρ r_4 5) h_5) lk_X11_147 yd_X3_consumable hT_4 h_5 rfl (by decide) hS_4 (AT.sub (by decide)) ⟨by decide, by decide⟩ (Nat.le_of_ble_eq_true rfl) ⟨by decide, by decide⟩ rfl dX11_take_22 (fun r_6 H_6 locs_6 p_6 hT_6 hk_6 hS_6 => ?_)
    refine lv_if_ne (tgt := 31) hx hb dX11_take_25 (by decide) (fun c_7 => ?_) (fun c_7 => ?_)
    · have f_7 : ¬ r_6.toInt = 0 := r_ne rfl (by decide) c_7
      have nz_r_6 : ¬ r_6 = 0 := c_7
      refine lv_aload_n hx hb dX11_take_31 rfl (lv_at hl 0 rfl) ?_
      refine gf_X11_143 E hT_6 hW p_4 dX11_take_32 (fun h_8 => ?_)
      refine th_Vi (As := []) (rest := []) E hml hl.1 (z_X3_consume l D cI cS τ ρ hW H_6 hT_6 (ρ r_4 5) h_8) lk_X11_152 yd_X3_consume hT_6 h_8 rfl (by decide) hS_6 (AT.sub (by decide)) ⟨by decide, by decide⟩ (Nat.le_of_ble_eq_true rfl) ⟨by decide, by decide⟩ rfl dX11_take_35 (fun r_9 H_9 locs_9 p_9 hT_9 hk_9 hS_9 => ?_)
      refine lv_istore_n (lv' := [(3, .int r_9), (2, .ref r_4), (0, .ref a0), (1, .int x0)]) hx hb dX11_take_38 rfl hl (by decide) rfl (fun ls hl => ?_)
      refine lv_aload_n hx hb dX11_take_39 rfl (lv_at hl 1 rfl) ?_
      refine th_Vv (As := []) (rest := []) E hml hl.1 (z_X2_widenWindow l D cI cS τ ρ hW H_9 hT_9 r_4 p_4) lk_X11_155 yd_X2_widenWindow hT_9 p_4 rfl (by decide) hS_9 (AT.sub (by decide)) ⟨by decide, by decide⟩ (Nat.le_of_ble_eq_true rfl) ⟨by decide, by decide⟩ rfl dX11_take_40 (fun H_10 locs_10 p_10 hT_10 hk_10 hS_10 => ?_)
      refine lv_aload_n hx hb dX11_take_43 rfl (lv_at hl 1 rfl) ?_
      refine th_Vv (As := []) (rest := []) E hml hl.1 (z_X2_adjustTimer l D cI cS τ ρ hW H_10 hT_10 r_4 p_4) lk_X11_83 yd_X2_adjustTimer hT_10 p_4 rfl (by decide) hS_10 (AT.sub (by decide)) ⟨by decide, by decide⟩ (Nat.le_of_ble_eq_true rfl) ⟨by decide, by decide⟩ rfl dX11_take_44 (fun H_11 locs_11 p_11 hT_11 hk_11 hS_11 => ?_)
      refine lv_iload_n hx hb dX11_take_47 rfl (lv_at hl 0 rfl) ?_
      exact th_iret E hr hlk hs hT_11 hS_11 trivial dX11_take_48
    · have f_7 : r_6.toInt = 0 := r_eq rfl (by decide) c_7
      refine lv_bipush (v := (-4)) hx hb dX11_take_28 (by decide) ?_
      exact th_iret E hr hlk hs hT_6 hS_6 trivial dX11_take_30
  · have f_2 : r_1.toInt = 0 := r_eq rfl (by decide) c_2
    refine lv_iconst (v := (-1)) hx hb dX11_take_7 (by decide) ?_
    exact th_iret E hr hlk hs hT_1 hS_1 trivial dX11_take_8
set_option maxHeartbeats 4000000 in
set_option maxRecDepth 100000 in
/-- StreamEnds.twice: it ends, and the heap stays typed -/
theorem z_X11_twice (l : Launch) (D : va_G) (cI cS : ClassId) (τ : Nat → Option Nat) (ρ : Nat → Nat → Nat) (hW : WF τ ρ) (H : Heap) (hT : TH D cI cS τ ρ H) (a0 : Nat) (x0 : Int32) (ha0 : τ a0 = some 11) : MI l D cI cS τ ρ yX11_twice cX11_twice 2 (some .int) 3 82 H [.ref a0, .int x0] (fun (r : Int32) (u : Heap) => True) (AT τ [8, 10, 104, 108]) := by
  refine MI.of (by decide) (Nat.le_of_ble_eq_true rfl) ?_
  intro p e s m args below meth c E hml hr hlk hs ls hl
  have hx := E.1
  have hb := E.2.1
  have hown := E.2.2.1
  have hts := E.2.2.2.1
  have hS : SS (AT τ [8, 10, 104, 108]) H H [] := SS.rf
  have hl : lv_has ls 2 [(0, .ref a0), (1, .int x0)] := hl
  refine lv_aload_n hx hb dX11_twice_0 rfl (lv_at hl 0 rfl) ?_
  refine gf_X11_26 E hT hW ha0 dX11_twice_1 (fun h_1 => ?_)
  refine gf_X11_86 E hT hW h_1 dX11_twice_4 (fun h_2 => ?_)
  refine lv_iload_n hx hb dX11_twice_7 rfl (lv_at hl 1 rfl) ?_
  refine th_Vi (As := [.int x0]) (rest := []) E hml hl.1 (z_X10_has l D cI cS τ ρ hW H hT (ρ (ρ a0 2) 1) x0 h_2) lk_X11_158 yd_X10_has hT h_2 rfl (by decide) hS (AT.sub (by decide)) ⟨by decide, by decide⟩ (Nat.le_of_ble_eq_true rfl) ⟨by decide, by decide⟩ rfl dX11_twice_8 (fun r_3 H_3 locs_3 p_3 hT_3 hk_3 hS_3 => ?_)
  have z_3 := b_iv p_3.1
  refine lv_if_ne (tgt := 16) hx hb dX11_twice_11 (by decide) (fun c_4 => ?_) (fun c_4 => ?_)
  · have f_4 : ¬ r_3.toInt = 0 := r_ne rfl (by decide) c_4
    have nz_r_3 : ¬ r_3 = 0 := c_4
    have w_4 := p_3.2 (p_3.1.resolve_left c_4)
    refine lv_aload_n hx hb dX11_twice_16 rfl (lv_at hl 0 rfl) ?_
    refine gf_X11_26 E hT_3 hW ha0 dX11_twice_17 (fun h_5 => ?_)
    refine gf_X11_86 E hT_3 hW h_5 dX11_twice_20 (fun h_6 => ?_)
    refine lv_iload_n hx hb dX11_twice_23 rfl (lv_at hl 1 rfl) ?_
    refine th_Vi (As := [.int x0]) (rest := []) E hml hl.1 (z_X10_duplicate l D cI cS τ ρ hW H_3 hT_3 (ρ (ρ a0 2) 1) x0 h_6) lk_X11_168 yd_X10_duplicate hT_3 h_6 rfl (by decide) hS_3 (AT.sub (by decide)) ⟨by decide, by decide⟩ (Nat.le_of_ble_eq_true rfl) ⟨by decide, by decide⟩ rfl dX11_twice_24 (fun r_7 H_7 locs_7 p_7 hT_7 hk_7 hS_7 => ?_)
    have z_7 := b_iv p_7
    refine lv_if_eq (tgt := 43) hx hb dX11_twice_27 (by decide) (fun c_8 => ?_) (fun c_8 => ?_)
    · have f_8 : r_7.toInt = 0 := r_eq rfl (by decide) c_8
      refine lv_bipush (v := (-3)) hx hb dX11_twice_43 (by decide) ?_
      exact th_iret E hr hlk hs hT_7 hS_7 trivial dX11_twice_45
    · have f_8 : ¬ r_7.toInt = 0 := r_ne rfl (by decide) c_8
      have nz_r_7 : ¬ r_7 = 0 := c_8
      refine lv_aload_n hx hb dX11_twice_30 rfl (lv_at hl 0 rfl) ?_
      refine gf_X11_26 E hT_7 hW ha0 dX11_twice_31 (fun h_9 => ?_)
      refine gf_X11_86 E hT_7 hW h_9 dX11_twice_34 (fun h_10 => ?_)
      refine gf_X11_90 E hT_7 h_10 dX11_twice_37 ?_
      refine lv_topi (fun x_11 ex_11 => ?_)
      refine lv_goto (tgt := 45) hx hb dX11_twice_40 (by decide) ?_
      exact th_iret E hr hlk hs hT_7 hS_7 trivial dX11_twice_45
  · have f_4 : r_3.toInt = 0 := r_eq rfl (by decide) c_4
    refine lv_iconst (v := (-1)) hx hb dX11_twice_14 (by decide) ?_
    exact th_iret E hr hlk hs hT_3 hS_3 trivial dX11_twice_15
set_option maxHeartbeats 4000000 in
set_option maxRecDepth 100000 in
/-- StreamEnds.wipe: it ends, and the heap stays typed -/
theorem z_X11_wipe (l : Launch) (D : va_G) (cI cS : ClassId) (τ : Nat → Option Nat) (ρ : Nat → Nat → Nat) (hW : WF τ ρ) (H : Heap) (hT : TH D cI cS τ ρ H) (a0 : Nat) (ha0 : τ a0 = some 11) : MI l D cI cS τ ρ yX11_wipe cX11_wipe 2 (some .int) 0 0 H [.ref a0] (fun (r : Int32) (u : Heap) => True) (AT τ [9]) := by
  refine MI.of (by decide) (Nat.le_of_ble_eq_true rfl) ?_
  intro p e s m args below meth c E hml hr hlk hs ls hl
  have hx := E.1
  have hb := E.2.1
  have hown := E.2.2.1
  have hts := E.2.2.2.1
  have hS : SS (AT τ [9]) H H [] := SS.rf
  have hl : lv_has ls 2 [(0, .ref a0)] := hl
  refine lv_aload_n hx hb dX11_wipe_0 rfl (lv_at hl 0 rfl) ?_
  refine gf_X11_10 E hT hW ha0 dX11_wipe_1 (fun h_1 => ?_)
  refine gf_X11_51 E hT h_1 dX11_wipe_4 ?_
  refine lv_topi (fun x_2 ex_2 => ?_)
  refine lv_istore_n (lv' := [(1, .int x_2), (0, .ref a0)]) hx hb dX11_wipe_7 rfl hl (by decide) rfl (fun ls hl => ?_)
  refine lv_aload_n hx hb dX11_wipe_8 rfl (lv_at hl 1 rfl) ?_
  refine gf_X11_10 E hT hW ha0 dX11_wipe_9 (fun h_3 => ?_)
  refine lv_iconst (v := 0) hx hb dX11_wipe_12 (by decide) ?_
  refine pf_X11_51 E hT hS h_3 ⟨_, h_3, by decide⟩ dX11_wipe_13 (fun H_4 locs_4 hT_4 hU_4 hS_4 => ?_)
  refine lv_iload_n hx hb dX11_wipe_16 rfl (lv_at hl 0 rfl) ?_
  exact th_iret E hr hlk hs hT_4 hS_4 trivial dX11_wipe_17
set_option maxHeartbeats 4000000 in
set_option maxRecDepth 100000 in
/-- StreamEnds.write: it ends, and the heap stays typed -/
theorem z_X11_write (l : Launch) (D : va_G) (cI cS : ClassId) (τ : Nat → Option Nat) (ρ : Nat → Nat → Nat) (hW : WF τ ρ) (H : Heap) (hT : TH D cI cS τ ρ H) (a0 : Nat) (x0 : Int32) (ha0 : τ a0 = some 11) : MI l D cI cS τ ρ yX11_write cX11_write 2 (some .int) 1 21 H [.ref a0, .int x0] (fun (r : Int32) (u : Heap) => True) (AT τ [9, 300]) := by
  refine MI.of (by decide) (Nat.le_of_ble_eq_true rfl) ?_
  intro p e s m args below meth c E hml hr hlk hs ls hl
  have hx := E.1
  have hb := E.2.1
  have hown := E.2.2.1
  have hts := E.2.2.2.1
  have hS : SS (AT τ [9, 300]) H H [] := SS.rf
  have hl : lv_has ls 2 [(0, .ref a0), (1, .int x0)] := hl
  refine lv_iload_n hx hb dX11_write_0 rfl (lv_at hl 1 rfl) ?_
  refine lv_bipush (v := 32) hx hb dX11_write_1 (by decide) ?_
  refine lv_icmp_lt (tgt := 12) hx hb dX11_write_3 (by decide) (fun c_1 => ?_) (fun c_1 => ?_)
  · have f_1 : x0.toInt < 32 := r_lt rfl (by decide) c_1
    refine lv_iconst (v := (-1)) hx hb dX11_write_12 (by decide) ?_
    exact th_iret E hr hlk hs hT hS trivial dX11_write_13
  · have f_1 : 32 ≤ x0.toInt := r_nlt rfl (by decide) c_1
    refine lv_iload_n hx hb dX11_write_6 rfl (lv_at hl 1 rfl) ?_
    refine lv_bipush (v := 126) hx hb dX11_write_7 (by decide) ?_
    refine lv_icmp_le (tgt := 14) hx hb dX11_write_9 (by decide) (fun c_2 => ?_) (fun c_2 => ?_)
    · have f_2 : x0.toInt ≤ 126 := r_le rfl (by decide) c_2
      refine lv_aload_n hx hb dX11_write_14 rfl (lv_at hl 0 rfl) ?_
      refine gf_X11_10 E hT hW ha0 dX11_write_15 (fun h_3 => ?_)
      refine lv_iload_n hx hb dX11_write_18 rfl (lv_at hl 1 rfl) ?_
      refine th_Vi (As := [.int x0]) (rest := []) E hml hl.1 (z_X9_append l D cI cS τ ρ hW H hT (ρ a0 0) x0 h_3) lk_X11_47 yd_X9_append hT h_3 rfl (by decide) hS (AT.sub (by decide)) ⟨by decide, by decide⟩ (Nat.le_of_ble_eq_true rfl) ⟨by decide, by decide⟩ rfl dX11_write_19 (fun r_4 H_4 locs_4 p_4 hT_4 hk_4 hS_4 => ?_)
      have z_4 := b_iv p_4
      refine lv_if_eq (tgt := 35) hx hb dX11_write_22 (by decide) (fun c_5 => ?_) (fun c_5 => ?_)
      · have f_5 : r_4.toInt = 0 := r_eq rfl (by decide) c_5
        refine lv_bipush (v := (-3)) hx hb dX11_write_35 (by decide) ?_
        exact th_iret E hr hlk hs hT_4 hS_4 trivial dX11_write_37
      · have f_5 : ¬ r_4.toInt = 0 := r_ne rfl (by decide) c_5
        have nz_r_4 : ¬ r_4 = 0 := c_5
        refine lv_aload_n hx hb dX11_write_25 rfl (lv_at hl 0 rfl) ?_
        refine gf_X11_10 E hT_4 hW ha0 dX11_write_26 (fun h_6 => ?_)
        refine gf_X11_51 E hT_4 h_6 dX11_write_29 ?_
        refine lv_topi (fun x_7 ex_7 => ?_)
        refine lv_goto (tgt := 37) hx hb dX11_write_32 (by decide) ?_
        exact th_iret E hr hlk hs hT_4 hS_4 trivial dX11_write_37
    · have f_2 : 126 < x0.toInt := r_nle rfl (by decide) c_2
      refine lv_iconst (v := (-1)) hx hb dX11_write_12 (by decide) ?_
      exact th_iret E hr hlk hs hT hS trivial dX11_write_13
