/-! THE REFERENCE: weak contracts (written by wip/gen) -/
set_option maxHeartbeats 4000000 in
set_option maxRecDepth 100000 in
/-- the reference: isLetter -/
theorem y_isLetter (l : Launch) (D : va_G) (cI cS : ClassId) (τ : Nat → Option Nat) (ρ : Nat → Nat → Nat) (hW : WF τ ρ) (H : Heap) (hT : TH D cI cS τ ρ H) (a0 : Nat) (x0 : Int32) (ha0 : τ a0 = some 12) (N : Int) (hN0 : 0 ≤ N) (hN1 : N ≤ 600) (hI : IM D ρ N H a0) : MI l D cI cS τ ρ yX12_isLetter cX12_isLetter 2 (some .boolean) 1 25 H [.ref a0, .int x0] (fun (r : Int32) (u : Heap) => (H = u) ∧ (r = 0 ∨ r = 1) ∧ (r.toInt = 1 → (0 ≤ x0.toInt ∧ x0.toInt + 1 ≤ (ai H (ρ a0 0) 976).toInt ∧ x0.toInt ≤ 19))) (fun q => False) := by
  refine MI.of (by decide) (Nat.le_of_ble_eq_true rfl) ?_
  intro p e s m args below meth c E hml hr hlk hs ls hl
  have hx := E.1
  have hb := E.2.1
  have hown := E.2.2.1
  have hts := E.2.2.2.1
  have hS : SS (fun q => False) H H [] := SS.rf
  have hl : lv_has ls 2 [(0, .ref a0), (1, .int x0)] := hl
  have n01 := hI.2.2.2.2.2.1
  have n23 := hI.2.2.2.2.2.2.1
  refine lv_iload_n hx hb dX12_isLetter_0 rfl (lv_at hl 1 rfl) ?_
  obtain ⟨x_1, ex_1⟩ : ∃ y : Int64, x0.toInt64 = y := ⟨_, rfl⟩
  refine lv_i2l (v := x_1) hx hb dX12_isLetter_1 ex_1 ?_
  have q_1 : x_1.toInt = x0.toInt := by rw [← ex_1]; exact Int32.toInt_toInt64 _
  refine lv_lconst (v := 0) hx hb dX12_isLetter_2 (by decide) ?_
  refine lv_aload_n hx hb dX12_isLetter_3 rfl (lv_at hl 0 rfl) ?_
  refine gf_X12_7 E hT hW ha0 dX12_isLetter_4 (fun h_2 => ?_)
  refine lv_sipush (v := 976) hx hb dX12_isLetter_7 (by decide) ?_
  refine th_iald E hT h_2 (by decide) (vp_in_iff.mpr ⟨by decide, by decide⟩) dX12_isLetter_10 ?_
  refine th_topi (y := ai H (ρ a0 0) 976) rfl ?_
  refine lv_topi (fun x_3 ex_3 => ?_)
  have b_x_3 : 0 ≤ x_3.toInt ∧ x_3.toInt ≤ 20 := by rw [← ex_3.symm]; exact hI.1 976 (by decide)
  have c_x_3 := congrArg Int32.toInt ex_3.symm
  refine lv_iconst (v := 1) hx hb dX12_isLetter_11 (by decide) ?_
  refine lv_isub hx hb dX12_isLetter_12 ?_
  refine lv_topi (fun x_4 ex_4 => ?_)
  have q_4 : x_4.toInt = x_3.toInt - 1 := i_mi rfl (by decide) ex_4 (by omega) (by omega)
  obtain ⟨x_5, ex_5⟩ : ∃ y : Int64, x_4.toInt64 = y := ⟨_, rfl⟩
  refine lv_i2l (v := x_5) hx hb dX12_isLetter_13 ex_5 ?_
  have q_5 : x_5.toInt = x_4.toInt := by rw [← ex_5]; exact Int32.toInt_toInt64 _
  refine th_Si (As := [.long x_1, .long 0, .long x_5]) (rest := []) E hml hl.1 (y_in_v10 l D cI cS τ ρ hW H hT x_1 x_5) lk_X12_54 yd_X12_in hS (fun _ h => h.elim) ⟨by decide, by decide⟩ (Nat.le_of_ble_eq_true rfl) ⟨by decide, by decide⟩ rfl dX12_isLetter_14 (fun r_6 H_6 locs_6 p_6 hT_6 hk_6 hS_6 => ?_)
  have p_6 : H = H_6 ∧ (r_6 = 0 ∨ r_6 = 1) ∧ ((r_6.toInt = 1 ∧ 0 ≤ x_1.toInt ∧ x_1.toInt ≤ x_5.toInt) ∨ (r_6.toInt = 0 ∧ (x_1.toInt < 0 ∨ x_5.toInt < x_1.toInt))) := p_6
  obtain ⟨rfl, p_6_0, p_6_1⟩ := p_6
  have z_6 := b_iv p_6_0
  exact th_zret E hr hlk hs p_6_0 hT_6 hS_6 ⟨rfl, p_6_0, (by have : (ai H (ρ a0 0) 976).toInt = (x_3 : Int32).toInt := congrArg Int32.toInt ex_3.symm; omega)⟩ dX12_isLetter_17
set_option maxHeartbeats 4000000 in
set_option maxRecDepth 100000 in
/-- the reference: arrive -/
theorem y_arrive (l : Launch) (D : va_G) (cI cS : ClassId) (τ : Nat → Option Nat) (ρ : Nat → Nat → Nat) (hW : WF τ ρ) (H : Heap) (hT : TH D cI cS τ ρ H) (a0 : Nat) (x0 : Int32) (ha0 : τ a0 = some 12) (N : Int) (hN0 : 0 ≤ N) (hN1 : N ≤ 600) (hI : IM D ρ N H a0) : MI l D cI cS τ ρ yX12_arrive cX12_arrive 2 (some .int) 12 285 H [.ref a0, .int x0] (fun (r : Int32) (u : Heap) => (IM D ρ N u a0)) (fun q => q = ρ a0 3 ∨ q = ρ a0 0 ∨ q = ρ a0 2) := by
  refine MI.of (by decide) (Nat.le_of_ble_eq_true rfl) ?_
  intro p e s m args below meth c E hml hr hlk hs ls hl
  have hx := E.1
  have hb := E.2.1
  have hown := E.2.2.1
  have hts := E.2.2.2.1
  have hS : SS (fun q => q = ρ a0 3 ∨ q = ρ a0 0 ∨ q = ρ a0 2) H H [] := SS.rf
  have hl : lv_has ls 2 [(0, .ref a0), (1, .int x0)] := hl
  have n01 := hI.2.2.2.2.2.1
  have n23 := hI.2.2.2.2.2.2.1
  refine lv_aload_n hx hb dX12_arrive_0 rfl (lv_at hl 0 rfl) ?_
  refine lv_iload_n hx hb dX12_arrive_1 rfl (lv_at hl 1 rfl) ?_
  refine th_Vi (As := [.int x0]) (rest := []) E hml hl.1 (y_isLetter l D cI cS τ ρ hW H hT a0 x0 ha0 N hN0 hN1 ⟨hI.1, hI.2.1, hI.2.2.1, hI.2.2.2.1, hI.2.2.2.2.1, hI.2.2.2.2.2⟩) lk_X12_251 yd_X12_isLetter hT ha0 rfl (by decide) hS (fun _ h => h.elim) ⟨by decide, by decide⟩ (Nat.le_of_ble_eq_true rfl) ⟨by decide, by decide⟩ rfl dX12_arrive_2 (fun r_1 H_1 locs_1 p_1 hT_1 hk_1 hS_1 => ?_)
  have p_1 : H = H_1 ∧ (r_1 = 0 ∨ r_1 = 1) ∧ (r_1.toInt = 1 → (0 ≤ x0.toInt ∧ x0.toInt + 1 ≤ (ai H (ρ a0 0) 976).toInt ∧ x0.toInt ≤ 19)) := p_1
  obtain ⟨rfl, p_1_0, p_1_1⟩ := p_1
  have z_1 := b_iv p_1_0
  refine lv_if_eq (tgt := 16) hx hb dX12_arrive_5 (by decide) (fun c_2 => ?_) (fun c_2 => ?_)
  · have f_2 : r_1.toInt = 0 := r_eq rfl (by decide) c_2
    refine lv_iconst (v := (-1)) hx hb dX12_arrive_16 (by decide) ?_
    exact th_iret E hr hlk hs hT_1 hS_1 ⟨hI.1, hI.2.1, hI.2.2.1, hI.2.2.2.1, hI.2.2.2.2.1, hI.2.2.2.2.2⟩ dX12_arrive_17
  · have f_2 : ¬ r_1.toInt = 0 := r_ne rfl (by decide) c_2
    have nz_r_1 : ¬ r_1 = 0 := c_2
    refine lv_aload_n hx hb dX12_arrive_8 rfl (lv_at hl 0 rfl) ?_
    refine lv_iload_n hx hb dX12_arrive_9 rfl (lv_at hl 1 rfl) ?_
    refine th_Vi (As := [.int x0]) (rest := []) E hml hl.1 (y_arrives l D cI cS τ ρ hW H hT_1 a0 x0 ha0 N hN0 hN1 ⟨hI.1, hI.2.1, hI.2.2.1, hI.2.2.2.1, hI.2.2.2.2.1, hI.2.2.2.2.2⟩ (by omega)) lk_X12_254 yd_X12_arrives hT_1 ha0 rfl (by decide) hS_1 (fun q => (fun h => h.elim (fun h => (Or.inl h)) (fun h => h.elim (fun h => (Or.inr (Or.inl h))) (fun h => (Or.inr (Or.inr h)))))) ⟨by decide, by decide⟩ (Nat.le_of_ble_eq_true rfl) ⟨by decide, by decide⟩ rfl dX12_arrive_10 (fun r_3 H_3 locs_3 p_3 hT_3 hk_3 hS_3 => ?_)
    have p_3 : (IM D ρ N H_3 a0) ∧ ((ai H (ρ a0 0) 976).toInt - 1 ≤ (ai H_3 (ρ a0 0) 976).toInt) := p_3
    obtain ⟨p_3_0, p_3_1⟩ := p_3
    refine lv_goto (tgt := 17) hx hb dX12_arrive_13 (by decide) ?_
    exact th_iret E hr hlk hs hT_3 hS_3 ⟨p_3_0.1, p_3_0.2.1, p_3_0.2.2.1, p_3_0.2.2.2.1, p_3_0.2.2.2.2.1, p_3_0.2.2.2.2.2⟩ dX12_arrive_17
set_option maxHeartbeats 4000000 in
set_option maxRecDepth 100000 in
/-- the reference: lose -/
theorem y_lose (l : Launch) (D : va_G) (cI cS : ClassId) (τ : Nat → Option Nat) (ρ : Nat → Nat → Nat) (hW : WF τ ρ) (H : Heap) (hT : TH D cI cS τ ρ H) (a0 : Nat) (x0 : Int32) (ha0 : τ a0 = some 12) (N : Int) (hN0 : 0 ≤ N) (hN1 : N ≤ 600) (hI : IM D ρ N H a0) : MI l D cI cS τ ρ yX12_lose cX12_lose 2 (some .int) 2 46 H [.ref a0, .int x0] (fun (r : Int32) (u : Heap) => (IM D ρ N u a0)) (fun q => q = ρ a0 0) := by
  refine MI.of (by decide) (Nat.le_of_ble_eq_true rfl) ?_
  intro p e s m args below meth c E hml hr hlk hs ls hl
  have hx := E.1
  have hb := E.2.1
  have hown := E.2.2.1
  have hts := E.2.2.2.1
  have hS : SS (fun q => q = ρ a0 0) H H [] := SS.rf
  have hl : lv_has ls 2 [(0, .ref a0), (1, .int x0)] := hl
  have n01 := hI.2.2.2.2.2.1
  have n23 := hI.2.2.2.2.2.2.1
  refine lv_aload_n hx hb dX12_lose_0 rfl (lv_at hl 0 rfl) ?_
  refine lv_iload_n hx hb dX12_lose_1 rfl (lv_at hl 1 rfl) ?_
  refine th_Vi (As := [.int x0]) (rest := []) E hml hl.1 (y_isLetter l D cI cS τ ρ hW H hT a0 x0 ha0 N hN0 hN1 ⟨hI.1, hI.2.1, hI.2.2.1, hI.2.2.2.1, hI.2.2.2.2.1, hI.2.2.2.2.2⟩) lk_X12_251 yd_X12_isLetter hT ha0 rfl (by decide) hS (fun _ h => h.elim) ⟨by decide, by decide⟩ (Nat.le_of_ble_eq_true rfl) ⟨by decide, by decide⟩ rfl dX12_lose_2 (fun r_1 H_1 locs_1 p_1 hT_1 hk_1 hS_1 => ?_)
  have p_1 : H = H_1 ∧ (r_1 = 0 ∨ r_1 = 1) ∧ (r_1.toInt = 1 → (0 ≤ x0.toInt ∧ x0.toInt + 1 ≤ (ai H (ρ a0 0) 976).toInt ∧ x0.toInt ≤ 19)) := p_1
  obtain ⟨rfl, p_1_0, p_1_1⟩ := p_1
  have z_1 := b_iv p_1_0
  refine lv_if_ne (tgt := 10) hx hb dX12_lose_5 (by decide) (fun c_2 => ?_) (fun c_2 => ?_)
  · have f_2 : ¬ r_1.toInt = 0 := r_ne rfl (by decide) c_2
    have nz_r_1 : ¬ r_1 = 0 := c_2
    refine lv_aload_n hx hb dX12_lose_10 rfl (lv_at hl 0 rfl) ?_
    refine lv_iload_n hx hb dX12_lose_11 rfl (lv_at hl 1 rfl) ?_
    refine th_Vv (As := [.int x0]) (rest := []) E hml hl.1 (y_removes l D cI cS τ ρ hW H hT_1 a0 x0 ha0 N hN0 hN1 ⟨hI.1, hI.2.1, hI.2.2.1, hI.2.2.2.1, hI.2.2.2.2.1, hI.2.2.2.2.2⟩ (by omega)) lk_X12_236 yd_X12_removes hT_1 ha0 rfl (by decide) hS_1 (fun q h => h) ⟨by decide, by decide⟩ (Nat.le_of_ble_eq_true rfl) ⟨by decide, by decide⟩ rfl dX12_lose_12 (fun H_3 locs_3 p_3 hT_3 hk_3 hS_3 => ?_)
    have p_3 : (IM D ρ N H_3 a0) ∧ ((ai H_3 (ρ a0 0) 976).toInt = (ai H (ρ a0 0) 976).toInt - 1) := p_3
    obtain ⟨p_3_0, p_3_1⟩ := p_3
    refine lv_aload_n hx hb dX12_lose_15 rfl (lv_at hl 0 rfl) ?_
    refine gf_X12_7 E hT_3 hW ha0 dX12_lose_16 (fun h_4 => ?_)
    refine lv_sipush (v := 976) hx hb dX12_lose_19 (by decide) ?_
    refine th_iald E hT_3 h_4 (by decide) (vp_in_iff.mpr ⟨by decide, by decide⟩) dX12_lose_22 ?_
    refine th_topi (y := ai H_3 (ρ a0 0) 976) rfl ?_
    refine lv_topi (fun x_5 ex_5 => ?_)
    have b_x_5 : 0 ≤ x_5.toInt ∧ x_5.toInt ≤ 20 := by rw [← ex_5.symm]; exact p_3_0.1 976 (by decide)
    have c_x_5 := congrArg Int32.toInt ex_5.symm
    exact th_iret E hr hlk hs hT_3 hS_3 ⟨p_3_0.1, p_3_0.2.1, p_3_0.2.2.1, p_3_0.2.2.2.1, p_3_0.2.2.2.2.1, p_3_0.2.2.2.2.2⟩ dX12_lose_23
  · have f_2 : r_1.toInt = 0 := r_eq rfl (by decide) c_2
    refine lv_iconst (v := (-1)) hx hb dX12_lose_8 (by decide) ?_
    exact th_iret E hr hlk hs hT_1 hS_1 ⟨hI.1, hI.2.1, hI.2.2.1, hI.2.2.2.1, hI.2.2.2.2.1, hI.2.2.2.2.2⟩ dX12_lose_9
set_option maxHeartbeats 4000000 in
set_option maxRecDepth 100000 in
/-- the reference: twice -/
theorem y_twice (l : Launch) (D : va_G) (cI cS : ClassId) (τ : Nat → Option Nat) (ρ : Nat → Nat → Nat) (hW : WF τ ρ) (H : Heap) (hT : TH D cI cS τ ρ H) (a0 : Nat) (x0 : Int32) (ha0 : τ a0 = some 12) (N : Int) (hN0 : 0 ≤ N) (hN1 : N ≤ 600) (hI : IM D ρ N H a0) : MI l D cI cS τ ρ yX12_twice cX12_twice 2 (some .int) 2 46 H [.ref a0, .int x0] (fun (r : Int32) (u : Heap) => (IM D ρ N u a0)) (fun q => q = ρ a0 0) := by
  refine MI.of (by decide) (Nat.le_of_ble_eq_true rfl) ?_
  intro p e s m args below meth c E hml hr hlk hs ls hl
  have hx := E.1
  have hb := E.2.1
  have hown := E.2.2.1
  have hts := E.2.2.2.1
  have hS : SS (fun q => q = ρ a0 0) H H [] := SS.rf
  have hl : lv_has ls 2 [(0, .ref a0), (1, .int x0)] := hl
  have n01 := hI.2.2.2.2.2.1
  have n23 := hI.2.2.2.2.2.2.1
  refine lv_aload_n hx hb dX12_twice_0 rfl (lv_at hl 0 rfl) ?_
  refine lv_iload_n hx hb dX12_twice_1 rfl (lv_at hl 1 rfl) ?_
  refine th_Vi (As := [.int x0]) (rest := []) E hml hl.1 (y_isLetter l D cI cS τ ρ hW H hT a0 x0 ha0 N hN0 hN1 ⟨hI.1, hI.2.1, hI.2.2.1, hI.2.2.2.1, hI.2.2.2.2.1, hI.2.2.2.2.2⟩) lk_X12_251 yd_X12_isLetter hT ha0 rfl (by decide) hS (fun _ h => h.elim) ⟨by decide, by decide⟩ (Nat.le_of_ble_eq_true rfl) ⟨by decide, by decide⟩ rfl dX12_twice_2 (fun r_1 H_1 locs_1 p_1 hT_1 hk_1 hS_1 => ?_)
  have p_1 : H = H_1 ∧ (r_1 = 0 ∨ r_1 = 1) ∧ (r_1.toInt = 1 → (0 ≤ x0.toInt ∧ x0.toInt + 1 ≤ (ai H (ρ a0 0) 976).toInt ∧ x0.toInt ≤ 19)) := p_1
  obtain ⟨rfl, p_1_0, p_1_1⟩ := p_1
  have z_1 := b_iv p_1_0
  refine lv_if_eq (tgt := 16) hx hb dX12_twice_5 (by decide) (fun c_2 => ?_) (fun c_2 => ?_)
  · have f_2 : r_1.toInt = 0 := r_eq rfl (by decide) c_2
    refine lv_iconst (v := (-1)) hx hb dX12_twice_16 (by decide) ?_
    exact th_iret E hr hlk hs hT_1 hS_1 ⟨hI.1, hI.2.1, hI.2.2.1, hI.2.2.2.1, hI.2.2.2.2.1, hI.2.2.2.2.2⟩ dX12_twice_17
  · have f_2 : ¬ r_1.toInt = 0 := r_ne rfl (by decide) c_2
    have nz_r_1 : ¬ r_1 = 0 := c_2
    refine lv_aload_n hx hb dX12_twice_8 rfl (lv_at hl 0 rfl) ?_
    refine lv_iload_n hx hb dX12_twice_9 rfl (lv_at hl 1 rfl) ?_
    refine th_Vi (As := [.int x0]) (rest := []) E hml hl.1 (y_doubles l D cI cS τ ρ hW H hT_1 a0 x0 ha0 N hN0 hN1 ⟨hI.1, hI.2.1, hI.2.2.1, hI.2.2.2.1, hI.2.2.2.2.1, hI.2.2.2.2.2⟩ (by omega)) lk_X12_257 yd_X12_doubles hT_1 ha0 rfl (by decide) hS_1 (fun q h => h) ⟨by decide, by decide⟩ (Nat.le_of_ble_eq_true rfl) ⟨by decide, by decide⟩ rfl dX12_twice_10 (fun r_3 H_3 locs_3 p_3 hT_3 hk_3 hS_3 => ?_)
    have p_3 : (IM D ρ N H_3 a0) := p_3
    refine lv_goto (tgt := 17) hx hb dX12_twice_13 (by decide) ?_
    exact th_iret E hr hlk hs hT_3 hS_3 ⟨p_3.1, p_3.2.1, p_3.2.2.1, p_3.2.2.2.1, p_3.2.2.2.2.1, p_3.2.2.2.2.2⟩ dX12_twice_17
set_option maxHeartbeats 4000000 in
set_option maxRecDepth 100000 in
/-- the reference: in -/
theorem y_in_v11 (l : Launch) (D : va_G) (cI cS : ClassId) (τ : Nat → Option Nat) (ρ : Nat → Nat → Nat) (hW : WF τ ρ) (H : Heap) (hT : TH D cI cS τ ρ H) (x0 : Int64) : MI l D cI cS τ ρ yX12_in cX12_in 6 (some .boolean) 0 0 H [.long x0, .long 1, .long 100] (fun (r : Int32) (u : Heap) => (H = u) ∧ (r = 0 ∨ r = 1) ∧ ((r.toInt = 1 ∧ 1 ≤ x0.toInt ∧ x0.toInt ≤ 100) ∨ (r.toInt = 0 ∧ (x0.toInt < 1 ∨ 100 < x0.toInt)))) (fun q => False) := by
  refine MI.of (by decide) (Nat.le_of_ble_eq_true rfl) ?_
  intro p e s m args below meth c E hml hr hlk hs ls hl
  have hx := E.1
  have hb := E.2.1
  have hown := E.2.2.1
  have hts := E.2.2.2.1
  have hS : SS (fun q => False) H H [] := SS.rf
  have hl : lv_has ls 6 [(0, .long x0), (2, .long 1), (4, .long 100)] := hl
  refine lv_lload_n hx hb dX12_in_0 rfl (lv_at hl 0 rfl) ?_
  refine lv_lload_n hx hb dX12_in_1 rfl (lv_at hl 1 rfl) ?_
  refine W.lcmp hx hb dX12_in_2 ?_
  refine lv_topi (fun x_1 ex_1 => ?_)
  have q_1 := l_cmp (a := x0) (b := (1 : Int64)) (m := x0.toInt) (n := 1) rfl (by decide) ex_1
  refine lv_if_lt (tgt := 17) hx hb dX12_in_3 (by decide) (fun c_2 => ?_) (fun c_2 => ?_)
  · have f_2 : x_1.toInt < 0 := r_lt rfl (by decide) c_2
    refine lv_iconst (v := 0) hx hb dX12_in_17 (by decide) ?_
    exact th_zret E hr hlk hs (Or.inl rfl) hT hS ⟨rfl, (Or.inl rfl), (by have : (0 : Int32).toInt = 0 := (by decide); omega)⟩ dX12_in_18
  · have f_2 : 0 ≤ x_1.toInt := r_nlt rfl (by decide) c_2
    refine lv_lload_n hx hb dX12_in_6 rfl (lv_at hl 0 rfl) ?_
    refine lv_lload hx hb dX12_in_7 (lv_at hl 2 rfl) ?_
    refine W.lcmp hx hb dX12_in_9 ?_
    refine lv_topi (fun x_3 ex_3 => ?_)
    have q_3 := l_cmp (a := x0) (b := (100 : Int64)) (m := x0.toInt) (n := 100) rfl (by decide) ex_3
    refine lv_if_gt (tgt := 17) hx hb dX12_in_10 (by decide) (fun c_4 => ?_) (fun c_4 => ?_)
    · have f_4 : 0 < x_3.toInt := r_lt (by decide) rfl c_4
      refine lv_iconst (v := 0) hx hb dX12_in_17 (by decide) ?_
      exact th_zret E hr hlk hs (Or.inl rfl) hT hS ⟨rfl, (Or.inl rfl), (by have : (0 : Int32).toInt = 0 := (by decide); omega)⟩ dX12_in_18
    · have f_4 : x_3.toInt ≤ 0 := r_nlt (by decide) rfl c_4
      refine lv_iconst (v := 1) hx hb dX12_in_13 (by decide) ?_
      refine lv_goto (tgt := 18) hx hb dX12_in_14 (by decide) ?_
      exact th_zret E hr hlk hs (Or.inr rfl) hT hS ⟨rfl, (Or.inr rfl), (by have : (1 : Int32).toInt = 1 := (by decide); omega)⟩ dX12_in_18
set_option maxHeartbeats 4000000 in
set_option maxRecDepth 100000 in
/-- the reference: pass -/
theorem y_pass (l : Launch) (D : va_G) (cI cS : ClassId) (τ : Nat → Option Nat) (ρ : Nat → Nat → Nat) (hW : WF τ ρ) (H : Heap) (hT : TH D cI cS τ ρ H) (a0 : Nat) (x0 : Int32) (ha0 : τ a0 = some 12) (N : Int) (hN0 : 0 ≤ N) (hN1 : N ≤ 600) (hI : IM D ρ N H a0) : MI l D cI cS τ ρ yX12_pass cX12_pass 3 (some .int) 10 229 H [.ref a0, .int x0] (fun (r : Int32) (u : Heap) => (IM D ρ N u a0)) (fun q => q = ρ a0 0 ∨ q = ρ a0 2) := by
  refine MI.of (by decide) (Nat.le_of_ble_eq_true rfl) ?_
  intro p e s m args below meth c E hml hr hlk hs ls hl
  have hx := E.1
  have hb := E.2.1
  have hown := E.2.2.1
  have hts := E.2.2.2.1
  have hS : SS (fun q => q = ρ a0 0 ∨ q = ρ a0 2) H H [] := SS.rf
  have hl : lv_has ls 3 [(0, .ref a0), (1, .int x0)] := hl
  have n01 := hI.2.2.2.2.2.1
  have n23 := hI.2.2.2.2.2.2.1
  have L_16 : ∀ (n : Nat) (H_c16 : Heap) (lc_c16 : List Loc) (ls : Array Slot) (y16_2 : Int32), TH D cI cS τ ρ H_c16 → SS (fun q => q = ρ a0 0 ∨ q = ρ a0 2) H H_c16 lc_c16 → lv_has ls 3 [(0, .ref a0), (1, .int x0), (2, .int y16_2)] → 1 ≤ x0.toInt → x0.toInt ≤ 100 → 0 ≤ y16_2.toInt → IM D ρ N H_c16 a0 → (x0.toInt - y16_2.toInt).toNat < n → W p l e (rmO 10 229) s m args below meth c H_c16 lc_c16 0 0 (MQ below (va_Qi (fun (r : Int32) (u : Heap) => (IM D ρ N u a0)) (Bt D cI cS τ ρ H) (fun q => q = ρ a0 0 ∨ q = ρ a0 2)) args s 0 0 (fun q => q = ρ a0 0 ∨ q = ρ a0 2)) (F0 m 16 ls []) := by
    intro n
    induction n with
    | zero => intro H_c16 lc_c16 ls y16_2 hT_c16 hS_c16 hl ly16_1 uy16_1 ly16_2 hI_c16 hm; exact absurd hm (Nat.not_lt_zero _)
    | succ n ih_16 =>
      intro H_c16 lc_c16 ls y16_2 hT_c16 hS_c16 hl ly16_1 uy16_1 ly16_2 hI_c16 hm_16
      refine lv_iload_n hx hb dX12_pass_16 rfl (lv_at hl 2 rfl) ?_
      refine lv_iload_n hx hb dX12_pass_17 rfl (lv_at hl 1 rfl) ?_
      refine lv_icmp_ge (tgt := 31) hx hb dX12_pass_18 (by decide) (fun c_1 => ?_) (fun c_1 => ?_)
      · have f_1 : x0.toInt ≤ y16_2.toInt := r_le rfl rfl c_1
        refine lv_aload_n hx hb dX12_pass_31 rfl (lv_at hl 0 rfl) ?_
        refine gf_X12_7 E hT_c16 hW ha0 dX12_pass_32 (fun h_2 => ?_)
        refine lv_sipush (v := 977) hx hb dX12_pass_35 (by decide) ?_
        refine th_iald E hT_c16 h_2 (by decide) (vp_in_iff.mpr ⟨by decide, by decide⟩) dX12_pass_38 ?_
        refine th_topi (y := ai H_c16 (ρ a0 0) 977) rfl ?_
        refine lv_topi (fun x_3 ex_3 => ?_)
        have c_x_3 := congrArg Int32.toInt ex_3.symm
        exact th_iret E hr hlk hs hT_c16 hS_c16 ⟨hI_c16.1, hI_c16.2.1, hI_c16.2.2.1, hI_c16.2.2.2.1, hI_c16.2.2.2.2.1, hI_c16.2.2.2.2.2⟩ dX12_pass_39
      · have f_1 : y16_2.toInt < x0.toInt := r_nle rfl rfl c_1
        refine lv_aload_n hx hb dX12_pass_21 rfl (lv_at hl 0 rfl) ?_
        refine th_Vv (As := []) (rest := []) E hml hl.1 (y_ticks l D cI cS τ ρ hW H_c16 hT_c16 a0 ha0 N hN0 hN1 ⟨hI_c16.1, hI_c16.2.1, hI_c16.2.2.1, hI_c16.2.2.2.1, hI_c16.2.2.2.2.1, hI_c16.2.2.2.2.2⟩) lk_X12_274 yd_X12_ticks hT_c16 ha0 rfl (by decide) hS_c16 (fun q => (fun h => h.elim (fun h => (Or.inl h)) (fun h => (Or.inr h)))) ⟨by decide, by decide⟩ (Nat.le_of_ble_eq_true rfl) ⟨by decide, by decide⟩ rfl dX12_pass_22 (fun H_4 locs_4 p_4 hT_4 hk_4 hS_4 => ?_)
        have p_4 : (IM D ρ N H_4 a0) := p_4
        obtain ⟨x_5, ex_5⟩ : ∃ y : Int32, y16_2 + 1 = y := ⟨_, rfl⟩
        have q_x_5 : x_5.toInt = y16_2.toInt + 1 := i_add (k := 1) (by decide) ex_5 (by have := i_min y16_2; omega) (by have := i_max y16_2; omega)
        refine lv_iinc (v := x_5) (lv' := [(2, .int x_5), (0, .ref a0), (1, .int x0)]) hx hb dX12_pass_25 hl (k := 2) rfl (by rw [← ex_5]; rfl) (by decide) rfl (fun ls hl => ?_)
        refine lv_goto (tgt := 16) hx hb dX12_pass_28 (by decide) ?_
        exact ih_16 H_4 locs_4 _ x_5 hT_4 hS_4 (lv_sub hl [1, 2, 0] rfl) (by omega) (by omega) (by omega) ⟨p_4.1, p_4.2.1, p_4.2.2.1, p_4.2.2.2.1, p_4.2.2.2.2.1, p_4.2.2.2.2.2⟩ (by omega)
  refine lv_iload_n hx hb dX12_pass_0 rfl (lv_at hl 1 rfl) ?_
  obtain ⟨x_6, ex_6⟩ : ∃ y : Int64, x0.toInt64 = y := ⟨_, rfl⟩
  refine lv_i2l (v := x_6) hx hb dX12_pass_1 ex_6 ?_
  have q_6 : x_6.toInt = x0.toInt := by rw [← ex_6]; exact Int32.toInt_toInt64 _
  refine lv_lconst (v := 1) hx hb dX12_pass_2 (by decide) ?_
  refine lv_ldc2 (v := 100) hx hb hown (hts _ qw_1213) dX12_pass_3 ?_
  refine th_Si (As := [.long x_6, .long 1, .long 100]) (rest := []) E hml hl.1 (y_in_v11 l D cI cS τ ρ hW H hT x_6) lk_X12_54 yd_X12_in hS (fun _ h => h.elim) ⟨by decide, by decide⟩ (Nat.le_of_ble_eq_true rfl) ⟨by decide, by decide⟩ rfl dX12_pass_6 (fun r_7 H_7 locs_7 p_7 hT_7 hk_7 hS_7 => ?_)
  have p_7 : H = H_7 ∧ (r_7 = 0 ∨ r_7 = 1) ∧ ((r_7.toInt = 1 ∧ 1 ≤ x_6.toInt ∧ x_6.toInt ≤ 100) ∨ (r_7.toInt = 0 ∧ (x_6.toInt < 1 ∨ 100 < x_6.toInt))) := p_7
  obtain ⟨rfl, p_7_0, p_7_1⟩ := p_7
  have z_7 := b_iv p_7_0
  refine lv_if_ne (tgt := 14) hx hb dX12_pass_9 (by decide) (fun c_8 => ?_) (fun c_8 => ?_)
  · have f_8 : ¬ r_7.toInt = 0 := r_ne rfl (by decide) c_8
    have nz_r_7 : ¬ r_7 = 0 := c_8
    refine lv_iconst (v := 0) hx hb dX12_pass_14 (by decide) ?_
    refine lv_istore_n (lv' := [(2, .int 0), (0, .ref a0), (1, .int x0)]) hx hb dX12_pass_15 rfl hl (by decide) rfl (fun ls hl => ?_)
    exact L_16 _ H locs_7 _ 0 hT_7 hS_7 (lv_sub hl [1, 2, 0] rfl) (by omega) (by omega) (by decide) ⟨hI.1, hI.2.1, hI.2.2.1, hI.2.2.2.1, hI.2.2.2.2.1, hI.2.2.2.2.2⟩ (Nat.lt_succ_self _)
  · have f_8 : r_7.toInt = 0 := r_eq rfl (by decide) c_8
    refine lv_iconst (v := (-1)) hx hb dX12_pass_12 (by decide) ?_
    exact th_iret E hr hlk hs hT_7 hS_7 ⟨hI.1, hI.2.1, hI.2.2.1, hI.2.2.2.1, hI.2.2.2.2.1, hI.2.2.2.2.2⟩ dX12_pass_13
set_option maxHeartbeats 4000000 in
set_option maxRecDepth 100000 in
/-- the reference: in -/
theorem y_in_v12 (l : Launch) (D : va_G) (cI cS : ClassId) (τ : Nat → Option Nat) (ρ : Nat → Nat → Nat) (hW : WF τ ρ) (H : Heap) (hT : TH D cI cS τ ρ H) (x0 : Int64) : MI l D cI cS τ ρ yX12_in cX12_in 6 (some .boolean) 0 0 H [.long x0, .long 0, .long 9999] (fun (r : Int32) (u : Heap) => (H = u) ∧ (r = 0 ∨ r = 1) ∧ ((r.toInt = 1 ∧ 0 ≤ x0.toInt ∧ x0.toInt ≤ 9999) ∨ (r.toInt = 0 ∧ (x0.toInt < 0 ∨ 9999 < x0.toInt)))) (fun q => False) := by
  refine MI.of (by decide) (Nat.le_of_ble_eq_true rfl) ?_
  intro p e s m args below meth c E hml hr hlk hs ls hl
  have hx := E.1
  have hb := E.2.1
  have hown := E.2.2.1
  have hts := E.2.2.2.1
  have hS : SS (fun q => False) H H [] := SS.rf
  have hl : lv_has ls 6 [(0, .long x0), (2, .long 0), (4, .long 9999)] := hl
  refine lv_lload_n hx hb dX12_in_0 rfl (lv_at hl 0 rfl) ?_
  refine lv_lload_n hx hb dX12_in_1 rfl (lv_at hl 1 rfl) ?_
  refine W.lcmp hx hb dX12_in_2 ?_
  refine lv_topi (fun x_1 ex_1 => ?_)
  have q_1 := l_cmp (a := x0) (b := (0 : Int64)) (m := x0.toInt) (n := 0) rfl (by decide) ex_1
  refine lv_if_lt (tgt := 17) hx hb dX12_in_3 (by decide) (fun c_2 => ?_) (fun c_2 => ?_)
  · have f_2 : x_1.toInt < 0 := r_lt rfl (by decide) c_2
    refine lv_iconst (v := 0) hx hb dX12_in_17 (by decide) ?_
    exact th_zret E hr hlk hs (Or.inl rfl) hT hS ⟨rfl, (Or.inl rfl), (by have : (0 : Int32).toInt = 0 := (by decide); omega)⟩ dX12_in_18
  · have f_2 : 0 ≤ x_1.toInt := r_nlt rfl (by decide) c_2
    refine lv_lload_n hx hb dX12_in_6 rfl (lv_at hl 0 rfl) ?_
    refine lv_lload hx hb dX12_in_7 (lv_at hl 2 rfl) ?_
    refine W.lcmp hx hb dX12_in_9 ?_
    refine lv_topi (fun x_3 ex_3 => ?_)
    have q_3 := l_cmp (a := x0) (b := (9999 : Int64)) (m := x0.toInt) (n := 9999) rfl (by decide) ex_3
    refine lv_if_gt (tgt := 17) hx hb dX12_in_10 (by decide) (fun c_4 => ?_) (fun c_4 => ?_)
    · have f_4 : 0 < x_3.toInt := r_lt (by decide) rfl c_4
      refine lv_iconst (v := 0) hx hb dX12_in_17 (by decide) ?_
      exact th_zret E hr hlk hs (Or.inl rfl) hT hS ⟨rfl, (Or.inl rfl), (by have : (0 : Int32).toInt = 0 := (by decide); omega)⟩ dX12_in_18
    · have f_4 : x_3.toInt ≤ 0 := r_nlt (by decide) rfl c_4
      refine lv_iconst (v := 1) hx hb dX12_in_13 (by decide) ?_
      refine lv_goto (tgt := 18) hx hb dX12_in_14 (by decide) ?_
      exact th_zret E hr hlk hs (Or.inr rfl) hT hS ⟨rfl, (Or.inr rfl), (by have : (1 : Int32).toInt = 1 := (by decide); omega)⟩ dX12_in_18
set_option maxHeartbeats 4000000 in
set_option maxRecDepth 100000 in
/-- the reference: in -/
theorem y_in_v13 (l : Launch) (D : va_G) (cI cS : ClassId) (τ : Nat → Option Nat) (ρ : Nat → Nat → Nat) (hW : WF τ ρ) (H : Heap) (hT : TH D cI cS τ ρ H) (x0 : Int64) : MI l D cI cS τ ρ yX12_in cX12_in 6 (some .boolean) 0 0 H [.long x0, .long 1, .long 60] (fun (r : Int32) (u : Heap) => (H = u) ∧ (r = 0 ∨ r = 1) ∧ ((r.toInt = 1 ∧ 1 ≤ x0.toInt ∧ x0.toInt ≤ 60) ∨ (r.toInt = 0 ∧ (x0.toInt < 1 ∨ 60 < x0.toInt)))) (fun q => False) := by
  refine MI.of (by decide) (Nat.le_of_ble_eq_true rfl) ?_
  intro p e s m args below meth c E hml hr hlk hs ls hl
  have hx := E.1
  have hb := E.2.1
  have hown := E.2.2.1
  have hts := E.2.2.2.1
  have hS : SS (fun q => False) H H [] := SS.rf
  have hl : lv_has ls 6 [(0, .long x0), (2, .long 1), (4, .long 60)] := hl
  refine lv_lload_n hx hb dX12_in_0 rfl (lv_at hl 0 rfl) ?_
  refine lv_lload_n hx hb dX12_in_1 rfl (lv_at hl 1 rfl) ?_
  refine W.lcmp hx hb dX12_in_2 ?_
  refine lv_topi (fun x_1 ex_1 => ?_)
  have q_1 := l_cmp (a := x0) (b := (1 : Int64)) (m := x0.toInt) (n := 1) rfl (by decide) ex_1
  refine lv_if_lt (tgt := 17) hx hb dX12_in_3 (by decide) (fun c_2 => ?_) (fun c_2 => ?_)
  · have f_2 : x_1.toInt < 0 := r_lt rfl (by decide) c_2
    refine lv_iconst (v := 0) hx hb dX12_in_17 (by decide) ?_
    exact th_zret E hr hlk hs (Or.inl rfl) hT hS ⟨rfl, (Or.inl rfl), (by have : (0 : Int32).toInt = 0 := (by decide); omega)⟩ dX12_in_18
  · have f_2 : 0 ≤ x_1.toInt := r_nlt rfl (by decide) c_2
    refine lv_lload_n hx hb dX12_in_6 rfl (lv_at hl 0 rfl) ?_
    refine lv_lload hx hb dX12_in_7 (lv_at hl 2 rfl) ?_
    refine W.lcmp hx hb dX12_in_9 ?_
    refine lv_topi (fun x_3 ex_3 => ?_)
    have q_3 := l_cmp (a := x0) (b := (60 : Int64)) (m := x0.toInt) (n := 60) rfl (by decide) ex_3
    refine lv_if_gt (tgt := 17) hx hb dX12_in_10 (by decide) (fun c_4 => ?_) (fun c_4 => ?_)
    · have f_4 : 0 < x_3.toInt := r_lt (by decide) rfl c_4
      refine lv_iconst (v := 0) hx hb dX12_in_17 (by decide) ?_
      exact th_zret E hr hlk hs (Or.inl rfl) hT hS ⟨rfl, (Or.inl rfl), (by have : (0 : Int32).toInt = 0 := (by decide); omega)⟩ dX12_in_18
    · have f_4 : x_3.toInt ≤ 0 := r_nlt (by decide) rfl c_4
      refine lv_iconst (v := 1) hx hb dX12_in_13 (by decide) ?_
      refine lv_goto (tgt := 18) hx hb dX12_in_14 (by decide) ?_
      exact th_zret E hr hlk hs (Or.inr rfl) hT hS ⟨rfl, (Or.inr rfl), (by have : (1 : Int32).toInt = 1 := (by decide); omega)⟩ dX12_in_18
set_option maxHeartbeats 4000000 in
set_option maxRecDepth 100000 in
/-- the reference: drive -/
theorem y_drive (l : Launch) (D : va_G) (cI cS : ClassId) (τ : Nat → Option Nat) (ρ : Nat → Nat → Nat) (hW : WF τ ρ) (H : Heap) (hT : TH D cI cS τ ρ H) (a0 : Nat) (x0 : Int32) (x1 : Int32) (ha0 : τ a0 = some 12) (N : Int) (hN0 : 0 ≤ N) (hN1 : N ≤ 600) (hI : IM D ρ N H a0) : MI l D cI cS τ ρ yX12_drive cX12_drive 9 (some .int) 12 285 H [.ref a0, .int x0, .int x1] (fun (r : Int32) (u : Heap) => (IM D ρ N u a0)) (fun q => q = ρ a0 3 ∨ q = ρ a0 0 ∨ q = ρ a0 2) := by
  refine MI.of (by decide) (Nat.le_of_ble_eq_true rfl) ?_
  intro p e s m args below meth c E hml hr hlk hs ls hl
  have hx := E.1
  have hb := E.2.1
  have hown := E.2.2.1
  have hts := E.2.2.2.1
  have hS : SS (fun q => q = ρ a0 3 ∨ q = ρ a0 0 ∨ q = ρ a0 2) H H [] := SS.rf
  have hl : lv_has ls 9 [(0, .ref a0), (1, .int x0), (2, .int x1)] := hl
  have n01 := hI.2.2.2.2.2.1
  have n23 := hI.2.2.2.2.2.2.1
  have L_28 : ∀ (n : Nat) (H_c28 : Heap) (lc_c28 : List Loc) (ls : Array Slot) (y28_3 : Int32), TH D cI cS τ ρ H_c28 → SS (fun q => q = ρ a0 3 ∨ q = ρ a0 0 ∨ q = ρ a0 2) H H_c28 lc_c28 → lv_has ls 9 [(0, .ref a0), (1, .int x0), (2, .int x1), (3, .int y28_3)] → 0 ≤ x0.toInt → x0.toInt ≤ 9999 → 1 ≤ x1.toInt → x1.toInt ≤ 60 → 0 ≤ y28_3.toInt → IM D ρ N H_c28 a0 → (60 - y28_3.toInt).toNat < n → W p l e (rmO 12 285) s m args below meth c H_c28 lc_c28 0 0 (MQ below (va_Qi (fun (r : Int32) (u : Heap) => (IM D ρ N u a0)) (Bt D cI cS τ ρ H) (fun q => q = ρ a0 3 ∨ q = ρ a0 0 ∨ q = ρ a0 2)) args s 0 0 (fun q => q = ρ a0 3 ∨ q = ρ a0 0 ∨ q = ρ a0 2)) (F0 m 28 ls []) := by
    intro n
    induction n with
    | zero => intro H_c28 lc_c28 ls y28_3 hT_c28 hS_c28 hl ly28_1 uy28_1 ly28_2 uy28_2 ly28_3 hI_c28 hm; exact absurd hm (Nat.not_lt_zero _)
    | succ n ih_28 =>
      intro H_c28 lc_c28 ls y28_3 hT_c28 hS_c28 hl ly28_1 uy28_1 ly28_2 uy28_2 ly28_3 hI_c28 hm_28
      have J_152 : ∀ (H_c152 : Heap) (lc_c152 : List Loc) (ls : Array Slot) (y152_4 : Int64) (y152_6 : Int32), TH D cI cS τ ρ H_c152 → SS (fun q => q = ρ a0 3 ∨ q = ρ a0 0 ∨ q = ρ a0 2) H H_c152 lc_c152 → lv_has ls 9 [(0, .ref a0), (1, .int x0), (2, .int x1), (3, .int y28_3), (4, .long y152_4), (6, .int y152_6)] → 0 ≤ x0.toInt → x0.toInt ≤ 9999 → 1 ≤ x1.toInt → x1.toInt ≤ 60 → 0 ≤ y28_3.toInt → y28_3.toInt ≤ 59 → 0 ≤ y152_6.toInt → y152_6.toInt ≤ 65520 → IM D ρ N H_c152 a0 → W p l e (rmO 12 285) s m args below meth c H_c152 lc_c152 0 0 (MQ below (va_Qi (fun (r : Int32) (u : Heap) => (IM D ρ N u a0)) (Bt D cI cS τ ρ H) (fun q => q = ρ a0 3 ∨ q = ρ a0 0 ∨ q = ρ a0 2)) args s 0 0 (fun q => q = ρ a0 3 ∨ q = ρ a0 0 ∨ q = ρ a0 2)) (F0 m 152 ls []) := by
        intro H_c152 lc_c152 ls y152_4 y152_6 hT_c152 hS_c152 hl ly152_1 uy152_1 ly152_2 uy152_2 ly152_3 uy152_3 ly152_6 uy152_6 hI_c152
        obtain ⟨x_1, ex_1⟩ : ∃ y : Int32, y28_3 + 1 = y := ⟨_, rfl⟩
        have q_x_1 : x_1.toInt = y28_3.toInt + 1 := i_add (k := 1) (by decide) ex_1 (by have := i_min y28_3; omega) (by have := i_max y28_3; omega)
        refine lv_iinc (v := x_1) (lv' := [(3, .int x_1), (0, .ref a0), (1, .int x0), (2, .int x1), (4, .long y152_4), (6, .int y152_6)]) hx hb dX12_drive_152 hl (k := 3) rfl (by rw [← ex_1]; rfl) (by decide) rfl (fun ls hl => ?_)
        refine lv_goto (tgt := 28) hx hb dX12_drive_155 (by decide) ?_
        exact ih_28 H_c152 lc_c152 _ x_1 hT_c152 hS_c152 (lv_sub hl [1, 2, 3, 0] rfl) (by omega) (by omega) (by omega) (by omega) (by omega) ⟨hI_c152.1, hI_c152.2.1, hI_c152.2.2.1, hI_c152.2.2.2.1, hI_c152.2.2.2.2.1, hI_c152.2.2.2.2.2⟩ (by omega)
      have J_81 : ∀ (H_c81 : Heap) (lc_c81 : List Loc) (ls : Array Slot) (y81_4 : Int64) (y81_6 : Int32), TH D cI cS τ ρ H_c81 → SS (fun q => q = ρ a0 3 ∨ q = ρ a0 0 ∨ q = ρ a0 2) H H_c81 lc_c81 → lv_has ls 9 [(0, .ref a0), (1, .int x0), (2, .int x1), (3, .int y28_3), (4, .long y81_4), (6, .int y81_6)] → 0 ≤ x0.toInt → x0.toInt ≤ 9999 → 1 ≤ x1.toInt → x1.toInt ≤ 60 → 0 ≤ y28_3.toInt → y28_3.toInt ≤ 59 → 0 ≤ y81_6.toInt → y81_6.toInt ≤ 65520 → IM D ρ N H_c81 a0 → W p l e (rmO 12 285) s m args below meth c H_c81 lc_c81 0 0 (MQ below (va_Qi (fun (r : Int32) (u : Heap) => (IM D ρ N u a0)) (Bt D cI cS τ ρ H) (fun q => q = ρ a0 3 ∨ q = ρ a0 0 ∨ q = ρ a0 2)) args s 0 0 (fun q => q = ρ a0 3 ∨ q = ρ a0 0 ∨ q = ρ a0 2)) (F0 m 81 ls []) := by
        intro H_c81 lc_c81 ls y81_4 y81_6 hT_c81 hS_c81 hl ly81_1 uy81_1 ly81_2 uy81_2 ly81_3 uy81_3 ly81_6 uy81_6 hI_c81
        refine lv_aload_n hx hb dX12_drive_81 rfl (lv_at hl 0 rfl) ?_
        refine th_Vv (As := []) (rest := []) E hml hl.1 (y_ticks l D cI cS τ ρ hW H_c81 hT_c81 a0 ha0 N hN0 hN1 ⟨hI_c81.1, hI_c81.2.1, hI_c81.2.2.1, hI_c81.2.2.2.1, hI_c81.2.2.2.2.1, hI_c81.2.2.2.2.2⟩) lk_X12_274 yd_X12_ticks hT_c81 ha0 rfl (by decide) hS_c81 (fun q => (fun h => h.elim (fun h => (Or.inr (Or.inl h))) (fun h => (Or.inr (Or.inr h))))) ⟨by decide, by decide⟩ (Nat.le_of_ble_eq_true rfl) ⟨by decide, by decide⟩ rfl dX12_drive_82 (fun H_2 locs_2 p_2 hT_2 hk_2 hS_2 => ?_)
        have p_2 : (IM D ρ N H_2 a0) := p_2
        refine lv_goto (tgt := 152) hx hb dX12_drive_85 (by decide) ?_
        exact J_152 H_2 locs_2 _ y81_4 y81_6 hT_2 hS_2 hl (by omega) (by omega) (by omega) (by omega) (by omega) (by omega) (by omega) (by omega) ⟨p_2.1, p_2.2.1, p_2.2.2.1, p_2.2.2.2.1, p_2.2.2.2.2.1, p_2.2.2.2.2.2⟩
      refine lv_iload_n hx hb dX12_drive_28 rfl (lv_at hl 3 rfl) ?_
      refine lv_iload_n hx hb dX12_drive_29 rfl (lv_at hl 2 rfl) ?_
      refine lv_icmp_ge (tgt := 158) hx hb dX12_drive_30 (by decide) (fun c_3 => ?_) (fun c_3 => ?_)
      · have f_3 : x1.toInt ≤ y28_3.toInt := r_le rfl rfl c_3
        refine lv_aload_n hx hb dX12_drive_158 rfl (lv_at hl 0 rfl) ?_
        refine gf_X12_7 E hT_c28 hW ha0 dX12_drive_159 (fun h_4 => ?_)
        refine lv_sipush (v := 976) hx hb dX12_drive_162 (by decide) ?_
        refine th_iald E hT_c28 h_4 (by decide) (vp_in_iff.mpr ⟨by decide, by decide⟩) dX12_drive_165 ?_
        refine th_topi (y := ai H_c28 (ρ a0 0) 976) rfl ?_
        refine lv_topi (fun x_5 ex_5 => ?_)
        have b_x_5 : 0 ≤ x_5.toInt ∧ x_5.toInt ≤ 20 := by rw [← ex_5.symm]; exact hI_c28.1 976 (by decide)
        have c_x_5 := congrArg Int32.toInt ex_5.symm
        exact th_iret E hr hlk hs hT_c28 hS_c28 ⟨hI_c28.1, hI_c28.2.1, hI_c28.2.2.1, hI_c28.2.2.2.1, hI_c28.2.2.2.2.1, hI_c28.2.2.2.2.2⟩ dX12_drive_166
      · have f_3 : y28_3.toInt < x1.toInt := r_nle rfl rfl c_3
        refine lv_ldc2 (v := 7919) hx hb hown (hts _ qw_1216) dX12_drive_33 ?_
        refine lv_iload_n hx hb dX12_drive_36 rfl (lv_at hl 1 rfl) ?_
        obtain ⟨x_6, ex_6⟩ : ∃ y : Int64, x0.toInt64 = y := ⟨_, rfl⟩
        refine lv_i2l (v := x_6) hx hb dX12_drive_37 ex_6 ?_
        have q_6 : x_6.toInt = x0.toInt := by rw [← ex_6]; exact Int32.toInt_toInt64 _
        refine lv_lmul hx hb dX12_drive_38 ?_
        refine lv_topl (fun x_7 ex_7 => ?_)
        have q_7 : x_7.toInt = 7919 * x_6.toInt := l_ml (by decide) rfl ex_7 (by omega) (by omega)
        refine lv_ldc2 (v := 6151) hx hb hown (hts _ qw_1217) dX12_drive_39 ?_
        refine lv_iload_n hx hb dX12_drive_42 rfl (lv_at hl 3 rfl) ?_
        obtain ⟨x_8, ex_8⟩ : ∃ y : Int64, y28_3.toInt64 = y := ⟨_, rfl⟩
        refine lv_i2l (v := x_8) hx hb dX12_drive_43 ex_8 ?_
        have q_8 : x_8.toInt = y28_3.toInt := by rw [← ex_8]; exact Int32.toInt_toInt64 _
        refine lv_lmul hx hb dX12_drive_44 ?_
        refine lv_topl (fun x_9 ex_9 => ?_)
        have q_9 : x_9.toInt = 6151 * x_8.toInt := l_ml (by decide) rfl ex_9 (by omega) (by omega)
        refine lv_ladd hx hb dX12_drive_45 ?_
        refine lv_topl (fun x_10 ex_10 => ?_)
        have q_10 : x_10.toInt = x_7.toInt + x_9.toInt := l_pl rfl rfl ex_10 (by omega) (by omega)
        refine lv_lconst (v := 1) hx hb dX12_drive_46 (by decide) ?_
        refine lv_ladd hx hb dX12_drive_47 ?_
        refine lv_topl (fun x_11 ex_11 => ?_)
        have q_11 : x_11.toInt = x_10.toInt + 1 := l_pl rfl (by decide) ex_11 (by omega) (by omega)
        refine lv_lstore (lv' := [(4, .long x_11), (0, .ref a0), (1, .int x0), (2, .int x1), (3, .int y28_3)]) hx hb dX12_drive_48 hl (by decide) rfl (fun ls hl => ?_)
        refine lv_lload hx hb dX12_drive_50 (lv_at hl 0 rfl) ?_
        refine lv_lload hx hb dX12_drive_52 (lv_at hl 0 rfl) ?_
        refine lv_lmul hx hb dX12_drive_54 ?_
        refine lv_topl (fun x_12 ex_12 => ?_)
        have q_12 : 0 ≤ x_12.toInt := l_sq (by omega) (by omega) ex_12
        refine lv_ldc2 (v := 65521) hx hb hown (hts _ qw_1218) dX12_drive_55 ?_
        refine lv_lrem hx hb dX12_drive_58 (by decide) ?_
        refine lv_topl (fun x_13 ex_13 => ?_)
        have q_13 : 0 ≤ x_13.toInt ∧ x_13.toInt < 65521 := l_rem (by decide) (by decide) (by omega) ex_13
        obtain ⟨x_14, ex_14⟩ : ∃ y : Int32, x_13.toInt32 = y := ⟨_, rfl⟩
        refine lv_l2i (v := x_14) hx hb dX12_drive_59 ex_14 ?_
        have q_14 : x_14.toInt = x_13.toInt := l_i ex_14 (by omega) (by omega)
        refine lv_istore (lv' := [(6, .int x_14), (4, .long x_11), (0, .ref a0), (1, .int x0), (2, .int x1), (3, .int y28_3)]) hx hb dX12_drive_60 hl (by decide) rfl (fun ls hl => ?_)
        refine lv_aload_n hx hb dX12_drive_62 rfl (lv_at hl 2 rfl) ?_
        refine gf_X12_7 E hT_c28 hW ha0 dX12_drive_63 (fun h_15 => ?_)
        refine lv_sipush (v := 976) hx hb dX12_drive_66 (by decide) ?_
        refine th_iald E hT_c28 h_15 (by decide) (vp_in_iff.mpr ⟨by decide, by decide⟩) dX12_drive_69 ?_
        refine th_topi (y := ai H_c28 (ρ a0 0) 976) rfl ?_
        refine lv_topi (fun x_16 ex_16 => ?_)
        have b_x_16 : 0 ≤ x_16.toInt ∧ x_16.toInt ≤ 20 := by rw [← ex_16.symm]; exact hI_c28.1 976 (by decide)
        have c_x_16 := congrArg Int32.toInt ex_16.symm
        refine lv_if_eq (tgt := 81) hx hb dX12_drive_70 (by decide) (fun c_17 => ?_) (fun c_17 => ?_)
        · have f_17 : x_16.toInt = 0 := r_eq rfl (by decide) c_17
          exact J_81 H_c28 lc_c28 _ x_11 x_14 hT_c28 hS_c28 (lv_sub hl [2, 3, 4, 5, 1, 0] rfl) (by omega) (by omega) (by omega) (by omega) (by omega) (by omega) (by omega) (by omega) ⟨hI_c28.1, hI_c28.2.1, hI_c28.2.2.1, hI_c28.2.2.2.1, hI_c28.2.2.2.2.1, hI_c28.2.2.2.2.2⟩
        · have f_17 : ¬ x_16.toInt = 0 := r_ne rfl (by decide) c_17
          have nz_x_16 : ¬ x_16 = 0 := c_17
          refine lv_iload hx hb dX12_drive_73 (lv_at hl 0 rfl) ?_
          refine lv_bipush (v := 8) hx hb dX12_drive_75 (by decide) ?_
          refine lv_irem hx hb dX12_drive_77 (by decide) ?_
          refine lv_topi (fun x_18 ex_18 => ?_)
          have q_18 := i_rem (k := 8) (x := x_14) (by decide) (by decide) ex_18
          have p_18 : 0 ≤ x_18.toInt := q_18.2.2 (by omega)
          refine lv_if_ne (tgt := 88) hx hb dX12_drive_78 (by decide) (fun c_19 => ?_) (fun c_19 => ?_)
          · have f_19 : ¬ x_18.toInt = 0 := r_ne rfl (by decide) c_19
            have nz_x_18 : ¬ x_18 = 0 := c_19
            refine lv_iload hx hb dX12_drive_88 (lv_at hl 0 rfl) ?_
            refine lv_bipush (v := 8) hx hb dX12_drive_90 (by decide) ?_
            refine lv_idiv hx hb dX12_drive_92 (by decide) ?_
            refine lv_topi (fun x_20 ex_20 => ?_)
            have q_20 : 0 ≤ x_20.toInt := i_div (k := 8) (by decide) (by decide) (by omega) ex_20
            refine lv_aload_n hx hb dX12_drive_93 rfl (lv_at hl 2 rfl) ?_
            refine gf_X12_7 E hT_c28 hW ha0 dX12_drive_94 (fun h_21 => ?_)
            refine lv_sipush (v := 976) hx hb dX12_drive_97 (by decide) ?_
            refine th_iald E hT_c28 h_21 (by decide) (vp_in_iff.mpr ⟨by decide, by decide⟩) dX12_drive_100 ?_
            refine th_topi (y := ai H_c28 (ρ a0 0) 976) rfl ?_
            refine th_topi (y := x_16) ex_16.symm ?_
            refine lv_irem hx hb dX12_drive_101 (nz_of (by omega)) ?_
            refine lv_topi (fun x_23 ex_23 => ?_)
            have q_23 : 0 ≤ x_23.toInt ∧ x_23.toInt < x_16.toInt := i_remv (by omega) (by omega) ex_23
            refine lv_istore (lv' := [(7, .int x_23), (6, .int x_14), (4, .long x_11), (0, .ref a0), (1, .int x0), (2, .int x1), (3, .int y28_3)]) hx hb dX12_drive_102 hl (by decide) rfl (fun ls hl => ?_)
            refine lv_iload hx hb dX12_drive_104 (lv_at hl 1 rfl) ?_
            refine lv_sipush (v := 256) hx hb dX12_drive_106 (by decide) ?_
            refine lv_idiv hx hb dX12_drive_109 (by decide) ?_
            refine lv_topi (fun x_24 ex_24 => ?_)
            have q_24 : 0 ≤ x_24.toInt := i_div (k := 256) (by decide) (by decide) (by omega) ex_24
            refine lv_bipush (v := 8) hx hb dX12_drive_110 (by decide) ?_
            refine lv_irem hx hb dX12_drive_112 (by decide) ?_
            refine lv_topi (fun x_25 ex_25 => ?_)
            have q_25 := i_rem (k := 8) (x := x_24) (by decide) (by decide) ex_25
            have p_25 : 0 ≤ x_25.toInt := q_25.2.2 (by omega)
            refine lv_istore (lv' := [(8, .int x_25), (7, .int x_23), (6, .int x_14), (4, .long x_11), (0, .ref a0), (1, .int x0), (2, .int x1), (3, .int y28_3)]) hx hb dX12_drive_113 hl (by decide) rfl (fun ls hl => ?_)
            refine lv_iload hx hb dX12_drive_115 (lv_at hl 0 rfl) ?_
            refine lv_if_ne (tgt := 129) hx hb dX12_drive_117 (by decide) (fun c_26 => ?_) (fun c_26 => ?_)
            · have f_26 : ¬ x_25.toInt = 0 := r_ne rfl (by decide) c_26
              have nz_x_25 : ¬ x_25 = 0 := c_26
              refine lv_iload hx hb dX12_drive_129 (lv_at hl 0 rfl) ?_
              refine lv_iconst (v := 1) hx hb dX12_drive_131 (by decide) ?_
              refine lv_icmp_ne (tgt := 145) hx hb dX12_drive_132 (by decide) (fun c_27 => ?_) (fun c_27 => ?_)
              · have f_27 : ¬ x_25.toInt = 1 := r_ne rfl (by decide) c_27
                refine lv_aload_n hx hb dX12_drive_145 rfl (lv_at hl 4 rfl) ?_
                refine lv_iload hx hb dX12_drive_146 (lv_at hl 1 rfl) ?_
                refine th_Vi (As := [.int x_23]) (rest := []) E hml hl.1 (y_arrives l D cI cS τ ρ hW H_c28 hT_c28 a0 x_23 ha0 N hN0 hN1 ⟨hI_c28.1, hI_c28.2.1, hI_c28.2.2.1, hI_c28.2.2.2.1, hI_c28.2.2.2.2.1, hI_c28.2.2.2.2.2⟩ (by have : (ai H_c28 (ρ a0 0) 976).toInt = (x_16 : Int32).toInt := congrArg Int32.toInt ex_16.symm; omega)) lk_X12_254 yd_X12_arrives hT_c28 ha0 rfl (by decide) hS_c28 (fun q => (fun h => h.elim (fun h => (Or.inl h)) (fun h => h.elim (fun h => (Or.inr (Or.inl h))) (fun h => (Or.inr (Or.inr h)))))) ⟨by decide, by decide⟩ (Nat.le_of_ble_eq_true rfl) ⟨by decide, by decide⟩ rfl dX12_drive_148 (fun r_28 H_28 locs_28 p_28 hT_28 hk_28 hS_28 => ?_)
                have p_28 : (IM D ρ N H_28 a0) ∧ ((ai H_c28 (ρ a0 0) 976).toInt - 1 ≤ (ai H_28 (ρ a0 0) 976).toInt) := p_28
                obtain ⟨p_28_0, p_28_1⟩ := p_28
                refine lv_pop hx hb dX12_drive_151 rfl ?_
                exact J_152 H_28 locs_28 _ x_11 x_14 hT_28 hS_28 (lv_sub hl [4, 5, 6, 7, 3, 2] rfl) (by omega) (by omega) (by omega) (by omega) (by omega) (by omega) (by omega) (by omega) ⟨p_28_0.1, p_28_0.2.1, p_28_0.2.2.1, p_28_0.2.2.2.1, p_28_0.2.2.2.2.1, p_28_0.2.2.2.2.2⟩
              · have f_27 : x_25.toInt = 1 := r_eq rfl (by decide) c_27
                refine lv_aload_n hx hb dX12_drive_135 rfl (lv_at hl 4 rfl) ?_
                refine lv_iload hx hb dX12_drive_136 (lv_at hl 1 rfl) ?_
                refine th_Vi (As := [.int x_23]) (rest := []) E hml hl.1 (y_doubles l D cI cS τ ρ hW H_c28 hT_c28 a0 x_23 ha0 N hN0 hN1 ⟨hI_c28.1, hI_c28.2.1, hI_c28.2.2.1, hI_c28.2.2.2.1, hI_c28.2.2.2.2.1, hI_c28.2.2.2.2.2⟩ (by omega)) lk_X12_257 yd_X12_doubles hT_c28 ha0 rfl (by decide) hS_c28 (fun q h => (Or.inr (Or.inl h))) ⟨by decide, by decide⟩ (Nat.le_of_ble_eq_true rfl) ⟨by decide, by decide⟩ rfl dX12_drive_138 (fun r_29 H_29 locs_29 p_29 hT_29 hk_29 hS_29 => ?_)
                have p_29 : (IM D ρ N H_29 a0) := p_29
                refine lv_pop hx hb dX12_drive_141 rfl ?_
                refine lv_goto (tgt := 152) hx hb dX12_drive_142 (by decide) ?_
                exact J_152 H_29 locs_29 _ x_11 x_14 hT_29 hS_29 (lv_sub hl [4, 5, 6, 7, 3, 2] rfl) (by omega) (by omega) (by omega) (by omega) (by omega) (by omega) (by omega) (by omega) ⟨p_29.1, p_29.2.1, p_29.2.2.1, p_29.2.2.2.1, p_29.2.2.2.2.1, p_29.2.2.2.2.2⟩
            · have f_26 : x_25.toInt = 0 := r_eq rfl (by decide) c_26
              refine lv_aload_n hx hb dX12_drive_120 rfl (lv_at hl 4 rfl) ?_
              refine lv_iload hx hb dX12_drive_121 (lv_at hl 1 rfl) ?_
              refine th_Vv (As := [.int x_23]) (rest := []) E hml hl.1 (y_removes l D cI cS τ ρ hW H_c28 hT_c28 a0 x_23 ha0 N hN0 hN1 ⟨hI_c28.1, hI_c28.2.1, hI_c28.2.2.1, hI_c28.2.2.2.1, hI_c28.2.2.2.2.1, hI_c28.2.2.2.2.2⟩ (by have : (ai H_c28 (ρ a0 0) 976).toInt = (x_16 : Int32).toInt := congrArg Int32.toInt ex_16.symm; omega)) lk_X12_236 yd_X12_removes hT_c28 ha0 rfl (by decide) hS_c28 (fun q h => (Or.inr (Or.inl h))) ⟨by decide, by decide⟩ (Nat.le_of_ble_eq_true rfl) ⟨by decide, by decide⟩ rfl dX12_drive_123 (fun H_30 locs_30 p_30 hT_30 hk_30 hS_30 => ?_)
              have p_30 : (IM D ρ N H_30 a0) ∧ ((ai H_30 (ρ a0 0) 976).toInt = (ai H_c28 (ρ a0 0) 976).toInt - 1) := p_30
              obtain ⟨p_30_0, p_30_1⟩ := p_30
              refine lv_goto (tgt := 152) hx hb dX12_drive_126 (by decide) ?_
              exact J_152 H_30 locs_30 _ x_11 x_14 hT_30 hS_30 (lv_sub hl [4, 5, 6, 7, 3, 2] rfl) (by omega) (by omega) (by omega) (by omega) (by omega) (by omega) (by omega) (by omega) ⟨p_30_0.1, p_30_0.2.1, p_30_0.2.2.1, p_30_0.2.2.2.1, p_30_0.2.2.2.2.1, p_30_0.2.2.2.2.2⟩
          · have f_19 : x_18.toInt = 0 := r_eq rfl (by decide) c_19
            exact J_81 H_c28 lc_c28 _ x_11 x_14 hT_c28 hS_c28 (lv_sub hl [2, 3, 4, 5, 1, 0] rfl) (by omega) (by omega) (by omega) (by omega) (by omega) (by omega) (by omega) (by omega) ⟨hI_c28.1, hI_c28.2.1, hI_c28.2.2.1, hI_c28.2.2.2.1, hI_c28.2.2.2.2.1, hI_c28.2.2.2.2.2⟩
  refine lv_iload_n hx hb dX12_drive_0 rfl (lv_at hl 1 rfl) ?_
  obtain ⟨x_31, ex_31⟩ : ∃ y : Int64, x0.toInt64 = y := ⟨_, rfl⟩
  refine lv_i2l (v := x_31) hx hb dX12_drive_1 ex_31 ?_
  have q_31 : x_31.toInt = x0.toInt := by rw [← ex_31]; exact Int32.toInt_toInt64 _
  refine lv_lconst (v := 0) hx hb dX12_drive_2 (by decide) ?_
  refine lv_ldc2 (v := 9999) hx hb hown (hts _ qw_1214) dX12_drive_3 ?_
  refine th_Si (As := [.long x_31, .long 0, .long 9999]) (rest := []) E hml hl.1 (y_in_v12 l D cI cS τ ρ hW H hT x_31) lk_X12_54 yd_X12_in hS (fun _ h => h.elim) ⟨by decide, by decide⟩ (Nat.le_of_ble_eq_true rfl) ⟨by decide, by decide⟩ rfl dX12_drive_6 (fun r_32 H_32 locs_32 p_32 hT_32 hk_32 hS_32 => ?_)
  have p_32 : H = H_32 ∧ (r_32 = 0 ∨ r_32 = 1) ∧ ((r_32.toInt = 1 ∧ 0 ≤ x_31.toInt ∧ x_31.toInt ≤ 9999) ∨ (r_32.toInt = 0 ∧ (x_31.toInt < 0 ∨ 9999 < x_31.toInt))) := p_32
  obtain ⟨rfl, p_32_0, p_32_1⟩ := p_32
  have z_32 := b_iv p_32_0
  refine lv_if_eq (tgt := 24) hx hb dX12_drive_9 (by decide) (fun c_33 => ?_) (fun c_33 => ?_)
  · have f_33 : r_32.toInt = 0 := r_eq rfl (by decide) c_33
    refine lv_iconst (v := (-1)) hx hb dX12_drive_24 (by decide) ?_
    exact th_iret E hr hlk hs hT_32 hS_32 ⟨hI.1, hI.2.1, hI.2.2.1, hI.2.2.2.1, hI.2.2.2.2.1, hI.2.2.2.2.2⟩ dX12_drive_25
  · have f_33 : ¬ r_32.toInt = 0 := r_ne rfl (by decide) c_33
    have nz_r_32 : ¬ r_32 = 0 := c_33
    refine lv_iload_n hx hb dX12_drive_12 rfl (lv_at hl 2 rfl) ?_
    obtain ⟨x_34, ex_34⟩ : ∃ y : Int64, x1.toInt64 = y := ⟨_, rfl⟩
    refine lv_i2l (v := x_34) hx hb dX12_drive_13 ex_34 ?_
    have q_34 : x_34.toInt = x1.toInt := by rw [← ex_34]; exact Int32.toInt_toInt64 _
    refine lv_lconst (v := 1) hx hb dX12_drive_14 (by decide) ?_
    refine lv_ldc2 (v := 60) hx hb hown (hts _ qw_1215) dX12_drive_15 ?_
    refine th_Si (As := [.long x_34, .long 1, .long 60]) (rest := []) E hml hl.1 (y_in_v13 l D cI cS τ ρ hW H hT_32 x_34) lk_X12_54 yd_X12_in hS_32 (fun _ h => h.elim) ⟨by decide, by decide⟩ (Nat.le_of_ble_eq_true rfl) ⟨by decide, by decide⟩ rfl dX12_drive_18 (fun r_35 H_35 locs_35 p_35 hT_35 hk_35 hS_35 => ?_)
    have p_35 : H = H_35 ∧ (r_35 = 0 ∨ r_35 = 1) ∧ ((r_35.toInt = 1 ∧ 1 ≤ x_34.toInt ∧ x_34.toInt ≤ 60) ∨ (r_35.toInt = 0 ∧ (x_34.toInt < 1 ∨ 60 < x_34.toInt))) := p_35
    obtain ⟨rfl, p_35_0, p_35_1⟩ := p_35
    have z_35 := b_iv p_35_0
    refine lv_if_ne (tgt := 26) hx hb dX12_drive_21 (by decide) (fun c_36 => ?_) (fun c_36 => ?_)
    · have f_36 : ¬ r_35.toInt = 0 := r_ne rfl (by decide) c_36
      have nz_r_35 : ¬ r_35 = 0 := c_36
      refine lv_iconst (v := 0) hx hb dX12_drive_26 (by decide) ?_
      refine lv_istore_n (lv' := [(3, .int 0), (0, .ref a0), (1, .int x0), (2, .int x1)]) hx hb dX12_drive_27 rfl hl (by decide) rfl (fun ls hl => ?_)
      exact L_28 _ H locs_35 _ 0 hT_35 hS_35 (lv_sub hl [1, 2, 3, 0] rfl) (by omega) (by omega) (by omega) (by omega) (by decide) ⟨hI.1, hI.2.1, hI.2.2.1, hI.2.2.2.1, hI.2.2.2.2.1, hI.2.2.2.2.2⟩ (Nat.lt_succ_self _)
    · have f_36 : r_35.toInt = 0 := r_eq rfl (by decide) c_36
      refine lv_iconst (v := (-1)) hx hb dX12_drive_24 (by decide) ?_
      exact th_iret E hr hlk hs hT_35 hS_35 ⟨hI.1, hI.2.1, hI.2.2.1, hI.2.2.2.1, hI.2.2.2.2.1, hI.2.2.2.2.2⟩ dX12_drive_25
set_option maxHeartbeats 4000000 in
set_option maxRecDepth 100000 in
/-- the reference: in -/
theorem y_in_v14 (l : Launch) (D : va_G) (cI cS : ClassId) (τ : Nat → Option Nat) (ρ : Nat → Nat → Nat) (hW : WF τ ρ) (H : Heap) (hT : TH D cI cS τ ρ H) (x0 : Int64) : MI l D cI cS τ ρ yX12_in cX12_in 6 (some .boolean) 0 0 H [.long x0, .long 0, .long 11] (fun (r : Int32) (u : Heap) => (H = u) ∧ (r = 0 ∨ r = 1) ∧ ((r.toInt = 1 ∧ 0 ≤ x0.toInt ∧ x0.toInt ≤ 11) ∨ (r.toInt = 0 ∧ (x0.toInt < 0 ∨ 11 < x0.toInt)))) (fun q => False) := by
  refine MI.of (by decide) (Nat.le_of_ble_eq_true rfl) ?_
  intro p e s m args below meth c E hml hr hlk hs ls hl
  have hx := E.1
  have hb := E.2.1
  have hown := E.2.2.1
  have hts := E.2.2.2.1
  have hS : SS (fun q => False) H H [] := SS.rf
  have hl : lv_has ls 6 [(0, .long x0), (2, .long 0), (4, .long 11)] := hl
  refine lv_lload_n hx hb dX12_in_0 rfl (lv_at hl 0 rfl) ?_
  refine lv_lload_n hx hb dX12_in_1 rfl (lv_at hl 1 rfl) ?_
  refine W.lcmp hx hb dX12_in_2 ?_
  refine lv_topi (fun x_1 ex_1 => ?_)
  have q_1 := l_cmp (a := x0) (b := (0 : Int64)) (m := x0.toInt) (n := 0) rfl (by decide) ex_1
  refine lv_if_lt (tgt := 17) hx hb dX12_in_3 (by decide) (fun c_2 => ?_) (fun c_2 => ?_)
  · have f_2 : x_1.toInt < 0 := r_lt rfl (by decide) c_2
    refine lv_iconst (v := 0) hx hb dX12_in_17 (by decide) ?_
    exact th_zret E hr hlk hs (Or.inl rfl) hT hS ⟨rfl, (Or.inl rfl), (by have : (0 : Int32).toInt = 0 := (by decide); omega)⟩ dX12_in_18
  · have f_2 : 0 ≤ x_1.toInt := r_nlt rfl (by decide) c_2
    refine lv_lload_n hx hb dX12_in_6 rfl (lv_at hl 0 rfl) ?_
    refine lv_lload hx hb dX12_in_7 (lv_at hl 2 rfl) ?_
    refine W.lcmp hx hb dX12_in_9 ?_
    refine lv_topi (fun x_3 ex_3 => ?_)
    have q_3 := l_cmp (a := x0) (b := (11 : Int64)) (m := x0.toInt) (n := 11) rfl (by decide) ex_3
    refine lv_if_gt (tgt := 17) hx hb dX12_in_10 (by decide) (fun c_4 => ?_) (fun c_4 => ?_)
    · have f_4 : 0 < x_3.toInt := r_lt (by decide) rfl c_4
      refine lv_iconst (v := 0) hx hb dX12_in_17 (by decide) ?_
      exact th_zret E hr hlk hs (Or.inl rfl) hT hS ⟨rfl, (Or.inl rfl), (by have : (0 : Int32).toInt = 0 := (by decide); omega)⟩ dX12_in_18
    · have f_4 : x_3.toInt ≤ 0 := r_nlt (by decide) rfl c_4
      refine lv_iconst (v := 1) hx hb dX12_in_13 (by decide) ?_
      refine lv_goto (tgt := 18) hx hb dX12_in_14 (by decide) ?_
      exact th_zret E hr hlk hs (Or.inr rfl) hT hS ⟨rfl, (Or.inr rfl), (by have : (1 : Int32).toInt = 1 := (by decide); omega)⟩ dX12_in_18
set_option maxHeartbeats 4000000 in
set_option maxRecDepth 100000 in
/-- the reference: letter -/
theorem y_letter (l : Launch) (D : va_G) (cI cS : ClassId) (τ : Nat → Option Nat) (ρ : Nat → Nat → Nat) (hW : WF τ ρ) (H : Heap) (hT : TH D cI cS τ ρ H) (a0 : Nat) (x0 : Int32) (x1 : Int32) (ha0 : τ a0 = some 12) (N : Int) (hN0 : 0 ≤ N) (hN1 : N ≤ 600) (hI : IM D ρ N H a0) : MI l D cI cS τ ρ yX12_letter cX12_letter 3 (some .int) 2 46 H [.ref a0, .int x0, .int x1] (fun (r : Int32) (u : Heap) => (H = u)) (fun q => False) := by
  refine MI.of (by decide) (Nat.le_of_ble_eq_true rfl) ?_
  intro p e s m args below meth c E hml hr hlk hs ls hl
  have hx := E.1
  have hb := E.2.1
  have hown := E.2.2.1
  have hts := E.2.2.2.1
  have hS : SS (fun q => False) H H [] := SS.rf
  have hl : lv_has ls 3 [(0, .ref a0), (1, .int x0), (2, .int x1)] := hl
  have n01 := hI.2.2.2.2.2.1
  have n23 := hI.2.2.2.2.2.2.1
  refine lv_aload_n hx hb dX12_letter_0 rfl (lv_at hl 0 rfl) ?_
  refine lv_iload_n hx hb dX12_letter_1 rfl (lv_at hl 1 rfl) ?_
  refine th_Vi (As := [.int x0]) (rest := []) E hml hl.1 (y_isLetter l D cI cS τ ρ hW H hT a0 x0 ha0 N hN0 hN1 ⟨hI.1, hI.2.1, hI.2.2.1, hI.2.2.2.1, hI.2.2.2.2.1, hI.2.2.2.2.2⟩) lk_X12_251 yd_X12_isLetter hT ha0 rfl (by decide) hS (fun _ h => h.elim) ⟨by decide, by decide⟩ (Nat.le_of_ble_eq_true rfl) ⟨by decide, by decide⟩ rfl dX12_letter_2 (fun r_1 H_1 locs_1 p_1 hT_1 hk_1 hS_1 => ?_)
  have p_1 : H = H_1 ∧ (r_1 = 0 ∨ r_1 = 1) ∧ (r_1.toInt = 1 → (0 ≤ x0.toInt ∧ x0.toInt + 1 ≤ (ai H (ρ a0 0) 976).toInt ∧ x0.toInt ≤ 19)) := p_1
  obtain ⟨rfl, p_1_0, p_1_1⟩ := p_1
  have z_1 := b_iv p_1_0
  refine lv_if_eq (tgt := 38) hx hb dX12_letter_5 (by decide) (fun c_2 => ?_) (fun c_2 => ?_)
  · have f_2 : r_1.toInt = 0 := r_eq rfl (by decide) c_2
    refine lv_iconst (v := (-1)) hx hb dX12_letter_38 (by decide) ?_
    exact th_iret E hr hlk hs hT_1 hS_1 rfl dX12_letter_39
  · have f_2 : ¬ r_1.toInt = 0 := r_ne rfl (by decide) c_2
    have nz_r_1 : ¬ r_1 = 0 := c_2
    refine lv_iload_n hx hb dX12_letter_8 rfl (lv_at hl 2 rfl) ?_
    obtain ⟨x_3, ex_3⟩ : ∃ y : Int64, x1.toInt64 = y := ⟨_, rfl⟩
    refine lv_i2l (v := x_3) hx hb dX12_letter_9 ex_3 ?_
    have q_3 : x_3.toInt = x1.toInt := by rw [← ex_3]; exact Int32.toInt_toInt64 _
    refine lv_lconst (v := 0) hx hb dX12_letter_10 (by decide) ?_
    refine lv_ldc2 (v := 11) hx hb hown (hts _ qw_1221) dX12_letter_11 ?_
    refine th_Si (As := [.long x_3, .long 0, .long 11]) (rest := []) E hml hl.1 (y_in_v14 l D cI cS τ ρ hW H hT_1 x_3) lk_X12_54 yd_X12_in hS_1 (fun _ h => h.elim) ⟨by decide, by decide⟩ (Nat.le_of_ble_eq_true rfl) ⟨by decide, by decide⟩ rfl dX12_letter_14 (fun r_4 H_4 locs_4 p_4 hT_4 hk_4 hS_4 => ?_)
    have p_4 : H = H_4 ∧ (r_4 = 0 ∨ r_4 = 1) ∧ ((r_4.toInt = 1 ∧ 0 ≤ x_3.toInt ∧ x_3.toInt ≤ 11) ∨ (r_4.toInt = 0 ∧ (x_3.toInt < 0 ∨ 11 < x_3.toInt))) := p_4
    obtain ⟨rfl, p_4_0, p_4_1⟩ := p_4
    have z_4 := b_iv p_4_0
    refine lv_if_eq (tgt := 38) hx hb dX12_letter_17 (by decide) (fun c_5 => ?_) (fun c_5 => ?_)
    · have f_5 : r_4.toInt = 0 := r_eq rfl (by decide) c_5
      refine lv_iconst (v := (-1)) hx hb dX12_letter_38 (by decide) ?_
      exact th_iret E hr hlk hs hT_4 hS_4 rfl dX12_letter_39
    · have f_5 : ¬ r_4.toInt = 0 := r_ne rfl (by decide) c_5
      have nz_r_4 : ¬ r_4 = 0 := c_5
      refine lv_aload_n hx hb dX12_letter_20 rfl (lv_at hl 0 rfl) ?_
      refine gf_X12_7 E hT_4 hW ha0 dX12_letter_21 (fun h_6 => ?_)
      refine lv_sipush (v := 576) hx hb dX12_letter_24 (by decide) ?_
      refine lv_bipush (v := 20) hx hb dX12_letter_27 (by decide) ?_
      refine lv_iload_n hx hb dX12_letter_29 rfl (lv_at hl 1 rfl) ?_
      refine lv_imul hx hb dX12_letter_30 ?_
      refine lv_topi (fun x_7 ex_7 => ?_)
      have q_7 : x_7.toInt = 20 * x0.toInt := i_ml (by decide) rfl ex_7 (by omega) (by omega)
      refine lv_iadd hx hb dX12_letter_31 ?_
      refine lv_topi (fun x_8 ex_8 => ?_)
      have q_8 : x_8.toInt = 576 + x_7.toInt := i_pl (by decide) rfl ex_8 (by omega) (by omega)
      refine lv_iload_n hx hb dX12_letter_32 rfl (lv_at hl 2 rfl) ?_
      refine lv_iadd hx hb dX12_letter_33 ?_
      refine lv_topi (fun x_9 ex_9 => ?_)
      have q_9 : x_9.toInt = x_8.toInt + x1.toInt := i_pl rfl rfl ex_9 (by omega) (by omega)
      refine th_iald E hT_4 h_6 (by decide) (vp_in_iff.mpr ⟨by omega, by omega⟩) dX12_letter_34 ?_
      refine th_topi (y := ai H (ρ a0 0) x_9.toInt.toNat) rfl ?_
      refine lv_topi (fun x_10 ex_10 => ?_)
      have cl_10 : bW (x_9.toInt.toNat) ≤ x_10.toInt ∧ x_10.toInt ≤ uW N (x_9.toInt.toNat) := by rw [ex_10]; exact hI.1 _ (by have := i_max x_9; omega)
      refine lv_goto (tgt := 39) hx hb dX12_letter_35 (by decide) ?_
      exact th_iret E hr hlk hs hT_4 hS_4 rfl dX12_letter_39
set_option maxHeartbeats 4000000 in
set_option maxRecDepth 100000 in
/-- the reference: byteOf -/
theorem y_byteOf (l : Launch) (D : va_G) (cI cS : ClassId) (τ : Nat → Option Nat) (ρ : Nat → Nat → Nat) (hW : WF τ ρ) (H : Heap) (hT : TH D cI cS τ ρ H) (a0 : Nat) (x0 : Int32) (x1 : Int32) (ha0 : τ a0 = some 12) (N : Int) (hN0 : 0 ≤ N) (hN1 : N ≤ 600) (hI : IM D ρ N H a0) : MI l D cI cS τ ρ yX12_byteOf cX12_byteOf 3 (some .int) 2 46 H [.ref a0, .int x0, .int x1] (fun (r : Int32) (u : Heap) => (H = u)) (fun q => False) := by
  refine MI.of (by decide) (Nat.le_of_ble_eq_true rfl) ?_
  intro p e s m args below meth c E hml hr hlk hs ls hl
  have hx := E.1
  have hb := E.2.1
  have hown := E.2.2.1
  have hts := E.2.2.2.1
  have hS : SS (fun q => False) H H [] := SS.rf
  have hl : lv_has ls 3 [(0, .ref a0), (1, .int x0), (2, .int x1)] := hl
  have n01 := hI.2.2.2.2.2.1
  have n23 := hI.2.2.2.2.2.2.1
  refine lv_aload_n hx hb dX12_byteOf_0 rfl (lv_at hl 0 rfl) ?_
  refine lv_iload_n hx hb dX12_byteOf_1 rfl (lv_at hl 1 rfl) ?_
  refine th_Vi (As := [.int x0]) (rest := []) E hml hl.1 (y_isLetter l D cI cS τ ρ hW H hT a0 x0 ha0 N hN0 hN1 ⟨hI.1, hI.2.1, hI.2.2.1, hI.2.2.2.1, hI.2.2.2.2.1, hI.2.2.2.2.2⟩) lk_X12_251 yd_X12_isLetter hT ha0 rfl (by decide) hS (fun _ h => h.elim) ⟨by decide, by decide⟩ (Nat.le_of_ble_eq_true rfl) ⟨by decide, by decide⟩ rfl dX12_byteOf_2 (fun r_1 H_1 locs_1 p_1 hT_1 hk_1 hS_1 => ?_)
  have p_1 : H = H_1 ∧ (r_1 = 0 ∨ r_1 = 1) ∧ (r_1.toInt = 1 → (0 ≤ x0.toInt ∧ x0.toInt + 1 ≤ (ai H (ρ a0 0) 976).toInt ∧ x0.toInt ≤ 19)) := p_1
  obtain ⟨rfl, p_1_0, p_1_1⟩ := p_1
  have z_1 := b_iv p_1_0
  refine lv_if_eq (tgt := 12) hx hb dX12_byteOf_5 (by decide) (fun c_2 => ?_) (fun c_2 => ?_)
  · have f_2 : r_1.toInt = 0 := r_eq rfl (by decide) c_2
    refine lv_iconst (v := (-1)) hx hb dX12_byteOf_12 (by decide) ?_
    exact th_iret E hr hlk hs hT_1 hS_1 rfl dX12_byteOf_13
  · have f_2 : ¬ r_1.toInt = 0 := r_ne rfl (by decide) c_2
    have nz_r_1 : ¬ r_1 = 0 := c_2
    refine lv_iload_n hx hb dX12_byteOf_8 rfl (lv_at hl 2 rfl) ?_
    refine lv_if_ge (tgt := 14) hx hb dX12_byteOf_9 (by decide) (fun c_3 => ?_) (fun c_3 => ?_)
    · have f_3 : 0 ≤ x1.toInt := r_le (by decide) rfl c_3
      refine lv_iload_n hx hb dX12_byteOf_14 rfl (lv_at hl 2 rfl) ?_
      refine lv_aload_n hx hb dX12_byteOf_15 rfl (lv_at hl 0 rfl) ?_
      refine gf_X12_7 E hT_1 hW ha0 dX12_byteOf_16 (fun h_4 => ?_)
      refine lv_sipush (v := 576) hx hb dX12_byteOf_19 (by decide) ?_
      refine lv_bipush (v := 20) hx hb dX12_byteOf_22 (by decide) ?_
      refine lv_iload_n hx hb dX12_byteOf_24 rfl (lv_at hl 1 rfl) ?_
      refine lv_imul hx hb dX12_byteOf_25 ?_
      refine lv_topi (fun x_5 ex_5 => ?_)
      have q_5 : x_5.toInt = 20 * x0.toInt := i_ml (by decide) rfl ex_5 (by omega) (by omega)
      refine lv_iadd hx hb dX12_byteOf_26 ?_
      refine lv_topi (fun x_6 ex_6 => ?_)
      have q_6 : x_6.toInt = 576 + x_5.toInt := i_pl (by decide) rfl ex_6 (by omega) (by omega)
      refine lv_iconst (v := 5) hx hb dX12_byteOf_27 (by decide) ?_
      refine lv_iadd hx hb dX12_byteOf_28 ?_
      refine lv_topi (fun x_7 ex_7 => ?_)
      have q_7 : x_7.toInt = x_6.toInt + 5 := i_pl rfl (by decide) ex_7 (by omega) (by omega)
      refine th_iald E hT_1 h_4 (by decide) (vp_in_iff.mpr ⟨by omega, by omega⟩) dX12_byteOf_29 ?_
      refine th_topi (y := ai H (ρ a0 0) x_7.toInt.toNat) rfl ?_
      refine lv_topi (fun x_8 ex_8 => ?_)
      have cl_8 : bW (x_7.toInt.toNat) ≤ x_8.toInt ∧ x_8.toInt ≤ uW N (x_7.toInt.toNat) := by rw [ex_8]; exact hI.1 _ (by have := i_max x_7; omega)
      have sz_8 : x_8.toInt ≤ 8 := by have h := cl_8.2; rw [uW5 (by omega) (by omega)] at h; exact h
      refine lv_icmp_ge (tgt := 54) hx hb dX12_byteOf_30 (by decide) (fun c_9 => ?_) (fun c_9 => ?_)
      · have f_9 : x_8.toInt ≤ x1.toInt := r_le rfl rfl c_9
        refine lv_bipush (v := (-4)) hx hb dX12_byteOf_54 (by decide) ?_
        exact th_iret E hr hlk hs hT_1 hS_1 rfl dX12_byteOf_56
      · have f_9 : x1.toInt < x_8.toInt := r_nle rfl rfl c_9
        refine lv_aload_n hx hb dX12_byteOf_33 rfl (lv_at hl 0 rfl) ?_
        refine gf_X12_7 E hT_1 hW ha0 dX12_byteOf_34 (fun h_10 => ?_)
        refine lv_sipush (v := 576) hx hb dX12_byteOf_37 (by decide) ?_
        refine lv_bipush (v := 20) hx hb dX12_byteOf_40 (by decide) ?_
        refine lv_iload_n hx hb dX12_byteOf_42 rfl (lv_at hl 1 rfl) ?_
        refine lv_imul hx hb dX12_byteOf_43 ?_
        refine lv_topi (fun x_11 ex_11 => ?_)
        have q_11 : x_11.toInt = 20 * x0.toInt := i_ml (by decide) rfl ex_11 (by omega) (by omega)
        refine lv_iadd hx hb dX12_byteOf_44 ?_
        refine lv_topi (fun x_12 ex_12 => ?_)
        have q_12 : x_12.toInt = 576 + x_11.toInt := i_pl (by decide) rfl ex_12 (by omega) (by omega)
        refine lv_bipush (v := 12) hx hb dX12_byteOf_45 (by decide) ?_
        refine lv_iadd hx hb dX12_byteOf_47 ?_
        refine lv_topi (fun x_13 ex_13 => ?_)
        have q_13 : x_13.toInt = x_12.toInt + 12 := i_pl rfl (by decide) ex_13 (by omega) (by omega)
        refine lv_iload_n hx hb dX12_byteOf_48 rfl (lv_at hl 2 rfl) ?_
        refine lv_iadd hx hb dX12_byteOf_49 ?_
        refine lv_topi (fun x_14 ex_14 => ?_)
        have q_14 : x_14.toInt = x_13.toInt + x1.toInt := i_pl rfl rfl ex_14 (by omega) (by omega)
        refine th_iald E hT_1 h_10 (by decide) (vp_in_iff.mpr ⟨by omega, by omega⟩) dX12_byteOf_50 ?_
        refine th_topi (y := ai H (ρ a0 0) x_14.toInt.toNat) rfl ?_
        refine lv_topi (fun x_15 ex_15 => ?_)
        have cl_15 : bW (x_14.toInt.toNat) ≤ x_15.toInt ∧ x_15.toInt ≤ uW N (x_14.toInt.toNat) := by rw [ex_15]; exact hI.1 _ (by have := i_max x_14; omega)
        refine lv_goto (tgt := 56) hx hb dX12_byteOf_51 (by decide) ?_
        exact th_iret E hr hlk hs hT_1 hS_1 rfl dX12_byteOf_56
    · have f_3 : x1.toInt < 0 := r_nle (by decide) rfl c_3
      refine lv_iconst (v := (-1)) hx hb dX12_byteOf_12 (by decide) ?_
      exact th_iret E hr hlk hs hT_1 hS_1 rfl dX12_byteOf_13
set_option maxHeartbeats 4000000 in
set_option maxRecDepth 100000 in
/-- the reference: cause -/
theorem y_cause (l : Launch) (D : va_G) (cI cS : ClassId) (τ : Nat → Option Nat) (ρ : Nat → Nat → Nat) (hW : WF τ ρ) (H : Heap) (hT : TH D cI cS τ ρ H) (a0 : Nat) (x0 : Int32) (ha0 : τ a0 = some 12) (N : Int) (hN0 : 0 ≤ N) (hN1 : N ≤ 600) (hI : IM D ρ N H a0) : MI l D cI cS τ ρ yX12_cause cX12_cause 2 (some .int) 0 0 H [.ref a0, .int x0] (fun (r : Int32) (u : Heap) => (H = u)) (fun q => False) := by
  refine MI.of (by decide) (Nat.le_of_ble_eq_true rfl) ?_
  intro p e s m args below meth c E hml hr hlk hs ls hl
  have hx := E.1
  have hb := E.2.1
  have hown := E.2.2.1
  have hts := E.2.2.2.1
  have hS : SS (fun q => False) H H [] := SS.rf
  have hl : lv_has ls 2 [(0, .ref a0), (1, .int x0)] := hl
  have n01 := hI.2.2.2.2.2.1
  have n23 := hI.2.2.2.2.2.2.1
  refine lv_iload_n hx hb dX12_cause_0 rfl (lv_at hl 1 rfl) ?_
  refine lv_if_ge (tgt := 8) hx hb dX12_cause_1 (by decide) (fun c_1 => ?_) (fun c_1 => ?_)
  · have f_1 : 0 ≤ x0.toInt := r_le (by decide) rfl c_1
    refine lv_iload_n hx hb dX12_cause_8 rfl (lv_at hl 1 rfl) ?_
    refine lv_aload_n hx hb dX12_cause_9 rfl (lv_at hl 0 rfl) ?_
    refine gf_X12_7 E hT hW ha0 dX12_cause_10 (fun h_2 => ?_)
    refine lv_sipush (v := 982) hx hb dX12_cause_13 (by decide) ?_
    refine th_iald E hT h_2 (by decide) (vp_in_iff.mpr ⟨by decide, by decide⟩) dX12_cause_16 ?_
    refine th_topi (y := ai H (ρ a0 0) 982) rfl ?_
    refine lv_topi (fun x_3 ex_3 => ?_)
    have b_x_3 : (-2147483648 : Int) ≤ x_3.toInt ∧ x_3.toInt ≤ 2 := by rw [← ex_3.symm]; exact hI.1 982 (by decide)
    have c_x_3 := congrArg Int32.toInt ex_3.symm
    refine lv_icmp_ge (tgt := 33) hx hb dX12_cause_17 (by decide) (fun c_4 => ?_) (fun c_4 => ?_)
    · have f_4 : x_3.toInt ≤ x0.toInt := r_le rfl rfl c_4
      refine lv_bipush (v := (-4)) hx hb dX12_cause_33 (by decide) ?_
      exact th_iret E hr hlk hs hT hS rfl dX12_cause_35
    · have f_4 : x0.toInt < x_3.toInt := r_nle rfl rfl c_4
      refine lv_aload_n hx hb dX12_cause_20 rfl (lv_at hl 0 rfl) ?_
      refine gf_X12_7 E hT hW ha0 dX12_cause_21 (fun h_5 => ?_)
      refine lv_sipush (v := 983) hx hb dX12_cause_24 (by decide) ?_
      refine lv_iload_n hx hb dX12_cause_27 rfl (lv_at hl 1 rfl) ?_
      refine lv_iadd hx hb dX12_cause_28 ?_
      refine lv_topi (fun x_6 ex_6 => ?_)
      have q_6 : x_6.toInt = 983 + x0.toInt := i_pl (by decide) rfl ex_6 (by omega) (by omega)
      refine th_iald E hT h_5 (by decide) (vp_in_iff.mpr ⟨by omega, by omega⟩) dX12_cause_29 ?_
      refine th_topi (y := ai H (ρ a0 0) x_6.toInt.toNat) rfl ?_
      refine lv_topi (fun x_7 ex_7 => ?_)
      have cl_7 : bW (x_6.toInt.toNat) ≤ x_7.toInt ∧ x_7.toInt ≤ uW N (x_6.toInt.toNat) := by rw [ex_7]; exact hI.1 _ (by have := i_max x_6; omega)
      refine lv_goto (tgt := 35) hx hb dX12_cause_30 (by decide) ?_
      exact th_iret E hr hlk hs hT hS rfl dX12_cause_35
  · have f_1 : x0.toInt < 0 := r_nle (by decide) rfl c_1
    refine lv_iconst (v := (-1)) hx hb dX12_cause_4 (by decide) ?_
    refine lv_goto (tgt := 35) hx hb dX12_cause_5 (by decide) ?_
    exact th_iret E hr hlk hs hT hS rfl dX12_cause_35
set_option maxHeartbeats 4000000 in
set_option maxRecDepth 100000 in
/-- the reference: count -/
theorem y_count (l : Launch) (D : va_G) (cI cS : ClassId) (τ : Nat → Option Nat) (ρ : Nat → Nat → Nat) (hW : WF τ ρ) (H : Heap) (hT : TH D cI cS τ ρ H) (a0 : Nat) (x0 : Int32) (ha0 : τ a0 = some 12) (N : Int) (hN0 : 0 ≤ N) (hN1 : N ≤ 600) (hI : IM D ρ N H a0) : MI l D cI cS τ ρ yX12_count cX12_count 2 (some .int) 0 0 H [.ref a0, .int x0] (fun (r : Int32) (u : Heap) => (H = u)) (fun q => False) := by
  refine MI.of (by decide) (Nat.le_of_ble_eq_true rfl) ?_
  intro p e s m args below meth c E hml hr hlk hs ls hl
  have hx := E.1
  have hb := E.2.1
  have hown := E.2.2.1
  have hts := E.2.2.2.1
  have hS : SS (fun q => False) H H [] := SS.rf
  have hl : lv_has ls 2 [(0, .ref a0), (1, .int x0)] := hl
  have n01 := hI.2.2.2.2.2.1
  have n23 := hI.2.2.2.2.2.2.1
  refine lv_iload_n hx hb dX12_count_0 rfl (lv_at hl 1 rfl) ?_
  by_cases k1_0 : x0 = 0
  · refine th_topi k1_0 ?_
    refine lv_tableIn (tgt := 64) hx hb dX12_count_1 (by decide) (by decide) rfl (by decide) ?_
    have kc1_0 : x0.toInt = 0 := r_eq rfl (by decide) k1_0
    refine lv_aload_n hx hb dX12_count_64 rfl (lv_at hl 0 rfl) ?_
    refine gf_X12_25 E hT ha0 dX12_count_65 ?_
    refine lv_topi (fun x_2 ex_2 => ?_)
    have b_2 : 1 ≤ x_2.toInt ∧ x_2.toInt ≤ 8 := by rw [ex_2]; exact IF.f6 hI.2.2.2.2.2
    exact th_iret E hr hlk hs hT hS rfl dX12_count_68
  by_cases k1_1 : x0 = 1
  · refine th_topi k1_1 ?_
    refine lv_tableIn (tgt := 69) hx hb dX12_count_1 (by decide) (by decide) rfl (by decide) ?_
    have kc1_1 : x0.toInt = 1 := r_eq rfl (by decide) k1_1
    refine lv_aload_n hx hb dX12_count_69 rfl (lv_at hl 0 rfl) ?_
    refine gf_X12_29 E hT ha0 dX12_count_70 ?_
    refine lv_topi (fun x_3 ex_3 => ?_)
    have b_3 : 2 ≤ x_3.toInt ∧ x_3.toInt ≤ 32 := by rw [ex_3]; exact IF.f7 hI.2.2.2.2.2
    exact th_iret E hr hlk hs hT hS rfl dX12_count_73
  by_cases k1_2 : x0 = 2
  · refine th_topi k1_2 ?_
    refine lv_tableIn (tgt := 74) hx hb dX12_count_1 (by decide) (by decide) rfl (by decide) ?_
    have kc1_2 : x0.toInt = 2 := r_eq rfl (by decide) k1_2
    refine lv_aload_n hx hb dX12_count_74 rfl (lv_at hl 0 rfl) ?_
    refine gf_X12_35 E hT hW ha0 dX12_count_75 (fun h_4 => ?_)
    refine lv_iload_n hx hb dX12_count_78 rfl (lv_at hl 1 rfl) ?_
    refine lv_iconst (v := 2) hx hb dX12_count_79 (by decide) ?_
    refine lv_isub hx hb dX12_count_80 ?_
    refine lv_topi (fun x_5 ex_5 => ?_)
    have q_5 : x_5.toInt = x0.toInt - 2 := i_mi rfl (by decide) ex_5 (by omega) (by omega)
    refine th_iald E hT h_4 (by decide) (vp_in_iff.mpr ⟨by omega, by omega⟩) dX12_count_81 ?_
    refine th_topi (y := ai H (ρ a0 9) x_5.toInt.toNat) rfl ?_
    refine lv_topi (fun x_6 ex_6 => ?_)
    exact th_iret E hr hlk hs hT hS rfl dX12_count_82
  by_cases k1_3 : x0 = 3
  · refine th_topi k1_3 ?_
    refine lv_tableIn (tgt := 74) hx hb dX12_count_1 (by decide) (by decide) rfl (by decide) ?_
    have kc1_3 : x0.toInt = 3 := r_eq rfl (by decide) k1_3
    refine lv_aload_n hx hb dX12_count_74 rfl (lv_at hl 0 rfl) ?_
    refine gf_X12_35 E hT hW ha0 dX12_count_75 (fun h_7 => ?_)
    refine lv_iload_n hx hb dX12_count_78 rfl (lv_at hl 1 rfl) ?_
    refine lv_iconst (v := 2) hx hb dX12_count_79 (by decide) ?_
    refine lv_isub hx hb dX12_count_80 ?_
    refine lv_topi (fun x_8 ex_8 => ?_)
    have q_8 : x_8.toInt = x0.toInt - 2 := i_mi rfl (by decide) ex_8 (by omega) (by omega)
    refine th_iald E hT h_7 (by decide) (vp_in_iff.mpr ⟨by omega, by omega⟩) dX12_count_81 ?_
    refine th_topi (y := ai H (ρ a0 9) x_8.toInt.toNat) rfl ?_
    refine lv_topi (fun x_9 ex_9 => ?_)
    exact th_iret E hr hlk hs hT hS rfl dX12_count_82
  by_cases k1_4 : x0 = 4
  · refine th_topi k1_4 ?_
    refine lv_tableIn (tgt := 83) hx hb dX12_count_1 (by decide) (by decide) rfl (by decide) ?_
    have kc1_4 : x0.toInt = 4 := r_eq rfl (by decide) k1_4
    refine lv_aload_n hx hb dX12_count_83 rfl (lv_at hl 0 rfl) ?_
    refine gf_X12_32 E hT ha0 dX12_count_84 ?_
    refine lv_topi (fun x_10 ex_10 => ?_)
    have b_10 : 1 ≤ x_10.toInt ∧ x_10.toInt ≤ 20 := by rw [ex_10]; exact IF.f8 hI.2.2.2.2.2
    exact th_iret E hr hlk hs hT hS rfl dX12_count_87
  by_cases k1_5 : x0 = 5
  · refine th_topi k1_5 ?_
    refine lv_tableIn (tgt := 88) hx hb dX12_count_1 (by decide) (by decide) rfl (by decide) ?_
    have kc1_5 : x0.toInt = 5 := r_eq rfl (by decide) k1_5
    refine lv_aload_n hx hb dX12_count_88 rfl (lv_at hl 0 rfl) ?_
    refine gf_X12_7 E hT hW ha0 dX12_count_89 (fun h_11 => ?_)
    refine lv_sipush (v := 976) hx hb dX12_count_92 (by decide) ?_
    refine th_iald E hT h_11 (by decide) (vp_in_iff.mpr ⟨by decide, by decide⟩) dX12_count_95 ?_
    refine th_topi (y := ai H (ρ a0 0) 976) rfl ?_
    refine lv_topi (fun x_12 ex_12 => ?_)
    have b_x_12 : 0 ≤ x_12.toInt ∧ x_12.toInt ≤ 20 := by rw [← ex_12.symm]; exact hI.1 976 (by decide)
    have c_x_12 := congrArg Int32.toInt ex_12.symm
    exact th_iret E hr hlk hs hT hS rfl dX12_count_96
  by_cases k1_6 : x0 = 6
  · refine th_topi k1_6 ?_
    refine lv_tableIn (tgt := 97) hx hb dX12_count_1 (by decide) (by decide) rfl (by decide) ?_
    have kc1_6 : x0.toInt = 6 := r_eq rfl (by decide) k1_6
    refine lv_aload_n hx hb dX12_count_97 rfl (lv_at hl 0 rfl) ?_
    refine gf_X12_7 E hT hW ha0 dX12_count_98 (fun h_13 => ?_)
    refine lv_sipush (v := 977) hx hb dX12_count_101 (by decide) ?_
    refine th_iald E hT h_13 (by decide) (vp_in_iff.mpr ⟨by decide, by decide⟩) dX12_count_104 ?_
    refine th_topi (y := ai H (ρ a0 0) 977) rfl ?_
    refine lv_topi (fun x_14 ex_14 => ?_)
    have c_x_14 := congrArg Int32.toInt ex_14.symm
    exact th_iret E hr hlk hs hT hS rfl dX12_count_105
  by_cases k1_7 : x0 = 7
  · refine th_topi k1_7 ?_
    refine lv_tableIn (tgt := 106) hx hb dX12_count_1 (by decide) (by decide) rfl (by decide) ?_
    have kc1_7 : x0.toInt = 7 := r_eq rfl (by decide) k1_7
    refine lv_aload_n hx hb dX12_count_106 rfl (lv_at hl 0 rfl) ?_
    refine gf_X12_7 E hT hW ha0 dX12_count_107 (fun h_15 => ?_)
    refine lv_sipush (v := 978) hx hb dX12_count_110 (by decide) ?_
    refine th_iald E hT h_15 (by decide) (vp_in_iff.mpr ⟨by decide, by decide⟩) dX12_count_113 ?_
    refine th_topi (y := ai H (ρ a0 0) 978) rfl ?_
    refine lv_topi (fun x_16 ex_16 => ?_)
    have c_x_16 := congrArg Int32.toInt ex_16.symm
    exact th_iret E hr hlk hs hT hS rfl dX12_count_114
  by_cases k1_8 : x0 = 8
  · refine th_topi k1_8 ?_
    refine lv_tableIn (tgt := 115) hx hb dX12_count_1 (by decide) (by decide) rfl (by decide) ?_
    have kc1_8 : x0.toInt = 8 := r_eq rfl (by decide) k1_8
    refine lv_aload_n hx hb dX12_count_115 rfl (lv_at hl 0 rfl) ?_
    refine gf_X12_7 E hT hW ha0 dX12_count_116 (fun h_17 => ?_)
    refine lv_sipush (v := 979) hx hb dX12_count_119 (by decide) ?_
    refine th_iald E hT h_17 (by decide) (vp_in_iff.mpr ⟨by decide, by decide⟩) dX12_count_122 ?_
    refine th_topi (y := ai H (ρ a0 0) 979) rfl ?_
    refine lv_topi (fun x_18 ex_18 => ?_)
    have c_x_18 := congrArg Int32.toInt ex_18.symm
    exact th_iret E hr hlk hs hT hS rfl dX12_count_123
  by_cases k1_9 : x0 = 9
  · refine th_topi k1_9 ?_
    refine lv_tableIn (tgt := 124) hx hb dX12_count_1 (by decide) (by decide) rfl (by decide) ?_
    have kc1_9 : x0.toInt = 9 := r_eq rfl (by decide) k1_9
    refine lv_aload_n hx hb dX12_count_124 rfl (lv_at hl 0 rfl) ?_
    refine gf_X12_7 E hT hW ha0 dX12_count_125 (fun h_19 => ?_)
    refine lv_sipush (v := 980) hx hb dX12_count_128 (by decide) ?_
    refine th_iald E hT h_19 (by decide) (vp_in_iff.mpr ⟨by decide, by decide⟩) dX12_count_131 ?_
    refine th_topi (y := ai H (ρ a0 0) 980) rfl ?_
    refine lv_topi (fun x_20 ex_20 => ?_)
    have c_x_20 := congrArg Int32.toInt ex_20.symm
    exact th_iret E hr hlk hs hT hS rfl dX12_count_132
  by_cases k1_10 : x0 = 10
  · refine th_topi k1_10 ?_
    refine lv_tableIn (tgt := 133) hx hb dX12_count_1 (by decide) (by decide) rfl (by decide) ?_
    have kc1_10 : x0.toInt = 10 := r_eq rfl (by decide) k1_10
    refine lv_aload_n hx hb dX12_count_133 rfl (lv_at hl 0 rfl) ?_
    refine gf_X12_7 E hT hW ha0 dX12_count_134 (fun h_21 => ?_)
    refine lv_sipush (v := 981) hx hb dX12_count_137 (by decide) ?_
    refine th_iald E hT h_21 (by decide) (vp_in_iff.mpr ⟨by decide, by decide⟩) dX12_count_140 ?_
    refine th_topi (y := ai H (ρ a0 0) 981) rfl ?_
    refine lv_topi (fun x_22 ex_22 => ?_)
    have c_x_22 := congrArg Int32.toInt ex_22.symm
    exact th_iret E hr hlk hs hT hS rfl dX12_count_141
  by_cases k1_11 : x0 = 11
  · refine th_topi k1_11 ?_
    refine lv_tableIn (tgt := 142) hx hb dX12_count_1 (by decide) (by decide) rfl (by decide) ?_
    have kc1_11 : x0.toInt = 11 := r_eq rfl (by decide) k1_11
    refine lv_aload_n hx hb dX12_count_142 rfl (lv_at hl 0 rfl) ?_
    refine gf_X12_47 E hT ha0 dX12_count_143 ?_
    refine lv_topi (fun x_23 ex_23 => ?_)
    have b_23 : 0 ≤ x_23.toInt ∧ x_23.toInt ≤ 200 := by rw [ex_23]; exact IF.f5 hI.2.2.2.2.2
    exact th_iret E hr hlk hs hT hS rfl dX12_count_146
  have n1_0 := i_ne k1_0 (k := 0) (by decide)
  have n1_1 := i_ne k1_1 (k := 1) (by decide)
  have n1_2 := i_ne k1_2 (k := 2) (by decide)
  have n1_3 := i_ne k1_3 (k := 3) (by decide)
  have n1_4 := i_ne k1_4 (k := 4) (by decide)
  have n1_5 := i_ne k1_5 (k := 5) (by decide)
  have n1_6 := i_ne k1_6 (k := 6) (by decide)
  have n1_7 := i_ne k1_7 (k := 7) (by decide)
  have n1_8 := i_ne k1_8 (k := 8) (by decide)
  have n1_9 := i_ne k1_9 (k := 9) (by decide)
  have n1_10 := i_ne k1_10 (k := 10) (by decide)
  have n1_11 := i_ne k1_11 (k := 11) (by decide)
  refine lv_tableOut (tgt := 147) hx hb dX12_count_1 (by omega) (by decide) ?_
  refine lv_iconst (v := (-1)) hx hb dX12_count_147 (by decide) ?_
  exact th_iret E hr hlk hs hT hS rfl dX12_count_148
set_option maxHeartbeats 4000000 in
set_option maxRecDepth 100000 in
/-- the reference: in -/
theorem y_in_v15 (l : Launch) (D : va_G) (cI cS : ClassId) (τ : Nat → Option Nat) (ρ : Nat → Nat → Nat) (hW : WF τ ρ) (H : Heap) (hT : TH D cI cS τ ρ H) (x0 : Int64) : MI l D cI cS τ ρ yX12_in cX12_in 6 (some .boolean) 0 0 H [.long x0, .long 32, .long 126] (fun (r : Int32) (u : Heap) => (H = u) ∧ (r = 0 ∨ r = 1) ∧ ((r.toInt = 1 ∧ 32 ≤ x0.toInt ∧ x0.toInt ≤ 126) ∨ (r.toInt = 0 ∧ (x0.toInt < 32 ∨ 126 < x0.toInt)))) (fun q => False) := by
  refine MI.of (by decide) (Nat.le_of_ble_eq_true rfl) ?_
  intro p e s m args below meth c E hml hr hlk hs ls hl
  have hx := E.1
  have hb := E.2.1
  have hown := E.2.2.1
  have hts := E.2.2.2.1
  have hS : SS (fun q => False) H H [] := SS.rf
  have hl : lv_has ls 6 [(0, .long x0), (2, .long 32), (4, .long 126)] := hl
  refine lv_lload_n hx hb dX12_in_0 rfl (lv_at hl 0 rfl) ?_
  refine lv_lload_n hx hb dX12_in_1 rfl (lv_at hl 1 rfl) ?_
  refine W.lcmp hx hb dX12_in_2 ?_
  refine lv_topi (fun x_1 ex_1 => ?_)
  have q_1 := l_cmp (a := x0) (b := (32 : Int64)) (m := x0.toInt) (n := 32) rfl (by decide) ex_1
  refine lv_if_lt (tgt := 17) hx hb dX12_in_3 (by decide) (fun c_2 => ?_) (fun c_2 => ?_)
  · have f_2 : x_1.toInt < 0 := r_lt rfl (by decide) c_2
    refine lv_iconst (v := 0) hx hb dX12_in_17 (by decide) ?_
    exact th_zret E hr hlk hs (Or.inl rfl) hT hS ⟨rfl, (Or.inl rfl), (by have : (0 : Int32).toInt = 0 := (by decide); omega)⟩ dX12_in_18
  · have f_2 : 0 ≤ x_1.toInt := r_nlt rfl (by decide) c_2
    refine lv_lload_n hx hb dX12_in_6 rfl (lv_at hl 0 rfl) ?_
    refine lv_lload hx hb dX12_in_7 (lv_at hl 2 rfl) ?_
    refine W.lcmp hx hb dX12_in_9 ?_
    refine lv_topi (fun x_3 ex_3 => ?_)
    have q_3 := l_cmp (a := x0) (b := (126 : Int64)) (m := x0.toInt) (n := 126) rfl (by decide) ex_3
    refine lv_if_gt (tgt := 17) hx hb dX12_in_10 (by decide) (fun c_4 => ?_) (fun c_4 => ?_)
    · have f_4 : 0 < x_3.toInt := r_lt (by decide) rfl c_4
      refine lv_iconst (v := 0) hx hb dX12_in_17 (by decide) ?_
      exact th_zret E hr hlk hs (Or.inl rfl) hT hS ⟨rfl, (Or.inl rfl), (by have : (0 : Int32).toInt = 0 := (by decide); omega)⟩ dX12_in_18
    · have f_4 : x_3.toInt ≤ 0 := r_nlt (by decide) rfl c_4
      refine lv_iconst (v := 1) hx hb dX12_in_13 (by decide) ?_
      refine lv_goto (tgt := 18) hx hb dX12_in_14 (by decide) ?_
      exact th_zret E hr hlk hs (Or.inr rfl) hT hS ⟨rfl, (Or.inr rfl), (by have : (1 : Int32).toInt = 1 := (by decide); omega)⟩ dX12_in_18
set_option maxHeartbeats 4000000 in
set_option maxRecDepth 100000 in
/-- the reference: write -/
theorem y_write (l : Launch) (D : va_G) (cI cS : ClassId) (τ : Nat → Option Nat) (ρ : Nat → Nat → Nat) (hW : WF τ ρ) (H : Heap) (hT : TH D cI cS τ ρ H) (a0 : Nat) (x0 : Int32) (ha0 : τ a0 = some 12) (N : Int) (hN0 : 0 ≤ N) (hN1 : N ≤ 600) (hI : IM D ρ N H a0) : MI l D cI cS τ ρ yX12_write cX12_write 2 (some .int) 1 25 H [.ref a0, .int x0] (fun (r : Int32) (u : Heap) => (IM D ρ N u a0) ∧ (((x0.toInt < 32 ∨ 126 < x0.toInt) ∧ r.toInt = -1 ∧ (fi D 12 5 u a0).toInt = (fi D 12 5 H a0).toInt) ∨ (32 ≤ x0.toInt ∧ x0.toInt ≤ 126 ∧ (fi D 12 5 H a0).toInt = 200 ∧ r.toInt = -3 ∧ (fi D 12 5 u a0).toInt = (fi D 12 5 H a0).toInt) ∨ (32 ≤ x0.toInt ∧ x0.toInt ≤ 126 ∧ (fi D 12 5 H a0).toInt < 200 ∧ r.toInt = (fi D 12 5 H a0).toInt + 1 ∧ (fi D 12 5 u a0).toInt = (fi D 12 5 H a0).toInt + 1))) (fun q => q = ρ a0 4 ∨ q = a0) := by
  refine MI.of (by decide) (Nat.le_of_ble_eq_true rfl) ?_
  intro p e s m args below meth c E hml hr hlk hs ls hl
  have hx := E.1
  have hb := E.2.1
  have hown := E.2.2.1
  have hts := E.2.2.2.1
  have hS : SS (fun q => q = ρ a0 4 ∨ q = a0) H H [] := SS.rf
  have hl : lv_has ls 2 [(0, .ref a0), (1, .int x0)] := hl
  have n01 := hI.2.2.2.2.2.1
  have n23 := hI.2.2.2.2.2.2.1
  have bL5 : 0 ≤ (fi D 12 5 H a0).toInt ∧ (fi D 12 5 H a0).toInt ≤ 200 := IF.f5 hI.2.2.2.2.2
  refine lv_iload_n hx hb dX12_write_0 rfl (lv_at hl 1 rfl) ?_
  obtain ⟨x_1, ex_1⟩ : ∃ y : Int64, x0.toInt64 = y := ⟨_, rfl⟩
  refine lv_i2l (v := x_1) hx hb dX12_write_1 ex_1 ?_
  have q_1 : x_1.toInt = x0.toInt := by rw [← ex_1]; exact Int32.toInt_toInt64 _
  refine lv_ldc2 (v := 32) hx hb hown (hts _ qw_1207) dX12_write_2 ?_
  refine lv_ldc2 (v := 126) hx hb hown (hts _ qw_1208) dX12_write_5 ?_
  refine th_Si (As := [.long x_1, .long 32, .long 126]) (rest := []) E hml hl.1 (y_in_v15 l D cI cS τ ρ hW H hT x_1) lk_X12_54 yd_X12_in hS (fun _ h => h.elim) ⟨by decide, by decide⟩ (Nat.le_of_ble_eq_true rfl) ⟨by decide, by decide⟩ rfl dX12_write_8 (fun r_2 H_2 locs_2 p_2 hT_2 hk_2 hS_2 => ?_)
  have p_2 : H = H_2 ∧ (r_2 = 0 ∨ r_2 = 1) ∧ ((r_2.toInt = 1 ∧ 32 ≤ x_1.toInt ∧ x_1.toInt ≤ 126) ∨ (r_2.toInt = 0 ∧ (x_1.toInt < 32 ∨ 126 < x_1.toInt))) := p_2
  obtain ⟨rfl, p_2_0, p_2_1⟩ := p_2
  have z_2 := b_iv p_2_0
  refine lv_if_ne (tgt := 16) hx hb dX12_write_11 (by decide) (fun c_3 => ?_) (fun c_3 => ?_)
  · have f_3 : ¬ r_2.toInt = 0 := r_ne rfl (by decide) c_3
    have nz_r_2 : ¬ r_2 = 0 := c_3
    refine lv_aload_n hx hb dX12_write_16 rfl (lv_at hl 0 rfl) ?_
    refine gf_X12_47 E hT_2 ha0 dX12_write_17 ?_
    refine lv_topi (fun x_4 ex_4 => ?_)
    have e_4 : x_4.toInt = (fi D 12 5 H a0).toInt := congrArg Int32.toInt ex_4
    have b_4 : 0 ≤ x_4.toInt ∧ x_4.toInt ≤ 200 := by rw [ex_4]; exact IF.f5 hI.2.2.2.2.2
    refine lv_sipush (v := 200) hx hb dX12_write_20 (by decide) ?_
    refine lv_icmp_ne (tgt := 29) hx hb dX12_write_23 (by decide) (fun c_5 => ?_) (fun c_5 => ?_)
    · have f_5 : ¬ x_4.toInt = 200 := r_ne rfl (by decide) c_5
      refine lv_aload_n hx hb dX12_write_29 rfl (lv_at hl 0 rfl) ?_
      refine gf_X12_22 E hT_2 hW ha0 dX12_write_30 (fun h_6 => ?_)
      refine lv_aload_n hx hb dX12_write_33 rfl (lv_at hl 0 rfl) ?_
      refine gf_X12_47 E hT_2 ha0 dX12_write_34 ?_
      refine th_topi (y := x_4) ex_4.symm ?_
      refine lv_iload_n hx hb dX12_write_37 rfl (lv_at hl 1 rfl) ?_
      refine th_iast E hT_2 hS_2 h_6 (Or.inl rfl) (by decide) (vp_in_iff.mpr ⟨by omega, by omega⟩) dX12_write_38 (fun H_7 locs_7 hT_7 hU_7 hS_7 => ?_)
      have hU_7 : AU 200 H H_7 (ρ a0 4) x_4.toInt.toNat x0 := hU_7
      refine lv_aload_n hx hb dX12_write_39 rfl (lv_at hl 0 rfl) ?_
      refine lv_dup hx hb dX12_write_40 rfl ?_
      refine gf_X12_47 E hT_7 ha0 dX12_write_41 ?_
      refine th_topi (y := x_4) (Eq.trans (fi_q (hU_7.2 _ (th_ne ha0 (hW _ 12 4 ha0 (by decide) (by decide) (by decide)) (by decide)))) ex_4.symm) ?_
      refine lv_iconst (v := 1) hx hb dX12_write_44 (by decide) ?_
      refine lv_iadd hx hb dX12_write_45 ?_
      refine lv_topi (fun x_8 ex_8 => ?_)
      have q_8 : x_8.toInt = x_4.toInt + 1 := i_pl rfl (by decide) ex_8 (by omega) (by omega)
      refine pf_X12_47 E hT_7 hS_7 ha0 (Or.inr rfl) dX12_write_46 (fun H_9 locs_9 hT_9 hU_9 hS_9 => ?_)
      refine lv_aload_n hx hb dX12_write_49 rfl (lv_at hl 0 rfl) ?_
      refine gf_X12_47 E hT_9 ha0 dX12_write_50 ?_
      refine th_topi (y := x_8) (PU.i hU_9) ?_
      exact th_iret E hr hlk hs hT_9 hS_9 ⟨⟨(PW.q (hU_9.2.2 _ (th_ne (hW _ 12 0 ha0 (by decide) (by decide) (by decide)) ha0 (by decide))) (PW.q (hU_7.2 _ (th_ne (hW _ 12 0 ha0 (by decide) (by decide) (by decide)) (hW _ 12 4 ha0 (by decide) (by decide) (by decide)) (by decide))) hI.1)), (QS.same (Eq.trans (ai_q (hU_9.2.2 _ (th_ne (hW _ 12 0 ha0 (by decide) (by decide) (by decide)) ha0 (by decide)))) (ai_q (hU_7.2 _ (th_ne (hW _ 12 0 ha0 (by decide) (by decide) (by decide)) (hW _ 12 4 ha0 (by decide) (by decide) (by decide)) (by decide))))) (Eq.trans (ai_q (hU_9.2.2 _ (th_ne (hW _ 12 0 ha0 (by decide) (by decide) (by decide)) ha0 (by decide)))) (ai_q (hU_7.2 _ (th_ne (hW _ 12 0 ha0 (by decide) (by decide) (by decide)) (hW _ 12 4 ha0 (by decide) (by decide) (by decide)) (by decide))))) hI.2.1), (QS.same (Eq.trans (ai_q (hU_9.2.2 _ (th_ne (hW _ 12 0 ha0 (by decide) (by decide) (by decide)) ha0 (by decide)))) (ai_q (hU_7.2 _ (th_ne (hW _ 12 0 ha0 (by decide) (by decide) (by decide)) (hW _ 12 4 ha0 (by decide) (by decide) (by decide)) (by decide))))) (Eq.trans (ai_q (hU_9.2.2 _ (th_ne (hW _ 12 0 ha0 (by decide) (by decide) (by decide)) ha0 (by decide)))) (ai_q (hU_7.2 _ (th_ne (hW _ 12 0 ha0 (by decide) (by decide) (by decide)) (hW _ 12 4 ha0 (by decide) (by decide) (by decide)) (by decide))))) hI.2.2.1), (PL.q (hU_9.2.2 _ (th_ne (hW _ 12 2 ha0 (by decide) (by decide) (by decide)) ha0 (by decide))) (PL.q (hU_7.2 _ (th_ne (hW _ 12 2 ha0 (by decide) (by decide) (by decide)) (hW _ 12 4 ha0 (by decide) (by decide) (by decide)) (by decide))) hI.2.2.2.1)), (PL.q (hU_9.2.2 _ (th_ne (hW _ 12 3 ha0 (by decide) (by decide) (by decide)) ha0 (by decide))) (PL.q (hU_7.2 _ (th_ne (hW _ 12 3 ha0 (by decide) (by decide) (by decide)) (hW _ 12 4 ha0 (by decide) (by decide) (by decide)) (by decide))) hI.2.2.2.2.1)), (IF.put5 (IF.q (hU_7.2 _ (th_ne ha0 (hW _ 12 4 ha0 (by decide) (by decide) (by decide)) (by decide))) hI.2.2.2.2.2) hU_9 (by omega))⟩, (by have : (fi D 12 5 H a0).toInt = (x_4 : Int32).toInt := congrArg Int32.toInt ex_4.symm; have : (fi D 12 5 H_9 a0).toInt = (x_8 : Int32).toInt := congrArg Int32.toInt (PU.i hU_9); omega)⟩ dX12_write_53
    · have f_5 : x_4.toInt = 200 := r_eq rfl (by decide) c_5
      refine lv_bipush (v := (-3)) hx hb dX12_write_26 (by decide) ?_
      exact th_iret E hr hlk hs hT_2 hS_2 ⟨⟨hI.1, hI.2.1, hI.2.2.1, hI.2.2.2.1, hI.2.2.2.2.1, hI.2.2.2.2.2⟩, (by have : ((-3) : Int32).toInt = -3 := (by decide); have : (fi D 12 5 H a0).toInt = (x_4 : Int32).toInt := congrArg Int32.toInt ex_4.symm; omega)⟩ dX12_write_28
  · have f_3 : r_2.toInt = 0 := r_eq rfl (by decide) c_3
    refine lv_iconst (v := (-1)) hx hb dX12_write_14 (by decide) ?_
    exact th_iret E hr hlk hs hT_2 hS_2 ⟨⟨hI.1, hI.2.1, hI.2.2.1, hI.2.2.2.1, hI.2.2.2.2.1, hI.2.2.2.2.2⟩, (by have : ((-1) : Int32).toInt = -1 := (by decide); omega)⟩ dX12_write_15
set_option maxHeartbeats 4000000 in
set_option maxRecDepth 100000 in
/-- the reference: wipe -/
theorem y_wipe (l : Launch) (D : va_G) (cI cS : ClassId) (τ : Nat → Option Nat) (ρ : Nat → Nat → Nat) (hW : WF τ ρ) (H : Heap) (hT : TH D cI cS τ ρ H) (a0 : Nat) (ha0 : τ a0 = some 12) (N : Int) (hN0 : 0 ≤ N) (hN1 : N ≤ 600) (hI : IM D ρ N H a0) : MI l D cI cS τ ρ yX12_wipe cX12_wipe 2 (some .int) 0 0 H [.ref a0] (fun (r : Int32) (u : Heap) => (IM D ρ N u a0) ∧ (r.toInt = (fi D 12 5 H a0).toInt ∧ (fi D 12 5 u a0).toInt = 0)) (fun q => q = a0) := by
  refine MI.of (by decide) (Nat.le_of_ble_eq_true rfl) ?_
  intro p e s m args below meth c E hml hr hlk hs ls hl
  have hx := E.1
  have hb := E.2.1
  have hown := E.2.2.1
  have hts := E.2.2.2.1
  have hS : SS (fun q => q = a0) H H [] := SS.rf
  have hl : lv_has ls 2 [(0, .ref a0)] := hl
  have n01 := hI.2.2.2.2.2.1
  have n23 := hI.2.2.2.2.2.2.1
  have bL5 : 0 ≤ (fi D 12 5 H a0).toInt ∧ (fi D 12 5 H a0).toInt ≤ 200 := IF.f5 hI.2.2.2.2.2
  refine lv_aload_n hx hb dX12_wipe_0 rfl (lv_at hl 0 rfl) ?_
  refine gf_X12_47 E hT ha0 dX12_wipe_1 ?_
  refine lv_topi (fun x_1 ex_1 => ?_)
  have e_1 : x_1.toInt = (fi D 12 5 H a0).toInt := congrArg Int32.toInt ex_1
  have b_1 : 0 ≤ x_1.toInt ∧ x_1.toInt ≤ 200 := by rw [ex_1]; exact IF.f5 hI.2.2.2.2.2
  refine lv_istore_n (lv' := [(1, .int x_1), (0, .ref a0)]) hx hb dX12_wipe_4 rfl hl (by decide) rfl (fun ls hl => ?_)
  refine lv_aload_n hx hb dX12_wipe_5 rfl (lv_at hl 1 rfl) ?_
  refine lv_iconst (v := 0) hx hb dX12_wipe_6 (by decide) ?_
  refine pf_X12_47 E hT hS ha0 rfl dX12_wipe_7 (fun H_2 locs_2 hT_2 hU_2 hS_2 => ?_)
  refine lv_iload_n hx hb dX12_wipe_10 rfl (lv_at hl 0 rfl) ?_
  exact th_iret E hr hlk hs hT_2 hS_2 ⟨⟨(PW.q (hU_2.2.2 _ (th_ne (hW _ 12 0 ha0 (by decide) (by decide) (by decide)) ha0 (by decide))) hI.1), (QS.same (ai_q (hU_2.2.2 _ (th_ne (hW _ 12 0 ha0 (by decide) (by decide) (by decide)) ha0 (by decide)))) (ai_q (hU_2.2.2 _ (th_ne (hW _ 12 0 ha0 (by decide) (by decide) (by decide)) ha0 (by decide)))) hI.2.1), (QS.same (ai_q (hU_2.2.2 _ (th_ne (hW _ 12 0 ha0 (by decide) (by decide) (by decide)) ha0 (by decide)))) (ai_q (hU_2.2.2 _ (th_ne (hW _ 12 0 ha0 (by decide) (by decide) (by decide)) ha0 (by decide)))) hI.2.2.1), (PL.q (hU_2.2.2 _ (th_ne (hW _ 12 2 ha0 (by decide) (by decide) (by decide)) ha0 (by decide))) hI.2.2.2.1), (PL.q (hU_2.2.2 _ (th_ne (hW _ 12 3 ha0 (by decide) (by decide) (by decide)) ha0 (by decide))) hI.2.2.2.2.1), (IF.put5 hI.2.2.2.2.2 hU_2 (by have : (0 : Int32).toInt = 0 := (by decide); omega))⟩, (by have : (fi D 12 5 H a0).toInt = (x_1 : Int32).toInt := congrArg Int32.toInt ex_1.symm; have : (fi D 12 5 H_2 a0).toInt = (0 : Int32).toInt := congrArg Int32.toInt (PU.i hU_2); have : (0 : Int32).toInt = 0 := (by decide); omega)⟩ dX12_wipe_11
set_option maxHeartbeats 4000000 in
set_option maxRecDepth 100000 in
/-- the reference: in -/
theorem y_in_v16 (l : Launch) (D : va_G) (cI cS : ClassId) (τ : Nat → Option Nat) (ρ : Nat → Nat → Nat) (hW : WF τ ρ) (H : Heap) (hT : TH D cI cS τ ρ H) (x0 : Int64) : MI l D cI cS τ ρ yX12_in cX12_in 6 (some .boolean) 0 0 H [.long x0, .long 48, .long 57] (fun (r : Int32) (u : Heap) => (H = u) ∧ (r = 0 ∨ r = 1) ∧ ((r.toInt = 1 ∧ 48 ≤ x0.toInt ∧ x0.toInt ≤ 57) ∨ (r.toInt = 0 ∧ (x0.toInt < 48 ∨ 57 < x0.toInt)))) (fun q => False) := by
  refine MI.of (by decide) (Nat.le_of_ble_eq_true rfl) ?_
  intro p e s m args below meth c E hml hr hlk hs ls hl
  have hx := E.1
  have hb := E.2.1
  have hown := E.2.2.1
  have hts := E.2.2.2.1
  have hS : SS (fun q => False) H H [] := SS.rf
  have hl : lv_has ls 6 [(0, .long x0), (2, .long 48), (4, .long 57)] := hl
  refine lv_lload_n hx hb dX12_in_0 rfl (lv_at hl 0 rfl) ?_
  refine lv_lload_n hx hb dX12_in_1 rfl (lv_at hl 1 rfl) ?_
  refine W.lcmp hx hb dX12_in_2 ?_
  refine lv_topi (fun x_1 ex_1 => ?_)
  have q_1 := l_cmp (a := x0) (b := (48 : Int64)) (m := x0.toInt) (n := 48) rfl (by decide) ex_1
  refine lv_if_lt (tgt := 17) hx hb dX12_in_3 (by decide) (fun c_2 => ?_) (fun c_2 => ?_)
  · have f_2 : x_1.toInt < 0 := r_lt rfl (by decide) c_2
    refine lv_iconst (v := 0) hx hb dX12_in_17 (by decide) ?_
    exact th_zret E hr hlk hs (Or.inl rfl) hT hS ⟨rfl, (Or.inl rfl), (by have : (0 : Int32).toInt = 0 := (by decide); omega)⟩ dX12_in_18
  · have f_2 : 0 ≤ x_1.toInt := r_nlt rfl (by decide) c_2
    refine lv_lload_n hx hb dX12_in_6 rfl (lv_at hl 0 rfl) ?_
    refine lv_lload hx hb dX12_in_7 (lv_at hl 2 rfl) ?_
    refine W.lcmp hx hb dX12_in_9 ?_
    refine lv_topi (fun x_3 ex_3 => ?_)
    have q_3 := l_cmp (a := x0) (b := (57 : Int64)) (m := x0.toInt) (n := 57) rfl (by decide) ex_3
    refine lv_if_gt (tgt := 17) hx hb dX12_in_10 (by decide) (fun c_4 => ?_) (fun c_4 => ?_)
    · have f_4 : 0 < x_3.toInt := r_lt (by decide) rfl c_4
      refine lv_iconst (v := 0) hx hb dX12_in_17 (by decide) ?_
      exact th_zret E hr hlk hs (Or.inl rfl) hT hS ⟨rfl, (Or.inl rfl), (by have : (0 : Int32).toInt = 0 := (by decide); omega)⟩ dX12_in_18
    · have f_4 : x_3.toInt ≤ 0 := r_nlt (by decide) rfl c_4
      refine lv_iconst (v := 1) hx hb dX12_in_13 (by decide) ?_
      refine lv_goto (tgt := 18) hx hb dX12_in_14 (by decide) ?_
      exact th_zret E hr hlk hs (Or.inr rfl) hT hS ⟨rfl, (Or.inr rfl), (by have : (1 : Int32).toInt = 1 := (by decide); omega)⟩ dX12_in_18
set_option maxHeartbeats 4000000 in
set_option maxRecDepth 100000 in
/-- the reference: isFigure -/
theorem y_isFigure (l : Launch) (D : va_G) (cI cS : ClassId) (τ : Nat → Option Nat) (ρ : Nat → Nat → Nat) (hW : WF τ ρ) (H : Heap) (hT : TH D cI cS τ ρ H) (a0 : Nat) (ha0 : τ a0 = some 12) (N : Int) (hN0 : 0 ≤ N) (hN1 : N ≤ 600) (hI : IM D ρ N H a0) (hp0 : 0 ≤ (fi D 12 10 H a0).toInt) : MI l D cI cS τ ρ yX12_isFigure cX12_isFigure 1 (some .boolean) 1 25 H [.ref a0] (fun (r : Int32) (u : Heap) => (H = u) ∧ (r = 0 ∨ r = 1) ∧ (r.toInt = 1 → (fi D 12 10 H a0).toInt < 200)) (fun q => False) := by
  refine MI.of (by decide) (Nat.le_of_ble_eq_true rfl) ?_
  intro p e s m args below meth c E hml hr hlk hs ls hl
  have hx := E.1
  have hb := E.2.1
  have hown := E.2.2.1
  have hts := E.2.2.2.1
  have hS : SS (fun q => False) H H [] := SS.rf
  have hl : lv_has ls 1 [(0, .ref a0)] := hl
  have n01 := hI.2.2.2.2.2.1
  have n23 := hI.2.2.2.2.2.2.1
  have bL5 : 0 ≤ (fi D 12 5 H a0).toInt ∧ (fi D 12 5 H a0).toInt ≤ 200 := IF.f5 hI.2.2.2.2.2
  refine lv_aload_n hx hb dX12_isFigure_0 rfl (lv_at hl 0 rfl) ?_
  refine gf_X12_44 E hT ha0 dX12_isFigure_1 ?_
  refine lv_topi (fun x_1 ex_1 => ?_)
  have e_1 : x_1.toInt = (fi D 12 10 H a0).toInt := congrArg Int32.toInt ex_1
  refine lv_aload_n hx hb dX12_isFigure_4 rfl (lv_at hl 0 rfl) ?_
  refine gf_X12_47 E hT ha0 dX12_isFigure_5 ?_
  refine lv_topi (fun x_2 ex_2 => ?_)
  have e_2 : x_2.toInt = (fi D 12 5 H a0).toInt := congrArg Int32.toInt ex_2
  have b_2 : 0 ≤ x_2.toInt ∧ x_2.toInt ≤ 200 := by rw [ex_2]; exact IF.f5 hI.2.2.2.2.2
  refine lv_icmp_ge (tgt := 37) hx hb dX12_isFigure_8 (by decide) (fun c_3 => ?_) (fun c_3 => ?_)
  · have f_3 : x_2.toInt ≤ x_1.toInt := r_le rfl rfl c_3
    refine lv_iconst (v := 0) hx hb dX12_isFigure_37 (by decide) ?_
    exact th_zret E hr hlk hs (Or.inl rfl) hT hS ⟨rfl, (Or.inl rfl), (by have : (0 : Int32).toInt = 0 := (by decide); have : (fi D 12 10 H a0).toInt = (x_1 : Int32).toInt := congrArg Int32.toInt ex_1.symm; omega)⟩ dX12_isFigure_38
  · have f_3 : x_1.toInt < x_2.toInt := r_nle rfl rfl c_3
    refine lv_aload_n hx hb dX12_isFigure_11 rfl (lv_at hl 0 rfl) ?_
    refine gf_X12_22 E hT hW ha0 dX12_isFigure_12 (fun h_4 => ?_)
    refine lv_aload_n hx hb dX12_isFigure_15 rfl (lv_at hl 0 rfl) ?_
    refine gf_X12_44 E hT ha0 dX12_isFigure_16 ?_
    refine th_topi (y := x_1) ex_1.symm ?_
    refine th_iald E hT h_4 (by decide) (vp_in_iff.mpr ⟨by omega, by omega⟩) dX12_isFigure_19 ?_
    refine th_topi (y := ai H (ρ a0 4) x_1.toInt.toNat) rfl ?_
    refine lv_topi (fun x_5 ex_5 => ?_)
    obtain ⟨x_6, ex_6⟩ : ∃ y : Int64, x_5.toInt64 = y := ⟨_, rfl⟩
    refine lv_i2l (v := x_6) hx hb dX12_isFigure_20 ex_6 ?_
    have q_6 : x_6.toInt = x_5.toInt := by rw [← ex_6]; exact Int32.toInt_toInt64 _
    refine lv_ldc2 (v := 48) hx hb hown (hts _ qw_1204) dX12_isFigure_21 ?_
    refine lv_ldc2 (v := 57) hx hb hown (hts _ qw_1205) dX12_isFigure_24 ?_
    refine th_Si (As := [.long x_6, .long 48, .long 57]) (rest := []) E hml hl.1 (y_in_v16 l D cI cS τ ρ hW H hT x_6) lk_X12_54 yd_X12_in hS (fun _ h => h.elim) ⟨by decide, by decide⟩ (Nat.le_of_ble_eq_true rfl) ⟨by decide, by decide⟩ rfl dX12_isFigure_27 (fun r_7 H_7 locs_7 p_7 hT_7 hk_7 hS_7 => ?_)
    have p_7 : H = H_7 ∧ (r_7 = 0 ∨ r_7 = 1) ∧ ((r_7.toInt = 1 ∧ 48 ≤ x_6.toInt ∧ x_6.toInt ≤ 57) ∨ (r_7.toInt = 0 ∧ (x_6.toInt < 48 ∨ 57 < x_6.toInt))) := p_7
    obtain ⟨rfl, p_7_0, p_7_1⟩ := p_7
    have z_7 := b_iv p_7_0
    refine lv_if_eq (tgt := 37) hx hb dX12_isFigure_30 (by decide) (fun c_8 => ?_) (fun c_8 => ?_)
    · have f_8 : r_7.toInt = 0 := r_eq rfl (by decide) c_8
      refine lv_iconst (v := 0) hx hb dX12_isFigure_37 (by decide) ?_
      exact th_zret E hr hlk hs (Or.inl rfl) hT_7 hS_7 ⟨rfl, (Or.inl rfl), (by have : (0 : Int32).toInt = 0 := (by decide); have : (fi D 12 10 H a0).toInt = (x_1 : Int32).toInt := congrArg Int32.toInt ex_1.symm; omega)⟩ dX12_isFigure_38
    · have f_8 : ¬ r_7.toInt = 0 := r_ne rfl (by decide) c_8
      have nz_r_7 : ¬ r_7 = 0 := c_8
      refine lv_iconst (v := 1) hx hb dX12_isFigure_33 (by decide) ?_
      refine lv_goto (tgt := 38) hx hb dX12_isFigure_34 (by decide) ?_
      exact th_zret E hr hlk hs (Or.inr rfl) hT_7 hS_7 ⟨rfl, (Or.inr rfl), (by have : (1 : Int32).toInt = 1 := (by decide); have : (fi D 12 10 H a0).toInt = (x_1 : Int32).toInt := congrArg Int32.toInt ex_1.symm; omega)⟩ dX12_isFigure_38
set_option maxHeartbeats 4000000 in
set_option maxRecDepth 100000 in
/-- the reference: in -/
theorem y_in_v17 (l : Launch) (D : va_G) (cI cS : ClassId) (τ : Nat → Option Nat) (ρ : Nat → Nat → Nat) (hW : WF τ ρ) (H : Heap) (hT : TH D cI cS τ ρ H) (x0 : Int64) : MI l D cI cS τ ρ yX12_in cX12_in 6 (some .boolean) 0 0 H [.long x0, .long 1, .long 3] (fun (r : Int32) (u : Heap) => (H = u) ∧ (r = 0 ∨ r = 1) ∧ ((r.toInt = 1 ∧ 1 ≤ x0.toInt ∧ x0.toInt ≤ 3) ∨ (r.toInt = 0 ∧ (x0.toInt < 1 ∨ 3 < x0.toInt)))) (fun q => False) := by
  refine MI.of (by decide) (Nat.le_of_ble_eq_true rfl) ?_
  intro p e s m args below meth c E hml hr hlk hs ls hl
  have hx := E.1
  have hb := E.2.1
  have hown := E.2.2.1
  have hts := E.2.2.2.1
  have hS : SS (fun q => False) H H [] := SS.rf
  have hl : lv_has ls 6 [(0, .long x0), (2, .long 1), (4, .long 3)] := hl
  refine lv_lload_n hx hb dX12_in_0 rfl (lv_at hl 0 rfl) ?_
  refine lv_lload_n hx hb dX12_in_1 rfl (lv_at hl 1 rfl) ?_
  refine W.lcmp hx hb dX12_in_2 ?_
  refine lv_topi (fun x_1 ex_1 => ?_)
  have q_1 := l_cmp (a := x0) (b := (1 : Int64)) (m := x0.toInt) (n := 1) rfl (by decide) ex_1
  refine lv_if_lt (tgt := 17) hx hb dX12_in_3 (by decide) (fun c_2 => ?_) (fun c_2 => ?_)
  · have f_2 : x_1.toInt < 0 := r_lt rfl (by decide) c_2
    refine lv_iconst (v := 0) hx hb dX12_in_17 (by decide) ?_
    exact th_zret E hr hlk hs (Or.inl rfl) hT hS ⟨rfl, (Or.inl rfl), (by have : (0 : Int32).toInt = 0 := (by decide); omega)⟩ dX12_in_18
  · have f_2 : 0 ≤ x_1.toInt := r_nlt rfl (by decide) c_2
    refine lv_lload_n hx hb dX12_in_6 rfl (lv_at hl 0 rfl) ?_
    refine lv_lload hx hb dX12_in_7 (lv_at hl 2 rfl) ?_
    refine W.lcmp hx hb dX12_in_9 ?_
    refine lv_topi (fun x_3 ex_3 => ?_)
    have q_3 := l_cmp (a := x0) (b := (3 : Int64)) (m := x0.toInt) (n := 3) rfl (by decide) ex_3
    refine lv_if_gt (tgt := 17) hx hb dX12_in_10 (by decide) (fun c_4 => ?_) (fun c_4 => ?_)
    · have f_4 : 0 < x_3.toInt := r_lt (by decide) rfl c_4
      refine lv_iconst (v := 0) hx hb dX12_in_17 (by decide) ?_
      exact th_zret E hr hlk hs (Or.inl rfl) hT hS ⟨rfl, (Or.inl rfl), (by have : (0 : Int32).toInt = 0 := (by decide); omega)⟩ dX12_in_18
    · have f_4 : x_3.toInt ≤ 0 := r_nlt (by decide) rfl c_4
      refine lv_iconst (v := 1) hx hb dX12_in_13 (by decide) ?_
      refine lv_goto (tgt := 18) hx hb dX12_in_14 (by decide) ?_
      exact th_zret E hr hlk hs (Or.inr rfl) hT hS ⟨rfl, (Or.inr rfl), (by have : (1 : Int32).toInt = 1 := (by decide); omega)⟩ dX12_in_18
set_option maxHeartbeats 4000000 in
set_option maxRecDepth 100000 in
/-- the reference: in -/
theorem y_in_v18 (l : Launch) (D : va_G) (cI cS : ClassId) (τ : Nat → Option Nat) (ρ : Nat → Nat → Nat) (hW : WF τ ρ) (H : Heap) (hT : TH D cI cS τ ρ H) (x0 : Int64) : MI l D cI cS τ ρ yX12_in cX12_in 6 (some .boolean) 0 0 H [.long x0, .long 2, .long 32] (fun (r : Int32) (u : Heap) => (H = u) ∧ (r = 0 ∨ r = 1) ∧ ((r.toInt = 1 ∧ 2 ≤ x0.toInt ∧ x0.toInt ≤ 32) ∨ (r.toInt = 0 ∧ (x0.toInt < 2 ∨ 32 < x0.toInt)))) (fun q => False) := by
  refine MI.of (by decide) (Nat.le_of_ble_eq_true rfl) ?_
  intro p e s m args below meth c E hml hr hlk hs ls hl
  have hx := E.1
  have hb := E.2.1
  have hown := E.2.2.1
  have hts := E.2.2.2.1
  have hS : SS (fun q => False) H H [] := SS.rf
  have hl : lv_has ls 6 [(0, .long x0), (2, .long 2), (4, .long 32)] := hl
  refine lv_lload_n hx hb dX12_in_0 rfl (lv_at hl 0 rfl) ?_
  refine lv_lload_n hx hb dX12_in_1 rfl (lv_at hl 1 rfl) ?_
  refine W.lcmp hx hb dX12_in_2 ?_
  refine lv_topi (fun x_1 ex_1 => ?_)
  have q_1 := l_cmp (a := x0) (b := (2 : Int64)) (m := x0.toInt) (n := 2) rfl (by decide) ex_1
  refine lv_if_lt (tgt := 17) hx hb dX12_in_3 (by decide) (fun c_2 => ?_) (fun c_2 => ?_)
  · have f_2 : x_1.toInt < 0 := r_lt rfl (by decide) c_2
    refine lv_iconst (v := 0) hx hb dX12_in_17 (by decide) ?_
    exact th_zret E hr hlk hs (Or.inl rfl) hT hS ⟨rfl, (Or.inl rfl), (by have : (0 : Int32).toInt = 0 := (by decide); omega)⟩ dX12_in_18
  · have f_2 : 0 ≤ x_1.toInt := r_nlt rfl (by decide) c_2
    refine lv_lload_n hx hb dX12_in_6 rfl (lv_at hl 0 rfl) ?_
    refine lv_lload hx hb dX12_in_7 (lv_at hl 2 rfl) ?_
    refine W.lcmp hx hb dX12_in_9 ?_
    refine lv_topi (fun x_3 ex_3 => ?_)
    have q_3 := l_cmp (a := x0) (b := (32 : Int64)) (m := x0.toInt) (n := 32) rfl (by decide) ex_3
    refine lv_if_gt (tgt := 17) hx hb dX12_in_10 (by decide) (fun c_4 => ?_) (fun c_4 => ?_)
    · have f_4 : 0 < x_3.toInt := r_lt (by decide) rfl c_4
      refine lv_iconst (v := 0) hx hb dX12_in_17 (by decide) ?_
      exact th_zret E hr hlk hs (Or.inl rfl) hT hS ⟨rfl, (Or.inl rfl), (by have : (0 : Int32).toInt = 0 := (by decide); omega)⟩ dX12_in_18
    · have f_4 : x_3.toInt ≤ 0 := r_nlt (by decide) rfl c_4
      refine lv_iconst (v := 1) hx hb dX12_in_13 (by decide) ?_
      refine lv_goto (tgt := 18) hx hb dX12_in_14 (by decide) ?_
      exact th_zret E hr hlk hs (Or.inr rfl) hT hS ⟨rfl, (Or.inr rfl), (by have : (1 : Int32).toInt = 1 := (by decide); omega)⟩ dX12_in_18
set_option maxHeartbeats 4000000 in
set_option maxRecDepth 100000 in
/-- the reference: readsNumber -/
theorem y_readsNumber (l : Launch) (D : va_G) (cI cS : ClassId) (τ : Nat → Option Nat) (ρ : Nat → Nat → Nat) (hW : WF τ ρ) (H : Heap) (hT : TH D cI cS τ ρ H) (a0 : Nat) (ha0 : τ a0 = some 12) (N : Int) (hN0 : 0 ≤ N) (hN1 : N ≤ 600) (hI : IM D ρ N H a0) (hp0 : 0 ≤ (fi D 12 10 H a0).toInt ∧ (fi D 12 10 H a0).toInt ≤ 1000) : MI l D cI cS τ ρ yX12_readsNumber cX12_readsNumber 6 (some .boolean) 2 45 H [.ref a0, .int 2, .int 32, .int 59] (fun (r : Int32) (u : Heap) => (IM D ρ N u a0) ∧ (r = 0 ∨ r = 1) ∧ ((fi D 12 10 H a0).toInt + 1 ≤ (fi D 12 10 u a0).toInt ∧ (fi D 12 10 u a0).toInt ≤ (fi D 12 10 H a0).toInt + 5) ∧ (r.toInt = 1 → (2 ≤ (fi D 12 11 u a0).toInt ∧ (fi D 12 11 u a0).toInt ≤ 32)) ∧ (fi D 12 5 u a0 = fi D 12 5 H a0) ∧ (fi D 12 12 u a0 = fi D 12 12 H a0) ∧ (fi D 12 13 u a0 = fi D 12 13 H a0) ∧ (fi D 12 14 u a0 = fi D 12 14 H a0)) (fun q => q = a0) := by
  refine MI.of (by decide) (Nat.le_of_ble_eq_true rfl) ?_
  intro p e s m args below meth c E hml hr hlk hs ls hl
  have hx := E.1
  have hb := E.2.1
  have hown := E.2.2.1
  have hts := E.2.2.2.1
  have hS : SS (fun q => q = a0) H H [] := SS.rf
  have hl : lv_has ls 6 [(0, .ref a0), (1, .int 2), (2, .int 32), (3, .int 59)] := hl
  have n01 := hI.2.2.2.2.2.1
  have n23 := hI.2.2.2.2.2.2.1
  have bL5 : 0 ≤ (fi D 12 5 H a0).toInt ∧ (fi D 12 5 H a0).toInt ≤ 200 := IF.f5 hI.2.2.2.2.2
  have J_61 : ∀ (H_c61 : Heap) (lc_c61 : List Loc) (ls : Array Slot) (y61_4 : Int32), TH D cI cS τ ρ H_c61 → SS (fun q => q = a0) H H_c61 lc_c61 → lv_has ls 6 [(0, .ref a0), (1, .int 2), (2, .int 32), (3, .int 59), (4, .int y61_4)] → 0 ≤ y61_4.toInt → y61_4.toInt ≤ 4 → IM D ρ N H_c61 a0 → (fi D 12 10 H_c61 a0).toInt = (fi D 12 10 H a0).toInt + y61_4.toInt ∧ y61_4.toInt ≤ 4 → fi D 12 5 H_c61 a0 = fi D 12 5 H a0 → fi D 12 12 H_c61 a0 = fi D 12 12 H a0 → fi D 12 13 H_c61 a0 = fi D 12 13 H a0 → fi D 12 14 H_c61 a0 = fi D 12 14 H a0 → W p l e (rmO 2 45) s m args below meth c H_c61 lc_c61 0 0 (MQ below (va_Qi (fun (r : Int32) (u : Heap) => (IM D ρ N u a0) ∧ (r = 0 ∨ r = 1) ∧ ((fi D 12 10 H a0).toInt + 1 ≤ (fi D 12 10 u a0).toInt ∧ (fi D 12 10 u a0).toInt ≤ (fi D 12 10 H a0).toInt + 5) ∧ (r.toInt = 1 → (2 ≤ (fi D 12 11 u a0).toInt ∧ (fi D 12 11 u a0).toInt ≤ 32)) ∧ (fi D 12 5 u a0 = fi D 12 5 H a0) ∧ (fi D 12 12 u a0 = fi D 12 12 H a0) ∧ (fi D 12 13 u a0 = fi D 12 13 H a0) ∧ (fi D 12 14 u a0 = fi D 12 14 H a0)) (Bt D cI cS τ ρ H) (fun q => q = a0)) args s 0 0 (fun q => q = a0)) (F0 m 61 ls []) := by
    intro H_c61 lc_c61 ls y61_4 hT_c61 hS_c61 hl ly61_4 uy61_4 hI_c61 hx61_0 hf61_5 hf61_12 hf61_13 hf61_14
    refine lv_iload hx hb dX12_readsNumber_61 (lv_at hl 4 rfl) ?_
    obtain ⟨x_1, ex_1⟩ : ∃ y : Int64, y61_4.toInt64 = y := ⟨_, rfl⟩
    refine lv_i2l (v := x_1) hx hb dX12_readsNumber_63 ex_1 ?_
    have q_1 : x_1.toInt = y61_4.toInt := by rw [← ex_1]; exact Int32.toInt_toInt64 _
    refine lv_lconst (v := 1) hx hb dX12_readsNumber_64 (by decide) ?_
    refine lv_ldc2 (v := 3) hx hb hown (hts _ qw_1206) dX12_readsNumber_65 ?_
    refine th_Si (As := [.long x_1, .long 1, .long 3]) (rest := []) E hml hl.1 (y_in_v17 l D cI cS τ ρ hW H_c61 hT_c61 x_1) lk_X12_54 yd_X12_in hS_c61 (fun _ h => h.elim) ⟨by decide, by decide⟩ (Nat.le_of_ble_eq_true rfl) ⟨by decide, by decide⟩ rfl dX12_readsNumber_68 (fun r_2 H_2 locs_2 p_2 hT_2 hk_2 hS_2 => ?_)
    have p_2 : H_c61 = H_2 ∧ (r_2 = 0 ∨ r_2 = 1) ∧ ((r_2.toInt = 1 ∧ 1 ≤ x_1.toInt ∧ x_1.toInt ≤ 3) ∨ (r_2.toInt = 0 ∧ (x_1.toInt < 1 ∨ 3 < x_1.toInt))) := p_2
    obtain ⟨rfl, p_2_0, p_2_1⟩ := p_2
    have z_2 := b_iv p_2_0
    refine lv_if_eq (tgt := 117) hx hb dX12_readsNumber_71 (by decide) (fun c_3 => ?_) (fun c_3 => ?_)
    · have f_3 : r_2.toInt = 0 := r_eq rfl (by decide) c_3
      refine lv_iconst (v := 0) hx hb dX12_readsNumber_117 (by decide) ?_
      refine lv_istore (lv' := [(5, .int 0), (0, .ref a0), (1, .int 2), (2, .int 32), (3, .int 59), (4, .int y61_4)]) hx hb dX12_readsNumber_118 hl (by decide) rfl (fun ls hl => ?_)
      refine lv_aload_n hx hb dX12_readsNumber_120 rfl (lv_at hl 1 rfl) ?_
      refine lv_dup hx hb dX12_readsNumber_121 rfl ?_
      refine gf_X12_44 E hT_2 ha0 dX12_readsNumber_122 ?_
      refine lv_topi (fun x_4 ex_4 => ?_)
      have e_4 : x_4.toInt = (fi D 12 10 H_c61 a0).toInt := congrArg Int32.toInt ex_4
      refine lv_iconst (v := 1) hx hb dX12_readsNumber_125 (by decide) ?_
      refine lv_iadd hx hb dX12_readsNumber_126 ?_
      refine lv_topi (fun x_5 ex_5 => ?_)
      have q_5 : x_5.toInt = x_4.toInt + 1 := i_pl rfl (by decide) ex_5 (by omega) (by omega)
      refine pf_X12_44 E hT_2 hS_2 ha0 rfl dX12_readsNumber_127 (fun H_6 locs_6 hT_6 hU_6 hS_6 => ?_)
      refine lv_iload hx hb dX12_readsNumber_130 (lv_at hl 0 rfl) ?_
      exact th_zret E hr hlk hs (Or.inl rfl) hT_6 hS_6 ⟨⟨(PW.q (hU_6.2.2 _ (th_ne (hW _ 12 0 ha0 (by decide) (by decide) (by decide)) ha0 (by decide))) hI_c61.1), (QS.same (ai_q (hU_6.2.2 _ (th_ne (hW _ 12 0 ha0 (by decide) (by decide) (by decide)) ha0 (by decide)))) (ai_q (hU_6.2.2 _ (th_ne (hW _ 12 0 ha0 (by decide) (by decide) (by decide)) ha0 (by decide)))) hI_c61.2.1), (QS.same (ai_q (hU_6.2.2 _ (th_ne (hW _ 12 0 ha0 (by decide) (by decide) (by decide)) ha0 (by decide)))) (ai_q (hU_6.2.2 _ (th_ne (hW _ 12 0 ha0 (by decide) (by decide) (by decide)) ha0 (by decide)))) hI_c61.2.2.1), (PL.q (hU_6.2.2 _ (th_ne (hW _ 12 2 ha0 (by decide) (by decide) (by decide)) ha0 (by decide))) hI_c61.2.2.2.1), (PL.q (hU_6.2.2 _ (th_ne (hW _ 12 3 ha0 (by decide) (by decide) (by decide)) ha0 (by decide))) hI_c61.2.2.2.2.1), (IF.put hI_c61.2.2.2.2.2 hU_6 (by decide))⟩, (Or.inl rfl), (by have : (0 : Int32).toInt = 0 := (by decide); have : (fi D 12 10 H_6 a0).toInt = (x_5 : Int32).toInt := congrArg Int32.toInt (PU.i hU_6); have : (fi D 12 10 H_c61 a0).toInt = (x_4 : Int32).toInt := congrArg Int32.toInt ex_4.symm; omega), (by have : (0 : Int32).toInt = 0 := (by decide); have : (fi D 12 11 H_6 a0).toInt = (fi D 12 11 H_c61 a0 : Int32).toInt := congrArg Int32.toInt (PU.io hU_6 (j := 11) (by decide) (by decide)); omega), (Eq.trans (PU.io hU_6 (j := 5) (by decide) (by decide)) hf61_5), (Eq.trans (PU.io hU_6 (j := 12) (by decide) (by decide)) hf61_12), (Eq.trans (PU.io hU_6 (j := 13) (by decide) (by decide)) hf61_13), (Eq.trans (PU.io hU_6 (j := 14) (by decide) (by decide)) hf61_14)⟩ dX12_readsNumber_132
    · have f_3 : ¬ r_2.toInt = 0 := r_ne rfl (by decide) c_3
      have nz_r_2 : ¬ r_2 = 0 := c_3
      refine lv_aload_n hx hb dX12_readsNumber_74 rfl (lv_at hl 0 rfl) ?_
      refine gf_X12_58 E hT_2 ha0 dX12_readsNumber_75 ?_
      refine lv_topi (fun x_7 ex_7 => ?_)
      have e_7 : x_7.toInt = (fi D 12 11 H_c61 a0).toInt := congrArg Int32.toInt ex_7
      obtain ⟨x_8, ex_8⟩ : ∃ y : Int64, x_7.toInt64 = y := ⟨_, rfl⟩
      refine lv_i2l (v := x_8) hx hb dX12_readsNumber_78 ex_8 ?_
      have q_8 : x_8.toInt = x_7.toInt := by rw [← ex_8]; exact Int32.toInt_toInt64 _
      refine lv_iload_n hx hb dX12_readsNumber_79 rfl (lv_at hl 1 rfl) ?_
      refine lv_i2l (v := 2) hx hb dX12_readsNumber_80 (by decide) ?_
      refine lv_iload_n hx hb dX12_readsNumber_81 rfl (lv_at hl 2 rfl) ?_
      refine lv_i2l (v := 32) hx hb dX12_readsNumber_82 (by decide) ?_
      refine th_Si (As := [.long x_8, .long 2, .long 32]) (rest := []) E hml hl.1 (y_in_v18 l D cI cS τ ρ hW H_c61 hT_2 x_8) lk_X12_54 yd_X12_in hS_2 (fun _ h => h.elim) ⟨by decide, by decide⟩ (Nat.le_of_ble_eq_true rfl) ⟨by decide, by decide⟩ rfl dX12_readsNumber_83 (fun r_11 H_11 locs_11 p_11 hT_11 hk_11 hS_11 => ?_)
      have p_11 : H_c61 = H_11 ∧ (r_11 = 0 ∨ r_11 = 1) ∧ ((r_11.toInt = 1 ∧ 2 ≤ x_8.toInt ∧ x_8.toInt ≤ 32) ∨ (r_11.toInt = 0 ∧ (x_8.toInt < 2 ∨ 32 < x_8.toInt))) := p_11
      obtain ⟨rfl, p_11_0, p_11_1⟩ := p_11
      have z_11 := b_iv p_11_0
      refine lv_if_eq (tgt := 117) hx hb dX12_readsNumber_86 (by decide) (fun c_12 => ?_) (fun c_12 => ?_)
      · have f_12 : r_11.toInt = 0 := r_eq rfl (by decide) c_12
        refine lv_iconst (v := 0) hx hb dX12_readsNumber_117 (by decide) ?_
        refine lv_istore (lv' := [(5, .int 0), (0, .ref a0), (1, .int 2), (2, .int 32), (3, .int 59), (4, .int y61_4)]) hx hb dX12_readsNumber_118 hl (by decide) rfl (fun ls hl => ?_)
        refine lv_aload_n hx hb dX12_readsNumber_120 rfl (lv_at hl 1 rfl) ?_
        refine lv_dup hx hb dX12_readsNumber_121 rfl ?_
        refine gf_X12_44 E hT_11 ha0 dX12_readsNumber_122 ?_
        refine lv_topi (fun x_13 ex_13 => ?_)
        have e_13 : x_13.toInt = (fi D 12 10 H_c61 a0).toInt := congrArg Int32.toInt ex_13
        refine lv_iconst (v := 1) hx hb dX12_readsNumber_125 (by decide) ?_
        refine lv_iadd hx hb dX12_readsNumber_126 ?_
        refine lv_topi (fun x_14 ex_14 => ?_)
        have q_14 : x_14.toInt = x_13.toInt + 1 := i_pl rfl (by decide) ex_14 (by omega) (by omega)
        refine pf_X12_44 E hT_11 hS_11 ha0 rfl dX12_readsNumber_127 (fun H_15 locs_15 hT_15 hU_15 hS_15 => ?_)
        refine lv_iload hx hb dX12_readsNumber_130 (lv_at hl 0 rfl) ?_
        exact th_zret E hr hlk hs (Or.inl rfl) hT_15 hS_15 ⟨⟨(PW.q (hU_15.2.2 _ (th_ne (hW _ 12 0 ha0 (by decide) (by decide) (by decide)) ha0 (by decide))) hI_c61.1), (QS.same (ai_q (hU_15.2.2 _ (th_ne (hW _ 12 0 ha0 (by decide) (by decide) (by decide)) ha0 (by decide)))) (ai_q (hU_15.2.2 _ (th_ne (hW _ 12 0 ha0 (by decide) (by decide) (by decide)) ha0 (by decide)))) hI_c61.2.1), (QS.same (ai_q (hU_15.2.2 _ (th_ne (hW _ 12 0 ha0 (by decide) (by decide) (by decide)) ha0 (by decide)))) (ai_q (hU_15.2.2 _ (th_ne (hW _ 12 0 ha0 (by decide) (by decide) (by decide)) ha0 (by decide)))) hI_c61.2.2.1), (PL.q (hU_15.2.2 _ (th_ne (hW _ 12 2 ha0 (by decide) (by decide) (by decide)) ha0 (by decide))) hI_c61.2.2.2.1), (PL.q (hU_15.2.2 _ (th_ne (hW _ 12 3 ha0 (by decide) (by decide) (by decide)) ha0 (by decide))) hI_c61.2.2.2.2.1), (IF.put hI_c61.2.2.2.2.2 hU_15 (by decide))⟩, (Or.inl rfl), (by have : (0 : Int32).toInt = 0 := (by decide); have : (fi D 12 10 H_15 a0).toInt = (x_14 : Int32).toInt := congrArg Int32.toInt (PU.i hU_15); have : (fi D 12 10 H_c61 a0).toInt = (x_13 : Int32).toInt := congrArg Int32.toInt ex_13.symm; omega), (by have : (0 : Int32).toInt = 0 := (by decide); have : (fi D 12 11 H_15 a0).toInt = (x_7 : Int32).toInt := congrArg Int32.toInt (Eq.trans (PU.io hU_15 (j := 11) (by decide) (by decide)) ex_7.symm); have : (fi D 12 11 H_c61 a0).toInt = (x_7 : Int32).toInt := congrArg Int32.toInt ex_7.symm; omega), (Eq.trans (PU.io hU_15 (j := 5) (by decide) (by decide)) hf61_5), (Eq.trans (PU.io hU_15 (j := 12) (by decide) (by decide)) hf61_12), (Eq.trans (PU.io hU_15 (j := 13) (by decide) (by decide)) hf61_13), (Eq.trans (PU.io hU_15 (j := 14) (by decide) (by decide)) hf61_14)⟩ dX12_readsNumber_132
      · have f_12 : ¬ r_11.toInt = 0 := r_ne rfl (by decide) c_12
        have nz_r_11 : ¬ r_11 = 0 := c_12
        refine lv_aload_n hx hb dX12_readsNumber_89 rfl (lv_at hl 0 rfl) ?_
        refine gf_X12_44 E hT_11 ha0 dX12_readsNumber_90 ?_
        refine lv_topi (fun x_16 ex_16 => ?_)
        have e_16 : x_16.toInt = (fi D 12 10 H_c61 a0).toInt := congrArg Int32.toInt ex_16
        refine lv_aload_n hx hb dX12_readsNumber_93 rfl (lv_at hl 0 rfl) ?_
        refine gf_X12_47 E hT_11 ha0 dX12_readsNumber_94 ?_
        refine th_topi (y := fi D 12 5 H a0) hf61_5 ?_
        refine lv_topi (fun x_17 ex_17 => ?_)
        have e_17 : x_17.toInt = (fi D 12 5 H a0).toInt := congrArg Int32.toInt ex_17
        have b_17 : 0 ≤ x_17.toInt ∧ x_17.toInt ≤ 200 := by rw [ex_17]; exact IF.f5 hI.2.2.2.2.2
        refine lv_icmp_ge (tgt := 117) hx hb dX12_readsNumber_97 (by decide) (fun c_18 => ?_) (fun c_18 => ?_)
        · have f_18 : x_17.toInt ≤ x_16.toInt := r_le rfl rfl c_18
          refine lv_iconst (v := 0) hx hb dX12_readsNumber_117 (by decide) ?_
          refine lv_istore (lv' := [(5, .int 0), (0, .ref a0), (1, .int 2), (2, .int 32), (3, .int 59), (4, .int y61_4)]) hx hb dX12_readsNumber_118 hl (by decide) rfl (fun ls hl => ?_)
          refine lv_aload_n hx hb dX12_readsNumber_120 rfl (lv_at hl 1 rfl) ?_
          refine lv_dup hx hb dX12_readsNumber_121 rfl ?_
          refine gf_X12_44 E hT_11 ha0 dX12_readsNumber_122 ?_
          refine th_topi (y := x_16) ex_16.symm ?_
          refine lv_iconst (v := 1) hx hb dX12_readsNumber_125 (by decide) ?_
          refine lv_iadd hx hb dX12_readsNumber_126 ?_
          refine lv_topi (fun x_19 ex_19 => ?_)
          have q_19 : x_19.toInt = x_16.toInt + 1 := i_pl rfl (by decide) ex_19 (by omega) (by omega)
          refine pf_X12_44 E hT_11 hS_11 ha0 rfl dX12_readsNumber_127 (fun H_20 locs_20 hT_20 hU_20 hS_20 => ?_)
          refine lv_iload hx hb dX12_readsNumber_130 (lv_at hl 0 rfl) ?_
          exact th_zret E hr hlk hs (Or.inl rfl) hT_20 hS_20 ⟨⟨(PW.q (hU_20.2.2 _ (th_ne (hW _ 12 0 ha0 (by decide) (by decide) (by decide)) ha0 (by decide))) hI_c61.1), (QS.same (ai_q (hU_20.2.2 _ (th_ne (hW _ 12 0 ha0 (by decide) (by decide) (by decide)) ha0 (by decide)))) (ai_q (hU_20.2.2 _ (th_ne (hW _ 12 0 ha0 (by decide) (by decide) (by decide)) ha0 (by decide)))) hI_c61.2.1), (QS.same (ai_q (hU_20.2.2 _ (th_ne (hW _ 12 0 ha0 (by decide) (by decide) (by decide)) ha0 (by decide)))) (ai_q (hU_20.2.2 _ (th_ne (hW _ 12 0 ha0 (by decide) (by decide) (by decide)) ha0 (by decide)))) hI_c61.2.2.1), (PL.q (hU_20.2.2 _ (th_ne (hW _ 12 2 ha0 (by decide) (by decide) (by decide)) ha0 (by decide))) hI_c61.2.2.2.1), (PL.q (hU_20.2.2 _ (th_ne (hW _ 12 3 ha0 (by decide) (by decide) (by decide)) ha0 (by decide))) hI_c61.2.2.2.2.1), (IF.put hI_c61.2.2.2.2.2 hU_20 (by decide))⟩, (Or.inl rfl), (by have : (0 : Int32).toInt = 0 := (by decide); have : (fi D 12 10 H_20 a0).toInt = (x_19 : Int32).toInt := congrArg Int32.toInt (PU.i hU_20); have : (fi D 12 10 H_c61 a0).toInt = (x_16 : Int32).toInt := congrArg Int32.toInt ex_16.symm; omega), (by have : (0 : Int32).toInt = 0 := (by decide); have : (fi D 12 11 H_20 a0).toInt = (x_7 : Int32).toInt := congrArg Int32.toInt (Eq.trans (PU.io hU_20 (j := 11) (by decide) (by decide)) ex_7.symm); have : (fi D 12 11 H_c61 a0).toInt = (x_7 : Int32).toInt := congrArg Int32.toInt ex_7.symm; omega), ((Eq.trans (PU.io hU_20 (j := 5) (by decide) (by decide)) (hf61_5.trans ex_17.symm)).trans ex_17.symm.symm), (Eq.trans (PU.io hU_20 (j := 12) (by decide) (by decide)) hf61_12), (Eq.trans (PU.io hU_20 (j := 13) (by decide) (by decide)) hf61_13), (Eq.trans (PU.io hU_20 (j := 14) (by decide) (by decide)) hf61_14)⟩ dX12_readsNumber_132
        · have f_18 : x_16.toInt < x_17.toInt := r_nle rfl rfl c_18
          refine lv_aload_n hx hb dX12_readsNumber_100 rfl (lv_at hl 0 rfl) ?_
          refine gf_X12_22 E hT_11 hW ha0 dX12_readsNumber_101 (fun h_21 => ?_)
          refine lv_aload_n hx hb dX12_readsNumber_104 rfl (lv_at hl 0 rfl) ?_
          refine gf_X12_44 E hT_11 ha0 dX12_readsNumber_105 ?_
          refine th_topi (y := x_16) ex_16.symm ?_
          refine th_iald E hT_11 h_21 (by decide) (vp_in_iff.mpr ⟨by omega, by omega⟩) dX12_readsNumber_108 ?_
          refine th_topi (y := ai H_c61 (ρ a0 4) x_16.toInt.toNat) rfl ?_
          refine lv_topi (fun x_22 ex_22 => ?_)
          refine lv_iload_n hx hb dX12_readsNumber_109 rfl (lv_at hl 3 rfl) ?_
          refine lv_icmp_ne (tgt := 117) hx hb dX12_readsNumber_110 (by decide) (fun c_23 => ?_) (fun c_23 => ?_)
          · have f_23 : ¬ x_22.toInt = 59 := r_ne rfl (by decide) c_23
            refine lv_iconst (v := 0) hx hb dX12_readsNumber_117 (by decide) ?_
            refine lv_istore (lv' := [(5, .int 0), (0, .ref a0), (1, .int 2), (2, .int 32), (3, .int 59), (4, .int y61_4)]) hx hb dX12_readsNumber_118 hl (by decide) rfl (fun ls hl => ?_)
            refine lv_aload_n hx hb dX12_readsNumber_120 rfl (lv_at hl 1 rfl) ?_
            refine lv_dup hx hb dX12_readsNumber_121 rfl ?_
            refine gf_X12_44 E hT_11 ha0 dX12_readsNumber_122 ?_
            refine th_topi (y := x_16) ex_16.symm ?_
            refine lv_iconst (v := 1) hx hb dX12_readsNumber_125 (by decide) ?_
            refine lv_iadd hx hb dX12_readsNumber_126 ?_
            refine lv_topi (fun x_24 ex_24 => ?_)
            have q_24 : x_24.toInt = x_16.toInt + 1 := i_pl rfl (by decide) ex_24 (by omega) (by omega)
            refine pf_X12_44 E hT_11 hS_11 ha0 rfl dX12_readsNumber_127 (fun H_25 locs_25 hT_25 hU_25 hS_25 => ?_)
            refine lv_iload hx hb dX12_readsNumber_130 (lv_at hl 0 rfl) ?_
            exact th_zret E hr hlk hs (Or.inl rfl) hT_25 hS_25 ⟨⟨(PW.q (hU_25.2.2 _ (th_ne (hW _ 12 0 ha0 (by decide) (by decide) (by decide)) ha0 (by decide))) hI_c61.1), (QS.same (ai_q (hU_25.2.2 _ (th_ne (hW _ 12 0 ha0 (by decide) (by decide) (by decide)) ha0 (by decide)))) (ai_q (hU_25.2.2 _ (th_ne (hW _ 12 0 ha0 (by decide) (by decide) (by decide)) ha0 (by decide)))) hI_c61.2.1), (QS.same (ai_q (hU_25.2.2 _ (th_ne (hW _ 12 0 ha0 (by decide) (by decide) (by decide)) ha0 (by decide)))) (ai_q (hU_25.2.2 _ (th_ne (hW _ 12 0 ha0 (by decide) (by decide) (by decide)) ha0 (by decide)))) hI_c61.2.2.1), (PL.q (hU_25.2.2 _ (th_ne (hW _ 12 2 ha0 (by decide) (by decide) (by decide)) ha0 (by decide))) hI_c61.2.2.2.1), (PL.q (hU_25.2.2 _ (th_ne (hW _ 12 3 ha0 (by decide) (by decide) (by decide)) ha0 (by decide))) hI_c61.2.2.2.2.1), (IF.put hI_c61.2.2.2.2.2 hU_25 (by decide))⟩, (Or.inl rfl), (by have : (0 : Int32).toInt = 0 := (by decide); have : (fi D 12 10 H_25 a0).toInt = (x_24 : Int32).toInt := congrArg Int32.toInt (PU.i hU_25); have : (fi D 12 10 H_c61 a0).toInt = (x_16 : Int32).toInt := congrArg Int32.toInt ex_16.symm; omega), (by have : (0 : Int32).toInt = 0 := (by decide); have : (fi D 12 11 H_25 a0).toInt = (x_7 : Int32).toInt := congrArg Int32.toInt (Eq.trans (PU.io hU_25 (j := 11) (by decide) (by decide)) ex_7.symm); have : (fi D 12 11 H_c61 a0).toInt = (x_7 : Int32).toInt := congrArg Int32.toInt ex_7.symm; omega), ((Eq.trans (PU.io hU_25 (j := 5) (by decide) (by decide)) (hf61_5.trans ex_17.symm)).trans ex_17.symm.symm), (Eq.trans (PU.io hU_25 (j := 12) (by decide) (by decide)) hf61_12), (Eq.trans (PU.io hU_25 (j := 13) (by decide) (by decide)) hf61_13), (Eq.trans (PU.io hU_25 (j := 14) (by decide) (by decide)) hf61_14)⟩ dX12_readsNumber_132
          · have f_23 : x_22.toInt = 59 := r_eq rfl (by decide) c_23
            refine lv_iconst (v := 1) hx hb dX12_readsNumber_113 (by decide) ?_
            refine lv_goto (tgt := 118) hx hb dX12_readsNumber_114 (by decide) ?_
            refine lv_istore (lv' := [(5, .int 1), (0, .ref a0), (1, .int 2), (2, .int 32), (3, .int 59), (4, .int y61_4)]) hx hb dX12_readsNumber_118 hl (by decide) rfl (fun ls hl => ?_)
            refine lv_aload_n hx hb dX12_readsNumber_120 rfl (lv_at hl 1 rfl) ?_
            refine lv_dup hx hb dX12_readsNumber_121 rfl ?_
            refine gf_X12_44 E hT_11 ha0 dX12_readsNumber_122 ?_
            refine th_topi (y := x_16) ex_16.symm ?_
            refine lv_iconst (v := 1) hx hb dX12_readsNumber_125 (by decide) ?_
            refine lv_iadd hx hb dX12_readsNumber_126 ?_
            refine lv_topi (fun x_26 ex_26 => ?_)
            have q_26 : x_26.toInt = x_16.toInt + 1 := i_pl rfl (by decide) ex_26 (by omega) (by omega)
            refine pf_X12_44 E hT_11 hS_11 ha0 rfl dX12_readsNumber_127 (fun H_27 locs_27 hT_27 hU_27 hS_27 => ?_)
            refine lv_iload hx hb dX12_readsNumber_130 (lv_at hl 0 rfl) ?_
            exact th_zret E hr hlk hs (Or.inr rfl) hT_27 hS_27 ⟨⟨(PW.q (hU_27.2.2 _ (th_ne (hW _ 12 0 ha0 (by decide) (by decide) (by decide)) ha0 (by decide))) hI_c61.1), (QS.same (ai_q (hU_27.2.2 _ (th_ne (hW _ 12 0 ha0 (by decide) (by decide) (by decide)) ha0 (by decide)))) (ai_q (hU_27.2.2 _ (th_ne (hW _ 12 0 ha0 (by decide) (by decide) (by decide)) ha0 (by decide)))) hI_c61.2.1), (QS.same (ai_q (hU_27.2.2 _ (th_ne (hW _ 12 0 ha0 (by decide) (by decide) (by decide)) ha0 (by decide)))) (ai_q (hU_27.2.2 _ (th_ne (hW _ 12 0 ha0 (by decide) (by decide) (by decide)) ha0 (by decide)))) hI_c61.2.2.1), (PL.q (hU_27.2.2 _ (th_ne (hW _ 12 2 ha0 (by decide) (by decide) (by decide)) ha0 (by decide))) hI_c61.2.2.2.1), (PL.q (hU_27.2.2 _ (th_ne (hW _ 12 3 ha0 (by decide) (by decide) (by decide)) ha0 (by decide))) hI_c61.2.2.2.2.1), (IF.put hI_c61.2.2.2.2.2 hU_27 (by decide))⟩, (Or.inr rfl), (by have : (1 : Int32).toInt = 1 := (by decide); have : (fi D 12 10 H_27 a0).toInt = (x_26 : Int32).toInt := congrArg Int32.toInt (PU.i hU_27); have : (fi D 12 10 H_c61 a0).toInt = (x_16 : Int32).toInt := congrArg Int32.toInt ex_16.symm; omega), (by have : (1 : Int32).toInt = 1 := (by decide); have : (fi D 12 11 H_27 a0).toInt = (x_7 : Int32).toInt := congrArg Int32.toInt (Eq.trans (PU.io hU_27 (j := 11) (by decide) (by decide)) ex_7.symm); have : (fi D 12 11 H_c61 a0).toInt = (x_7 : Int32).toInt := congrArg Int32.toInt ex_7.symm; omega), ((Eq.trans (PU.io hU_27 (j := 5) (by decide) (by decide)) (hf61_5.trans ex_17.symm)).trans ex_17.symm.symm), (Eq.trans (PU.io hU_27 (j := 12) (by decide) (by decide)) hf61_12), (Eq.trans (PU.io hU_27 (j := 13) (by decide) (by decide)) hf61_13), (Eq.trans (PU.io hU_27 (j := 14) (by decide) (by decide)) hf61_14)⟩ dX12_readsNumber_132
  have L_8 : ∀ (n : Nat) (H_c8 : Heap) (lc_c8 : List Loc) (ls : Array Slot) (y8_4 : Int32), TH D cI cS τ ρ H_c8 → SS (fun q => q = a0) H H_c8 lc_c8 → lv_has ls 6 [(0, .ref a0), (1, .int 2), (2, .int 32), (3, .int 59), (4, .int y8_4)] → 0 ≤ y8_4.toInt → y8_4.toInt ≤ 4 → IM D ρ N H_c8 a0 → (fi D 12 10 H_c8 a0).toInt = (fi D 12 10 H a0).toInt + y8_4.toInt ∧ y8_4.toInt ≤ 4 → fi D 12 5 H_c8 a0 = fi D 12 5 H a0 → fi D 12 12 H_c8 a0 = fi D 12 12 H a0 → fi D 12 13 H_c8 a0 = fi D 12 13 H a0 → fi D 12 14 H_c8 a0 = fi D 12 14 H a0 → (5 - y8_4.toInt).toNat < n → W p l e (rmO 2 45) s m args below meth c H_c8 lc_c8 0 0 (MQ below (va_Qi (fun (r : Int32) (u : Heap) => (IM D ρ N u a0) ∧ (r = 0 ∨ r = 1) ∧ ((fi D 12 10 H a0).toInt + 1 ≤ (fi D 12 10 u a0).toInt ∧ (fi D 12 10 u a0).toInt ≤ (fi D 12 10 H a0).toInt + 5) ∧ (r.toInt = 1 → (2 ≤ (fi D 12 11 u a0).toInt ∧ (fi D 12 11 u a0).toInt ≤ 32)) ∧ (fi D 12 5 u a0 = fi D 12 5 H a0) ∧ (fi D 12 12 u a0 = fi D 12 12 H a0) ∧ (fi D 12 13 u a0 = fi D 12 13 H a0) ∧ (fi D 12 14 u a0 = fi D 12 14 H a0)) (Bt D cI cS τ ρ H) (fun q => q = a0)) args s 0 0 (fun q => q = a0)) (F0 m 8 ls []) := by
    intro n
    induction n with
    | zero => intro H_c8 lc_c8 ls y8_4 hT_c8 hS_c8 hl ly8_4 uy8_4 hI_c8 hx8_0 hf8_5 hf8_12 hf8_13 hf8_14 hm; exact absurd hm (Nat.not_lt_zero _)
    | succ n ih_8 =>
      intro H_c8 lc_c8 ls y8_4 hT_c8 hS_c8 hl ly8_4 uy8_4 hI_c8 hx8_0 hf8_5 hf8_12 hf8_13 hf8_14 hm_8
      refine lv_aload_n hx hb dX12_readsNumber_8 rfl (lv_at hl 0 rfl) ?_
      refine th_Vi (As := []) (rest := []) E hml hl.1 (y_isFigure l D cI cS τ ρ hW H_c8 hT_c8 a0 ha0 N hN0 hN1 ⟨hI_c8.1, hI_c8.2.1, hI_c8.2.2.1, hI_c8.2.2.2.1, hI_c8.2.2.2.2.1, hI_c8.2.2.2.2.2⟩ (by omega)) lk_X12_61 yd_X12_isFigure hT_c8 ha0 rfl (by decide) hS_c8 (fun _ h => h.elim) ⟨by decide, by decide⟩ (Nat.le_of_ble_eq_true rfl) ⟨by decide, by decide⟩ rfl dX12_readsNumber_9 (fun r_28 H_28 locs_28 p_28 hT_28 hk_28 hS_28 => ?_)
      have p_28 : H_c8 = H_28 ∧ (r_28 = 0 ∨ r_28 = 1) ∧ (r_28.toInt = 1 → (fi D 12 10 H_c8 a0).toInt < 200) := p_28
      obtain ⟨rfl, p_28_0, p_28_1⟩ := p_28
      have z_28 := b_iv p_28_0
      refine lv_if_eq (tgt := 61) hx hb dX12_readsNumber_12 (by decide) (fun c_29 => ?_) (fun c_29 => ?_)
      · have f_29 : r_28.toInt = 0 := r_eq rfl (by decide) c_29
        exact J_61 H_c8 locs_28 _ y8_4 hT_28 hS_28 hl (by omega) (by omega) ⟨hI_c8.1, hI_c8.2.1, hI_c8.2.2.1, hI_c8.2.2.2.1, hI_c8.2.2.2.2.1, hI_c8.2.2.2.2.2⟩ (by omega) hf8_5 hf8_12 hf8_13 hf8_14
      · have f_29 : ¬ r_28.toInt = 0 := r_ne rfl (by decide) c_29
        have nz_r_28 : ¬ r_28 = 0 := c_29
        refine lv_iload hx hb dX12_readsNumber_15 (lv_at hl 4 rfl) ?_
        refine lv_iconst (v := 4) hx hb dX12_readsNumber_17 (by decide) ?_
        refine lv_icmp_ge (tgt := 61) hx hb dX12_readsNumber_18 (by decide) (fun c_30 => ?_) (fun c_30 => ?_)
        · have f_30 : 4 ≤ y8_4.toInt := r_le (by decide) rfl c_30
          exact J_61 H_c8 locs_28 _ y8_4 hT_28 hS_28 hl (by omega) (by omega) ⟨hI_c8.1, hI_c8.2.1, hI_c8.2.2.1, hI_c8.2.2.2.1, hI_c8.2.2.2.2.1, hI_c8.2.2.2.2.2⟩ (by omega) hf8_5 hf8_12 hf8_13 hf8_14
        · have f_30 : y8_4.toInt < 4 := r_nle (by decide) rfl c_30
          refine lv_aload_n hx hb dX12_readsNumber_21 rfl (lv_at hl 0 rfl) ?_
          refine lv_bipush (v := 10) hx hb dX12_readsNumber_22 (by decide) ?_
          refine lv_aload_n hx hb dX12_readsNumber_24 rfl (lv_at hl 0 rfl) ?_
          refine gf_X12_58 E hT_28 ha0 dX12_readsNumber_25 ?_
          refine lv_topi (fun x_31 ex_31 => ?_)
          have e_31 : x_31.toInt = (fi D 12 11 H_c8 a0).toInt := congrArg Int32.toInt ex_31
          refine lv_imul hx hb dX12_readsNumber_28 ?_
          refine lv_topi (fun x_32 ex_32 => ?_)
          refine lv_aload_n hx hb dX12_readsNumber_29 rfl (lv_at hl 0 rfl) ?_
          refine gf_X12_22 E hT_28 hW ha0 dX12_readsNumber_30 (fun h_33 => ?_)
          refine lv_aload_n hx hb dX12_readsNumber_33 rfl (lv_at hl 0 rfl) ?_
          refine gf_X12_44 E hT_28 ha0 dX12_readsNumber_34 ?_
          refine lv_topi (fun x_34 ex_34 => ?_)
          have e_34 : x_34.toInt = (fi D 12 10 H_c8 a0).toInt := congrArg Int32.toInt ex_34
          refine th_iald E hT_28 h_33 (by decide) (vp_in_iff.mpr ⟨by omega, by omega⟩) dX12_readsNumber_37 ?_
          refine th_topi (y := ai H_c8 (ρ a0 4) x_34.toInt.toNat) rfl ?_
          refine lv_topi (fun x_35 ex_35 => ?_)
          refine lv_iadd hx hb dX12_readsNumber_38 ?_
          refine lv_topi (fun x_36 ex_36 => ?_)
          refine lv_bipush (v := 48) hx hb dX12_readsNumber_39 (by decide) ?_
          refine lv_isub hx hb dX12_readsNumber_41 ?_
          refine lv_topi (fun x_37 ex_37 => ?_)
          refine pf_X12_58 E hT_28 hS_28 ha0 rfl dX12_readsNumber_42 (fun H_38 locs_38 hT_38 hU_38 hS_38 => ?_)
          obtain ⟨x_39, ex_39⟩ : ∃ y : Int32, y8_4 + 1 = y := ⟨_, rfl⟩
          have q_x_39 : x_39.toInt = y8_4.toInt + 1 := i_add (k := 1) (by decide) ex_39 (by have := i_min y8_4; omega) (by have := i_max y8_4; omega)
          refine lv_iinc (v := x_39) (lv' := [(4, .int x_39), (0, .ref a0), (1, .int 2), (2, .int 32), (3, .int 59)]) hx hb dX12_readsNumber_45 hl (k := 4) rfl (by rw [← ex_39]; rfl) (by decide) rfl (fun ls hl => ?_)
          refine lv_aload_n hx hb dX12_readsNumber_48 rfl (lv_at hl 1 rfl) ?_
          refine lv_dup hx hb dX12_readsNumber_49 rfl ?_
          refine gf_X12_44 E hT_38 ha0 dX12_readsNumber_50 ?_
          refine th_topi (y := x_34) (Eq.trans (PU.io hU_38 (j := 10) (by decide) (by decide)) ex_34.symm) ?_
          refine lv_iconst (v := 1) hx hb dX12_readsNumber_53 (by decide) ?_
          refine lv_iadd hx hb dX12_readsNumber_54 ?_
          refine lv_topi (fun x_40 ex_40 => ?_)
          have q_40 : x_40.toInt = x_34.toInt + 1 := i_pl rfl (by decide) ex_40 (by omega) (by omega)
          refine pf_X12_44 E hT_38 hS_38 ha0 rfl dX12_readsNumber_55 (fun H_41 locs_41 hT_41 hU_41 hS_41 => ?_)
          refine lv_goto (tgt := 8) hx hb dX12_readsNumber_58 (by decide) ?_
          exact ih_8 H_41 locs_41 _ x_39 hT_41 hS_41 (lv_sub hl [1, 2, 3, 4, 0] rfl) (by omega) (by omega) ⟨(PW.q (hU_41.2.2 _ (th_ne (hW _ 12 0 ha0 (by decide) (by decide) (by decide)) ha0 (by decide))) (PW.q (hU_38.2.2 _ (th_ne (hW _ 12 0 ha0 (by decide) (by decide) (by decide)) ha0 (by decide))) hI_c8.1)), (QS.same (Eq.trans (ai_q (hU_41.2.2 _ (th_ne (hW _ 12 0 ha0 (by decide) (by decide) (by decide)) ha0 (by decide)))) (ai_q (hU_38.2.2 _ (th_ne (hW _ 12 0 ha0 (by decide) (by decide) (by decide)) ha0 (by decide))))) (Eq.trans (ai_q (hU_41.2.2 _ (th_ne (hW _ 12 0 ha0 (by decide) (by decide) (by decide)) ha0 (by decide)))) (ai_q (hU_38.2.2 _ (th_ne (hW _ 12 0 ha0 (by decide) (by decide) (by decide)) ha0 (by decide))))) hI_c8.2.1), (QS.same (Eq.trans (ai_q (hU_41.2.2 _ (th_ne (hW _ 12 0 ha0 (by decide) (by decide) (by decide)) ha0 (by decide)))) (ai_q (hU_38.2.2 _ (th_ne (hW _ 12 0 ha0 (by decide) (by decide) (by decide)) ha0 (by decide))))) (Eq.trans (ai_q (hU_41.2.2 _ (th_ne (hW _ 12 0 ha0 (by decide) (by decide) (by decide)) ha0 (by decide)))) (ai_q (hU_38.2.2 _ (th_ne (hW _ 12 0 ha0 (by decide) (by decide) (by decide)) ha0 (by decide))))) hI_c8.2.2.1), (PL.q (hU_41.2.2 _ (th_ne (hW _ 12 2 ha0 (by decide) (by decide) (by decide)) ha0 (by decide))) (PL.q (hU_38.2.2 _ (th_ne (hW _ 12 2 ha0 (by decide) (by decide) (by decide)) ha0 (by decide))) hI_c8.2.2.2.1)), (PL.q (hU_41.2.2 _ (th_ne (hW _ 12 3 ha0 (by decide) (by decide) (by decide)) ha0 (by decide))) (PL.q (hU_38.2.2 _ (th_ne (hW _ 12 3 ha0 (by decide) (by decide) (by decide)) ha0 (by decide))) hI_c8.2.2.2.2.1)), (IF.put (IF.put hI_c8.2.2.2.2.2 hU_38 (by decide)) hU_41 (by decide))⟩ (by have : (fi D 12 10 H_41 a0).toInt = (x_40 : Int32).toInt := congrArg Int32.toInt (PU.i hU_41); have : (fi D 12 10 H_c8 a0).toInt = (x_34 : Int32).toInt := congrArg Int32.toInt ex_34.symm; omega) (Eq.trans (PU.io hU_41 (j := 5) (by decide) (by decide)) (Eq.trans (PU.io hU_38 (j := 5) (by decide) (by decide)) hf8_5)) (Eq.trans (PU.io hU_41 (j := 12) (by decide) (by decide)) (Eq.trans (PU.io hU_38 (j := 12) (by decide) (by decide)) hf8_12)) (Eq.trans (PU.io hU_41 (j := 13) (by decide) (by decide)) (Eq.trans (PU.io hU_38 (j := 13) (by decide) (by decide)) hf8_13)) (Eq.trans (PU.io hU_41 (j := 14) (by decide) (by decide)) (Eq.trans (PU.io hU_38 (j := 14) (by decide) (by decide)) hf8_14)) (by omega)
  refine lv_iconst (v := 0) hx hb dX12_readsNumber_0 (by decide) ?_
  refine lv_istore (lv' := [(4, .int 0), (0, .ref a0), (1, .int 2), (2, .int 32), (3, .int 59)]) hx hb dX12_readsNumber_1 hl (by decide) rfl (fun ls hl => ?_)
  refine lv_aload_n hx hb dX12_readsNumber_3 rfl (lv_at hl 1 rfl) ?_
  refine lv_iconst (v := 0) hx hb dX12_readsNumber_4 (by decide) ?_
  refine pf_X12_58 E hT hS ha0 rfl dX12_readsNumber_5 (fun H_42 locs_42 hT_42 hU_42 hS_42 => ?_)
  exact L_8 _ H_42 locs_42 _ 0 hT_42 hS_42 (lv_sub hl [1, 2, 3, 4, 0] rfl) (by decide) (by decide) ⟨(PW.q (hU_42.2.2 _ (th_ne (hW _ 12 0 ha0 (by decide) (by decide) (by decide)) ha0 (by decide))) hI.1), (QS.same (ai_q (hU_42.2.2 _ (th_ne (hW _ 12 0 ha0 (by decide) (by decide) (by decide)) ha0 (by decide)))) (ai_q (hU_42.2.2 _ (th_ne (hW _ 12 0 ha0 (by decide) (by decide) (by decide)) ha0 (by decide)))) hI.2.1), (QS.same (ai_q (hU_42.2.2 _ (th_ne (hW _ 12 0 ha0 (by decide) (by decide) (by decide)) ha0 (by decide)))) (ai_q (hU_42.2.2 _ (th_ne (hW _ 12 0 ha0 (by decide) (by decide) (by decide)) ha0 (by decide)))) hI.2.2.1), (PL.q (hU_42.2.2 _ (th_ne (hW _ 12 2 ha0 (by decide) (by decide) (by decide)) ha0 (by decide))) hI.2.2.2.1), (PL.q (hU_42.2.2 _ (th_ne (hW _ 12 3 ha0 (by decide) (by decide) (by decide)) ha0 (by decide))) hI.2.2.2.2.1), (IF.put hI.2.2.2.2.2 hU_42 (by decide))⟩ (by have : (fi D 12 10 H_42 a0).toInt = (fi D 12 10 H a0 : Int32).toInt := congrArg Int32.toInt (PU.io hU_42 (j := 10) (by decide) (by decide)); have : (0 : Int32).toInt = 0 := (by decide); omega) (PU.io hU_42 (j := 5) (by decide) (by decide)) (PU.io hU_42 (j := 12) (by decide) (by decide)) (PU.io hU_42 (j := 13) (by decide) (by decide)) (PU.io hU_42 (j := 14) (by decide) (by decide)) (Nat.lt_succ_self _)
set_option maxHeartbeats 4000000 in
set_option maxRecDepth 100000 in
/-- the reference: readsNumber -/
theorem y_readsNumber_v2 (l : Launch) (D : va_G) (cI cS : ClassId) (τ : Nat → Option Nat) (ρ : Nat → Nat → Nat) (hW : WF τ ρ) (H : Heap) (hT : TH D cI cS τ ρ H) (a0 : Nat) (ha0 : τ a0 = some 12) (N : Int) (hN0 : 0 ≤ N) (hN1 : N ≤ 600) (hI : IM D ρ N H a0) (hp0 : 0 ≤ (fi D 12 10 H a0).toInt ∧ (fi D 12 10 H a0).toInt ≤ 1000) : MI l D cI cS τ ρ yX12_readsNumber cX12_readsNumber 6 (some .boolean) 2 45 H [.ref a0, .int 0, .int 255, .int 44] (fun (r : Int32) (u : Heap) => (IM D ρ N u a0) ∧ (r = 0 ∨ r = 1) ∧ ((fi D 12 10 H a0).toInt + 1 ≤ (fi D 12 10 u a0).toInt ∧ (fi D 12 10 u a0).toInt ≤ (fi D 12 10 H a0).toInt + 5) ∧ (r.toInt = 1 → (0 ≤ (fi D 12 11 u a0).toInt ∧ (fi D 12 11 u a0).toInt ≤ 255)) ∧ (fi D 12 5 u a0 = fi D 12 5 H a0) ∧ (fi D 12 12 u a0 = fi D 12 12 H a0) ∧ (fi D 12 13 u a0 = fi D 12 13 H a0) ∧ (fi D 12 14 u a0 = fi D 12 14 H a0)) (fun q => q = a0) := by
  refine MI.of (by decide) (Nat.le_of_ble_eq_true rfl) ?_
  intro p e s m args below meth c E hml hr hlk hs ls hl
  have hx := E.1
  have hb := E.2.1
  have hown := E.2.2.1
  have hts := E.2.2.2.1
  have hS : SS (fun q => q = a0) H H [] := SS.rf
  have hl : lv_has ls 6 [(0, .ref a0), (1, .int 0), (2, .int 255), (3, .int 44)] := hl
  have n01 := hI.2.2.2.2.2.1
  have n23 := hI.2.2.2.2.2.2.1
  have bL5 : 0 ≤ (fi D 12 5 H a0).toInt ∧ (fi D 12 5 H a0).toInt ≤ 200 := IF.f5 hI.2.2.2.2.2
  have J_61 : ∀ (H_c61 : Heap) (lc_c61 : List Loc) (ls : Array Slot) (y61_4 : Int32), TH D cI cS τ ρ H_c61 → SS (fun q => q = a0) H H_c61 lc_c61 → lv_has ls 6 [(0, .ref a0), (1, .int 0), (2, .int 255), (3, .int 44), (4, .int y61_4)] → 0 ≤ y61_4.toInt → y61_4.toInt ≤ 4 → IM D ρ N H_c61 a0 → (fi D 12 10 H_c61 a0).toInt = (fi D 12 10 H a0).toInt + y61_4.toInt ∧ y61_4.toInt ≤ 4 → fi D 12 5 H_c61 a0 = fi D 12 5 H a0 → fi D 12 12 H_c61 a0 = fi D 12 12 H a0 → fi D 12 13 H_c61 a0 = fi D 12 13 H a0 → fi D 12 14 H_c61 a0 = fi D 12 14 H a0 → W p l e (rmO 2 45) s m args below meth c H_c61 lc_c61 0 0 (MQ below (va_Qi (fun (r : Int32) (u : Heap) => (IM D ρ N u a0) ∧ (r = 0 ∨ r = 1) ∧ ((fi D 12 10 H a0).toInt + 1 ≤ (fi D 12 10 u a0).toInt ∧ (fi D 12 10 u a0).toInt ≤ (fi D 12 10 H a0).toInt + 5) ∧ (r.toInt = 1 → (0 ≤ (fi D 12 11 u a0).toInt ∧ (fi D 12 11 u a0).toInt ≤ 255)) ∧ (fi D 12 5 u a0 = fi D 12 5 H a0) ∧ (fi D 12 12 u a0 = fi D 12 12 H a0) ∧ (fi D 12 13 u a0 = fi D 12 13 H a0) ∧ (fi D 12 14 u a0 = fi D 12 14 H a0)) (Bt D cI cS τ ρ H) (fun q => q = a0)) args s 0 0 (fun q => q = a0)) (F0 m 61 ls []) := by
    intro H_c61 lc_c61 ls y61_4 hT_c61 hS_c61 hl ly61_4 uy61_4 hI_c61 hx61_0 hf61_5 hf61_12 hf61_13 hf61_14
    refine lv_iload hx hb dX12_readsNumber_61 (lv_at hl 4 rfl) ?_
    obtain ⟨x_1, ex_1⟩ : ∃ y : Int64, y61_4.toInt64 = y := ⟨_, rfl⟩
    refine lv_i2l (v := x_1) hx hb dX12_readsNumber_63 ex_1 ?_
    have q_1 : x_1.toInt = y61_4.toInt := by rw [← ex_1]; exact Int32.toInt_toInt64 _
    refine lv_lconst (v := 1) hx hb dX12_readsNumber_64 (by decide) ?_
    refine lv_ldc2 (v := 3) hx hb hown (hts _ qw_1206) dX12_readsNumber_65 ?_
    refine th_Si (As := [.long x_1, .long 1, .long 3]) (rest := []) E hml hl.1 (y_in_v17 l D cI cS τ ρ hW H_c61 hT_c61 x_1) lk_X12_54 yd_X12_in hS_c61 (fun _ h => h.elim) ⟨by decide, by decide⟩ (Nat.le_of_ble_eq_true rfl) ⟨by decide, by decide⟩ rfl dX12_readsNumber_68 (fun r_2 H_2 locs_2 p_2 hT_2 hk_2 hS_2 => ?_)
    have p_2 : H_c61 = H_2 ∧ (r_2 = 0 ∨ r_2 = 1) ∧ ((r_2.toInt = 1 ∧ 1 ≤ x_1.toInt ∧ x_1.toInt ≤ 3) ∨ (r_2.toInt = 0 ∧ (x_1.toInt < 1 ∨ 3 < x_1.toInt))) := p_2
    obtain ⟨rfl, p_2_0, p_2_1⟩ := p_2
    have z_2 := b_iv p_2_0
    refine lv_if_eq (tgt := 117) hx hb dX12_readsNumber_71 (by decide) (fun c_3 => ?_) (fun c_3 => ?_)
    · have f_3 : r_2.toInt = 0 := r_eq rfl (by decide) c_3
      refine lv_iconst (v := 0) hx hb dX12_readsNumber_117 (by decide) ?_
      refine lv_istore (lv' := [(5, .int 0), (0, .ref a0), (1, .int 0), (2, .int 255), (3, .int 44), (4, .int y61_4)]) hx hb dX12_readsNumber_118 hl (by decide) rfl (fun ls hl => ?_)
      refine lv_aload_n hx hb dX12_readsNumber_120 rfl (lv_at hl 1 rfl) ?_
      refine lv_dup hx hb dX12_readsNumber_121 rfl ?_
      refine gf_X12_44 E hT_2 ha0 dX12_readsNumber_122 ?_
      refine lv_topi (fun x_4 ex_4 => ?_)
      have e_4 : x_4.toInt = (fi D 12 10 H_c61 a0).toInt := congrArg Int32.toInt ex_4
      refine lv_iconst (v := 1) hx hb dX12_readsNumber_125 (by decide) ?_
      refine lv_iadd hx hb dX12_readsNumber_126 ?_
      refine lv_topi (fun x_5 ex_5 => ?_)
      have q_5 : x_5.toInt = x_4.toInt + 1 := i_pl rfl (by decide) ex_5 (by omega) (by omega)
      refine pf_X12_44 E hT_2 hS_2 ha0 rfl dX12_readsNumber_127 (fun H_6 locs_6 hT_6 hU_6 hS_6 => ?_)
      refine lv_iload hx hb dX12_readsNumber_130 (lv_at hl 0 rfl) ?_
      exact th_zret E hr hlk hs (Or.inl rfl) hT_6 hS_6 ⟨⟨(PW.q (hU_6.2.2 _ (th_ne (hW _ 12 0 ha0 (by decide) (by decide) (by decide)) ha0 (by decide))) hI_c61.1), (QS.same (ai_q (hU_6.2.2 _ (th_ne (hW _ 12 0 ha0 (by decide) (by decide) (by decide)) ha0 (by decide)))) (ai_q (hU_6.2.2 _ (th_ne (hW _ 12 0 ha0 (by decide) (by decide) (by decide)) ha0 (by decide)))) hI_c61.2.1), (QS.same (ai_q (hU_6.2.2 _ (th_ne (hW _ 12 0 ha0 (by decide) (by decide) (by decide)) ha0 (by decide)))) (ai_q (hU_6.2.2 _ (th_ne (hW _ 12 0 ha0 (by decide) (by decide) (by decide)) ha0 (by decide)))) hI_c61.2.2.1), (PL.q (hU_6.2.2 _ (th_ne (hW _ 12 2 ha0 (by decide) (by decide) (by decide)) ha0 (by decide))) hI_c61.2.2.2.1), (PL.q (hU_6.2.2 _ (th_ne (hW _ 12 3 ha0 (by decide) (by decide) (by decide)) ha0 (by decide))) hI_c61.2.2.2.2.1), (IF.put hI_c61.2.2.2.2.2 hU_6 (by decide))⟩, (Or.inl rfl), (by have : (0 : Int32).toInt = 0 := (by decide); have : (fi D 12 10 H_6 a0).toInt = (x_5 : Int32).toInt := congrArg Int32.toInt (PU.i hU_6); have : (fi D 12 10 H_c61 a0).toInt = (x_4 : Int32).toInt := congrArg Int32.toInt ex_4.symm; omega), (by have : (0 : Int32).toInt = 0 := (by decide); have : (fi D 12 11 H_6 a0).toInt = (fi D 12 11 H_c61 a0 : Int32).toInt := congrArg Int32.toInt (PU.io hU_6 (j := 11) (by decide) (by decide)); omega), (Eq.trans (PU.io hU_6 (j := 5) (by decide) (by decide)) hf61_5), (Eq.trans (PU.io hU_6 (j := 12) (by decide) (by decide)) hf61_12), (Eq.trans (PU.io hU_6 (j := 13) (by decide) (by decide)) hf61_13), (Eq.trans (PU.io hU_6 (j := 14) (by decide) (by decide)) hf61_14)⟩ dX12_readsNumber_132
    · have f_3 : ¬ r_2.toInt = 0 := r_ne rfl (by decide) c_3
      have nz_r_2 : ¬ r_2 = 0 := c_3
      refine lv_aload_n hx hb dX12_readsNumber_74 rfl (lv_at hl 0 rfl) ?_
      refine gf_X12_58 E hT_2 ha0 dX12_readsNumber_75 ?_
      refine lv_topi (fun x_7 ex_7 => ?_)
      have e_7 : x_7.toInt = (fi D 12 11 H_c61 a0).toInt := congrArg Int32.toInt ex_7
      obtain ⟨x_8, ex_8⟩ : ∃ y : Int64, x_7.toInt64 = y := ⟨_, rfl⟩
      refine lv_i2l (v := x_8) hx hb dX12_readsNumber_78 ex_8 ?_
      have q_8 : x_8.toInt = x_7.toInt := by rw [← ex_8]; exact Int32.toInt_toInt64 _
      refine lv_iload_n hx hb dX12_readsNumber_79 rfl (lv_at hl 1 rfl) ?_
      refine lv_i2l (v := 0) hx hb dX12_readsNumber_80 (by decide) ?_
      refine lv_iload_n hx hb dX12_readsNumber_81 rfl (lv_at hl 2 rfl) ?_
      refine lv_i2l (v := 255) hx hb dX12_readsNumber_82 (by decide) ?_
      refine th_Si (As := [.long x_8, .long 0, .long 255]) (rest := []) E hml hl.1 (y_in_v7 l D cI cS τ ρ hW H_c61 hT_2 x_8) lk_X12_54 yd_X12_in hS_2 (fun _ h => h.elim) ⟨by decide, by decide⟩ (Nat.le_of_ble_eq_true rfl) ⟨by decide, by decide⟩ rfl dX12_readsNumber_83 (fun r_11 H_11 locs_11 p_11 hT_11 hk_11 hS_11 => ?_)
      have p_11 : H_c61 = H_11 ∧ (r_11 = 0 ∨ r_11 = 1) ∧ ((r_11.toInt = 1 ∧ 0 ≤ x_8.toInt ∧ x_8.toInt ≤ 255) ∨ (r_11.toInt = 0 ∧ (x_8.toInt < 0 ∨ 255 < x_8.toInt))) := p_11
      obtain ⟨rfl, p_11_0, p_11_1⟩ := p_11
      have z_11 := b_iv p_11_0
      refine lv_if_eq (tgt := 117) hx hb dX12_readsNumber_86 (by decide) (fun c_12 => ?_) (fun c_12 => ?_)
      · have f_12 : r_11.toInt = 0 := r_eq rfl (by decide) c_12
        refine lv_iconst (v := 0) hx hb dX12_readsNumber_117 (by decide) ?_
        refine lv_istore (lv' := [(5, .int 0), (0, .ref a0), (1, .int 0), (2, .int 255), (3, .int 44), (4, .int y61_4)]) hx hb dX12_readsNumber_118 hl (by decide) rfl (fun ls hl => ?_)
        refine lv_aload_n hx hb dX12_readsNumber_120 rfl (lv_at hl 1 rfl) ?_
        refine lv_dup hx hb dX12_readsNumber_121 rfl ?_
        refine gf_X12_44 E hT_11 ha0 dX12_readsNumber_122 ?_
        refine lv_topi (fun x_13 ex_13 => ?_)
        have e_13 : x_13.toInt = (fi D 12 10 H_c61 a0).toInt := congrArg Int32.toInt ex_13
        refine lv_iconst (v := 1) hx hb dX12_readsNumber_125 (by decide) ?_
        refine lv_iadd hx hb dX12_readsNumber_126 ?_
        refine lv_topi (fun x_14 ex_14 => ?_)
        have q_14 : x_14.toInt = x_13.toInt + 1 := i_pl rfl (by decide) ex_14 (by omega) (by omega)
        refine pf_X12_44 E hT_11 hS_11 ha0 rfl dX12_readsNumber_127 (fun H_15 locs_15 hT_15 hU_15 hS_15 => ?_)
        refine lv_iload hx hb dX12_readsNumber_130 (lv_at hl 0 rfl) ?_
        exact th_zret E hr hlk hs (Or.inl rfl) hT_15 hS_15 ⟨⟨(PW.q (hU_15.2.2 _ (th_ne (hW _ 12 0 ha0 (by decide) (by decide) (by decide)) ha0 (by decide))) hI_c61.1), (QS.same (ai_q (hU_15.2.2 _ (th_ne (hW _ 12 0 ha0 (by decide) (by decide) (by decide)) ha0 (by decide)))) (ai_q (hU_15.2.2 _ (th_ne (hW _ 12 0 ha0 (by decide) (by decide) (by decide)) ha0 (by decide)))) hI_c61.2.1), (QS.same (ai_q (hU_15.2.2 _ (th_ne (hW _ 12 0 ha0 (by decide) (by decide) (by decide)) ha0 (by decide)))) (ai_q (hU_15.2.2 _ (th_ne (hW _ 12 0 ha0 (by decide) (by decide) (by decide)) ha0 (by decide)))) hI_c61.2.2.1), (PL.q (hU_15.2.2 _ (th_ne (hW _ 12 2 ha0 (by decide) (by decide) (by decide)) ha0 (by decide))) hI_c61.2.2.2.1), (PL.q (hU_15.2.2 _ (th_ne (hW _ 12 3 ha0 (by decide) (by decide) (by decide)) ha0 (by decide))) hI_c61.2.2.2.2.1), (IF.put hI_c61.2.2.2.2.2 hU_15 (by decide))⟩, (Or.inl rfl), (by have : (0 : Int32).toInt = 0 := (by decide); have : (fi D 12 10 H_15 a0).toInt = (x_14 : Int32).toInt := congrArg Int32.toInt (PU.i hU_15); have : (fi D 12 10 H_c61 a0).toInt = (x_13 : Int32).toInt := congrArg Int32.toInt ex_13.symm; omega), (by have : (0 : Int32).toInt = 0 := (by decide); have : (fi D 12 11 H_15 a0).toInt = (x_7 : Int32).toInt := congrArg Int32.toInt (Eq.trans (PU.io hU_15 (j := 11) (by decide) (by decide)) ex_7.symm); have : (fi D 12 11 H_c61 a0).toInt = (x_7 : Int32).toInt := congrArg Int32.toInt ex_7.symm; omega), (Eq.trans (PU.io hU_15 (j := 5) (by decide) (by decide)) hf61_5), (Eq.trans (PU.io hU_15 (j := 12) (by decide) (by decide)) hf61_12), (Eq.trans (PU.io hU_15 (j := 13) (by decide) (by decide)) hf61_13), (Eq.trans (PU.io hU_15 (j := 14) (by decide) (by decide)) hf61_14)⟩ dX12_readsNumber_132
      · have f_12 : ¬ r_11.toInt = 0 := r_ne rfl (by decide) c_12
        have nz_r_11 : ¬ r_11 = 0 := c_12
        refine lv_aload_n hx hb dX12_readsNumber_89 rfl (lv_at hl 0 rfl) ?_
        refine gf_X12_44 E hT_11 ha0 dX12_readsNumber_90 ?_
        refine lv_topi (fun x_16 ex_16 => ?_)
        have e_16 : x_16.toInt = (fi D 12 10 H_c61 a0).toInt := congrArg Int32.toInt ex_16
        refine lv_aload_n hx hb dX12_readsNumber_93 rfl (lv_at hl 0 rfl) ?_
        refine gf_X12_47 E hT_11 ha0 dX12_readsNumber_94 ?_
        refine th_topi (y := fi D 12 5 H a0) hf61_5 ?_
        refine lv_topi (fun x_17 ex_17 => ?_)
        have e_17 : x_17.toInt = (fi D 12 5 H a0).toInt := congrArg Int32.toInt ex_17
        have b_17 : 0 ≤ x_17.toInt ∧ x_17.toInt ≤ 200 := by rw [ex_17]; exact IF.f5 hI.2.2.2.2.2
        refine lv_icmp_ge (tgt := 117) hx hb dX12_readsNumber_97 (by decide) (fun c_18 => ?_) (fun c_18 => ?_)
        · have f_18 : x_17.toInt ≤ x_16.toInt := r_le rfl rfl c_18
          refine lv_iconst (v := 0) hx hb dX12_readsNumber_117 (by decide) ?_
          refine lv_istore (lv' := [(5, .int 0), (0, .ref a0), (1, .int 0), (2, .int 255), (3, .int 44), (4, .int y61_4)]) hx hb dX12_readsNumber_118 hl (by decide) rfl (fun ls hl => ?_)
          refine lv_aload_n hx hb dX12_readsNumber_120 rfl (lv_at hl 1 rfl) ?_
          refine lv_dup hx hb dX12_readsNumber_121 rfl ?_
          refine gf_X12_44 E hT_11 ha0 dX12_readsNumber_122 ?_
          refine th_topi (y := x_16) ex_16.symm ?_
          refine lv_iconst (v := 1) hx hb dX12_readsNumber_125 (by decide) ?_
          refine lv_iadd hx hb dX12_readsNumber_126 ?_
          refine lv_topi (fun x_19 ex_19 => ?_)
          have q_19 : x_19.toInt = x_16.toInt + 1 := i_pl rfl (by decide) ex_19 (by omega) (by omega)
          refine pf_X12_44 E hT_11 hS_11 ha0 rfl dX12_readsNumber_127 (fun H_20 locs_20 hT_20 hU_20 hS_20 => ?_)
          refine lv_iload hx hb dX12_readsNumber_130 (lv_at hl 0 rfl) ?_
          exact th_zret E hr hlk hs (Or.inl rfl) hT_20 hS_20 ⟨⟨(PW.q (hU_20.2.2 _ (th_ne (hW _ 12 0 ha0 (by decide) (by decide) (by decide)) ha0 (by decide))) hI_c61.1), (QS.same (ai_q (hU_20.2.2 _ (th_ne (hW _ 12 0 ha0 (by decide) (by decide) (by decide)) ha0 (by decide)))) (ai_q (hU_20.2.2 _ (th_ne (hW _ 12 0 ha0 (by decide) (by decide) (by decide)) ha0 (by decide)))) hI_c61.2.1), (QS.same (ai_q (hU_20.2.2 _ (th_ne (hW _ 12 0 ha0 (by decide) (by decide) (by decide)) ha0 (by decide)))) (ai_q (hU_20.2.2 _ (th_ne (hW _ 12 0 ha0 (by decide) (by decide) (by decide)) ha0 (by decide)))) hI_c61.2.2.1), (PL.q (hU_20.2.2 _ (th_ne (hW _ 12 2 ha0 (by decide) (by decide) (by decide)) ha0 (by decide))) hI_c61.2.2.2.1), (PL.q (hU_20.2.2 _ (th_ne (hW _ 12 3 ha0 (by decide) (by decide) (by decide)) ha0 (by decide))) hI_c61.2.2.2.2.1), (IF.put hI_c61.2.2.2.2.2 hU_20 (by decide))⟩, (Or.inl rfl), (by have : (0 : Int32).toInt = 0 := (by decide); have : (fi D 12 10 H_20 a0).toInt = (x_19 : Int32).toInt := congrArg Int32.toInt (PU.i hU_20); have : (fi D 12 10 H_c61 a0).toInt = (x_16 : Int32).toInt := congrArg Int32.toInt ex_16.symm; omega), (by have : (0 : Int32).toInt = 0 := (by decide); have : (fi D 12 11 H_20 a0).toInt = (x_7 : Int32).toInt := congrArg Int32.toInt (Eq.trans (PU.io hU_20 (j := 11) (by decide) (by decide)) ex_7.symm); have : (fi D 12 11 H_c61 a0).toInt = (x_7 : Int32).toInt := congrArg Int32.toInt ex_7.symm; omega), ((Eq.trans (PU.io hU_20 (j := 5) (by decide) (by decide)) (hf61_5.trans ex_17.symm)).trans ex_17.symm.symm), (Eq.trans (PU.io hU_20 (j := 12) (by decide) (by decide)) hf61_12), (Eq.trans (PU.io hU_20 (j := 13) (by decide) (by decide)) hf61_13), (Eq.trans (PU.io hU_20 (j := 14) (by decide) (by decide)) hf61_14)⟩ dX12_readsNumber_132
        · have f_18 : x_16.toInt < x_17.toInt := r_nle rfl rfl c_18
          refine lv_aload_n hx hb dX12_readsNumber_100 rfl (lv_at hl 0 rfl) ?_
          refine gf_X12_22 E hT_11 hW ha0 dX12_readsNumber_101 (fun h_21 => ?_)
          refine lv_aload_n hx hb dX12_readsNumber_104 rfl (lv_at hl 0 rfl) ?_
          refine gf_X12_44 E hT_11 ha0 dX12_readsNumber_105 ?_
          refine th_topi (y := x_16) ex_16.symm ?_
          refine th_iald E hT_11 h_21 (by decide) (vp_in_iff.mpr ⟨by omega, by omega⟩) dX12_readsNumber_108 ?_
          refine th_topi (y := ai H_c61 (ρ a0 4) x_16.toInt.toNat) rfl ?_
          refine lv_topi (fun x_22 ex_22 => ?_)
          refine lv_iload_n hx hb dX12_readsNumber_109 rfl (lv_at hl 3 rfl) ?_
          refine lv_icmp_ne (tgt := 117) hx hb dX12_readsNumber_110 (by decide) (fun c_23 => ?_) (fun c_23 => ?_)
          · have f_23 : ¬ x_22.toInt = 44 := r_ne rfl (by decide) c_23
            refine lv_iconst (v := 0) hx hb dX12_readsNumber_117 (by decide) ?_
            refine lv_istore (lv' := [(5, .int 0), (0, .ref a0), (1, .int 0), (2, .int 255), (3, .int 44), (4, .int y61_4)]) hx hb dX12_readsNumber_118 hl (by decide) rfl (fun ls hl => ?_)
            refine lv_aload_n hx hb dX12_readsNumber_120 rfl (lv_at hl 1 rfl) ?_
            refine lv_dup hx hb dX12_readsNumber_121 rfl ?_
            refine gf_X12_44 E hT_11 ha0 dX12_readsNumber_122 ?_
            refine th_topi (y := x_16) ex_16.symm ?_
            refine lv_iconst (v := 1) hx hb dX12_readsNumber_125 (by decide) ?_
            refine lv_iadd hx hb dX12_readsNumber_126 ?_
            refine lv_topi (fun x_24 ex_24 => ?_)
            have q_24 : x_24.toInt = x_16.toInt + 1 := i_pl rfl (by decide) ex_24 (by omega) (by omega)
            refine pf_X12_44 E hT_11 hS_11 ha0 rfl dX12_readsNumber_127 (fun H_25 locs_25 hT_25 hU_25 hS_25 => ?_)
            refine lv_iload hx hb dX12_readsNumber_130 (lv_at hl 0 rfl) ?_
            exact th_zret E hr hlk hs (Or.inl rfl) hT_25 hS_25 ⟨⟨(PW.q (hU_25.2.2 _ (th_ne (hW _ 12 0 ha0 (by decide) (by decide) (by decide)) ha0 (by decide))) hI_c61.1), (QS.same (ai_q (hU_25.2.2 _ (th_ne (hW _ 12 0 ha0 (by decide) (by decide) (by decide)) ha0 (by decide)))) (ai_q (hU_25.2.2 _ (th_ne (hW _ 12 0 ha0 (by decide) (by decide) (by decide)) ha0 (by decide)))) hI_c61.2.1), (QS.same (ai_q (hU_25.2.2 _ (th_ne (hW _ 12 0 ha0 (by decide) (by decide) (by decide)) ha0 (by decide)))) (ai_q (hU_25.2.2 _ (th_ne (hW _ 12 0 ha0 (by decide) (by decide) (by decide)) ha0 (by decide)))) hI_c61.2.2.1), (PL.q (hU_25.2.2 _ (th_ne (hW _ 12 2 ha0 (by decide) (by decide) (by decide)) ha0 (by decide))) hI_c61.2.2.2.1), (PL.q (hU_25.2.2 _ (th_ne (hW _ 12 3 ha0 (by decide) (by decide) (by decide)) ha0 (by decide))) hI_c61.2.2.2.2.1), (IF.put hI_c61.2.2.2.2.2 hU_25 (by decide))⟩, (Or.inl rfl), (by have : (0 : Int32).toInt = 0 := (by decide); have : (fi D 12 10 H_25 a0).toInt = (x_24 : Int32).toInt := congrArg Int32.toInt (PU.i hU_25); have : (fi D 12 10 H_c61 a0).toInt = (x_16 : Int32).toInt := congrArg Int32.toInt ex_16.symm; omega), (by have : (0 : Int32).toInt = 0 := (by decide); have : (fi D 12 11 H_25 a0).toInt = (x_7 : Int32).toInt := congrArg Int32.toInt (Eq.trans (PU.io hU_25 (j := 11) (by decide) (by decide)) ex_7.symm); have : (fi D 12 11 H_c61 a0).toInt = (x_7 : Int32).toInt := congrArg Int32.toInt ex_7.symm; omega), ((Eq.trans (PU.io hU_25 (j := 5) (by decide) (by decide)) (hf61_5.trans ex_17.symm)).trans ex_17.symm.symm), (Eq.trans (PU.io hU_25 (j := 12) (by decide) (by decide)) hf61_12), (Eq.trans (PU.io hU_25 (j := 13) (by decide) (by decide)) hf61_13), (Eq.trans (PU.io hU_25 (j := 14) (by decide) (by decide)) hf61_14)⟩ dX12_readsNumber_132
          · have f_23 : x_22.toInt = 44 := r_eq rfl (by decide) c_23
            refine lv_iconst (v := 1) hx hb dX12_readsNumber_113 (by decide) ?_
            refine lv_goto (tgt := 118) hx hb dX12_readsNumber_114 (by decide) ?_
            refine lv_istore (lv' := [(5, .int 1), (0, .ref a0), (1, .int 0), (2, .int 255), (3, .int 44), (4, .int y61_4)]) hx hb dX12_readsNumber_118 hl (by decide) rfl (fun ls hl => ?_)
            refine lv_aload_n hx hb dX12_readsNumber_120 rfl (lv_at hl 1 rfl) ?_
            refine lv_dup hx hb dX12_readsNumber_121 rfl ?_
            refine gf_X12_44 E hT_11 ha0 dX12_readsNumber_122 ?_
            refine th_topi (y := x_16) ex_16.symm ?_
            refine lv_iconst (v := 1) hx hb dX12_readsNumber_125 (by decide) ?_
            refine lv_iadd hx hb dX12_readsNumber_126 ?_
            refine lv_topi (fun x_26 ex_26 => ?_)
            have q_26 : x_26.toInt = x_16.toInt + 1 := i_pl rfl (by decide) ex_26 (by omega) (by omega)
            refine pf_X12_44 E hT_11 hS_11 ha0 rfl dX12_readsNumber_127 (fun H_27 locs_27 hT_27 hU_27 hS_27 => ?_)
            refine lv_iload hx hb dX12_readsNumber_130 (lv_at hl 0 rfl) ?_
            exact th_zret E hr hlk hs (Or.inr rfl) hT_27 hS_27 ⟨⟨(PW.q (hU_27.2.2 _ (th_ne (hW _ 12 0 ha0 (by decide) (by decide) (by decide)) ha0 (by decide))) hI_c61.1), (QS.same (ai_q (hU_27.2.2 _ (th_ne (hW _ 12 0 ha0 (by decide) (by decide) (by decide)) ha0 (by decide)))) (ai_q (hU_27.2.2 _ (th_ne (hW _ 12 0 ha0 (by decide) (by decide) (by decide)) ha0 (by decide)))) hI_c61.2.1), (QS.same (ai_q (hU_27.2.2 _ (th_ne (hW _ 12 0 ha0 (by decide) (by decide) (by decide)) ha0 (by decide)))) (ai_q (hU_27.2.2 _ (th_ne (hW _ 12 0 ha0 (by decide) (by decide) (by decide)) ha0 (by decide)))) hI_c61.2.2.1), (PL.q (hU_27.2.2 _ (th_ne (hW _ 12 2 ha0 (by decide) (by decide) (by decide)) ha0 (by decide))) hI_c61.2.2.2.1), (PL.q (hU_27.2.2 _ (th_ne (hW _ 12 3 ha0 (by decide) (by decide) (by decide)) ha0 (by decide))) hI_c61.2.2.2.2.1), (IF.put hI_c61.2.2.2.2.2 hU_27 (by decide))⟩, (Or.inr rfl), (by have : (1 : Int32).toInt = 1 := (by decide); have : (fi D 12 10 H_27 a0).toInt = (x_26 : Int32).toInt := congrArg Int32.toInt (PU.i hU_27); have : (fi D 12 10 H_c61 a0).toInt = (x_16 : Int32).toInt := congrArg Int32.toInt ex_16.symm; omega), (by have : (1 : Int32).toInt = 1 := (by decide); have : (fi D 12 11 H_27 a0).toInt = (x_7 : Int32).toInt := congrArg Int32.toInt (Eq.trans (PU.io hU_27 (j := 11) (by decide) (by decide)) ex_7.symm); have : (fi D 12 11 H_c61 a0).toInt = (x_7 : Int32).toInt := congrArg Int32.toInt ex_7.symm; omega), ((Eq.trans (PU.io hU_27 (j := 5) (by decide) (by decide)) (hf61_5.trans ex_17.symm)).trans ex_17.symm.symm), (Eq.trans (PU.io hU_27 (j := 12) (by decide) (by decide)) hf61_12), (Eq.trans (PU.io hU_27 (j := 13) (by decide) (by decide)) hf61_13), (Eq.trans (PU.io hU_27 (j := 14) (by decide) (by decide)) hf61_14)⟩ dX12_readsNumber_132
  have L_8 : ∀ (n : Nat) (H_c8 : Heap) (lc_c8 : List Loc) (ls : Array Slot) (y8_4 : Int32), TH D cI cS τ ρ H_c8 → SS (fun q => q = a0) H H_c8 lc_c8 → lv_has ls 6 [(0, .ref a0), (1, .int 0), (2, .int 255), (3, .int 44), (4, .int y8_4)] → 0 ≤ y8_4.toInt → y8_4.toInt ≤ 4 → IM D ρ N H_c8 a0 → (fi D 12 10 H_c8 a0).toInt = (fi D 12 10 H a0).toInt + y8_4.toInt ∧ y8_4.toInt ≤ 4 → fi D 12 5 H_c8 a0 = fi D 12 5 H a0 → fi D 12 12 H_c8 a0 = fi D 12 12 H a0 → fi D 12 13 H_c8 a0 = fi D 12 13 H a0 → fi D 12 14 H_c8 a0 = fi D 12 14 H a0 → (5 - y8_4.toInt).toNat < n → W p l e (rmO 2 45) s m args below meth c H_c8 lc_c8 0 0 (MQ below (va_Qi (fun (r : Int32) (u : Heap) => (IM D ρ N u a0) ∧ (r = 0 ∨ r = 1) ∧ ((fi D 12 10 H a0).toInt + 1 ≤ (fi D 12 10 u a0).toInt ∧ (fi D 12 10 u a0).toInt ≤ (fi D 12 10 H a0).toInt + 5) ∧ (r.toInt = 1 → (0 ≤ (fi D 12 11 u a0).toInt ∧ (fi D 12 11 u a0).toInt ≤ 255)) ∧ (fi D 12 5 u a0 = fi D 12 5 H a0) ∧ (fi D 12 12 u a0 = fi D 12 12 H a0) ∧ (fi D 12 13 u a0 = fi D 12 13 H a0) ∧ (fi D 12 14 u a0 = fi D 12 14 H a0)) (Bt D cI cS τ ρ H) (fun q => q = a0)) args s 0 0 (fun q => q = a0)) (F0 m 8 ls []) := by
    intro n
    induction n with
    | zero => intro H_c8 lc_c8 ls y8_4 hT_c8 hS_c8 hl ly8_4 uy8_4 hI_c8 hx8_0 hf8_5 hf8_12 hf8_13 hf8_14 hm; exact absurd hm (Nat.not_lt_zero _)
    | succ n ih_8 =>
      intro H_c8 lc_c8 ls y8_4 hT_c8 hS_c8 hl ly8_4 uy8_4 hI_c8 hx8_0 hf8_5 hf8_12 hf8_13 hf8_14 hm_8
      refine lv_aload_n hx hb dX12_readsNumber_8 rfl (lv_at hl 0 rfl) ?_
      refine th_Vi (As := []) (rest := []) E hml hl.1 (y_isFigure l D cI cS τ ρ hW H_c8 hT_c8 a0 ha0 N hN0 hN1 ⟨hI_c8.1, hI_c8.2.1, hI_c8.2.2.1, hI_c8.2.2.2.1, hI_c8.2.2.2.2.1, hI_c8.2.2.2.2.2⟩ (by omega)) lk_X12_61 yd_X12_isFigure hT_c8 ha0 rfl (by decide) hS_c8 (fun _ h => h.elim) ⟨by decide, by decide⟩ (Nat.le_of_ble_eq_true rfl) ⟨by decide, by decide⟩ rfl dX12_readsNumber_9 (fun r_28 H_28 locs_28 p_28 hT_28 hk_28 hS_28 => ?_)
      have p_28 : H_c8 = H_28 ∧ (r_28 = 0 ∨ r_28 = 1) ∧ (r_28.toInt = 1 → (fi D 12 10 H_c8 a0).toInt < 200) := p_28
      obtain ⟨rfl, p_28_0, p_28_1⟩ := p_28
      have z_28 := b_iv p_28_0
      refine lv_if_eq (tgt := 61) hx hb dX12_readsNumber_12 (by decide) (fun c_29 => ?_) (fun c_29 => ?_)
      · have f_29 : r_28.toInt = 0 := r_eq rfl (by decide) c_29
        exact J_61 H_c8 locs_28 _ y8_4 hT_28 hS_28 hl (by omega) (by omega) ⟨hI_c8.1, hI_c8.2.1, hI_c8.2.2.1, hI_c8.2.2.2.1, hI_c8.2.2.2.2.1, hI_c8.2.2.2.2.2⟩ (by omega) hf8_5 hf8_12 hf8_13 hf8_14
      · have f_29 : ¬ r_28.toInt = 0 := r_ne rfl (by decide) c_29
        have nz_r_28 : ¬ r_28 = 0 := c_29
        refine lv_iload hx hb dX12_readsNumber_15 (lv_at hl 4 rfl) ?_
        refine lv_iconst (v := 4) hx hb dX12_readsNumber_17 (by decide) ?_
        refine lv_icmp_ge (tgt := 61) hx hb dX12_readsNumber_18 (by decide) (fun c_30 => ?_) (fun c_30 => ?_)
        · have f_30 : 4 ≤ y8_4.toInt := r_le (by decide) rfl c_30
          exact J_61 H_c8 locs_28 _ y8_4 hT_28 hS_28 hl (by omega) (by omega) ⟨hI_c8.1, hI_c8.2.1, hI_c8.2.2.1, hI_c8.2.2.2.1, hI_c8.2.2.2.2.1, hI_c8.2.2.2.2.2⟩ (by omega) hf8_5 hf8_12 hf8_13 hf8_14
        · have f_30 : y8_4.toInt < 4 := r_nle (by decide) rfl c_30
          refine lv_aload_n hx hb dX12_readsNumber_21 rfl (lv_at hl 0 rfl) ?_
          refine lv_bipush (v := 10) hx hb dX12_readsNumber_22 (by decide) ?_
          refine lv_aload_n hx hb dX12_readsNumber_24 rfl (lv_at hl 0 rfl) ?_
          refine gf_X12_58 E hT_28 ha0 dX12_readsNumber_25 ?_
          refine lv_topi (fun x_31 ex_31 => ?_)
          have e_31 : x_31.toInt = (fi D 12 11 H_c8 a0).toInt := congrArg Int32.toInt ex_31
          refine lv_imul hx hb dX12_readsNumber_28 ?_
          refine lv_topi (fun x_32 ex_32 => ?_)
          refine lv_aload_n hx hb dX12_readsNumber_29 rfl (lv_at hl 0 rfl) ?_
          refine gf_X12_22 E hT_28 hW ha0 dX12_readsNumber_30 (fun h_33 => ?_)
          refine lv_aload_n hx hb dX12_readsNumber_33 rfl (lv_at hl 0 rfl) ?_
          refine gf_X12_44 E hT_28 ha0 dX12_readsNumber_34 ?_
          refine lv_topi (fun x_34 ex_34 => ?_)
          have e_34 : x_34.toInt = (fi D 12 10 H_c8 a0).toInt := congrArg Int32.toInt ex_34
          refine th_iald E hT_28 h_33 (by decide) (vp_in_iff.mpr ⟨by omega, by omega⟩) dX12_readsNumber_37 ?_
          refine th_topi (y := ai H_c8 (ρ a0 4) x_34.toInt.toNat) rfl ?_
          refine lv_topi (fun x_35 ex_35 => ?_)
          refine lv_iadd hx hb dX12_readsNumber_38 ?_
          refine lv_topi (fun x_36 ex_36 => ?_)
          refine lv_bipush (v := 48) hx hb dX12_readsNumber_39 (by decide) ?_
          refine lv_isub hx hb dX12_readsNumber_41 ?_
          refine lv_topi (fun x_37 ex_37 => ?_)
          refine pf_X12_58 E hT_28 hS_28 ha0 rfl dX12_readsNumber_42 (fun H_38 locs_38 hT_38 hU_38 hS_38 => ?_)
          obtain ⟨x_39, ex_39⟩ : ∃ y : Int32, y8_4 + 1 = y := ⟨_, rfl⟩
          have q_x_39 : x_39.toInt = y8_4.toInt + 1 := i_add (k := 1) (by decide) ex_39 (by have := i_min y8_4; omega) (by have := i_max y8_4; omega)
          refine lv_iinc (v := x_39) (lv' := [(4, .int x_39), (0, .ref a0), (1, .int 0), (2, .int 255), (3, .int 44)]) hx hb dX12_readsNumber_45 hl (k := 4) rfl (by rw [← ex_39]; rfl) (by decide) rfl (fun ls hl => ?_)
          refine lv_aload_n hx hb dX12_readsNumber_48 rfl (lv_at hl 1 rfl) ?_
          refine lv_dup hx hb dX12_readsNumber_49 rfl ?_
          refine gf_X12_44 E hT_38 ha0 dX12_readsNumber_50 ?_
          refine th_topi (y := x_34) (Eq.trans (PU.io hU_38 (j := 10) (by decide) (by decide)) ex_34.symm) ?_
          refine lv_iconst (v := 1) hx hb dX12_readsNumber_53 (by decide) ?_
          refine lv_iadd hx hb dX12_readsNumber_54 ?_
          refine lv_topi (fun x_40 ex_40 => ?_)
          have q_40 : x_40.toInt = x_34.toInt + 1 := i_pl rfl (by decide) ex_40 (by omega) (by omega)
          refine pf_X12_44 E hT_38 hS_38 ha0 rfl dX12_readsNumber_55 (fun H_41 locs_41 hT_41 hU_41 hS_41 => ?_)
          refine lv_goto (tgt := 8) hx hb dX12_readsNumber_58 (by decide) ?_
          exact ih_8 H_41 locs_41 _ x_39 hT_41 hS_41 (lv_sub hl [1, 2, 3, 4, 0] rfl) (by omega) (by omega) ⟨(PW.q (hU_41.2.2 _ (th_ne (hW _ 12 0 ha0 (by decide) (by decide) (by decide)) ha0 (by decide))) (PW.q (hU_38.2.2 _ (th_ne (hW _ 12 0 ha0 (by decide) (by decide) (by decide)) ha0 (by decide))) hI_c8.1)), (QS.same (Eq.trans (ai_q (hU_41.2.2 _ (th_ne (hW _ 12 0 ha0 (by decide) (by decide) (by decide)) ha0 (by decide)))) (ai_q (hU_38.2.2 _ (th_ne (hW _ 12 0 ha0 (by decide) (by decide) (by decide)) ha0 (by decide))))) (Eq.trans (ai_q (hU_41.2.2 _ (th_ne (hW _ 12 0 ha0 (by decide) (by decide) (by decide)) ha0 (by decide)))) (ai_q (hU_38.2.2 _ (th_ne (hW _ 12 0 ha0 (by decide) (by decide) (by decide)) ha0 (by decide))))) hI_c8.2.1), (QS.same (Eq.trans (ai_q (hU_41.2.2 _ (th_ne (hW _ 12 0 ha0 (by decide) (by decide) (by decide)) ha0 (by decide)))) (ai_q (hU_38.2.2 _ (th_ne (hW _ 12 0 ha0 (by decide) (by decide) (by decide)) ha0 (by decide))))) (Eq.trans (ai_q (hU_41.2.2 _ (th_ne (hW _ 12 0 ha0 (by decide) (by decide) (by decide)) ha0 (by decide)))) (ai_q (hU_38.2.2 _ (th_ne (hW _ 12 0 ha0 (by decide) (by decide) (by decide)) ha0 (by decide))))) hI_c8.2.2.1), (PL.q (hU_41.2.2 _ (th_ne (hW _ 12 2 ha0 (by decide) (by decide) (by decide)) ha0 (by decide))) (PL.q (hU_38.2.2 _ (th_ne (hW _ 12 2 ha0 (by decide) (by decide) (by decide)) ha0 (by decide))) hI_c8.2.2.2.1)), (PL.q (hU_41.2.2 _ (th_ne (hW _ 12 3 ha0 (by decide) (by decide) (by decide)) ha0 (by decide))) (PL.q (hU_38.2.2 _ (th_ne (hW _ 12 3 ha0 (by decide) (by decide) (by decide)) ha0 (by decide))) hI_c8.2.2.2.2.1)), (IF.put (IF.put hI_c8.2.2.2.2.2 hU_38 (by decide)) hU_41 (by decide))⟩ (by have : (fi D 12 10 H_41 a0).toInt = (x_40 : Int32).toInt := congrArg Int32.toInt (PU.i hU_41); have : (fi D 12 10 H_c8 a0).toInt = (x_34 : Int32).toInt := congrArg Int32.toInt ex_34.symm; omega) (Eq.trans (PU.io hU_41 (j := 5) (by decide) (by decide)) (Eq.trans (PU.io hU_38 (j := 5) (by decide) (by decide)) hf8_5)) (Eq.trans (PU.io hU_41 (j := 12) (by decide) (by decide)) (Eq.trans (PU.io hU_38 (j := 12) (by decide) (by decide)) hf8_12)) (Eq.trans (PU.io hU_41 (j := 13) (by decide) (by decide)) (Eq.trans (PU.io hU_38 (j := 13) (by decide) (by decide)) hf8_13)) (Eq.trans (PU.io hU_41 (j := 14) (by decide) (by decide)) (Eq.trans (PU.io hU_38 (j := 14) (by decide) (by decide)) hf8_14)) (by omega)
  refine lv_iconst (v := 0) hx hb dX12_readsNumber_0 (by decide) ?_
  refine lv_istore (lv' := [(4, .int 0), (0, .ref a0), (1, .int 0), (2, .int 255), (3, .int 44)]) hx hb dX12_readsNumber_1 hl (by decide) rfl (fun ls hl => ?_)
  refine lv_aload_n hx hb dX12_readsNumber_3 rfl (lv_at hl 1 rfl) ?_
  refine lv_iconst (v := 0) hx hb dX12_readsNumber_4 (by decide) ?_
  refine pf_X12_58 E hT hS ha0 rfl dX12_readsNumber_5 (fun H_42 locs_42 hT_42 hU_42 hS_42 => ?_)
  exact L_8 _ H_42 locs_42 _ 0 hT_42 hS_42 (lv_sub hl [1, 2, 3, 4, 0] rfl) (by decide) (by decide) ⟨(PW.q (hU_42.2.2 _ (th_ne (hW _ 12 0 ha0 (by decide) (by decide) (by decide)) ha0 (by decide))) hI.1), (QS.same (ai_q (hU_42.2.2 _ (th_ne (hW _ 12 0 ha0 (by decide) (by decide) (by decide)) ha0 (by decide)))) (ai_q (hU_42.2.2 _ (th_ne (hW _ 12 0 ha0 (by decide) (by decide) (by decide)) ha0 (by decide)))) hI.2.1), (QS.same (ai_q (hU_42.2.2 _ (th_ne (hW _ 12 0 ha0 (by decide) (by decide) (by decide)) ha0 (by decide)))) (ai_q (hU_42.2.2 _ (th_ne (hW _ 12 0 ha0 (by decide) (by decide) (by decide)) ha0 (by decide)))) hI.2.2.1), (PL.q (hU_42.2.2 _ (th_ne (hW _ 12 2 ha0 (by decide) (by decide) (by decide)) ha0 (by decide))) hI.2.2.2.1), (PL.q (hU_42.2.2 _ (th_ne (hW _ 12 3 ha0 (by decide) (by decide) (by decide)) ha0 (by decide))) hI.2.2.2.2.1), (IF.put hI.2.2.2.2.2 hU_42 (by decide))⟩ (by have : (fi D 12 10 H_42 a0).toInt = (fi D 12 10 H a0 : Int32).toInt := congrArg Int32.toInt (PU.io hU_42 (j := 10) (by decide) (by decide)); have : (0 : Int32).toInt = 0 := (by decide); omega) (PU.io hU_42 (j := 5) (by decide) (by decide)) (PU.io hU_42 (j := 12) (by decide) (by decide)) (PU.io hU_42 (j := 13) (by decide) (by decide)) (PU.io hU_42 (j := 14) (by decide) (by decide)) (Nat.lt_succ_self _)
set_option maxHeartbeats 4000000 in
set_option maxRecDepth 100000 in
/-- the reference: readsNumber -/
theorem y_readsNumber_v3 (l : Launch) (D : va_G) (cI cS : ClassId) (τ : Nat → Option Nat) (ρ : Nat → Nat → Nat) (hW : WF τ ρ) (H : Heap) (hT : TH D cI cS τ ρ H) (a0 : Nat) (ha0 : τ a0 = some 12) (N : Int) (hN0 : 0 ≤ N) (hN1 : N ≤ 600) (hI : IM D ρ N H a0) (hp0 : 0 ≤ (fi D 12 10 H a0).toInt ∧ (fi D 12 10 H a0).toInt ≤ 1000) : MI l D cI cS τ ρ yX12_readsNumber cX12_readsNumber 6 (some .boolean) 2 45 H [.ref a0, .int 0, .int 255, .int 59] (fun (r : Int32) (u : Heap) => (IM D ρ N u a0) ∧ (r = 0 ∨ r = 1) ∧ ((fi D 12 10 H a0).toInt + 1 ≤ (fi D 12 10 u a0).toInt ∧ (fi D 12 10 u a0).toInt ≤ (fi D 12 10 H a0).toInt + 5) ∧ (r.toInt = 1 → (0 ≤ (fi D 12 11 u a0).toInt ∧ (fi D 12 11 u a0).toInt ≤ 255)) ∧ (fi D 12 5 u a0 = fi D 12 5 H a0) ∧ (fi D 12 12 u a0 = fi D 12 12 H a0) ∧ (fi D 12 13 u a0 = fi D 12 13 H a0) ∧ (fi D 12 14 u a0 = fi D 12 14 H a0)) (fun q => q = a0) := by
  refine MI.of (by decide) (Nat.le_of_ble_eq_true rfl) ?_
  intro p e s m args below meth c E hml hr hlk hs ls hl
  have hx := E.1
  have hb := E.2.1
  have hown := E.2.2.1
  have hts := E.2.2.2.1
  have hS : SS (fun q => q = a0) H H [] := SS.rf
  have hl : lv_has ls 6 [(0, .ref a0), (1, .int 0), (2, .int 255), (3, .int 59)] := hl
  have n01 := hI.2.2.2.2.2.1
  have n23 := hI.2.2.2.2.2.2.1
  have bL5 : 0 ≤ (fi D 12 5 H a0).toInt ∧ (fi D 12 5 H a0).toInt ≤ 200 := IF.f5 hI.2.2.2.2.2
  have J_61 : ∀ (H_c61 : Heap) (lc_c61 : List Loc) (ls : Array Slot) (y61_4 : Int32), TH D cI cS τ ρ H_c61 → SS (fun q => q = a0) H H_c61 lc_c61 → lv_has ls 6 [(0, .ref a0), (1, .int 0), (2, .int 255), (3, .int 59), (4, .int y61_4)] → 0 ≤ y61_4.toInt → y61_4.toInt ≤ 4 → IM D ρ N H_c61 a0 → (fi D 12 10 H_c61 a0).toInt = (fi D 12 10 H a0).toInt + y61_4.toInt ∧ y61_4.toInt ≤ 4 → fi D 12 5 H_c61 a0 = fi D 12 5 H a0 → fi D 12 12 H_c61 a0 = fi D 12 12 H a0 → fi D 12 13 H_c61 a0 = fi D 12 13 H a0 → fi D 12 14 H_c61 a0 = fi D 12 14 H a0 → W p l e (rmO 2 45) s m args below meth c H_c61 lc_c61 0 0 (MQ below (va_Qi (fun (r : Int32) (u : Heap) => (IM D ρ N u a0) ∧ (r = 0 ∨ r = 1) ∧ ((fi D 12 10 H a0).toInt + 1 ≤ (fi D 12 10 u a0).toInt ∧ (fi D 12 10 u a0).toInt ≤ (fi D 12 10 H a0).toInt + 5) ∧ (r.toInt = 1 → (0 ≤ (fi D 12 11 u a0).toInt ∧ (fi D 12 11 u a0).toInt ≤ 255)) ∧ (fi D 12 5 u a0 = fi D 12 5 H a0) ∧ (fi D 12 12 u a0 = fi D 12 12 H a0) ∧ (fi D 12 13 u a0 = fi D 12 13 H a0) ∧ (fi D 12 14 u a0 = fi D 12 14 H a0)) (Bt D cI cS τ ρ H) (fun q => q = a0)) args s 0 0 (fun q => q = a0)) (F0 m 61 ls []) := by
    intro H_c61 lc_c61 ls y61_4 hT_c61 hS_c61 hl ly61_4 uy61_4 hI_c61 hx61_0 hf61_5 hf61_12 hf61_13 hf61_14
    refine lv_iload hx hb dX12_readsNumber_61 (lv_at hl 4 rfl) ?_
    obtain ⟨x_1, ex_1⟩ : ∃ y : Int64, y61_4.toInt64 = y := ⟨_, rfl⟩
    refine lv_i2l (v := x_1) hx hb dX12_readsNumber_63 ex_1 ?_
    have q_1 : x_1.toInt = y61_4.toInt := by rw [← ex_1]; exact Int32.toInt_toInt64 _
    refine lv_lconst (v := 1) hx hb dX12_readsNumber_64 (by decide) ?_
    refine lv_ldc2 (v := 3) hx hb hown (hts _ qw_1206) dX12_readsNumber_65 ?_
    refine th_Si (As := [.long x_1, .long 1, .long 3]) (rest := []) E hml hl.1 (y_in_v17 l D cI cS τ ρ hW H_c61 hT_c61 x_1) lk_X12_54 yd_X12_in hS_c61 (fun _ h => h.elim) ⟨by decide, by decide⟩ (Nat.le_of_ble_eq_true rfl) ⟨by decide, by decide⟩ rfl dX12_readsNumber_68 (fun r_2 H_2 locs_2 p_2 hT_2 hk_2 hS_2 => ?_)
    have p_2 : H_c61 = H_2 ∧ (r_2 = 0 ∨ r_2 = 1) ∧ ((r_2.toInt = 1 ∧ 1 ≤ x_1.toInt ∧ x_1.toInt ≤ 3) ∨ (r_2.toInt = 0 ∧ (x_1.toInt < 1 ∨ 3 < x_1.toInt))) := p_2
    obtain ⟨rfl, p_2_0, p_2_1⟩ := p_2
    have z_2 := b_iv p_2_0
    refine lv_if_eq (tgt := 117) hx hb dX12_readsNumber_71 (by decide) (fun c_3 => ?_) (fun c_3 => ?_)
    · have f_3 : r_2.toInt = 0 := r_eq rfl (by decide) c_3
      refine lv_iconst (v := 0) hx hb dX12_readsNumber_117 (by decide) ?_
      refine lv_istore (lv' := [(5, .int 0), (0, .ref a0), (1, .int 0), (2, .int 255), (3, .int 59), (4, .int y61_4)]) hx hb dX12_readsNumber_118 hl (by decide) rfl (fun ls hl => ?_)
      refine lv_aload_n hx hb dX12_readsNumber_120 rfl (lv_at hl 1 rfl) ?_
      refine lv_dup hx hb dX12_readsNumber_121 rfl ?_
      refine gf_X12_44 E hT_2 ha0 dX12_readsNumber_122 ?_
      refine lv_topi (fun x_4 ex_4 => ?_)
      have e_4 : x_4.toInt = (fi D 12 10 H_c61 a0).toInt := congrArg Int32.toInt ex_4
      refine lv_iconst (v := 1) hx hb dX12_readsNumber_125 (by decide) ?_
      refine lv_iadd hx hb dX12_readsNumber_126 ?_
      refine lv_topi (fun x_5 ex_5 => ?_)
      have q_5 : x_5.toInt = x_4.toInt + 1 := i_pl rfl (by decide) ex_5 (by omega) (by omega)
      refine pf_X12_44 E hT_2 hS_2 ha0 rfl dX12_readsNumber_127 (fun H_6 locs_6 hT_6 hU_6 hS_6 => ?_)
      refine lv_iload hx hb dX12_readsNumber_130 (lv_at hl 0 rfl) ?_
      exact th_zret E hr hlk hs (Or.inl rfl) hT_6 hS_6 ⟨⟨(PW.q (hU_6.2.2 _ (th_ne (hW _ 12 0 ha0 (by decide) (by decide) (by decide)) ha0 (by decide))) hI_c61.1), (QS.same (ai_q (hU_6.2.2 _ (th_ne (hW _ 12 0 ha0 (by decide) (by decide) (by decide)) ha0 (by decide)))) (ai_q (hU_6.2.2 _ (th_ne (hW _ 12 0 ha0 (by decide) (by decide) (by decide)) ha0 (by decide)))) hI_c61.2.1), (QS.same (ai_q (hU_6.2.2 _ (th_ne (hW _ 12 0 ha0 (by decide) (by decide) (by decide)) ha0 (by decide)))) (ai_q (hU_6.2.2 _ (th_ne (hW _ 12 0 ha0 (by decide) (by decide) (by decide)) ha0 (by decide)))) hI_c61.2.2.1), (PL.q (hU_6.2.2 _ (th_ne (hW _ 12 2 ha0 (by decide) (by decide) (by decide)) ha0 (by decide))) hI_c61.2.2.2.1), (PL.q (hU_6.2.2 _ (th_ne (hW _ 12 3 ha0 (by decide) (by decide) (by decide)) ha0 (by decide))) hI_c61.2.2.2.2.1), (IF.put hI_c61.2.2.2.2.2 hU_6 (by decide))⟩, (Or.inl rfl), (by have : (0 : Int32).toInt = 0 := (by decide); have : (fi D 12 10 H_6 a0).toInt = (x_5 : Int32).toInt := congrArg Int32.toInt (PU.i hU_6); have : (fi D 12 10 H_c61 a0).toInt = (x_4 : Int32).toInt := congrArg Int32.toInt ex_4.symm; omega), (by have : (0 : Int32).toInt = 0 := (by decide); have : (fi D 12 11 H_6 a0).toInt = (fi D 12 11 H_c61 a0 : Int32).toInt := congrArg Int32.toInt (PU.io hU_6 (j := 11) (by decide) (by decide)); omega), (Eq.trans (PU.io hU_6 (j := 5) (by decide) (by decide)) hf61_5), (Eq.trans (PU.io hU_6 (j := 12) (by decide) (by decide)) hf61_12), (Eq.trans (PU.io hU_6 (j := 13) (by decide) (by decide)) hf61_13), (Eq.trans (PU.io hU_6 (j := 14) (by decide) (by decide)) hf61_14)⟩ dX12_readsNumber_132
    · have f_3 : ¬ r_2.toInt = 0 := r_ne rfl (by decide) c_3
      have nz_r_2 : ¬ r_2 = 0 := c_3
      refine lv_aload_n hx hb dX12_readsNumber_74 rfl (lv_at hl 0 rfl) ?_
      refine gf_X12_58 E hT_2 ha0 dX12_readsNumber_75 ?_
      refine lv_topi (fun x_7 ex_7 => ?_)
      have e_7 : x_7.toInt = (fi D 12 11 H_c61 a0).toInt := congrArg Int32.toInt ex_7
      obtain ⟨x_8, ex_8⟩ : ∃ y : Int64, x_7.toInt64 = y := ⟨_, rfl⟩
      refine lv_i2l (v := x_8) hx hb dX12_readsNumber_78 ex_8 ?_
      have q_8 : x_8.toInt = x_7.toInt := by rw [← ex_8]; exact Int32.toInt_toInt64 _
      refine lv_iload_n hx hb dX12_readsNumber_79 rfl (lv_at hl 1 rfl) ?_
      refine lv_i2l (v := 0) hx hb dX12_readsNumber_80 (by decide) ?_
      refine lv_iload_n hx hb dX12_readsNumber_81 rfl (lv_at hl 2 rfl) ?_
      refine lv_i2l (v := 255) hx hb dX12_readsNumber_82 (by decide) ?_
      refine th_Si (As := [.long x_8, .long 0, .long 255]) (rest := []) E hml hl.1 (y_in_v7 l D cI cS τ ρ hW H_c61 hT_2 x_8) lk_X12_54 yd_X12_in hS_2 (fun _ h => h.elim) ⟨by decide, by decide⟩ (Nat.le_of_ble_eq_true rfl) ⟨by decide, by decide⟩ rfl dX12_readsNumber_83 (fun r_11 H_11 locs_11 p_11 hT_11 hk_11 hS_11 => ?_)
      have p_11 : H_c61 = H_11 ∧ (r_11 = 0 ∨ r_11 = 1) ∧ ((r_11.toInt = 1 ∧ 0 ≤ x_8.toInt ∧ x_8.toInt ≤ 255) ∨ (r_11.toInt = 0 ∧ (x_8.toInt < 0 ∨ 255 < x_8.toInt))) := p_11
      obtain ⟨rfl, p_11_0, p_11_1⟩ := p_11
      have z_11 := b_iv p_11_0
      refine lv_if_eq (tgt := 117) hx hb dX12_readsNumber_86 (by decide) (fun c_12 => ?_) (fun c_12 => ?_)
      · have f_12 : r_11.toInt = 0 := r_eq rfl (by decide) c_12
        refine lv_iconst (v := 0) hx hb dX12_readsNumber_117 (by decide) ?_
        refine lv_istore (lv' := [(5, .int 0), (0, .ref a0), (1, .int 0), (2, .int 255), (3, .int 59), (4, .int y61_4)]) hx hb dX12_readsNumber_118 hl (by decide) rfl (fun ls hl => ?_)
        refine lv_aload_n hx hb dX12_readsNumber_120 rfl (lv_at hl 1 rfl) ?_
        refine lv_dup hx hb dX12_readsNumber_121 rfl ?_
        refine gf_X12_44 E hT_11 ha0 dX12_readsNumber_122 ?_
        refine lv_topi (fun x_13 ex_13 => ?_)
        have e_13 : x_13.toInt = (fi D 12 10 H_c61 a0).toInt := congrArg Int32.toInt ex_13
        refine lv_iconst (v := 1) hx hb dX12_readsNumber_125 (by decide) ?_
        refine lv_iadd hx hb dX12_readsNumber_126 ?_
        refine lv_topi (fun x_14 ex_14 => ?_)
        have q_14 : x_14.toInt = x_13.toInt + 1 := i_pl rfl (by decide) ex_14 (by omega) (by omega)
        refine pf_X12_44 E hT_11 hS_11 ha0 rfl dX12_readsNumber_127 (fun H_15 locs_15 hT_15 hU_15 hS_15 => ?_)
        refine lv_iload hx hb dX12_readsNumber_130 (lv_at hl 0 rfl) ?_
        exact th_zret E hr hlk hs (Or.inl rfl) hT_15 hS_15 ⟨⟨(PW.q (hU_15.2.2 _ (th_ne (hW _ 12 0 ha0 (by decide) (by decide) (by decide)) ha0 (by decide))) hI_c61.1), (QS.same (ai_q (hU_15.2.2 _ (th_ne (hW _ 12 0 ha0 (by decide) (by decide) (by decide)) ha0 (by decide)))) (ai_q (hU_15.2.2 _ (th_ne (hW _ 12 0 ha0 (by decide) (by decide) (by decide)) ha0 (by decide)))) hI_c61.2.1), (QS.same (ai_q (hU_15.2.2 _ (th_ne (hW _ 12 0 ha0 (by decide) (by decide) (by decide)) ha0 (by decide)))) (ai_q (hU_15.2.2 _ (th_ne (hW _ 12 0 ha0 (by decide) (by decide) (by decide)) ha0 (by decide)))) hI_c61.2.2.1), (PL.q (hU_15.2.2 _ (th_ne (hW _ 12 2 ha0 (by decide) (by decide) (by decide)) ha0 (by decide))) hI_c61.2.2.2.1), (PL.q (hU_15.2.2 _ (th_ne (hW _ 12 3 ha0 (by decide) (by decide) (by decide)) ha0 (by decide))) hI_c61.2.2.2.2.1), (IF.put hI_c61.2.2.2.2.2 hU_15 (by decide))⟩, (Or.inl rfl), (by have : (0 : Int32).toInt = 0 := (by decide); have : (fi D 12 10 H_15 a0).toInt = (x_14 : Int32).toInt := congrArg Int32.toInt (PU.i hU_15); have : (fi D 12 10 H_c61 a0).toInt = (x_13 : Int32).toInt := congrArg Int32.toInt ex_13.symm; omega), (by have : (0 : Int32).toInt = 0 := (by decide); have : (fi D 12 11 H_15 a0).toInt = (x_7 : Int32).toInt := congrArg Int32.toInt (Eq.trans (PU.io hU_15 (j := 11) (by decide) (by decide)) ex_7.symm); have : (fi D 12 11 H_c61 a0).toInt = (x_7 : Int32).toInt := congrArg Int32.toInt ex_7.symm; omega), (Eq.trans (PU.io hU_15 (j := 5) (by decide) (by decide)) hf61_5), (Eq.trans (PU.io hU_15 (j := 12) (by decide) (by decide)) hf61_12), (Eq.trans (PU.io hU_15 (j := 13) (by decide) (by decide)) hf61_13), (Eq.trans (PU.io hU_15 (j := 14) (by decide) (by decide)) hf61_14)⟩ dX12_readsNumber_132
      · have f_12 : ¬ r_11.toInt = 0 := r_ne rfl (by decide) c_12
        have nz_r_11 : ¬ r_11 = 0 := c_12
        refine lv_aload_n hx hb dX12_readsNumber_89 rfl (lv_at hl 0 rfl) ?_
        refine gf_X12_44 E hT_11 ha0 dX12_readsNumber_90 ?_
        refine lv_topi (fun x_16 ex_16 => ?_)
        have e_16 : x_16.toInt = (fi D 12 10 H_c61 a0).toInt := congrArg Int32.toInt ex_16
        refine lv_aload_n hx hb dX12_readsNumber_93 rfl (lv_at hl 0 rfl) ?_
        refine gf_X12_47 E hT_11 ha0 dX12_readsNumber_94 ?_
        refine th_topi (y := fi D 12 5 H a0) hf61_5 ?_
        refine lv_topi (fun x_17 ex_17 => ?_)
        have e_17 : x_17.toInt = (fi D 12 5 H a0).toInt := congrArg Int32.toInt ex_17
        have b_17 : 0 ≤ x_17.toInt ∧ x_17.toInt ≤ 200 := by rw [ex_17]; exact IF.f5 hI.2.2.2.2.2
        refine lv_icmp_ge (tgt := 117) hx hb dX12_readsNumber_97 (by decide) (fun c_18 => ?_) (fun c_18 => ?_)
        · have f_18 : x_17.toInt ≤ x_16.toInt := r_le rfl rfl c_18
          refine lv_iconst (v := 0) hx hb dX12_readsNumber_117 (by decide) ?_
          refine lv_istore (lv' := [(5, .int 0), (0, .ref a0), (1, .int 0), (2, .int 255), (3, .int 59), (4, .int y61_4)]) hx hb dX12_readsNumber_118 hl (by decide) rfl (fun ls hl => ?_)
          refine lv_aload_n hx hb dX12_readsNumber_120 rfl (lv_at hl 1 rfl) ?_
          refine lv_dup hx hb dX12_readsNumber_121 rfl ?_
          refine gf_X12_44 E hT_11 ha0 dX12_readsNumber_122 ?_
          refine th_topi (y := x_16) ex_16.symm ?_
          refine lv_iconst (v := 1) hx hb dX12_readsNumber_125 (by decide) ?_
          refine lv_iadd hx hb dX12_readsNumber_126 ?_
          refine lv_topi (fun x_19 ex_19 => ?_)
          have q_19 : x_19.toInt = x_16.toInt + 1 := i_pl rfl (by decide) ex_19 (by omega) (by omega)
          refine pf_X12_44 E hT_11 hS_11 ha0 rfl dX12_readsNumber_127 (fun H_20 locs_20 hT_20 hU_20 hS_20 => ?_)
          refine lv_iload hx hb dX12_readsNumber_130 (lv_at hl 0 rfl) ?_
          exact th_zret E hr hlk hs (Or.inl rfl) hT_20 hS_20 ⟨⟨(PW.q (hU_20.2.2 _ (th_ne (hW _ 12 0 ha0 (by decide) (by decide) (by decide)) ha0 (by decide))) hI_c61.1), (QS.same (ai_q (hU_20.2.2 _ (th_ne (hW _ 12 0 ha0 (by decide) (by decide) (by decide)) ha0 (by decide)))) (ai_q (hU_20.2.2 _ (th_ne (hW _ 12 0 ha0 (by decide) (by decide) (by decide)) ha0 (by decide)))) hI_c61.2.1), (QS.same (ai_q (hU_20.2.2 _ (th_ne (hW _ 12 0 ha0 (by decide) (by decide) (by decide)) ha0 (by decide)))) (ai_q (hU_20.2.2 _ (th_ne (hW _ 12 0 ha0 (by decide) (by decide) (by decide)) ha0 (by decide)))) hI_c61.2.2.1), (PL.q (hU_20.2.2 _ (th_ne (hW _ 12 2 ha0 (by decide) (by decide) (by decide)) ha0 (by decide))) hI_c61.2.2.2.1), (PL.q (hU_20.2.2 _ (th_ne (hW _ 12 3 ha0 (by decide) (by decide) (by decide)) ha0 (by decide))) hI_c61.2.2.2.2.1), (IF.put hI_c61.2.2.2.2.2 hU_20 (by decide))⟩, (Or.inl rfl), (by have : (0 : Int32).toInt = 0 := (by decide); have : (fi D 12 10 H_20 a0).toInt = (x_19 : Int32).toInt := congrArg Int32.toInt (PU.i hU_20); have : (fi D 12 10 H_c61 a0).toInt = (x_16 : Int32).toInt := congrArg Int32.toInt ex_16.symm; omega), (by have : (0 : Int32).toInt = 0 := (by decide); have : (fi D 12 11 H_20 a0).toInt = (x_7 : Int32).toInt := congrArg Int32.toInt (Eq.trans (PU.io hU_20 (j := 11) (by decide) (by decide)) ex_7.symm); have : (fi D 12 11 H_c61 a0).toInt = (x_7 : Int32).toInt := congrArg Int32.toInt ex_7.symm; omega), ((Eq.trans (PU.io hU_20 (j := 5) (by decide) (by decide)) (hf61_5.trans ex_17.symm)).trans ex_17.symm.symm), (Eq.trans (PU.io hU_20 (j := 12) (by decide) (by decide)) hf61_12), (Eq.trans (PU.io hU_20 (j := 13) (by decide) (by decide)) hf61_13), (Eq.trans (PU.io hU_20 (j := 14) (by decide) (by decide)) hf61_14)⟩ dX12_readsNumber_132
        · have f_18 : x_16.toInt < x_17.toInt := r_nle rfl rfl c_18
          refine lv_aload_n hx hb dX12_readsNumber_100 rfl (lv_at hl 0 rfl) ?_
          refine gf_X12_22 E hT_11 hW ha0 dX12_readsNumber_101 (fun h_21 => ?_)
          refine lv_aload_n hx hb dX12_readsNumber_104 rfl (lv_at hl 0 rfl) ?_
          refine gf_X12_44 E hT_11 ha0 dX12_readsNumber_105 ?_
          refine th_topi (y := x_16) ex_16.symm ?_
          refine th_iald E hT_11 h_21 (by decide) (vp_in_iff.mpr ⟨by omega, by omega⟩) dX12_readsNumber_108 ?_
          refine th_topi (y := ai H_c61 (ρ a0 4) x_16.toInt.toNat) rfl ?_
          refine lv_topi (fun x_22 ex_22 => ?_)
          refine lv_iload_n hx hb dX12_readsNumber_109 rfl (lv_at hl 3 rfl) ?_
          refine lv_icmp_ne (tgt := 117) hx hb dX12_readsNumber_110 (by decide) (fun c_23 => ?_) (fun c_23 => ?_)
          · have f_23 : ¬ x_22.toInt = 59 := r_ne rfl (by decide) c_23
            refine lv_iconst (v := 0) hx hb dX12_readsNumber_117 (by decide) ?_
            refine lv_istore (lv' := [(5, .int 0), (0, .ref a0), (1, .int 0), (2, .int 255), (3, .int 59), (4, .int y61_4)]) hx hb dX12_readsNumber_118 hl (by decide) rfl (fun ls hl => ?_)
            refine lv_aload_n hx hb dX12_readsNumber_120 rfl (lv_at hl 1 rfl) ?_
            refine lv_dup hx hb dX12_readsNumber_121 rfl ?_
            refine gf_X12_44 E hT_11 ha0 dX12_readsNumber_122 ?_
            refine th_topi (y := x_16) ex_16.symm ?_
            refine lv_iconst (v := 1) hx hb dX12_readsNumber_125 (by decide) ?_
            refine lv_iadd hx hb dX12_readsNumber_126 ?_
            refine lv_topi (fun x_24 ex_24 => ?_)
            have q_24 : x_24.toInt = x_16.toInt + 1 := i_pl rfl (by decide) ex_24 (by omega) (by omega)
            refine pf_X12_44 E hT_11 hS_11 ha0 rfl dX12_readsNumber_127 (fun H_25 locs_25 hT_25 hU_25 hS_25 => ?_)
            refine lv_iload hx hb dX12_readsNumber_130 (lv_at hl 0 rfl) ?_
            exact th_zret E hr hlk hs (Or.inl rfl) hT_25 hS_25 ⟨⟨(PW.q (hU_25.2.2 _ (th_ne (hW _ 12 0 ha0 (by decide) (by decide) (by decide)) ha0 (by decide))) hI_c61.1), (QS.same (ai_q (hU_25.2.2 _ (th_ne (hW _ 12 0 ha0 (by decide) (by decide) (by decide)) ha0 (by decide)))) (ai_q (hU_25.2.2 _ (th_ne (hW _ 12 0 ha0 (by decide) (by decide) (by decide)) ha0 (by decide)))) hI_c61.2.1), (QS.same (ai_q (hU_25.2.2 _ (th_ne (hW _ 12 0 ha0 (by decide) (by decide) (by decide)) ha0 (by decide)))) (ai_q (hU_25.2.2 _ (th_ne (hW _ 12 0 ha0 (by decide) (by decide) (by decide)) ha0 (by decide)))) hI_c61.2.2.1), (PL.q (hU_25.2.2 _ (th_ne (hW _ 12 2 ha0 (by decide) (by decide) (by decide)) ha0 (by decide))) hI_c61.2.2.2.1), (PL.q (hU_25.2.2 _ (th_ne (hW _ 12 3 ha0 (by decide) (by decide) (by decide)) ha0 (by decide))) hI_c61.2.2.2.2.1), (IF.put hI_c61.2.2.2.2.2 hU_25 (by decide))⟩, (Or.inl rfl), (by have : (0 : Int32).toInt = 0 := (by decide); have : (fi D 12 10 H_25 a0).toInt = (x_24 : Int32).toInt := congrArg Int32.toInt (PU.i hU_25); have : (fi D 12 10 H_c61 a0).toInt = (x_16 : Int32).toInt := congrArg Int32.toInt ex_16.symm; omega), (by have : (0 : Int32).toInt = 0 := (by decide); have : (fi D 12 11 H_25 a0).toInt = (x_7 : Int32).toInt := congrArg Int32.toInt (Eq.trans (PU.io hU_25 (j := 11) (by decide) (by decide)) ex_7.symm); have : (fi D 12 11 H_c61 a0).toInt = (x_7 : Int32).toInt := congrArg Int32.toInt ex_7.symm; omega), ((Eq.trans (PU.io hU_25 (j := 5) (by decide) (by decide)) (hf61_5.trans ex_17.symm)).trans ex_17.symm.symm), (Eq.trans (PU.io hU_25 (j := 12) (by decide) (by decide)) hf61_12), (Eq.trans (PU.io hU_25 (j := 13) (by decide) (by decide)) hf61_13), (Eq.trans (PU.io hU_25 (j := 14) (by decide) (by decide)) hf61_14)⟩ dX12_readsNumber_132
          · have f_23 : x_22.toInt = 59 := r_eq rfl (by decide) c_23
            refine lv_iconst (v := 1) hx hb dX12_readsNumber_113 (by decide) ?_
            refine lv_goto (tgt := 118) hx hb dX12_readsNumber_114 (by decide) ?_
            refine lv_istore (lv' := [(5, .int 1), (0, .ref a0), (1, .int 0), (2, .int 255), (3, .int 59), (4, .int y61_4)]) hx hb dX12_readsNumber_118 hl (by decide) rfl (fun ls hl => ?_)
            refine lv_aload_n hx hb dX12_readsNumber_120 rfl (lv_at hl 1 rfl) ?_
            refine lv_dup hx hb dX12_readsNumber_121 rfl ?_
            refine gf_X12_44 E hT_11 ha0 dX12_readsNumber_122 ?_
            refine th_topi (y := x_16) ex_16.symm ?_
            refine lv_iconst (v := 1) hx hb dX12_readsNumber_125 (by decide) ?_
            refine lv_iadd hx hb dX12_readsNumber_126 ?_
            refine lv_topi (fun x_26 ex_26 => ?_)
            have q_26 : x_26.toInt = x_16.toInt + 1 := i_pl rfl (by decide) ex_26 (by omega) (by omega)
            refine pf_X12_44 E hT_11 hS_11 ha0 rfl dX12_readsNumber_127 (fun H_27 locs_27 hT_27 hU_27 hS_27 => ?_)
            refine lv_iload hx hb dX12_readsNumber_130 (lv_at hl 0 rfl) ?_
            exact th_zret E hr hlk hs (Or.inr rfl) hT_27 hS_27 ⟨⟨(PW.q (hU_27.2.2 _ (th_ne (hW _ 12 0 ha0 (by decide) (by decide) (by decide)) ha0 (by decide))) hI_c61.1), (QS.same (ai_q (hU_27.2.2 _ (th_ne (hW _ 12 0 ha0 (by decide) (by decide) (by decide)) ha0 (by decide)))) (ai_q (hU_27.2.2 _ (th_ne (hW _ 12 0 ha0 (by decide) (by decide) (by decide)) ha0 (by decide)))) hI_c61.2.1), (QS.same (ai_q (hU_27.2.2 _ (th_ne (hW _ 12 0 ha0 (by decide) (by decide) (by decide)) ha0 (by decide)))) (ai_q (hU_27.2.2 _ (th_ne (hW _ 12 0 ha0 (by decide) (by decide) (by decide)) ha0 (by decide)))) hI_c61.2.2.1), (PL.q (hU_27.2.2 _ (th_ne (hW _ 12 2 ha0 (by decide) (by decide) (by decide)) ha0 (by decide))) hI_c61.2.2.2.1), (PL.q (hU_27.2.2 _ (th_ne (hW _ 12 3 ha0 (by decide) (by decide) (by decide)) ha0 (by decide))) hI_c61.2.2.2.2.1), (IF.put hI_c61.2.2.2.2.2 hU_27 (by decide))⟩, (Or.inr rfl), (by have : (1 : Int32).toInt = 1 := (by decide); have : (fi D 12 10 H_27 a0).toInt = (x_26 : Int32).toInt := congrArg Int32.toInt (PU.i hU_27); have : (fi D 12 10 H_c61 a0).toInt = (x_16 : Int32).toInt := congrArg Int32.toInt ex_16.symm; omega), (by have : (1 : Int32).toInt = 1 := (by decide); have : (fi D 12 11 H_27 a0).toInt = (x_7 : Int32).toInt := congrArg Int32.toInt (Eq.trans (PU.io hU_27 (j := 11) (by decide) (by decide)) ex_7.symm); have : (fi D 12 11 H_c61 a0).toInt = (x_7 : Int32).toInt := congrArg Int32.toInt ex_7.symm; omega), ((Eq.trans (PU.io hU_27 (j := 5) (by decide) (by decide)) (hf61_5.trans ex_17.symm)).trans ex_17.symm.symm), (Eq.trans (PU.io hU_27 (j := 12) (by decide) (by decide)) hf61_12), (Eq.trans (PU.io hU_27 (j := 13) (by decide) (by decide)) hf61_13), (Eq.trans (PU.io hU_27 (j := 14) (by decide) (by decide)) hf61_14)⟩ dX12_readsNumber_132
  have L_8 : ∀ (n : Nat) (H_c8 : Heap) (lc_c8 : List Loc) (ls : Array Slot) (y8_4 : Int32), TH D cI cS τ ρ H_c8 → SS (fun q => q = a0) H H_c8 lc_c8 → lv_has ls 6 [(0, .ref a0), (1, .int 0), (2, .int 255), (3, .int 59), (4, .int y8_4)] → 0 ≤ y8_4.toInt → y8_4.toInt ≤ 4 → IM D ρ N H_c8 a0 → (fi D 12 10 H_c8 a0).toInt = (fi D 12 10 H a0).toInt + y8_4.toInt ∧ y8_4.toInt ≤ 4 → fi D 12 5 H_c8 a0 = fi D 12 5 H a0 → fi D 12 12 H_c8 a0 = fi D 12 12 H a0 → fi D 12 13 H_c8 a0 = fi D 12 13 H a0 → fi D 12 14 H_c8 a0 = fi D 12 14 H a0 → (5 - y8_4.toInt).toNat < n → W p l e (rmO 2 45) s m args below meth c H_c8 lc_c8 0 0 (MQ below (va_Qi (fun (r : Int32) (u : Heap) => (IM D ρ N u a0) ∧ (r = 0 ∨ r = 1) ∧ ((fi D 12 10 H a0).toInt + 1 ≤ (fi D 12 10 u a0).toInt ∧ (fi D 12 10 u a0).toInt ≤ (fi D 12 10 H a0).toInt + 5) ∧ (r.toInt = 1 → (0 ≤ (fi D 12 11 u a0).toInt ∧ (fi D 12 11 u a0).toInt ≤ 255)) ∧ (fi D 12 5 u a0 = fi D 12 5 H a0) ∧ (fi D 12 12 u a0 = fi D 12 12 H a0) ∧ (fi D 12 13 u a0 = fi D 12 13 H a0) ∧ (fi D 12 14 u a0 = fi D 12 14 H a0)) (Bt D cI cS τ ρ H) (fun q => q = a0)) args s 0 0 (fun q => q = a0)) (F0 m 8 ls []) := by
    intro n
    induction n with
    | zero => intro H_c8 lc_c8 ls y8_4 hT_c8 hS_c8 hl ly8_4 uy8_4 hI_c8 hx8_0 hf8_5 hf8_12 hf8_13 hf8_14 hm; exact absurd hm (Nat.not_lt_zero _)
    | succ n ih_8 =>
      intro H_c8 lc_c8 ls y8_4 hT_c8 hS_c8 hl ly8_4 uy8_4 hI_c8 hx8_0 hf8_5 hf8_12 hf8_13 hf8_14 hm_8
      refine lv_aload_n hx hb dX12_readsNumber_8 rfl (lv_at hl 0 rfl) ?_
      refine th_Vi (As := []) (rest := []) E hml hl.1 (y_isFigure l D cI cS τ ρ hW H_c8 hT_c8 a0 ha0 N hN0 hN1 ⟨hI_c8.1, hI_c8.2.1, hI_c8.2.2.1, hI_c8.2.2.2.1, hI_c8.2.2.2.2.1, hI_c8.2.2.2.2.2⟩ (by omega)) lk_X12_61 yd_X12_isFigure hT_c8 ha0 rfl (by decide) hS_c8 (fun _ h => h.elim) ⟨by decide, by decide⟩ (Nat.le_of_ble_eq_true rfl) ⟨by decide, by decide⟩ rfl dX12_readsNumber_9 (fun r_28 H_28 locs_28 p_28 hT_28 hk_28 hS_28 => ?_)
      have p_28 : H_c8 = H_28 ∧ (r_28 = 0 ∨ r_28 = 1) ∧ (r_28.toInt = 1 → (fi D 12 10 H_c8 a0).toInt < 200) := p_28
      obtain ⟨rfl, p_28_0, p_28_1⟩ := p_28
      have z_28 := b_iv p_28_0
      refine lv_if_eq (tgt := 61) hx hb dX12_readsNumber_12 (by decide) (fun c_29 => ?_) (fun c_29 => ?_)
      · have f_29 : r_28.toInt = 0 := r_eq rfl (by decide) c_29
        exact J_61 H_c8 locs_28 _ y8_4 hT_28 hS_28 hl (by omega) (by omega) ⟨hI_c8.1, hI_c8.2.1, hI_c8.2.2.1, hI_c8.2.2.2.1, hI_c8.2.2.2.2.1, hI_c8.2.2.2.2.2⟩ (by omega) hf8_5 hf8_12 hf8_13 hf8_14
      · have f_29 : ¬ r_28.toInt = 0 := r_ne rfl (by decide) c_29
        have nz_r_28 : ¬ r_28 = 0 := c_29
        refine lv_iload hx hb dX12_readsNumber_15 (lv_at hl 4 rfl) ?_
        refine lv_iconst (v := 4) hx hb dX12_readsNumber_17 (by decide) ?_
        refine lv_icmp_ge (tgt := 61) hx hb dX12_readsNumber_18 (by decide) (fun c_30 => ?_) (fun c_30 => ?_)
        · have f_30 : 4 ≤ y8_4.toInt := r_le (by decide) rfl c_30
          exact J_61 H_c8 locs_28 _ y8_4 hT_28 hS_28 hl (by omega) (by omega) ⟨hI_c8.1, hI_c8.2.1, hI_c8.2.2.1, hI_c8.2.2.2.1, hI_c8.2.2.2.2.1, hI_c8.2.2.2.2.2⟩ (by omega) hf8_5 hf8_12 hf8_13 hf8_14
        · have f_30 : y8_4.toInt < 4 := r_nle (by decide) rfl c_30
          refine lv_aload_n hx hb dX12_readsNumber_21 rfl (lv_at hl 0 rfl) ?_
          refine lv_bipush (v := 10) hx hb dX12_readsNumber_22 (by decide) ?_
          refine lv_aload_n hx hb dX12_readsNumber_24 rfl (lv_at hl 0 rfl) ?_
          refine gf_X12_58 E hT_28 ha0 dX12_readsNumber_25 ?_
          refine lv_topi (fun x_31 ex_31 => ?_)
          have e_31 : x_31.toInt = (fi D 12 11 H_c8 a0).toInt := congrArg Int32.toInt ex_31
          refine lv_imul hx hb dX12_readsNumber_28 ?_
          refine lv_topi (fun x_32 ex_32 => ?_)
          refine lv_aload_n hx hb dX12_readsNumber_29 rfl (lv_at hl 0 rfl) ?_
          refine gf_X12_22 E hT_28 hW ha0 dX12_readsNumber_30 (fun h_33 => ?_)
          refine lv_aload_n hx hb dX12_readsNumber_33 rfl (lv_at hl 0 rfl) ?_
          refine gf_X12_44 E hT_28 ha0 dX12_readsNumber_34 ?_
          refine lv_topi (fun x_34 ex_34 => ?_)
          have e_34 : x_34.toInt = (fi D 12 10 H_c8 a0).toInt := congrArg Int32.toInt ex_34
          refine th_iald E hT_28 h_33 (by decide) (vp_in_iff.mpr ⟨by omega, by omega⟩) dX12_readsNumber_37 ?_
          refine th_topi (y := ai H_c8 (ρ a0 4) x_34.toInt.toNat) rfl ?_
          refine lv_topi (fun x_35 ex_35 => ?_)
          refine lv_iadd hx hb dX12_readsNumber_38 ?_
          refine lv_topi (fun x_36 ex_36 => ?_)
          refine lv_bipush (v := 48) hx hb dX12_readsNumber_39 (by decide) ?_
          refine lv_isub hx hb dX12_readsNumber_41 ?_
          refine lv_topi (fun x_37 ex_37 => ?_)
          refine pf_X12_58 E hT_28 hS_28 ha0 rfl dX12_readsNumber_42 (fun H_38 locs_38 hT_38 hU_38 hS_38 => ?_)
          obtain ⟨x_39, ex_39⟩ : ∃ y : Int32, y8_4 + 1 = y := ⟨_, rfl⟩
          have q_x_39 : x_39.toInt = y8_4.toInt + 1 := i_add (k := 1) (by decide) ex_39 (by have := i_min y8_4; omega) (by have := i_max y8_4; omega)
          refine lv_iinc (v := x_39) (lv' := [(4, .int x_39), (0, .ref a0), (1, .int 0), (2, .int 255), (3, .int 59)]) hx hb dX12_readsNumber_45 hl (k := 4) rfl (by rw [← ex_39]; rfl) (by decide) rfl (fun ls hl => ?_)
          refine lv_aload_n hx hb dX12_readsNumber_48 rfl (lv_at hl 1 rfl) ?_
          refine lv_dup hx hb dX12_readsNumber_49 rfl ?_
          refine gf_X12_44 E hT_38 ha0 dX12_readsNumber_50 ?_
          refine th_topi (y := x_34) (Eq.trans (PU.io hU_38 (j := 10) (by decide) (by decide)) ex_34.symm) ?_
          refine lv_iconst (v := 1) hx hb dX12_readsNumber_53 (by decide) ?_
          refine lv_iadd hx hb dX12_readsNumber_54 ?_
          refine lv_topi (fun x_40 ex_40 => ?_)
          have q_40 : x_40.toInt = x_34.toInt + 1 := i_pl rfl (by decide) ex_40 (by omega) (by omega)
          refine pf_X12_44 E hT_38 hS_38 ha0 rfl dX12_readsNumber_55 (fun H_41 locs_41 hT_41 hU_41 hS_41 => ?_)
          refine lv_goto (tgt := 8) hx hb dX12_readsNumber_58 (by decide) ?_
          exact ih_8 H_41 locs_41 _ x_39 hT_41 hS_41 (lv_sub hl [1, 2, 3, 4, 0] rfl) (by omega) (by omega) ⟨(PW.q (hU_41.2.2 _ (th_ne (hW _ 12 0 ha0 (by decide) (by decide) (by decide)) ha0 (by decide))) (PW.q (hU_38.2.2 _ (th_ne (hW _ 12 0 ha0 (by decide) (by decide) (by decide)) ha0 (by decide))) hI_c8.1)), (QS.same (Eq.trans (ai_q (hU_41.2.2 _ (th_ne (hW _ 12 0 ha0 (by decide) (by decide) (by decide)) ha0 (by decide)))) (ai_q (hU_38.2.2 _ (th_ne (hW _ 12 0 ha0 (by decide) (by decide) (by decide)) ha0 (by decide))))) (Eq.trans (ai_q (hU_41.2.2 _ (th_ne (hW _ 12 0 ha0 (by decide) (by decide) (by decide)) ha0 (by decide)))) (ai_q (hU_38.2.2 _ (th_ne (hW _ 12 0 ha0 (by decide) (by decide) (by decide)) ha0 (by decide))))) hI_c8.2.1), (QS.same (Eq.trans (ai_q (hU_41.2.2 _ (th_ne (hW _ 12 0 ha0 (by decide) (by decide) (by decide)) ha0 (by decide)))) (ai_q (hU_38.2.2 _ (th_ne (hW _ 12 0 ha0 (by decide) (by decide) (by decide)) ha0 (by decide))))) (Eq.trans (ai_q (hU_41.2.2 _ (th_ne (hW _ 12 0 ha0 (by decide) (by decide) (by decide)) ha0 (by decide)))) (ai_q (hU_38.2.2 _ (th_ne (hW _ 12 0 ha0 (by decide) (by decide) (by decide)) ha0 (by decide))))) hI_c8.2.2.1), (PL.q (hU_41.2.2 _ (th_ne (hW _ 12 2 ha0 (by decide) (by decide) (by decide)) ha0 (by decide))) (PL.q (hU_38.2.2 _ (th_ne (hW _ 12 2 ha0 (by decide) (by decide) (by decide)) ha0 (by decide))) hI_c8.2.2.2.1)), (PL.q (hU_41.2.2 _ (th_ne (hW _ 12 3 ha0 (by decide) (by decide) (by decide)) ha0 (by decide))) (PL.q (hU_38.2.2 _ (th_ne (hW _ 12 3 ha0 (by decide) (by decide) (by decide)) ha0 (by decide))) hI_c8.2.2.2.2.1)), (IF.put (IF.put hI_c8.2.2.2.2.2 hU_38 (by decide)) hU_41 (by decide))⟩ (by have : (fi D 12 10 H_41 a0).toInt = (x_40 : Int32).toInt := congrArg Int32.toInt (PU.i hU_41); have : (fi D 12 10 H_c8 a0).toInt = (x_34 : Int32).toInt := congrArg Int32.toInt ex_34.symm; omega) (Eq.trans (PU.io hU_41 (j := 5) (by decide) (by decide)) (Eq.trans (PU.io hU_38 (j := 5) (by decide) (by decide)) hf8_5)) (Eq.trans (PU.io hU_41 (j := 12) (by decide) (by decide)) (Eq.trans (PU.io hU_38 (j := 12) (by decide) (by decide)) hf8_12)) (Eq.trans (PU.io hU_41 (j := 13) (by decide) (by decide)) (Eq.trans (PU.io hU_38 (j := 13) (by decide) (by decide)) hf8_13)) (Eq.trans (PU.io hU_41 (j := 14) (by decide) (by decide)) (Eq.trans (PU.io hU_38 (j := 14) (by decide) (by decide)) hf8_14)) (by omega)
  refine lv_iconst (v := 0) hx hb dX12_readsNumber_0 (by decide) ?_
  refine lv_istore (lv' := [(4, .int 0), (0, .ref a0), (1, .int 0), (2, .int 255), (3, .int 59)]) hx hb dX12_readsNumber_1 hl (by decide) rfl (fun ls hl => ?_)
  refine lv_aload_n hx hb dX12_readsNumber_3 rfl (lv_at hl 1 rfl) ?_
  refine lv_iconst (v := 0) hx hb dX12_readsNumber_4 (by decide) ?_
  refine pf_X12_58 E hT hS ha0 rfl dX12_readsNumber_5 (fun H_42 locs_42 hT_42 hU_42 hS_42 => ?_)
  exact L_8 _ H_42 locs_42 _ 0 hT_42 hS_42 (lv_sub hl [1, 2, 3, 4, 0] rfl) (by decide) (by decide) ⟨(PW.q (hU_42.2.2 _ (th_ne (hW _ 12 0 ha0 (by decide) (by decide) (by decide)) ha0 (by decide))) hI.1), (QS.same (ai_q (hU_42.2.2 _ (th_ne (hW _ 12 0 ha0 (by decide) (by decide) (by decide)) ha0 (by decide)))) (ai_q (hU_42.2.2 _ (th_ne (hW _ 12 0 ha0 (by decide) (by decide) (by decide)) ha0 (by decide)))) hI.2.1), (QS.same (ai_q (hU_42.2.2 _ (th_ne (hW _ 12 0 ha0 (by decide) (by decide) (by decide)) ha0 (by decide)))) (ai_q (hU_42.2.2 _ (th_ne (hW _ 12 0 ha0 (by decide) (by decide) (by decide)) ha0 (by decide)))) hI.2.2.1), (PL.q (hU_42.2.2 _ (th_ne (hW _ 12 2 ha0 (by decide) (by decide) (by decide)) ha0 (by decide))) hI.2.2.2.1), (PL.q (hU_42.2.2 _ (th_ne (hW _ 12 3 ha0 (by decide) (by decide) (by decide)) ha0 (by decide))) hI.2.2.2.2.1), (IF.put hI.2.2.2.2.2 hU_42 (by decide))⟩ (by have : (fi D 12 10 H_42 a0).toInt = (fi D 12 10 H a0 : Int32).toInt := congrArg Int32.toInt (PU.io hU_42 (j := 10) (by decide) (by decide)); have : (0 : Int32).toInt = 0 := (by decide); omega) (PU.io hU_42 (j := 5) (by decide) (by decide)) (PU.io hU_42 (j := 12) (by decide) (by decide)) (PU.io hU_42 (j := 13) (by decide) (by decide)) (PU.io hU_42 (j := 14) (by decide) (by decide)) (Nat.lt_succ_self _)
set_option maxHeartbeats 4000000 in
set_option maxRecDepth 100000 in
/-- the reference: in -/
theorem y_in_v19 (l : Launch) (D : va_G) (cI cS : ClassId) (τ : Nat → Option Nat) (ρ : Nat → Nat → Nat) (hW : WF τ ρ) (H : Heap) (hT : TH D cI cS τ ρ H) (x0 : Int64) : MI l D cI cS τ ρ yX12_in cX12_in 6 (some .boolean) 0 0 H [.long x0, .long 1, .long 20] (fun (r : Int32) (u : Heap) => (H = u) ∧ (r = 0 ∨ r = 1) ∧ ((r.toInt = 1 ∧ 1 ≤ x0.toInt ∧ x0.toInt ≤ 20) ∨ (r.toInt = 0 ∧ (x0.toInt < 1 ∨ 20 < x0.toInt)))) (fun q => False) := by
  refine MI.of (by decide) (Nat.le_of_ble_eq_true rfl) ?_
  intro p e s m args below meth c E hml hr hlk hs ls hl
  have hx := E.1
  have hb := E.2.1
  have hown := E.2.2.1
  have hts := E.2.2.2.1
  have hS : SS (fun q => False) H H [] := SS.rf
  have hl : lv_has ls 6 [(0, .long x0), (2, .long 1), (4, .long 20)] := hl
  refine lv_lload_n hx hb dX12_in_0 rfl (lv_at hl 0 rfl) ?_
  refine lv_lload_n hx hb dX12_in_1 rfl (lv_at hl 1 rfl) ?_
  refine W.lcmp hx hb dX12_in_2 ?_
  refine lv_topi (fun x_1 ex_1 => ?_)
  have q_1 := l_cmp (a := x0) (b := (1 : Int64)) (m := x0.toInt) (n := 1) rfl (by decide) ex_1
  refine lv_if_lt (tgt := 17) hx hb dX12_in_3 (by decide) (fun c_2 => ?_) (fun c_2 => ?_)
  · have f_2 : x_1.toInt < 0 := r_lt rfl (by decide) c_2
    refine lv_iconst (v := 0) hx hb dX12_in_17 (by decide) ?_
    exact th_zret E hr hlk hs (Or.inl rfl) hT hS ⟨rfl, (Or.inl rfl), (by have : (0 : Int32).toInt = 0 := (by decide); omega)⟩ dX12_in_18
  · have f_2 : 0 ≤ x_1.toInt := r_nlt rfl (by decide) c_2
    refine lv_lload_n hx hb dX12_in_6 rfl (lv_at hl 0 rfl) ?_
    refine lv_lload hx hb dX12_in_7 (lv_at hl 2 rfl) ?_
    refine W.lcmp hx hb dX12_in_9 ?_
    refine lv_topi (fun x_3 ex_3 => ?_)
    have q_3 := l_cmp (a := x0) (b := (20 : Int64)) (m := x0.toInt) (n := 20) rfl (by decide) ex_3
    refine lv_if_gt (tgt := 17) hx hb dX12_in_10 (by decide) (fun c_4 => ?_) (fun c_4 => ?_)
    · have f_4 : 0 < x_3.toInt := r_lt (by decide) rfl c_4
      refine lv_iconst (v := 0) hx hb dX12_in_17 (by decide) ?_
      exact th_zret E hr hlk hs (Or.inl rfl) hT hS ⟨rfl, (Or.inl rfl), (by have : (0 : Int32).toInt = 0 := (by decide); omega)⟩ dX12_in_18
    · have f_4 : x_3.toInt ≤ 0 := r_nlt (by decide) rfl c_4
      refine lv_iconst (v := 1) hx hb dX12_in_13 (by decide) ?_
      refine lv_goto (tgt := 18) hx hb dX12_in_14 (by decide) ?_
      exact th_zret E hr hlk hs (Or.inr rfl) hT hS ⟨rfl, (Or.inr rfl), (by have : (1 : Int32).toInt = 1 := (by decide); omega)⟩ dX12_in_18
set_option maxHeartbeats 4000000 in
set_option maxRecDepth 100000 in
/-- the reference: readsNumber -/
theorem y_readsNumber_v4 (l : Launch) (D : va_G) (cI cS : ClassId) (τ : Nat → Option Nat) (ρ : Nat → Nat → Nat) (hW : WF τ ρ) (H : Heap) (hT : TH D cI cS τ ρ H) (a0 : Nat) (ha0 : τ a0 = some 12) (N : Int) (hN0 : 0 ≤ N) (hN1 : N ≤ 600) (hI : IM D ρ N H a0) (hp0 : 0 ≤ (fi D 12 10 H a0).toInt ∧ (fi D 12 10 H a0).toInt ≤ 1000) : MI l D cI cS τ ρ yX12_readsNumber cX12_readsNumber 6 (some .boolean) 2 45 H [.ref a0, .int 1, .int 20, .int 59] (fun (r : Int32) (u : Heap) => (IM D ρ N u a0) ∧ (r = 0 ∨ r = 1) ∧ ((fi D 12 10 H a0).toInt + 1 ≤ (fi D 12 10 u a0).toInt ∧ (fi D 12 10 u a0).toInt ≤ (fi D 12 10 H a0).toInt + 5) ∧ (r.toInt = 1 → (1 ≤ (fi D 12 11 u a0).toInt ∧ (fi D 12 11 u a0).toInt ≤ 20)) ∧ (fi D 12 5 u a0 = fi D 12 5 H a0) ∧ (fi D 12 12 u a0 = fi D 12 12 H a0) ∧ (fi D 12 13 u a0 = fi D 12 13 H a0) ∧ (fi D 12 14 u a0 = fi D 12 14 H a0)) (fun q => q = a0) := by
  refine MI.of (by decide) (Nat.le_of_ble_eq_true rfl) ?_
  intro p e s m args below meth c E hml hr hlk hs ls hl
  have hx := E.1
  have hb := E.2.1
  have hown := E.2.2.1
  have hts := E.2.2.2.1
  have hS : SS (fun q => q = a0) H H [] := SS.rf
  have hl : lv_has ls 6 [(0, .ref a0), (1, .int 1), (2, .int 20), (3, .int 59)] := hl
  have n01 := hI.2.2.2.2.2.1
  have n23 := hI.2.2.2.2.2.2.1
  have bL5 : 0 ≤ (fi D 12 5 H a0).toInt ∧ (fi D 12 5 H a0).toInt ≤ 200 := IF.f5 hI.2.2.2.2.2
  have J_61 : ∀ (H_c61 : Heap) (lc_c61 : List Loc) (ls : Array Slot) (y61_4 : Int32), TH D cI cS τ ρ H_c61 → SS (fun q => q = a0) H H_c61 lc_c61 → lv_has ls 6 [(0, .ref a0), (1, .int 1), (2, .int 20), (3, .int 59), (4, .int y61_4)] → 0 ≤ y61_4.toInt → y61_4.toInt ≤ 4 → IM D ρ N H_c61 a0 → (fi D 12 10 H_c61 a0).toInt = (fi D 12 10 H a0).toInt + y61_4.toInt ∧ y61_4.toInt ≤ 4 → fi D 12 5 H_c61 a0 = fi D 12 5 H a0 → fi D 12 12 H_c61 a0 = fi D 12 12 H a0 → fi D 12 13 H_c61 a0 = fi D 12 13 H a0 → fi D 12 14 H_c61 a0 = fi D 12 14 H a0 → W p l e (rmO 2 45) s m args below meth c H_c61 lc_c61 0 0 (MQ below (va_Qi (fun (r : Int32) (u : Heap) => (IM D ρ N u a0) ∧ (r = 0 ∨ r = 1) ∧ ((fi D 12 10 H a0).toInt + 1 ≤ (fi D 12 10 u a0).toInt ∧ (fi D 12 10 u a0).toInt ≤ (fi D 12 10 H a0).toInt + 5) ∧ (r.toInt = 1 → (1 ≤ (fi D 12 11 u a0).toInt ∧ (fi D 12 11 u a0).toInt ≤ 20)) ∧ (fi D 12 5 u a0 = fi D 12 5 H a0) ∧ (fi D 12 12 u a0 = fi D 12 12 H a0) ∧ (fi D 12 13 u a0 = fi D 12 13 H a0) ∧ (fi D 12 14 u a0 = fi D 12 14 H a0)) (Bt D cI cS τ ρ H) (fun q => q = a0)) args s 0 0 (fun q => q = a0)) (F0 m 61 ls []) := by
    intro H_c61 lc_c61 ls y61_4 hT_c61 hS_c61 hl ly61_4 uy61_4 hI_c61 hx61_0 hf61_5 hf61_12 hf61_13 hf61_14
    refine lv_iload hx hb dX12_readsNumber_61 (lv_at hl 4 rfl) ?_
    obtain ⟨x_1, ex_1⟩ : ∃ y : Int64, y61_4.toInt64 = y := ⟨_, rfl⟩
    refine lv_i2l (v := x_1) hx hb dX12_readsNumber_63 ex_1 ?_
    have q_1 : x_1.toInt = y61_4.toInt := by rw [← ex_1]; exact Int32.toInt_toInt64 _
    refine lv_lconst (v := 1) hx hb dX12_readsNumber_64 (by decide) ?_
    refine lv_ldc2 (v := 3) hx hb hown (hts _ qw_1206) dX12_readsNumber_65 ?_
    refine th_Si (As := [.long x_1, .long 1, .long 3]) (rest := []) E hml hl.1 (y_in_v17 l D cI cS τ ρ hW H_c61 hT_c61 x_1) lk_X12_54 yd_X12_in hS_c61 (fun _ h => h.elim) ⟨by decide, by decide⟩ (Nat.le_of_ble_eq_true rfl) ⟨by decide, by decide⟩ rfl dX12_readsNumber_68 (fun r_2 H_2 locs_2 p_2 hT_2 hk_2 hS_2 => ?_)
    have p_2 : H_c61 = H_2 ∧ (r_2 = 0 ∨ r_2 = 1) ∧ ((r_2.toInt = 1 ∧ 1 ≤ x_1.toInt ∧ x_1.toInt ≤ 3) ∨ (r_2.toInt = 0 ∧ (x_1.toInt < 1 ∨ 3 < x_1.toInt))) := p_2
    obtain ⟨rfl, p_2_0, p_2_1⟩ := p_2
    have z_2 := b_iv p_2_0
    refine lv_if_eq (tgt := 117) hx hb dX12_readsNumber_71 (by decide) (fun c_3 => ?_) (fun c_3 => ?_)
    · have f_3 : r_2.toInt = 0 := r_eq rfl (by decide) c_3
      refine lv_iconst (v := 0) hx hb dX12_readsNumber_117 (by decide) ?_
      refine lv_istore (lv' := [(5, .int 0), (0, .ref a0), (1, .int 1), (2, .int 20), (3, .int 59), (4, .int y61_4)]) hx hb dX12_readsNumber_118 hl (by decide) rfl (fun ls hl => ?_)
      refine lv_aload_n hx hb dX12_readsNumber_120 rfl (lv_at hl 1 rfl) ?_
      refine lv_dup hx hb dX12_readsNumber_121 rfl ?_
      refine gf_X12_44 E hT_2 ha0 dX12_readsNumber_122 ?_
      refine lv_topi (fun x_4 ex_4 => ?_)
      have e_4 : x_4.toInt = (fi D 12 10 H_c61 a0).toInt := congrArg Int32.toInt ex_4
      refine lv_iconst (v := 1) hx hb dX12_readsNumber_125 (by decide) ?_
      refine lv_iadd hx hb dX12_readsNumber_126 ?_
      refine lv_topi (fun x_5 ex_5 => ?_)
      have q_5 : x_5.toInt = x_4.toInt + 1 := i_pl rfl (by decide) ex_5 (by omega) (by omega)
      refine pf_X12_44 E hT_2 hS_2 ha0 rfl dX12_readsNumber_127 (fun H_6 locs_6 hT_6 hU_6 hS_6 => ?_)
      refine lv_iload hx hb dX12_readsNumber_130 (lv_at hl 0 rfl) ?_
      exact th_zret E hr hlk hs (Or.inl rfl) hT_6 hS_6 ⟨⟨(PW.q (hU_6.2.2 _ (th_ne (hW _ 12 0 ha0 (by decide) (by decide) (by decide)) ha0 (by decide))) hI_c61.1), (QS.same (ai_q (hU_6.2.2 _ (th_ne (hW _ 12 0 ha0 (by decide) (by decide) (by decide)) ha0 (by decide)))) (ai_q (hU_6.2.2 _ (th_ne (hW _ 12 0 ha0 (by decide) (by decide) (by decide)) ha0 (by decide)))) hI_c61.2.1), (QS.same (ai_q (hU_6.2.2 _ (th_ne (hW _ 12 0 ha0 (by decide) (by decide) (by decide)) ha0 (by decide)))) (ai_q (hU_6.2.2 _ (th_ne (hW _ 12 0 ha0 (by decide) (by decide) (by decide)) ha0 (by decide)))) hI_c61.2.2.1), (PL.q (hU_6.2.2 _ (th_ne (hW _ 12 2 ha0 (by decide) (by decide) (by decide)) ha0 (by decide))) hI_c61.2.2.2.1), (PL.q (hU_6.2.2 _ (th_ne (hW _ 12 3 ha0 (by decide) (by decide) (by decide)) ha0 (by decide))) hI_c61.2.2.2.2.1), (IF.put hI_c61.2.2.2.2.2 hU_6 (by decide))⟩, (Or.inl rfl), (by have : (0 : Int32).toInt = 0 := (by decide); have : (fi D 12 10 H_6 a0).toInt = (x_5 : Int32).toInt := congrArg Int32.toInt (PU.i hU_6); have : (fi D 12 10 H_c61 a0).toInt = (x_4 : Int32).toInt := congrArg Int32.toInt ex_4.symm; omega), (by have : (0 : Int32).toInt = 0 := (by decide); have : (fi D 12 11 H_6 a0).toInt = (fi D 12 11 H_c61 a0 : Int32).toInt := congrArg Int32.toInt (PU.io hU_6 (j := 11) (by decide) (by decide)); omega), (Eq.trans (PU.io hU_6 (j := 5) (by decide) (by decide)) hf61_5), (Eq.trans (PU.io hU_6 (j := 12) (by decide) (by decide)) hf61_12), (Eq.trans (PU.io hU_6 (j := 13) (by decide) (by decide)) hf61_13), (Eq.trans (PU.io hU_6 (j := 14) (by decide) (by decide)) hf61_14)⟩ dX12_readsNumber_132
    · have f_3 : ¬ r_2.toInt = 0 := r_ne rfl (by decide) c_3
      have nz_r_2 : ¬ r_2 = 0 := c_3
      refine lv_aload_n hx hb dX12_readsNumber_74 rfl (lv_at hl 0 rfl) ?_
      refine gf_X12_58 E hT_2 ha0 dX12_readsNumber_75 ?_
      refine lv_topi (fun x_7 ex_7 => ?_)
      have e_7 : x_7.toInt = (fi D 12 11 H_c61 a0).toInt := congrArg Int32.toInt ex_7
      obtain ⟨x_8, ex_8⟩ : ∃ y : Int64, x_7.toInt64 = y := ⟨_, rfl⟩
      refine lv_i2l (v := x_8) hx hb dX12_readsNumber_78 ex_8 ?_
      have q_8 : x_8.toInt = x_7.toInt := by rw [← ex_8]; exact Int32.toInt_toInt64 _
      refine lv_iload_n hx hb dX12_readsNumber_79 rfl (lv_at hl 1 rfl) ?_
      refine lv_i2l (v := 1) hx hb dX12_readsNumber_80 (by decide) ?_
      refine lv_iload_n hx hb dX12_readsNumber_81 rfl (lv_at hl 2 rfl) ?_
      refine lv_i2l (v := 20) hx hb dX12_readsNumber_82 (by decide) ?_
      refine th_Si (As := [.long x_8, .long 1, .long 20]) (rest := []) E hml hl.1 (y_in_v19 l D cI cS τ ρ hW H_c61 hT_2 x_8) lk_X12_54 yd_X12_in hS_2 (fun _ h => h.elim) ⟨by decide, by decide⟩ (Nat.le_of_ble_eq_true rfl) ⟨by decide, by decide⟩ rfl dX12_readsNumber_83 (fun r_11 H_11 locs_11 p_11 hT_11 hk_11 hS_11 => ?_)
      have p_11 : H_c61 = H_11 ∧ (r_11 = 0 ∨ r_11 = 1) ∧ ((r_11.toInt = 1 ∧ 1 ≤ x_8.toInt ∧ x_8.toInt ≤ 20) ∨ (r_11.toInt = 0 ∧ (x_8.toInt < 1 ∨ 20 < x_8.toInt))) := p_11
      obtain ⟨rfl, p_11_0, p_11_1⟩ := p_11
      have z_11 := b_iv p_11_0
      refine lv_if_eq (tgt := 117) hx hb dX12_readsNumber_86 (by decide) (fun c_12 => ?_) (fun c_12 => ?_)
      · have f_12 : r_11.toInt = 0 := r_eq rfl (by decide) c_12
        refine lv_iconst (v := 0) hx hb dX12_readsNumber_117 (by decide) ?_
        refine lv_istore (lv' := [(5, .int 0), (0, .ref a0), (1, .int 1), (2, .int 20), (3, .int 59), (4, .int y61_4)]) hx hb dX12_readsNumber_118 hl (by decide) rfl (fun ls hl => ?_)
        refine lv_aload_n hx hb dX12_readsNumber_120 rfl (lv_at hl 1 rfl) ?_
        refine lv_dup hx hb dX12_readsNumber_121 rfl ?_
        refine gf_X12_44 E hT_11 ha0 dX12_readsNumber_122 ?_
        refine lv_topi (fun x_13 ex_13 => ?_)
        have e_13 : x_13.toInt = (fi D 12 10 H_c61 a0).toInt := congrArg Int32.toInt ex_13
        refine lv_iconst (v := 1) hx hb dX12_readsNumber_125 (by decide) ?_
        refine lv_iadd hx hb dX12_readsNumber_126 ?_
        refine lv_topi (fun x_14 ex_14 => ?_)
        have q_14 : x_14.toInt = x_13.toInt + 1 := i_pl rfl (by decide) ex_14 (by omega) (by omega)
        refine pf_X12_44 E hT_11 hS_11 ha0 rfl dX12_readsNumber_127 (fun H_15 locs_15 hT_15 hU_15 hS_15 => ?_)
        refine lv_iload hx hb dX12_readsNumber_130 (lv_at hl 0 rfl) ?_
        exact th_zret E hr hlk hs (Or.inl rfl) hT_15 hS_15 ⟨⟨(PW.q (hU_15.2.2 _ (th_ne (hW _ 12 0 ha0 (by decide) (by decide) (by decide)) ha0 (by decide))) hI_c61.1), (QS.same (ai_q (hU_15.2.2 _ (th_ne (hW _ 12 0 ha0 (by decide) (by decide) (by decide)) ha0 (by decide)))) (ai_q (hU_15.2.2 _ (th_ne (hW _ 12 0 ha0 (by decide) (by decide) (by decide)) ha0 (by decide)))) hI_c61.2.1), (QS.same (ai_q (hU_15.2.2 _ (th_ne (hW _ 12 0 ha0 (by decide) (by decide) (by decide)) ha0 (by decide)))) (ai_q (hU_15.2.2 _ (th_ne (hW _ 12 0 ha0 (by decide) (by decide) (by decide)) ha0 (by decide)))) hI_c61.2.2.1), (PL.q (hU_15.2.2 _ (th_ne (hW _ 12 2 ha0 (by decide) (by decide) (by decide)) ha0 (by decide))) hI_c61.2.2.2.1), (PL.q (hU_15.2.2 _ (th_ne (hW _ 12 3 ha0 (by decide) (by decide) (by decide)) ha0 (by decide))) hI_c61.2.2.2.2.1), (IF.put hI_c61.2.2.2.2.2 hU_15 (by decide))⟩, (Or.inl rfl), (by have : (0 : Int32).toInt = 0 := (by decide); have : (fi D 12 10 H_15 a0).toInt = (x_14 : Int32).toInt := congrArg Int32.toInt (PU.i hU_15); have : (fi D 12 10 H_c61 a0).toInt = (x_13 : Int32).toInt := congrArg Int32.toInt ex_13.symm; omega), (by have : (0 : Int32).toInt = 0 := (by decide); have : (fi D 12 11 H_15 a0).toInt = (x_7 : Int32).toInt := congrArg Int32.toInt (Eq.trans (PU.io hU_15 (j := 11) (by decide) (by decide)) ex_7.symm); have : (fi D 12 11 H_c61 a0).toInt = (x_7 : Int32).toInt := congrArg Int32.toInt ex_7.symm; omega), (Eq.trans (PU.io hU_15 (j := 5) (by decide) (by decide)) hf61_5), (Eq.trans (PU.io hU_15 (j := 12) (by decide) (by decide)) hf61_12), (Eq.trans (PU.io hU_15 (j := 13) (by decide) (by decide)) hf61_13), (Eq.trans (PU.io hU_15 (j := 14) (by decide) (by decide)) hf61_14)⟩ dX12_readsNumber_132
      · have f_12 : ¬ r_11.toInt = 0 := r_ne rfl (by decide) c_12
        have nz_r_11 : ¬ r_11 = 0 := c_12
        refine lv_aload_n hx hb dX12_readsNumber_89 rfl (lv_at hl 0 rfl) ?_
        refine gf_X12_44 E hT_11 ha0 dX12_readsNumber_90 ?_
        refine lv_topi (fun x_16 ex_16 => ?_)
        have e_16 : x_16.toInt = (fi D 12 10 H_c61 a0).toInt := congrArg Int32.toInt ex_16
        refine lv_aload_n hx hb dX12_readsNumber_93 rfl (lv_at hl 0 rfl) ?_
        refine gf_X12_47 E hT_11 ha0 dX12_readsNumber_94 ?_
        refine th_topi (y := fi D 12 5 H a0) hf61_5 ?_
        refine lv_topi (fun x_17 ex_17 => ?_)
        have e_17 : x_17.toInt = (fi D 12 5 H a0).toInt := congrArg Int32.toInt ex_17
        have b_17 : 0 ≤ x_17.toInt ∧ x_17.toInt ≤ 200 := by rw [ex_17]; exact IF.f5 hI.2.2.2.2.2
        refine lv_icmp_ge (tgt := 117) hx hb dX12_readsNumber_97 (by decide) (fun c_18 => ?_) (fun c_18 => ?_)
        · have f_18 : x_17.toInt ≤ x_16.toInt := r_le rfl rfl c_18
          refine lv_iconst (v := 0) hx hb dX12_readsNumber_117 (by decide) ?_
          refine lv_istore (lv' := [(5, .int 0), (0, .ref a0), (1, .int 1), (2, .int 20), (3, .int 59), (4, .int y61_4)]) hx hb dX12_readsNumber_118 hl (by decide) rfl (fun ls hl => ?_)
          refine lv_aload_n hx hb dX12_readsNumber_120 rfl (lv_at hl 1 rfl) ?_
          refine lv_dup hx hb dX12_readsNumber_121 rfl ?_
          refine gf_X12_44 E hT_11 ha0 dX12_readsNumber_122 ?_
          refine th_topi (y := x_16) ex_16.symm ?_
          refine lv_iconst (v := 1) hx hb dX12_readsNumber_125 (by decide) ?_
          refine lv_iadd hx hb dX12_readsNumber_126 ?_
          refine lv_topi (fun x_19 ex_19 => ?_)
          have q_19 : x_19.toInt = x_16.toInt + 1 := i_pl rfl (by decide) ex_19 (by omega) (by omega)
          refine pf_X12_44 E hT_11 hS_11 ha0 rfl dX12_readsNumber_127 (fun H_20 locs_20 hT_20 hU_20 hS_20 => ?_)
          refine lv_iload hx hb dX12_readsNumber_130 (lv_at hl 0 rfl) ?_
          exact th_zret E hr hlk hs (Or.inl rfl) hT_20 hS_20 ⟨⟨(PW.q (hU_20.2.2 _ (th_ne (hW _ 12 0 ha0 (by decide) (by decide) (by decide)) ha0 (by decide))) hI_c61.1), (QS.same (ai_q (hU_20.2.2 _ (th_ne (hW _ 12 0 ha0 (by decide) (by decide) (by decide)) ha0 (by decide)))) (ai_q (hU_20.2.2 _ (th_ne (hW _ 12 0 ha0 (by decide) (by decide) (by decide)) ha0 (by decide)))) hI_c61.2.1), (QS.same (ai_q (hU_20.2.2 _ (th_ne (hW _ 12 0 ha0 (by decide) (by decide) (by decide)) ha0 (by decide)))) (ai_q (hU_20.2.2 _ (th_ne (hW _ 12 0 ha0 (by decide) (by decide) (by decide)) ha0 (by decide)))) hI_c61.2.2.1), (PL.q (hU_20.2.2 _ (th_ne (hW _ 12 2 ha0 (by decide) (by decide) (by decide)) ha0 (by decide))) hI_c61.2.2.2.1), (PL.q (hU_20.2.2 _ (th_ne (hW _ 12 3 ha0 (by decide) (by decide) (by decide)) ha0 (by decide))) hI_c61.2.2.2.2.1), (IF.put hI_c61.2.2.2.2.2 hU_20 (by decide))⟩, (Or.inl rfl), (by have : (0 : Int32).toInt = 0 := (by decide); have : (fi D 12 10 H_20 a0).toInt = (x_19 : Int32).toInt := congrArg Int32.toInt (PU.i hU_20); have : (fi D 12 10 H_c61 a0).toInt = (x_16 : Int32).toInt := congrArg Int32.toInt ex_16.symm; omega), (by have : (0 : Int32).toInt = 0 := (by decide); have : (fi D 12 11 H_20 a0).toInt = (x_7 : Int32).toInt := congrArg Int32.toInt (Eq.trans (PU.io hU_20 (j := 11) (by decide) (by decide)) ex_7.symm); have : (fi D 12 11 H_c61 a0).toInt = (x_7 : Int32).toInt := congrArg Int32.toInt ex_7.symm; omega), ((Eq.trans (PU.io hU_20 (j := 5) (by decide) (by decide)) (hf61_5.trans ex_17.symm)).trans ex_17.symm.symm), (Eq.trans (PU.io hU_20 (j := 12) (by decide) (by decide)) hf61_12), (Eq.trans (PU.io hU_20 (j := 13) (by decide) (by decide)) hf61_13), (Eq.trans (PU.io hU_20 (j := 14) (by decide) (by decide)) hf61_14)⟩ dX12_readsNumber_132
        · have f_18 : x_16.toInt < x_17.toInt := r_nle rfl rfl c_18
          refine lv_aload_n hx hb dX12_readsNumber_100 rfl (lv_at hl 0 rfl) ?_
          refine gf_X12_22 E hT_11 hW ha0 dX12_readsNumber_101 (fun h_21 => ?_)
          refine lv_aload_n hx hb dX12_readsNumber_104 rfl (lv_at hl 0 rfl) ?_
          refine gf_X12_44 E hT_11 ha0 dX12_readsNumber_105 ?_
          refine th_topi (y := x_16) ex_16.symm ?_
          refine th_iald E hT_11 h_21 (by decide) (vp_in_iff.mpr ⟨by omega, by omega⟩) dX12_readsNumber_108 ?_
          refine th_topi (y := ai H_c61 (ρ a0 4) x_16.toInt.toNat) rfl ?_
          refine lv_topi (fun x_22 ex_22 => ?_)
          refine lv_iload_n hx hb dX12_readsNumber_109 rfl (lv_at hl 3 rfl) ?_
          refine lv_icmp_ne (tgt := 117) hx hb dX12_readsNumber_110 (by decide) (fun c_23 => ?_) (fun c_23 => ?_)
          · have f_23 : ¬ x_22.toInt = 59 := r_ne rfl (by decide) c_23
            refine lv_iconst (v := 0) hx hb dX12_readsNumber_117 (by decide) ?_
            refine lv_istore (lv' := [(5, .int 0), (0, .ref a0), (1, .int 1), (2, .int 20), (3, .int 59), (4, .int y61_4)]) hx hb dX12_readsNumber_118 hl (by decide) rfl (fun ls hl => ?_)
            refine lv_aload_n hx hb dX12_readsNumber_120 rfl (lv_at hl 1 rfl) ?_
            refine lv_dup hx hb dX12_readsNumber_121 rfl ?_
            refine gf_X12_44 E hT_11 ha0 dX12_readsNumber_122 ?_
            refine th_topi (y := x_16) ex_16.symm ?_
            refine lv_iconst (v := 1) hx hb dX12_readsNumber_125 (by decide) ?_
            refine lv_iadd hx hb dX12_readsNumber_126 ?_
            refine lv_topi (fun x_24 ex_24 => ?_)
            have q_24 : x_24.toInt = x_16.toInt + 1 := i_pl rfl (by decide) ex_24 (by omega) (by omega)
            refine pf_X12_44 E hT_11 hS_11 ha0 rfl dX12_readsNumber_127 (fun H_25 locs_25 hT_25 hU_25 hS_25 => ?_)
            refine lv_iload hx hb dX12_readsNumber_130 (lv_at hl 0 rfl) ?_
            exact th_zret E hr hlk hs (Or.inl rfl) hT_25 hS_25 ⟨⟨(PW.q (hU_25.2.2 _ (th_ne (hW _ 12 0 ha0 (by decide) (by decide) (by decide)) ha0 (by decide))) hI_c61.1), (QS.same (ai_q (hU_25.2.2 _ (th_ne (hW _ 12 0 ha0 (by decide) (by decide) (by decide)) ha0 (by decide)))) (ai_q (hU_25.2.2 _ (th_ne (hW _ 12 0 ha0 (by decide) (by decide) (by decide)) ha0 (by decide)))) hI_c61.2.1), (QS.same (ai_q (hU_25.2.2 _ (th_ne (hW _ 12 0 ha0 (by decide) (by decide) (by decide)) ha0 (by decide)))) (ai_q (hU_25.2.2 _ (th_ne (hW _ 12 0 ha0 (by decide) (by decide) (by decide)) ha0 (by decide)))) hI_c61.2.2.1), (PL.q (hU_25.2.2 _ (th_ne (hW _ 12 2 ha0 (by decide) (by decide) (by decide)) ha0 (by decide))) hI_c61.2.2.2.1), (PL.q (hU_25.2.2 _ (th_ne (hW _ 12 3 ha0 (by decide) (by decide) (by decide)) ha0 (by decide))) hI_c61.2.2.2.2.1), (IF.put hI_c61.2.2.2.2.2 hU_25 (by decide))⟩, (Or.inl rfl), (by have : (0 : Int32).toInt = 0 := (by decide); have : (fi D 12 10 H_25 a0).toInt = (x_24 : Int32).toInt := congrArg Int32.toInt (PU.i hU_25); have : (fi D 12 10 H_c61 a0).toInt = (x_16 : Int32).toInt := congrArg Int32.toInt ex_16.symm; omega), (by have : (0 : Int32).toInt = 0 := (by decide); have : (fi D 12 11 H_25 a0).toInt = (x_7 : Int32).toInt := congrArg Int32.toInt (Eq.trans (PU.io hU_25 (j := 11) (by decide) (by decide)) ex_7.symm); have : (fi D 12 11 H_c61 a0).toInt = (x_7 : Int32).toInt := congrArg Int32.toInt ex_7.symm; omega), ((Eq.trans (PU.io hU_25 (j := 5) (by decide) (by decide)) (hf61_5.trans ex_17.symm)).trans ex_17.symm.symm), (Eq.trans (PU.io hU_25 (j := 12) (by decide) (by decide)) hf61_12), (Eq.trans (PU.io hU_25 (j := 13) (by decide) (by decide)) hf61_13), (Eq.trans (PU.io hU_25 (j := 14) (by decide) (by decide)) hf61_14)⟩ dX12_readsNumber_132
          · have f_23 : x_22.toInt = 59 := r_eq rfl (by decide) c_23
            refine lv_iconst (v := 1) hx hb dX12_readsNumber_113 (by decide) ?_
            refine lv_goto (tgt := 118) hx hb dX12_readsNumber_114 (by decide) ?_
            refine lv_istore (lv' := [(5, .int 1), (0, .ref a0), (1, .int 1), (2, .int 20), (3, .int 59), (4, .int y61_4)]) hx hb dX12_readsNumber_118 hl (by decide) rfl (fun ls hl => ?_)
            refine lv_aload_n hx hb dX12_readsNumber_120 rfl (lv_at hl 1 rfl) ?_
            refine lv_dup hx hb dX12_readsNumber_121 rfl ?_
            refine gf_X12_44 E hT_11 ha0 dX12_readsNumber_122 ?_
            refine th_topi (y := x_16) ex_16.symm ?_
            refine lv_iconst (v := 1) hx hb dX12_readsNumber_125 (by decide) ?_
            refine lv_iadd hx hb dX12_readsNumber_126 ?_
            refine lv_topi (fun x_26 ex_26 => ?_)
            have q_26 : x_26.toInt = x_16.toInt + 1 := i_pl rfl (by decide) ex_26 (by omega) (by omega)
            refine pf_X12_44 E hT_11 hS_11 ha0 rfl dX12_readsNumber_127 (fun H_27 locs_27 hT_27 hU_27 hS_27 => ?_)
            refine lv_iload hx hb dX12_readsNumber_130 (lv_at hl 0 rfl) ?_
            exact th_zret E hr hlk hs (Or.inr rfl) hT_27 hS_27 ⟨⟨(PW.q (hU_27.2.2 _ (th_ne (hW _ 12 0 ha0 (by decide) (by decide) (by decide)) ha0 (by decide))) hI_c61.1), (QS.same (ai_q (hU_27.2.2 _ (th_ne (hW _ 12 0 ha0 (by decide) (by decide) (by decide)) ha0 (by decide)))) (ai_q (hU_27.2.2 _ (th_ne (hW _ 12 0 ha0 (by decide) (by decide) (by decide)) ha0 (by decide)))) hI_c61.2.1), (QS.same (ai_q (hU_27.2.2 _ (th_ne (hW _ 12 0 ha0 (by decide) (by decide) (by decide)) ha0 (by decide)))) (ai_q (hU_27.2.2 _ (th_ne (hW _ 12 0 ha0 (by decide) (by decide) (by decide)) ha0 (by decide)))) hI_c61.2.2.1), (PL.q (hU_27.2.2 _ (th_ne (hW _ 12 2 ha0 (by decide) (by decide) (by decide)) ha0 (by decide))) hI_c61.2.2.2.1), (PL.q (hU_27.2.2 _ (th_ne (hW _ 12 3 ha0 (by decide) (by decide) (by decide)) ha0 (by decide))) hI_c61.2.2.2.2.1), (IF.put hI_c61.2.2.2.2.2 hU_27 (by decide))⟩, (Or.inr rfl), (by have : (1 : Int32).toInt = 1 := (by decide); have : (fi D 12 10 H_27 a0).toInt = (x_26 : Int32).toInt := congrArg Int32.toInt (PU.i hU_27); have : (fi D 12 10 H_c61 a0).toInt = (x_16 : Int32).toInt := congrArg Int32.toInt ex_16.symm; omega), (by have : (1 : Int32).toInt = 1 := (by decide); have : (fi D 12 11 H_27 a0).toInt = (x_7 : Int32).toInt := congrArg Int32.toInt (Eq.trans (PU.io hU_27 (j := 11) (by decide) (by decide)) ex_7.symm); have : (fi D 12 11 H_c61 a0).toInt = (x_7 : Int32).toInt := congrArg Int32.toInt ex_7.symm; omega), ((Eq.trans (PU.io hU_27 (j := 5) (by decide) (by decide)) (hf61_5.trans ex_17.symm)).trans ex_17.symm.symm), (Eq.trans (PU.io hU_27 (j := 12) (by decide) (by decide)) hf61_12), (Eq.trans (PU.io hU_27 (j := 13) (by decide) (by decide)) hf61_13), (Eq.trans (PU.io hU_27 (j := 14) (by decide) (by decide)) hf61_14)⟩ dX12_readsNumber_132
  have L_8 : ∀ (n : Nat) (H_c8 : Heap) (lc_c8 : List Loc) (ls : Array Slot) (y8_4 : Int32), TH D cI cS τ ρ H_c8 → SS (fun q => q = a0) H H_c8 lc_c8 → lv_has ls 6 [(0, .ref a0), (1, .int 1), (2, .int 20), (3, .int 59), (4, .int y8_4)] → 0 ≤ y8_4.toInt → y8_4.toInt ≤ 4 → IM D ρ N H_c8 a0 → (fi D 12 10 H_c8 a0).toInt = (fi D 12 10 H a0).toInt + y8_4.toInt ∧ y8_4.toInt ≤ 4 → fi D 12 5 H_c8 a0 = fi D 12 5 H a0 → fi D 12 12 H_c8 a0 = fi D 12 12 H a0 → fi D 12 13 H_c8 a0 = fi D 12 13 H a0 → fi D 12 14 H_c8 a0 = fi D 12 14 H a0 → (5 - y8_4.toInt).toNat < n → W p l e (rmO 2 45) s m args below meth c H_c8 lc_c8 0 0 (MQ below (va_Qi (fun (r : Int32) (u : Heap) => (IM D ρ N u a0) ∧ (r = 0 ∨ r = 1) ∧ ((fi D 12 10 H a0).toInt + 1 ≤ (fi D 12 10 u a0).toInt ∧ (fi D 12 10 u a0).toInt ≤ (fi D 12 10 H a0).toInt + 5) ∧ (r.toInt = 1 → (1 ≤ (fi D 12 11 u a0).toInt ∧ (fi D 12 11 u a0).toInt ≤ 20)) ∧ (fi D 12 5 u a0 = fi D 12 5 H a0) ∧ (fi D 12 12 u a0 = fi D 12 12 H a0) ∧ (fi D 12 13 u a0 = fi D 12 13 H a0) ∧ (fi D 12 14 u a0 = fi D 12 14 H a0)) (Bt D cI cS τ ρ H) (fun q => q = a0)) args s 0 0 (fun q => q = a0)) (F0 m 8 ls []) := by
    intro n
    induction n with
    | zero => intro H_c8 lc_c8 ls y8_4 hT_c8 hS_c8 hl ly8_4 uy8_4 hI_c8 hx8_0 hf8_5 hf8_12 hf8_13 hf8_14 hm; exact absurd hm (Nat.not_lt_zero _)
    | succ n ih_8 =>
      intro H_c8 lc_c8 ls y8_4 hT_c8 hS_c8 hl ly8_4 uy8_4 hI_c8 hx8_0 hf8_5 hf8_12 hf8_13 hf8_14 hm_8
      refine lv_aload_n hx hb dX12_readsNumber_8 rfl (lv_at hl 0 rfl) ?_
      refine th_Vi (As := []) (rest := []) E hml hl.1 (y_isFigure l D cI cS τ ρ hW H_c8 hT_c8 a0 ha0 N hN0 hN1 ⟨hI_c8.1, hI_c8.2.1, hI_c8.2.2.1, hI_c8.2.2.2.1, hI_c8.2.2.2.2.1, hI_c8.2.2.2.2.2⟩ (by omega)) lk_X12_61 yd_X12_isFigure hT_c8 ha0 rfl (by decide) hS_c8 (fun _ h => h.elim) ⟨by decide, by decide⟩ (Nat.le_of_ble_eq_true rfl) ⟨by decide, by decide⟩ rfl dX12_readsNumber_9 (fun r_28 H_28 locs_28 p_28 hT_28 hk_28 hS_28 => ?_)
      have p_28 : H_c8 = H_28 ∧ (r_28 = 0 ∨ r_28 = 1) ∧ (r_28.toInt = 1 → (fi D 12 10 H_c8 a0).toInt < 200) := p_28
      obtain ⟨rfl, p_28_0, p_28_1⟩ := p_28
      have z_28 := b_iv p_28_0
      refine lv_if_eq (tgt := 61) hx hb dX12_readsNumber_12 (by decide) (fun c_29 => ?_) (fun c_29 => ?_)
      · have f_29 : r_28.toInt = 0 := r_eq rfl (by decide) c_29
        exact J_61 H_c8 locs_28 _ y8_4 hT_28 hS_28 hl (by omega) (by omega) ⟨hI_c8.1, hI_c8.2.1, hI_c8.2.2.1, hI_c8.2.2.2.1, hI_c8.2.2.2.2.1, hI_c8.2.2.2.2.2⟩ (by omega) hf8_5 hf8_12 hf8_13 hf8_14
      · have f_29 : ¬ r_28.toInt = 0 := r_ne rfl (by decide) c_29
        have nz_r_28 : ¬ r_28 = 0 := c_29
        refine lv_iload hx hb dX12_readsNumber_15 (lv_at hl 4 rfl) ?_
        refine lv_iconst (v := 4) hx hb dX12_readsNumber_17 (by decide) ?_
        refine lv_icmp_ge (tgt := 61) hx hb dX12_readsNumber_18 (by decide) (fun c_30 => ?_) (fun c_30 => ?_)
        · have f_30 : 4 ≤ y8_4.toInt := r_le (by decide) rfl c_30
          exact J_61 H_c8 locs_28 _ y8_4 hT_28 hS_28 hl (by omega) (by omega) ⟨hI_c8.1, hI_c8.2.1, hI_c8.2.2.1, hI_c8.2.2.2.1, hI_c8.2.2.2.2.1, hI_c8.2.2.2.2.2⟩ (by omega) hf8_5 hf8_12 hf8_13 hf8_14
        · have f_30 : y8_4.toInt < 4 := r_nle (by decide) rfl c_30
          refine lv_aload_n hx hb dX12_readsNumber_21 rfl (lv_at hl 0 rfl) ?_
          refine lv_bipush (v := 10) hx hb dX12_readsNumber_22 (by decide) ?_
          refine lv_aload_n hx hb dX12_readsNumber_24 rfl (lv_at hl 0 rfl) ?_
          refine gf_X12_58 E hT_28 ha0 dX12_readsNumber_25 ?_
          refine lv_topi (fun x_31 ex_31 => ?_)
          have e_31 : x_31.toInt = (fi D 12 11 H_c8 a0).toInt := congrArg Int32.toInt ex_31
          refine lv_imul hx hb dX12_readsNumber_28 ?_
          refine lv_topi (fun x_32 ex_32 => ?_)
          refine lv_aload_n hx hb dX12_readsNumber_29 rfl (lv_at hl 0 rfl) ?_
          refine gf_X12_22 E hT_28 hW ha0 dX12_readsNumber_30 (fun h_33 => ?_)
          refine lv_aload_n hx hb dX12_readsNumber_33 rfl (lv_at hl 0 rfl) ?_
          refine gf_X12_44 E hT_28 ha0 dX12_readsNumber_34 ?_
          refine lv_topi (fun x_34 ex_34 => ?_)
          have e_34 : x_34.toInt = (fi D 12 10 H_c8 a0).toInt := congrArg Int32.toInt ex_34
          refine th_iald E hT_28 h_33 (by decide) (vp_in_iff.mpr ⟨by omega, by omega⟩) dX12_readsNumber_37 ?_
          refine th_topi (y := ai H_c8 (ρ a0 4) x_34.toInt.toNat) rfl ?_
          refine lv_topi (fun x_35 ex_35 => ?_)
          refine lv_iadd hx hb dX12_readsNumber_38 ?_
          refine lv_topi (fun x_36 ex_36 => ?_)
          refine lv_bipush (v := 48) hx hb dX12_readsNumber_39 (by decide) ?_
          refine lv_isub hx hb dX12_readsNumber_41 ?_
          refine lv_topi (fun x_37 ex_37 => ?_)
          refine pf_X12_58 E hT_28 hS_28 ha0 rfl dX12_readsNumber_42 (fun H_38 locs_38 hT_38 hU_38 hS_38 => ?_)
          obtain ⟨x_39, ex_39⟩ : ∃ y : Int32, y8_4 + 1 = y := ⟨_, rfl⟩
          have q_x_39 : x_39.toInt = y8_4.toInt + 1 := i_add (k := 1) (by decide) ex_39 (by have := i_min y8_4; omega) (by have := i_max y8_4; omega)
          refine lv_iinc (v := x_39) (lv' := [(4, .int x_39), (0, .ref a0), (1, .int 1), (2, .int 20), (3, .int 59)]) hx hb dX12_readsNumber_45 hl (k := 4) rfl (by rw [← ex_39]; rfl) (by decide) rfl (fun ls hl => ?_)
          refine lv_aload_n hx hb dX12_readsNumber_48 rfl (lv_at hl 1 rfl) ?_
          refine lv_dup hx hb dX12_readsNumber_49 rfl ?_
          refine gf_X12_44 E hT_38 ha0 dX12_readsNumber_50 ?_
          refine th_topi (y := x_34) (Eq.trans (PU.io hU_38 (j := 10) (by decide) (by decide)) ex_34.symm) ?_
          refine lv_iconst (v := 1) hx hb dX12_readsNumber_53 (by decide) ?_
          refine lv_iadd hx hb dX12_readsNumber_54 ?_
          refine lv_topi (fun x_40 ex_40 => ?_)
          have q_40 : x_40.toInt = x_34.toInt + 1 := i_pl rfl (by decide) ex_40 (by omega) (by omega)
          refine pf_X12_44 E hT_38 hS_38 ha0 rfl dX12_readsNumber_55 (fun H_41 locs_41 hT_41 hU_41 hS_41 => ?_)
          refine lv_goto (tgt := 8) hx hb dX12_readsNumber_58 (by decide) ?_
          exact ih_8 H_41 locs_41 _ x_39 hT_41 hS_41 (lv_sub hl [1, 2, 3, 4, 0] rfl) (by omega) (by omega) ⟨(PW.q (hU_41.2.2 _ (th_ne (hW _ 12 0 ha0 (by decide) (by decide) (by decide)) ha0 (by decide))) (PW.q (hU_38.2.2 _ (th_ne (hW _ 12 0 ha0 (by decide) (by decide) (by decide)) ha0 (by decide))) hI_c8.1)), (QS.same (Eq.trans (ai_q (hU_41.2.2 _ (th_ne (hW _ 12 0 ha0 (by decide) (by decide) (by decide)) ha0 (by decide)))) (ai_q (hU_38.2.2 _ (th_ne (hW _ 12 0 ha0 (by decide) (by decide) (by decide)) ha0 (by decide))))) (Eq.trans (ai_q (hU_41.2.2 _ (th_ne (hW _ 12 0 ha0 (by decide) (by decide) (by decide)) ha0 (by decide)))) (ai_q (hU_38.2.2 _ (th_ne (hW _ 12 0 ha0 (by decide) (by decide) (by decide)) ha0 (by decide))))) hI_c8.2.1), (QS.same (Eq.trans (ai_q (hU_41.2.2 _ (th_ne (hW _ 12 0 ha0 (by decide) (by decide) (by decide)) ha0 (by decide)))) (ai_q (hU_38.2.2 _ (th_ne (hW _ 12 0 ha0 (by decide) (by decide) (by decide)) ha0 (by decide))))) (Eq.trans (ai_q (hU_41.2.2 _ (th_ne (hW _ 12 0 ha0 (by decide) (by decide) (by decide)) ha0 (by decide)))) (ai_q (hU_38.2.2 _ (th_ne (hW _ 12 0 ha0 (by decide) (by decide) (by decide)) ha0 (by decide))))) hI_c8.2.2.1), (PL.q (hU_41.2.2 _ (th_ne (hW _ 12 2 ha0 (by decide) (by decide) (by decide)) ha0 (by decide))) (PL.q (hU_38.2.2 _ (th_ne (hW _ 12 2 ha0 (by decide) (by decide) (by decide)) ha0 (by decide))) hI_c8.2.2.2.1)), (PL.q (hU_41.2.2 _ (th_ne (hW _ 12 3 ha0 (by decide) (by decide) (by decide)) ha0 (by decide))) (PL.q (hU_38.2.2 _ (th_ne (hW _ 12 3 ha0 (by decide) (by decide) (by decide)) ha0 (by decide))) hI_c8.2.2.2.2.1)), (IF.put (IF.put hI_c8.2.2.2.2.2 hU_38 (by decide)) hU_41 (by decide))⟩ (by have : (fi D 12 10 H_41 a0).toInt = (x_40 : Int32).toInt := congrArg Int32.toInt (PU.i hU_41); have : (fi D 12 10 H_c8 a0).toInt = (x_34 : Int32).toInt := congrArg Int32.toInt ex_34.symm; omega) (Eq.trans (PU.io hU_41 (j := 5) (by decide) (by decide)) (Eq.trans (PU.io hU_38 (j := 5) (by decide) (by decide)) hf8_5)) (Eq.trans (PU.io hU_41 (j := 12) (by decide) (by decide)) (Eq.trans (PU.io hU_38 (j := 12) (by decide) (by decide)) hf8_12)) (Eq.trans (PU.io hU_41 (j := 13) (by decide) (by decide)) (Eq.trans (PU.io hU_38 (j := 13) (by decide) (by decide)) hf8_13)) (Eq.trans (PU.io hU_41 (j := 14) (by decide) (by decide)) (Eq.trans (PU.io hU_38 (j := 14) (by decide) (by decide)) hf8_14)) (by omega)
  refine lv_iconst (v := 0) hx hb dX12_readsNumber_0 (by decide) ?_
  refine lv_istore (lv' := [(4, .int 0), (0, .ref a0), (1, .int 1), (2, .int 20), (3, .int 59)]) hx hb dX12_readsNumber_1 hl (by decide) rfl (fun ls hl => ?_)
  refine lv_aload_n hx hb dX12_readsNumber_3 rfl (lv_at hl 1 rfl) ?_
  refine lv_iconst (v := 0) hx hb dX12_readsNumber_4 (by decide) ?_
  refine pf_X12_58 E hT hS ha0 rfl dX12_readsNumber_5 (fun H_42 locs_42 hT_42 hU_42 hS_42 => ?_)
  exact L_8 _ H_42 locs_42 _ 0 hT_42 hS_42 (lv_sub hl [1, 2, 3, 4, 0] rfl) (by decide) (by decide) ⟨(PW.q (hU_42.2.2 _ (th_ne (hW _ 12 0 ha0 (by decide) (by decide) (by decide)) ha0 (by decide))) hI.1), (QS.same (ai_q (hU_42.2.2 _ (th_ne (hW _ 12 0 ha0 (by decide) (by decide) (by decide)) ha0 (by decide)))) (ai_q (hU_42.2.2 _ (th_ne (hW _ 12 0 ha0 (by decide) (by decide) (by decide)) ha0 (by decide)))) hI.2.1), (QS.same (ai_q (hU_42.2.2 _ (th_ne (hW _ 12 0 ha0 (by decide) (by decide) (by decide)) ha0 (by decide)))) (ai_q (hU_42.2.2 _ (th_ne (hW _ 12 0 ha0 (by decide) (by decide) (by decide)) ha0 (by decide)))) hI.2.2.1), (PL.q (hU_42.2.2 _ (th_ne (hW _ 12 2 ha0 (by decide) (by decide) (by decide)) ha0 (by decide))) hI.2.2.2.1), (PL.q (hU_42.2.2 _ (th_ne (hW _ 12 3 ha0 (by decide) (by decide) (by decide)) ha0 (by decide))) hI.2.2.2.2.1), (IF.put hI.2.2.2.2.2 hU_42 (by decide))⟩ (by have : (fi D 12 10 H_42 a0).toInt = (fi D 12 10 H a0 : Int32).toInt := congrArg Int32.toInt (PU.io hU_42 (j := 10) (by decide) (by decide)); have : (0 : Int32).toInt = 0 := (by decide); omega) (PU.io hU_42 (j := 5) (by decide) (by decide)) (PU.io hU_42 (j := 12) (by decide) (by decide)) (PU.io hU_42 (j := 13) (by decide) (by decide)) (PU.io hU_42 (j := 14) (by decide) (by decide)) (Nat.lt_succ_self _)
set_option maxHeartbeats 4000000 in
set_option maxRecDepth 100000 in
/-- the reference: in -/
theorem y_in_v20 (l : Launch) (D : va_G) (cI cS : ClassId) (τ : Nat → Option Nat) (ρ : Nat → Nat → Nat) (hW : WF τ ρ) (H : Heap) (hT : TH D cI cS τ ρ H) (x0 : Int64) : MI l D cI cS τ ρ yX12_in cX12_in 6 (some .boolean) 0 0 H [.long x0, .long 1, .long 8] (fun (r : Int32) (u : Heap) => (H = u) ∧ (r = 0 ∨ r = 1) ∧ ((r.toInt = 1 ∧ 1 ≤ x0.toInt ∧ x0.toInt ≤ 8) ∨ (r.toInt = 0 ∧ (x0.toInt < 1 ∨ 8 < x0.toInt)))) (fun q => False) := by
  refine MI.of (by decide) (Nat.le_of_ble_eq_true rfl) ?_
  intro p e s m args below meth c E hml hr hlk hs ls hl
  have hx := E.1
  have hb := E.2.1
  have hown := E.2.2.1
  have hts := E.2.2.2.1
  have hS : SS (fun q => False) H H [] := SS.rf
  have hl : lv_has ls 6 [(0, .long x0), (2, .long 1), (4, .long 8)] := hl
  refine lv_lload_n hx hb dX12_in_0 rfl (lv_at hl 0 rfl) ?_
  refine lv_lload_n hx hb dX12_in_1 rfl (lv_at hl 1 rfl) ?_
  refine W.lcmp hx hb dX12_in_2 ?_
  refine lv_topi (fun x_1 ex_1 => ?_)
  have q_1 := l_cmp (a := x0) (b := (1 : Int64)) (m := x0.toInt) (n := 1) rfl (by decide) ex_1
  refine lv_if_lt (tgt := 17) hx hb dX12_in_3 (by decide) (fun c_2 => ?_) (fun c_2 => ?_)
  · have f_2 : x_1.toInt < 0 := r_lt rfl (by decide) c_2
    refine lv_iconst (v := 0) hx hb dX12_in_17 (by decide) ?_
    exact th_zret E hr hlk hs (Or.inl rfl) hT hS ⟨rfl, (Or.inl rfl), (by have : (0 : Int32).toInt = 0 := (by decide); omega)⟩ dX12_in_18
  · have f_2 : 0 ≤ x_1.toInt := r_nlt rfl (by decide) c_2
    refine lv_lload_n hx hb dX12_in_6 rfl (lv_at hl 0 rfl) ?_
    refine lv_lload hx hb dX12_in_7 (lv_at hl 2 rfl) ?_
    refine W.lcmp hx hb dX12_in_9 ?_
    refine lv_topi (fun x_3 ex_3 => ?_)
    have q_3 := l_cmp (a := x0) (b := (8 : Int64)) (m := x0.toInt) (n := 8) rfl (by decide) ex_3
    refine lv_if_gt (tgt := 17) hx hb dX12_in_10 (by decide) (fun c_4 => ?_) (fun c_4 => ?_)
    · have f_4 : 0 < x_3.toInt := r_lt (by decide) rfl c_4
      refine lv_iconst (v := 0) hx hb dX12_in_17 (by decide) ?_
      exact th_zret E hr hlk hs (Or.inl rfl) hT hS ⟨rfl, (Or.inl rfl), (by have : (0 : Int32).toInt = 0 := (by decide); omega)⟩ dX12_in_18
    · have f_4 : x_3.toInt ≤ 0 := r_nlt (by decide) rfl c_4
      refine lv_iconst (v := 1) hx hb dX12_in_13 (by decide) ?_
      refine lv_goto (tgt := 18) hx hb dX12_in_14 (by decide) ?_
      exact th_zret E hr hlk hs (Or.inr rfl) hT hS ⟨rfl, (Or.inr rfl), (by have : (1 : Int32).toInt = 1 := (by decide); omega)⟩ dX12_in_18
set_option maxHeartbeats 4000000 in
set_option maxRecDepth 100000 in
/-- the reference: readsNumber -/
theorem y_readsNumber_v5 (l : Launch) (D : va_G) (cI cS : ClassId) (τ : Nat → Option Nat) (ρ : Nat → Nat → Nat) (hW : WF τ ρ) (H : Heap) (hT : TH D cI cS τ ρ H) (a0 : Nat) (ha0 : τ a0 = some 12) (N : Int) (hN0 : 0 ≤ N) (hN1 : N ≤ 600) (hI : IM D ρ N H a0) (hp0 : 0 ≤ (fi D 12 10 H a0).toInt ∧ (fi D 12 10 H a0).toInt ≤ 1000) : MI l D cI cS τ ρ yX12_readsNumber cX12_readsNumber 6 (some .boolean) 2 45 H [.ref a0, .int 1, .int 8, .int 59] (fun (r : Int32) (u : Heap) => (IM D ρ N u a0) ∧ (r = 0 ∨ r = 1) ∧ ((fi D 12 10 H a0).toInt + 1 ≤ (fi D 12 10 u a0).toInt ∧ (fi D 12 10 u a0).toInt ≤ (fi D 12 10 H a0).toInt + 5) ∧ (r.toInt = 1 → (1 ≤ (fi D 12 11 u a0).toInt ∧ (fi D 12 11 u a0).toInt ≤ 8)) ∧ (fi D 12 5 u a0 = fi D 12 5 H a0) ∧ (fi D 12 12 u a0 = fi D 12 12 H a0) ∧ (fi D 12 13 u a0 = fi D 12 13 H a0) ∧ (fi D 12 14 u a0 = fi D 12 14 H a0)) (fun q => q = a0) := by
  refine MI.of (by decide) (Nat.le_of_ble_eq_true rfl) ?_
  intro p e s m args below meth c E hml hr hlk hs ls hl
  have hx := E.1
  have hb := E.2.1
  have hown := E.2.2.1
  have hts := E.2.2.2.1
  have hS : SS (fun q => q = a0) H H [] := SS.rf
  have hl : lv_has ls 6 [(0, .ref a0), (1, .int 1), (2, .int 8), (3, .int 59)] := hl
  have n01 := hI.2.2.2.2.2.1
  have n23 := hI.2.2.2.2.2.2.1
  have bL5 : 0 ≤ (fi D 12 5 H a0).toInt ∧ (fi D 12 5 H a0).toInt ≤ 200 := IF.f5 hI.2.2.2.2.2
  have J_61 : ∀ (H_c61 : Heap) (lc_c61 : List Loc) (ls : Array Slot) (y61_4 : Int32), TH D cI cS τ ρ H_c61 → SS (fun q => q = a0) H H_c61 lc_c61 → lv_has ls 6 [(0, .ref a0), (1, .int 1), (2, .int 8), (3, .int 59), (4, .int y61_4)] → 0 ≤ y61_4.toInt → y61_4.toInt ≤ 4 → IM D ρ N H_c61 a0 → (fi D 12 10 H_c61 a0).toInt = (fi D 12 10 H a0).toInt + y61_4.toInt ∧ y61_4.toInt ≤ 4 → fi D 12 5 H_c61 a0 = fi D 12 5 H a0 → fi D 12 12 H_c61 a0 = fi D 12 12 H a0 → fi D 12 13 H_c61 a0 = fi D 12 13 H a0 → fi D 12 14 H_c61 a0 = fi D 12 14 H a0 → W p l e (rmO 2 45) s m args below meth c H_c61 lc_c61 0 0 (MQ below (va_Qi (fun (r : Int32) (u : Heap) => (IM D ρ N u a0) ∧ (r = 0 ∨ r = 1) ∧ ((fi D 12 10 H a0).toInt + 1 ≤ (fi D 12 10 u a0).toInt ∧ (fi D 12 10 u a0).toInt ≤ (fi D 12 10 H a0).toInt + 5) ∧ (r.toInt = 1 → (1 ≤ (fi D 12 11 u a0).toInt ∧ (fi D 12 11 u a0).toInt ≤ 8)) ∧ (fi D 12 5 u a0 = fi D 12 5 H a0) ∧ (fi D 12 12 u a0 = fi D 12 12 H a0) ∧ (fi D 12 13 u a0 = fi D 12 13 H a0) ∧ (fi D 12 14 u a0 = fi D 12 14 H a0)) (Bt D cI cS τ ρ H) (fun q => q = a0)) args s 0 0 (fun q => q = a0)) (F0 m 61 ls []) := by
    intro H_c61 lc_c61 ls y61_4 hT_c61 hS_c61 hl ly61_4 uy61_4 hI_c61 hx61_0 hf61_5 hf61_12 hf61_13 hf61_14
    refine lv_iload hx hb dX12_readsNumber_61 (lv_at hl 4 rfl) ?_
    obtain ⟨x_1, ex_1⟩ : ∃ y : Int64, y61_4.toInt64 = y := ⟨_, rfl⟩
    refine lv_i2l (v := x_1) hx hb dX12_readsNumber_63 ex_1 ?_
    have q_1 : x_1.toInt = y61_4.toInt := by rw [← ex_1]; exact Int32.toInt_toInt64 _
    refine lv_lconst (v := 1) hx hb dX12_readsNumber_64 (by decide) ?_
    refine lv_ldc2 (v := 3) hx hb hown (hts _ qw_1206) dX12_readsNumber_65 ?_
    refine th_Si (As := [.long x_1, .long 1, .long 3]) (rest := []) E hml hl.1 (y_in_v17 l D cI cS τ ρ hW H_c61 hT_c61 x_1) lk_X12_54 yd_X12_in hS_c61 (fun _ h => h.elim) ⟨by decide, by decide⟩ (Nat.le_of_ble_eq_true rfl) ⟨by decide, by decide⟩ rfl dX12_readsNumber_68 (fun r_2 H_2 locs_2 p_2 hT_2 hk_2 hS_2 => ?_)
    have p_2 : H_c61 = H_2 ∧ (r_2 = 0 ∨ r_2 = 1) ∧ ((r_2.toInt = 1 ∧ 1 ≤ x_1.toInt ∧ x_1.toInt ≤ 3) ∨ (r_2.toInt = 0 ∧ (x_1.toInt < 1 ∨ 3 < x_1.toInt))) := p_2
    obtain ⟨rfl, p_2_0, p_2_1⟩ := p_2
    have z_2 := b_iv p_2_0
    refine lv_if_eq (tgt := 117) hx hb dX12_readsNumber_71 (by decide) (fun c_3 => ?_) (fun c_3 => ?_)
    · have f_3 : r_2.toInt = 0 := r_eq rfl (by decide) c_3
      refine lv_iconst (v := 0) hx hb dX12_readsNumber_117 (by decide) ?_
      refine lv_istore (lv' := [(5, .int 0), (0, .ref a0), (1, .int 1), (2, .int 8), (3, .int 59), (4, .int y61_4)]) hx hb dX12_readsNumber_118 hl (by decide) rfl (fun ls hl => ?_)
      refine lv_aload_n hx hb dX12_readsNumber_120 rfl (lv_at hl 1 rfl) ?_
      refine lv_dup hx hb dX12_readsNumber_121 rfl ?_
      refine gf_X12_44 E hT_2 ha0 dX12_readsNumber_122 ?_
      refine lv_topi (fun x_4 ex_4 => ?_)
      have e_4 : x_4.toInt = (fi D 12 10 H_c61 a0).toInt := congrArg Int32.toInt ex_4
      refine lv_iconst (v := 1) hx hb dX12_readsNumber_125 (by decide) ?_
      refine lv_iadd hx hb dX12_readsNumber_126 ?_
      refine lv_topi (fun x_5 ex_5 => ?_)
      have q_5 : x_5.toInt = x_4.toInt + 1 := i_pl rfl (by decide) ex_5 (by omega) (by omega)
      refine pf_X12_44 E hT_2 hS_2 ha0 rfl dX12_readsNumber_127 (fun H_6 locs_6 hT_6 hU_6 hS_6 => ?_)
      refine lv_iload hx hb dX12_readsNumber_130 (lv_at hl 0 rfl) ?_
      exact th_zret E hr hlk hs (Or.inl rfl) hT_6 hS_6 ⟨⟨(PW.q (hU_6.2.2 _ (th_ne (hW _ 12 0 ha0 (by decide) (by decide) (by decide)) ha0 (by decide))) hI_c61.1), (QS.same (ai_q (hU_6.2.2 _ (th_ne (hW _ 12 0 ha0 (by decide) (by decide) (by decide)) ha0 (by decide)))) (ai_q (hU_6.2.2 _ (th_ne (hW _ 12 0 ha0 (by decide) (by decide) (by decide)) ha0 (by decide)))) hI_c61.2.1), (QS.same (ai_q (hU_6.2.2 _ (th_ne (hW _ 12 0 ha0 (by decide) (by decide) (by decide)) ha0 (by decide)))) (ai_q (hU_6.2.2 _ (th_ne (hW _ 12 0 ha0 (by decide) (by decide) (by decide)) ha0 (by decide)))) hI_c61.2.2.1), (PL.q (hU_6.2.2 _ (th_ne (hW _ 12 2 ha0 (by decide) (by decide) (by decide)) ha0 (by decide))) hI_c61.2.2.2.1), (PL.q (hU_6.2.2 _ (th_ne (hW _ 12 3 ha0 (by decide) (by decide) (by decide)) ha0 (by decide))) hI_c61.2.2.2.2.1), (IF.put hI_c61.2.2.2.2.2 hU_6 (by decide))⟩, (Or.inl rfl), (by have : (0 : Int32).toInt = 0 := (by decide); have : (fi D 12 10 H_6 a0).toInt = (x_5 : Int32).toInt := congrArg Int32.toInt (PU.i hU_6); have : (fi D 12 10 H_c61 a0).toInt = (x_4 : Int32).toInt := congrArg Int32.toInt ex_4.symm; omega), (by have : (0 : Int32).toInt = 0 := (by decide); have : (fi D 12 11 H_6 a0).toInt = (fi D 12 11 H_c61 a0 : Int32).toInt := congrArg Int32.toInt (PU.io hU_6 (j := 11) (by decide) (by decide)); omega), (Eq.trans (PU.io hU_6 (j := 5) (by decide) (by decide)) hf61_5), (Eq.trans (PU.io hU_6 (j := 12) (by decide) (by decide)) hf61_12), (Eq.trans (PU.io hU_6 (j := 13) (by decide) (by decide)) hf61_13), (Eq.trans (PU.io hU_6 (j := 14) (by decide) (by decide)) hf61_14)⟩ dX12_readsNumber_132
    · have f_3 : ¬ r_2.toInt = 0 := r_ne rfl (by decide) c_3
      have nz_r_2 : ¬ r_2 = 0 := c_3
      refine lv_aload_n hx hb dX12_readsNumber_74 rfl (lv_at hl 0 rfl) ?_
      refine gf_X12_58 E hT_2 ha0 dX12_readsNumber_75 ?_
      refine lv_topi (fun x_7 ex_7 => ?_)
      have e_7 : x_7.toInt = (fi D 12 11 H_c61 a0).toInt := congrArg Int32.toInt ex_7
      obtain ⟨x_8, ex_8⟩ : ∃ y : Int64, x_7.toInt64 = y := ⟨_, rfl⟩
      refine lv_i2l (v := x_8) hx hb dX12_readsNumber_78 ex_8 ?_
      have q_8 : x_8.toInt = x_7.toInt := by rw [← ex_8]; exact Int32.toInt_toInt64 _
      refine lv_iload_n hx hb dX12_readsNumber_79 rfl (lv_at hl 1 rfl) ?_
      refine lv_i2l (v := 1) hx hb dX12_readsNumber_80 (by decide) ?_
      refine lv_iload_n hx hb dX12_readsNumber_81 rfl (lv_at hl 2 rfl) ?_
      refine lv_i2l (v := 8) hx hb dX12_readsNumber_82 (by decide) ?_
      refine th_Si (As := [.long x_8, .long 1, .long 8]) (rest := []) E hml hl.1 (y_in_v20 l D cI cS τ ρ hW H_c61 hT_2 x_8) lk_X12_54 yd_X12_in hS_2 (fun _ h => h.elim) ⟨by decide, by decide⟩ (Nat.le_of_ble_eq_true rfl) ⟨by decide, by decide⟩ rfl dX12_readsNumber_83 (fun r_11 H_11 locs_11 p_11 hT_11 hk_11 hS_11 => ?_)
      have p_11 : H_c61 = H_11 ∧ (r_11 = 0 ∨ r_11 = 1) ∧ ((r_11.toInt = 1 ∧ 1 ≤ x_8.toInt ∧ x_8.toInt ≤ 8) ∨ (r_11.toInt = 0 ∧ (x_8.toInt < 1 ∨ 8 < x_8.toInt))) := p_11
      obtain ⟨rfl, p_11_0, p_11_1⟩ := p_11
      have z_11 := b_iv p_11_0
      refine lv_if_eq (tgt := 117) hx hb dX12_readsNumber_86 (by decide) (fun c_12 => ?_) (fun c_12 => ?_)
      · have f_12 : r_11.toInt = 0 := r_eq rfl (by decide) c_12
        refine lv_iconst (v := 0) hx hb dX12_readsNumber_117 (by decide) ?_
        refine lv_istore (lv' := [(5, .int 0), (0, .ref a0), (1, .int 1), (2, .int 8), (3, .int 59), (4, .int y61_4)]) hx hb dX12_readsNumber_118 hl (by decide) rfl (fun ls hl => ?_)
        refine lv_aload_n hx hb dX12_readsNumber_120 rfl (lv_at hl 1 rfl) ?_
        refine lv_dup hx hb dX12_readsNumber_121 rfl ?_
        refine gf_X12_44 E hT_11 ha0 dX12_readsNumber_122 ?_
        refine lv_topi (fun x_13 ex_13 => ?_)
        have e_13 : x_13.toInt = (fi D 12 10 H_c61 a0).toInt := congrArg Int32.toInt ex_13
        refine lv_iconst (v := 1) hx hb dX12_readsNumber_125 (by decide) ?_
        refine lv_iadd hx hb dX12_readsNumber_126 ?_
        refine lv_topi (fun x_14 ex_14 => ?_)
        have q_14 : x_14.toInt = x_13.toInt + 1 := i_pl rfl (by decide) ex_14 (by omega) (by omega)
        refine pf_X12_44 E hT_11 hS_11 ha0 rfl dX12_readsNumber_127 (fun H_15 locs_15 hT_15 hU_15 hS_15 => ?_)
        refine lv_iload hx hb dX12_readsNumber_130 (lv_at hl 0 rfl) ?_
        exact th_zret E hr hlk hs (Or.inl rfl) hT_15 hS_15 ⟨⟨(PW.q (hU_15.2.2 _ (th_ne (hW _ 12 0 ha0 (by decide) (by decide) (by decide)) ha0 (by decide))) hI_c61.1), (QS.same (ai_q (hU_15.2.2 _ (th_ne (hW _ 12 0 ha0 (by decide) (by decide) (by decide)) ha0 (by decide)))) (ai_q (hU_15.2.2 _ (th_ne (hW _ 12 0 ha0 (by decide) (by decide) (by decide)) ha0 (by decide)))) hI_c61.2.1), (QS.same (ai_q (hU_15.2.2 _ (th_ne (hW _ 12 0 ha0 (by decide) (by decide) (by decide)) ha0 (by decide)))) (ai_q (hU_15.2.2 _ (th_ne (hW _ 12 0 ha0 (by decide) (by decide) (by decide)) ha0 (by decide)))) hI_c61.2.2.1), (PL.q (hU_15.2.2 _ (th_ne (hW _ 12 2 ha0 (by decide) (by decide) (by decide)) ha0 (by decide))) hI_c61.2.2.2.1), (PL.q (hU_15.2.2 _ (th_ne (hW _ 12 3 ha0 (by decide) (by decide) (by decide)) ha0 (by decide))) hI_c61.2.2.2.2.1), (IF.put hI_c61.2.2.2.2.2 hU_15 (by decide))⟩, (Or.inl rfl), (by have : (0 : Int32).toInt = 0 := (by decide); have : (fi D 12 10 H_15 a0).toInt = (x_14 : Int32).toInt := congrArg Int32.toInt (PU.i hU_15); have : (fi D 12 10 H_c61 a0).toInt = (x_13 : Int32).toInt := congrArg Int32.toInt ex_13.symm; omega), (by have : (0 : Int32).toInt = 0 := (by decide); have : (fi D 12 11 H_15 a0).toInt = (x_7 : Int32).toInt := congrArg Int32.toInt (Eq.trans (PU.io hU_15 (j := 11) (by decide) (by decide)) ex_7.symm); have : (fi D 12 11 H_c61 a0).toInt = (x_7 : Int32).toInt := congrArg Int32.toInt ex_7.symm; omega), (Eq.trans (PU.io hU_15 (j := 5) (by decide) (by decide)) hf61_5), (Eq.trans (PU.io hU_15 (j := 12) (by decide) (by decide)) hf61_12), (Eq.trans (PU.io hU_15 (j := 13) (by decide) (by decide)) hf61_13), (Eq.trans (PU.io hU_15 (j := 14) (by decide) (by decide)) hf61_14)⟩ dX12_readsNumber_132
      · have f_12 : ¬ r_11.toInt = 0 := r_ne rfl (by decide) c_12
        have nz_r_11 : ¬ r_11 = 0 := c_12
        refine lv_aload_n hx hb dX12_readsNumber_89 rfl (lv_at hl 0 rfl) ?_
        refine gf_X12_44 E hT_11 ha0 dX12_readsNumber_90 ?_
        refine lv_topi (fun x_16 ex_16 => ?_)
        have e_16 : x_16.toInt = (fi D 12 10 H_c61 a0).toInt := congrArg Int32.toInt ex_16
        refine lv_aload_n hx hb dX12_readsNumber_93 rfl (lv_at hl 0 rfl) ?_
        refine gf_X12_47 E hT_11 ha0 dX12_readsNumber_94 ?_
        refine th_topi (y := fi D 12 5 H a0) hf61_5 ?_
        refine lv_topi (fun x_17 ex_17 => ?_)
        have e_17 : x_17.toInt = (fi D 12 5 H a0).toInt := congrArg Int32.toInt ex_17
        have b_17 : 0 ≤ x_17.toInt ∧ x_17.toInt ≤ 200 := by rw [ex_17]; exact IF.f5 hI.2.2.2.2.2
        refine lv_icmp_ge (tgt := 117) hx hb dX12_readsNumber_97 (by decide) (fun c_18 => ?_) (fun c_18 => ?_)
        · have f_18 : x_17.toInt ≤ x_16.toInt := r_le rfl rfl c_18
          refine lv_iconst (v := 0) hx hb dX12_readsNumber_117 (by decide) ?_
          refine lv_istore (lv' := [(5, .int 0), (0, .ref a0), (1, .int 1), (2, .int 8), (3, .int 59), (4, .int y61_4)]) hx hb dX12_readsNumber_118 hl (by decide) rfl (fun ls hl => ?_)
          refine lv_aload_n hx hb dX12_readsNumber_120 rfl (lv_at hl 1 rfl) ?_
          refine lv_dup hx hb dX12_readsNumber_121 rfl ?_
          refine gf_X12_44 E hT_11 ha0 dX12_readsNumber_122 ?_
          refine th_topi (y := x_16) ex_16.symm ?_
          refine lv_iconst (v := 1) hx hb dX12_readsNumber_125 (by decide) ?_
          refine lv_iadd hx hb dX12_readsNumber_126 ?_
          refine lv_topi (fun x_19 ex_19 => ?_)
          have q_19 : x_19.toInt = x_16.toInt + 1 := i_pl rfl (by decide) ex_19 (by omega) (by omega)
          refine pf_X12_44 E hT_11 hS_11 ha0 rfl dX12_readsNumber_127 (fun H_20 locs_20 hT_20 hU_20 hS_20 => ?_)
          refine lv_iload hx hb dX12_readsNumber_130 (lv_at hl 0 rfl) ?_
          exact th_zret E hr hlk hs (Or.inl rfl) hT_20 hS_20 ⟨⟨(PW.q (hU_20.2.2 _ (th_ne (hW _ 12 0 ha0 (by decide) (by decide) (by decide)) ha0 (by decide))) hI_c61.1), (QS.same (ai_q (hU_20.2.2 _ (th_ne (hW _ 12 0 ha0 (by decide) (by decide) (by decide)) ha0 (by decide)))) (ai_q (hU_20.2.2 _ (th_ne (hW _ 12 0 ha0 (by decide) (by decide) (by decide)) ha0 (by decide)))) hI_c61.2.1), (QS.same (ai_q (hU_20.2.2 _ (th_ne (hW _ 12 0 ha0 (by decide) (by decide) (by decide)) ha0 (by decide)))) (ai_q (hU_20.2.2 _ (th_ne (hW _ 12 0 ha0 (by decide) (by decide) (by decide)) ha0 (by decide)))) hI_c61.2.2.1), (PL.q (hU_20.2.2 _ (th_ne (hW _ 12 2 ha0 (by decide) (by decide) (by decide)) ha0 (by decide))) hI_c61.2.2.2.1), (PL.q (hU_20.2.2 _ (th_ne (hW _ 12 3 ha0 (by decide) (by decide) (by decide)) ha0 (by decide))) hI_c61.2.2.2.2.1), (IF.put hI_c61.2.2.2.2.2 hU_20 (by decide))⟩, (Or.inl rfl), (by have : (0 : Int32).toInt = 0 := (by decide); have : (fi D 12 10 H_20 a0).toInt = (x_19 : Int32).toInt := congrArg Int32.toInt (PU.i hU_20); have : (fi D 12 10 H_c61 a0).toInt = (x_16 : Int32).toInt := congrArg Int32.toInt ex_16.symm; omega), (by have : (0 : Int32).toInt = 0 := (by decide); have : (fi D 12 11 H_20 a0).toInt = (x_7 : Int32).toInt := congrArg Int32.toInt (Eq.trans (PU.io hU_20 (j := 11) (by decide) (by decide)) ex_7.symm); have : (fi D 12 11 H_c61 a0).toInt = (x_7 : Int32).toInt := congrArg Int32.toInt ex_7.symm; omega), ((Eq.trans (PU.io hU_20 (j := 5) (by decide) (by decide)) (hf61_5.trans ex_17.symm)).trans ex_17.symm.symm), (Eq.trans (PU.io hU_20 (j := 12) (by decide) (by decide)) hf61_12), (Eq.trans (PU.io hU_20 (j := 13) (by decide) (by decide)) hf61_13), (Eq.trans (PU.io hU_20 (j := 14) (by decide) (by decide)) hf61_14)⟩ dX12_readsNumber_132
        · have f_18 : x_16.toInt < x_17.toInt := r_nle rfl rfl c_18
          refine lv_aload_n hx hb dX12_readsNumber_100 rfl (lv_at hl 0 rfl) ?_
          refine gf_X12_22 E hT_11 hW ha0 dX12_readsNumber_101 (fun h_21 => ?_)
          refine lv_aload_n hx hb dX12_readsNumber_104 rfl (lv_at hl 0 rfl) ?_
          refine gf_X12_44 E hT_11 ha0 dX12_readsNumber_105 ?_
          refine th_topi (y := x_16) ex_16.symm ?_
          refine th_iald E hT_11 h_21 (by decide) (vp_in_iff.mpr ⟨by omega, by omega⟩) dX12_readsNumber_108 ?_
          refine th_topi (y := ai H_c61 (ρ a0 4) x_16.toInt.toNat) rfl ?_
          refine lv_topi (fun x_22 ex_22 => ?_)
          refine lv_iload_n hx hb dX12_readsNumber_109 rfl (lv_at hl 3 rfl) ?_
          refine lv_icmp_ne (tgt := 117) hx hb dX12_readsNumber_110 (by decide) (fun c_23 => ?_) (fun c_23 => ?_)
          · have f_23 : ¬ x_22.toInt = 59 := r_ne rfl (by decide) c_23
            refine lv_iconst (v := 0) hx hb dX12_readsNumber_117 (by decide) ?_
            refine lv_istore (lv' := [(5, .int 0), (0, .ref a0), (1, .int 1), (2, .int 8), (3, .int 59), (4, .int y61_4)]) hx hb dX12_readsNumber_118 hl (by decide) rfl (fun ls hl => ?_)
            refine lv_aload_n hx hb dX12_readsNumber_120 rfl (lv_at hl 1 rfl) ?_
            refine lv_dup hx hb dX12_readsNumber_121 rfl ?_
            refine gf_X12_44 E hT_11 ha0 dX12_readsNumber_122 ?_
            refine th_topi (y := x_16) ex_16.symm ?_
            refine lv_iconst (v := 1) hx hb dX12_readsNumber_125 (by decide) ?_
            refine lv_iadd hx hb dX12_readsNumber_126 ?_
            refine lv_topi (fun x_24 ex_24 => ?_)
            have q_24 : x_24.toInt = x_16.toInt + 1 := i_pl rfl (by decide) ex_24 (by omega) (by omega)
            refine pf_X12_44 E hT_11 hS_11 ha0 rfl dX12_readsNumber_127 (fun H_25 locs_25 hT_25 hU_25 hS_25 => ?_)
            refine lv_iload hx hb dX12_readsNumber_130 (lv_at hl 0 rfl) ?_
            exact th_zret E hr hlk hs (Or.inl rfl) hT_25 hS_25 ⟨⟨(PW.q (hU_25.2.2 _ (th_ne (hW _ 12 0 ha0 (by decide) (by decide) (by decide)) ha0 (by decide))) hI_c61.1), (QS.same (ai_q (hU_25.2.2 _ (th_ne (hW _ 12 0 ha0 (by decide) (by decide) (by decide)) ha0 (by decide)))) (ai_q (hU_25.2.2 _ (th_ne (hW _ 12 0 ha0 (by decide) (by decide) (by decide)) ha0 (by decide)))) hI_c61.2.1), (QS.same (ai_q (hU_25.2.2 _ (th_ne (hW _ 12 0 ha0 (by decide) (by decide) (by decide)) ha0 (by decide)))) (ai_q (hU_25.2.2 _ (th_ne (hW _ 12 0 ha0 (by decide) (by decide) (by decide)) ha0 (by decide)))) hI_c61.2.2.1), (PL.q (hU_25.2.2 _ (th_ne (hW _ 12 2 ha0 (by decide) (by decide) (by decide)) ha0 (by decide))) hI_c61.2.2.2.1), (PL.q (hU_25.2.2 _ (th_ne (hW _ 12 3 ha0 (by decide) (by decide) (by decide)) ha0 (by decide))) hI_c61.2.2.2.2.1), (IF.put hI_c61.2.2.2.2.2 hU_25 (by decide))⟩, (Or.inl rfl), (by have : (0 : Int32).toInt = 0 := (by decide); have : (fi D 12 10 H_25 a0).toInt = (x_24 : Int32).toInt := congrArg Int32.toInt (PU.i hU_25); have : (fi D 12 10 H_c61 a0).toInt = (x_16 : Int32).toInt := congrArg Int32.toInt ex_16.symm; omega), (by have : (0 : Int32).toInt = 0 := (by decide); have : (fi D 12 11 H_25 a0).toInt = (x_7 : Int32).toInt := congrArg Int32.toInt (Eq.trans (PU.io hU_25 (j := 11) (by decide) (by decide)) ex_7.symm); have : (fi D 12 11 H_c61 a0).toInt = (x_7 : Int32).toInt := congrArg Int32.toInt ex_7.symm; omega), ((Eq.trans (PU.io hU_25 (j := 5) (by decide) (by decide)) (hf61_5.trans ex_17.symm)).trans ex_17.symm.symm), (Eq.trans (PU.io hU_25 (j := 12) (by decide) (by decide)) hf61_12), (Eq.trans (PU.io hU_25 (j := 13) (by decide) (by decide)) hf61_13), (Eq.trans (PU.io hU_25 (j := 14) (by decide) (by decide)) hf61_14)⟩ dX12_readsNumber_132
          · have f_23 : x_22.toInt = 59 := r_eq rfl (by decide) c_23
            refine lv_iconst (v := 1) hx hb dX12_readsNumber_113 (by decide) ?_
            refine lv_goto (tgt := 118) hx hb dX12_readsNumber_114 (by decide) ?_
            refine lv_istore (lv' := [(5, .int 1), (0, .ref a0), (1, .int 1), (2, .int 8), (3, .int 59), (4, .int y61_4)]) hx hb dX12_readsNumber_118 hl (by decide) rfl (fun ls hl => ?_)
            refine lv_aload_n hx hb dX12_readsNumber_120 rfl (lv_at hl 1 rfl) ?_
            refine lv_dup hx hb dX12_readsNumber_121 rfl ?_
            refine gf_X12_44 E hT_11 ha0 dX12_readsNumber_122 ?_
            refine th_topi (y := x_16) ex_16.symm ?_
            refine lv_iconst (v := 1) hx hb dX12_readsNumber_125 (by decide) ?_
            refine lv_iadd hx hb dX12_readsNumber_126 ?_
            refine lv_topi (fun x_26 ex_26 => ?_)
            have q_26 : x_26.toInt = x_16.toInt + 1 := i_pl rfl (by decide) ex_26 (by omega) (by omega)
            refine pf_X12_44 E hT_11 hS_11 ha0 rfl dX12_readsNumber_127 (fun H_27 locs_27 hT_27 hU_27 hS_27 => ?_)
            refine lv_iload hx hb dX12_readsNumber_130 (lv_at hl 0 rfl) ?_
            exact th_zret E hr hlk hs (Or.inr rfl) hT_27 hS_27 ⟨⟨(PW.q (hU_27.2.2 _ (th_ne (hW _ 12 0 ha0 (by decide) (by decide) (by decide)) ha0 (by decide))) hI_c61.1), (QS.same (ai_q (hU_27.2.2 _ (th_ne (hW _ 12 0 ha0 (by decide) (by decide) (by decide)) ha0 (by decide)))) (ai_q (hU_27.2.2 _ (th_ne (hW _ 12 0 ha0 (by decide) (by decide) (by decide)) ha0 (by decide)))) hI_c61.2.1), (QS.same (ai_q (hU_27.2.2 _ (th_ne (hW _ 12 0 ha0 (by decide) (by decide) (by decide)) ha0 (by decide)))) (ai_q (hU_27.2.2 _ (th_ne (hW _ 12 0 ha0 (by decide) (by decide) (by decide)) ha0 (by decide)))) hI_c61.2.2.1), (PL.q (hU_27.2.2 _ (th_ne (hW _ 12 2 ha0 (by decide) (by decide) (by decide)) ha0 (by decide))) hI_c61.2.2.2.1), (PL.q (hU_27.2.2 _ (th_ne (hW _ 12 3 ha0 (by decide) (by decide) (by decide)) ha0 (by decide))) hI_c61.2.2.2.2.1), (IF.put hI_c61.2.2.2.2.2 hU_27 (by decide))⟩, (Or.inr rfl), (by have : (1 : Int32).toInt = 1 := (by decide); have : (fi D 12 10 H_27 a0).toInt = (x_26 : Int32).toInt := congrArg Int32.toInt (PU.i hU_27); have : (fi D 12 10 H_c61 a0).toInt = (x_16 : Int32).toInt := congrArg Int32.toInt ex_16.symm; omega), (by have : (1 : Int32).toInt = 1 := (by decide); have : (fi D 12 11 H_27 a0).toInt = (x_7 : Int32).toInt := congrArg Int32.toInt (Eq.trans (PU.io hU_27 (j := 11) (by decide) (by decide)) ex_7.symm); have : (fi D 12 11 H_c61 a0).toInt = (x_7 : Int32).toInt := congrArg Int32.toInt ex_7.symm; omega), ((Eq.trans (PU.io hU_27 (j := 5) (by decide) (by decide)) (hf61_5.trans ex_17.symm)).trans ex_17.symm.symm), (Eq.trans (PU.io hU_27 (j := 12) (by decide) (by decide)) hf61_12), (Eq.trans (PU.io hU_27 (j := 13) (by decide) (by decide)) hf61_13), (Eq.trans (PU.io hU_27 (j := 14) (by decide) (by decide)) hf61_14)⟩ dX12_readsNumber_132
  have L_8 : ∀ (n : Nat) (H_c8 : Heap) (lc_c8 : List Loc) (ls : Array Slot) (y8_4 : Int32), TH D cI cS τ ρ H_c8 → SS (fun q => q = a0) H H_c8 lc_c8 → lv_has ls 6 [(0, .ref a0), (1, .int 1), (2, .int 8), (3, .int 59), (4, .int y8_4)] → 0 ≤ y8_4.toInt → y8_4.toInt ≤ 4 → IM D ρ N H_c8 a0 → (fi D 12 10 H_c8 a0).toInt = (fi D 12 10 H a0).toInt + y8_4.toInt ∧ y8_4.toInt ≤ 4 → fi D 12 5 H_c8 a0 = fi D 12 5 H a0 → fi D 12 12 H_c8 a0 = fi D 12 12 H a0 → fi D 12 13 H_c8 a0 = fi D 12 13 H a0 → fi D 12 14 H_c8 a0 = fi D 12 14 H a0 → (5 - y8_4.toInt).toNat < n → W p l e (rmO 2 45) s m args below meth c H_c8 lc_c8 0 0 (MQ below (va_Qi (fun (r : Int32) (u : Heap) => (IM D ρ N u a0) ∧ (r = 0 ∨ r = 1) ∧ ((fi D 12 10 H a0).toInt + 1 ≤ (fi D 12 10 u a0).toInt ∧ (fi D 12 10 u a0).toInt ≤ (fi D 12 10 H a0).toInt + 5) ∧ (r.toInt = 1 → (1 ≤ (fi D 12 11 u a0).toInt ∧ (fi D 12 11 u a0).toInt ≤ 8)) ∧ (fi D 12 5 u a0 = fi D 12 5 H a0) ∧ (fi D 12 12 u a0 = fi D 12 12 H a0) ∧ (fi D 12 13 u a0 = fi D 12 13 H a0) ∧ (fi D 12 14 u a0 = fi D 12 14 H a0)) (Bt D cI cS τ ρ H) (fun q => q = a0)) args s 0 0 (fun q => q = a0)) (F0 m 8 ls []) := by
    intro n
    induction n with
    | zero => intro H_c8 lc_c8 ls y8_4 hT_c8 hS_c8 hl ly8_4 uy8_4 hI_c8 hx8_0 hf8_5 hf8_12 hf8_13 hf8_14 hm; exact absurd hm (Nat.not_lt_zero _)
    | succ n ih_8 =>
      intro H_c8 lc_c8 ls y8_4 hT_c8 hS_c8 hl ly8_4 uy8_4 hI_c8 hx8_0 hf8_5 hf8_12 hf8_13 hf8_14 hm_8
      refine lv_aload_n hx hb dX12_readsNumber_8 rfl (lv_at hl 0 rfl) ?_
      refine th_Vi (As := []) (rest := []) E hml hl.1 (y_isFigure l D cI cS τ ρ hW H_c8 hT_c8 a0 ha0 N hN0 hN1 ⟨hI_c8.1, hI_c8.2.1, hI_c8.2.2.1, hI_c8.2.2.2.1, hI_c8.2.2.2.2.1, hI_c8.2.2.2.2.2⟩ (by omega)) lk_X12_61 yd_X12_isFigure hT_c8 ha0 rfl (by decide) hS_c8 (fun _ h => h.elim) ⟨by decide, by decide⟩ (Nat.le_of_ble_eq_true rfl) ⟨by decide, by decide⟩ rfl dX12_readsNumber_9 (fun r_28 H_28 locs_28 p_28 hT_28 hk_28 hS_28 => ?_)
      have p_28 : H_c8 = H_28 ∧ (r_28 = 0 ∨ r_28 = 1) ∧ (r_28.toInt = 1 → (fi D 12 10 H_c8 a0).toInt < 200) := p_28
      obtain ⟨rfl, p_28_0, p_28_1⟩ := p_28
      have z_28 := b_iv p_28_0
      refine lv_if_eq (tgt := 61) hx hb dX12_readsNumber_12 (by decide) (fun c_29 => ?_) (fun c_29 => ?_)
      · have f_29 : r_28.toInt = 0 := r_eq rfl (by decide) c_29
        exact J_61 H_c8 locs_28 _ y8_4 hT_28 hS_28 hl (by omega) (by omega) ⟨hI_c8.1, hI_c8.2.1, hI_c8.2.2.1, hI_c8.2.2.2.1, hI_c8.2.2.2.2.1, hI_c8.2.2.2.2.2⟩ (by omega) hf8_5 hf8_12 hf8_13 hf8_14
      · have f_29 : ¬ r_28.toInt = 0 := r_ne rfl (by decide) c_29
        have nz_r_28 : ¬ r_28 = 0 := c_29
        refine lv_iload hx hb dX12_readsNumber_15 (lv_at hl 4 rfl) ?_
        refine lv_iconst (v := 4) hx hb dX12_readsNumber_17 (by decide) ?_
        refine lv_icmp_ge (tgt := 61) hx hb dX12_readsNumber_18 (by decide) (fun c_30 => ?_) (fun c_30 => ?_)
        · have f_30 : 4 ≤ y8_4.toInt := r_le (by decide) rfl c_30
          exact J_61 H_c8 locs_28 _ y8_4 hT_28 hS_28 hl (by omega) (by omega) ⟨hI_c8.1, hI_c8.2.1, hI_c8.2.2.1, hI_c8.2.2.2.1, hI_c8.2.2.2.2.1, hI_c8.2.2.2.2.2⟩ (by omega) hf8_5 hf8_12 hf8_13 hf8_14
        · have f_30 : y8_4.toInt < 4 := r_nle (by decide) rfl c_30
          refine lv_aload_n hx hb dX12_readsNumber_21 rfl (lv_at hl 0 rfl) ?_
          refine lv_bipush (v := 10) hx hb dX12_readsNumber_22 (by decide) ?_
          refine lv_aload_n hx hb dX12_readsNumber_24 rfl (lv_at hl 0 rfl) ?_
          refine gf_X12_58 E hT_28 ha0 dX12_readsNumber_25 ?_
          refine lv_topi (fun x_31 ex_31 => ?_)
          have e_31 : x_31.toInt = (fi D 12 11 H_c8 a0).toInt := congrArg Int32.toInt ex_31
          refine lv_imul hx hb dX12_readsNumber_28 ?_
          refine lv_topi (fun x_32 ex_32 => ?_)
          refine lv_aload_n hx hb dX12_readsNumber_29 rfl (lv_at hl 0 rfl) ?_
          refine gf_X12_22 E hT_28 hW ha0 dX12_readsNumber_30 (fun h_33 => ?_)
          refine lv_aload_n hx hb dX12_readsNumber_33 rfl (lv_at hl 0 rfl) ?_
          refine gf_X12_44 E hT_28 ha0 dX12_readsNumber_34 ?_
          refine lv_topi (fun x_34 ex_34 => ?_)
          have e_34 : x_34.toInt = (fi D 12 10 H_c8 a0).toInt := congrArg Int32.toInt ex_34
          refine th_iald E hT_28 h_33 (by decide) (vp_in_iff.mpr ⟨by omega, by omega⟩) dX12_readsNumber_37 ?_
          refine th_topi (y := ai H_c8 (ρ a0 4) x_34.toInt.toNat) rfl ?_
          refine lv_topi (fun x_35 ex_35 => ?_)
          refine lv_iadd hx hb dX12_readsNumber_38 ?_
          refine lv_topi (fun x_36 ex_36 => ?_)
          refine lv_bipush (v := 48) hx hb dX12_readsNumber_39 (by decide) ?_
          refine lv_isub hx hb dX12_readsNumber_41 ?_
          refine lv_topi (fun x_37 ex_37 => ?_)
          refine pf_X12_58 E hT_28 hS_28 ha0 rfl dX12_readsNumber_42 (fun H_38 locs_38 hT_38 hU_38 hS_38 => ?_)
          obtain ⟨x_39, ex_39⟩ : ∃ y : Int32, y8_4 + 1 = y := ⟨_, rfl⟩
          have q_x_39 : x_39.toInt = y8_4.toInt + 1 := i_add (k := 1) (by decide) ex_39 (by have := i_min y8_4; omega) (by have := i_max y8_4; omega)
          refine lv_iinc (v := x_39) (lv' := [(4, .int x_39), (0, .ref a0), (1, .int 1), (2, .int 8), (3, .int 59)]) hx hb dX12_readsNumber_45 hl (k := 4) rfl (by rw [← ex_39]; rfl) (by decide) rfl (fun ls hl => ?_)
          refine lv_aload_n hx hb dX12_readsNumber_48 rfl (lv_at hl 1 rfl) ?_
          refine lv_dup hx hb dX12_readsNumber_49 rfl ?_
          refine gf_X12_44 E hT_38 ha0 dX12_readsNumber_50 ?_
          refine th_topi (y := x_34) (Eq.trans (PU.io hU_38 (j := 10) (by decide) (by decide)) ex_34.symm) ?_
          refine lv_iconst (v := 1) hx hb dX12_readsNumber_53 (by decide) ?_
          refine lv_iadd hx hb dX12_readsNumber_54 ?_
          refine lv_topi (fun x_40 ex_40 => ?_)
          have q_40 : x_40.toInt = x_34.toInt + 1 := i_pl rfl (by decide) ex_40 (by omega) (by omega)
          refine pf_X12_44 E hT_38 hS_38 ha0 rfl dX12_readsNumber_55 (fun H_41 locs_41 hT_41 hU_41 hS_41 => ?_)
          refine lv_goto (tgt := 8) hx hb dX12_readsNumber_58 (by decide) ?_
          exact ih_8 H_41 locs_41 _ x_39 hT_41 hS_41 (lv_sub hl [1, 2, 3, 4, 0] rfl) (by omega) (by omega) ⟨(PW.q (hU_41.2.2 _ (th_ne (hW _ 12 0 ha0 (by decide) (by decide) (by decide)) ha0 (by decide))) (PW.q (hU_38.2.2 _ (th_ne (hW _ 12 0 ha0 (by decide) (by decide) (by decide)) ha0 (by decide))) hI_c8.1)), (QS.same (Eq.trans (ai_q (hU_41.2.2 _ (th_ne (hW _ 12 0 ha0 (by decide) (by decide) (by decide)) ha0 (by decide)))) (ai_q (hU_38.2.2 _ (th_ne (hW _ 12 0 ha0 (by decide) (by decide) (by decide)) ha0 (by decide))))) (Eq.trans (ai_q (hU_41.2.2 _ (th_ne (hW _ 12 0 ha0 (by decide) (by decide) (by decide)) ha0 (by decide)))) (ai_q (hU_38.2.2 _ (th_ne (hW _ 12 0 ha0 (by decide) (by decide) (by decide)) ha0 (by decide))))) hI_c8.2.1), (QS.same (Eq.trans (ai_q (hU_41.2.2 _ (th_ne (hW _ 12 0 ha0 (by decide) (by decide) (by decide)) ha0 (by decide)))) (ai_q (hU_38.2.2 _ (th_ne (hW _ 12 0 ha0 (by decide) (by decide) (by decide)) ha0 (by decide))))) (Eq.trans (ai_q (hU_41.2.2 _ (th_ne (hW _ 12 0 ha0 (by decide) (by decide) (by decide)) ha0 (by decide)))) (ai_q (hU_38.2.2 _ (th_ne (hW _ 12 0 ha0 (by decide) (by decide) (by decide)) ha0 (by decide))))) hI_c8.2.2.1), (PL.q (hU_41.2.2 _ (th_ne (hW _ 12 2 ha0 (by decide) (by decide) (by decide)) ha0 (by decide))) (PL.q (hU_38.2.2 _ (th_ne (hW _ 12 2 ha0 (by decide) (by decide) (by decide)) ha0 (by decide))) hI_c8.2.2.2.1)), (PL.q (hU_41.2.2 _ (th_ne (hW _ 12 3 ha0 (by decide) (by decide) (by decide)) ha0 (by decide))) (PL.q (hU_38.2.2 _ (th_ne (hW _ 12 3 ha0 (by decide) (by decide) (by decide)) ha0 (by decide))) hI_c8.2.2.2.2.1)), (IF.put (IF.put hI_c8.2.2.2.2.2 hU_38 (by decide)) hU_41 (by decide))⟩ (by have : (fi D 12 10 H_41 a0).toInt = (x_40 : Int32).toInt := congrArg Int32.toInt (PU.i hU_41); have : (fi D 12 10 H_c8 a0).toInt = (x_34 : Int32).toInt := congrArg Int32.toInt ex_34.symm; omega) (Eq.trans (PU.io hU_41 (j := 5) (by decide) (by decide)) (Eq.trans (PU.io hU_38 (j := 5) (by decide) (by decide)) hf8_5)) (Eq.trans (PU.io hU_41 (j := 12) (by decide) (by decide)) (Eq.trans (PU.io hU_38 (j := 12) (by decide) (by decide)) hf8_12)) (Eq.trans (PU.io hU_41 (j := 13) (by decide) (by decide)) (Eq.trans (PU.io hU_38 (j := 13) (by decide) (by decide)) hf8_13)) (Eq.trans (PU.io hU_41 (j := 14) (by decide) (by decide)) (Eq.trans (PU.io hU_38 (j := 14) (by decide) (by decide)) hf8_14)) (by omega)
  refine lv_iconst (v := 0) hx hb dX12_readsNumber_0 (by decide) ?_
  refine lv_istore (lv' := [(4, .int 0), (0, .ref a0), (1, .int 1), (2, .int 8), (3, .int 59)]) hx hb dX12_readsNumber_1 hl (by decide) rfl (fun ls hl => ?_)
  refine lv_aload_n hx hb dX12_readsNumber_3 rfl (lv_at hl 1 rfl) ?_
  refine lv_iconst (v := 0) hx hb dX12_readsNumber_4 (by decide) ?_
  refine pf_X12_58 E hT hS ha0 rfl dX12_readsNumber_5 (fun H_42 locs_42 hT_42 hU_42 hS_42 => ?_)
  exact L_8 _ H_42 locs_42 _ 0 hT_42 hS_42 (lv_sub hl [1, 2, 3, 4, 0] rfl) (by decide) (by decide) ⟨(PW.q (hU_42.2.2 _ (th_ne (hW _ 12 0 ha0 (by decide) (by decide) (by decide)) ha0 (by decide))) hI.1), (QS.same (ai_q (hU_42.2.2 _ (th_ne (hW _ 12 0 ha0 (by decide) (by decide) (by decide)) ha0 (by decide)))) (ai_q (hU_42.2.2 _ (th_ne (hW _ 12 0 ha0 (by decide) (by decide) (by decide)) ha0 (by decide)))) hI.2.1), (QS.same (ai_q (hU_42.2.2 _ (th_ne (hW _ 12 0 ha0 (by decide) (by decide) (by decide)) ha0 (by decide)))) (ai_q (hU_42.2.2 _ (th_ne (hW _ 12 0 ha0 (by decide) (by decide) (by decide)) ha0 (by decide)))) hI.2.2.1), (PL.q (hU_42.2.2 _ (th_ne (hW _ 12 2 ha0 (by decide) (by decide) (by decide)) ha0 (by decide))) hI.2.2.2.1), (PL.q (hU_42.2.2 _ (th_ne (hW _ 12 3 ha0 (by decide) (by decide) (by decide)) ha0 (by decide))) hI.2.2.2.2.1), (IF.put hI.2.2.2.2.2 hU_42 (by decide))⟩ (by have : (fi D 12 10 H_42 a0).toInt = (fi D 12 10 H a0 : Int32).toInt := congrArg Int32.toInt (PU.io hU_42 (j := 10) (by decide) (by decide)); have : (0 : Int32).toInt = 0 := (by decide); omega) (PU.io hU_42 (j := 5) (by decide) (by decide)) (PU.io hU_42 (j := 12) (by decide) (by decide)) (PU.io hU_42 (j := 13) (by decide) (by decide)) (PU.io hU_42 (j := 14) (by decide) (by decide)) (Nat.lt_succ_self _)
set_option maxHeartbeats 4000000 in
set_option maxRecDepth 100000 in
/-- the reference: readsItem -/
theorem y_readsItem (l : Launch) (D : va_G) (cI cS : ClassId) (τ : Nat → Option Nat) (ρ : Nat → Nat → Nat) (hW : WF τ ρ) (H : Heap) (hT : TH D cI cS τ ρ H) (a0 : Nat) (ha0 : τ a0 = some 12) (N : Int) (hN0 : 0 ≤ N) (hN1 : N ≤ 600) (hI : IM D ρ N H a0) (hp0 : 0 ≤ (fi D 12 10 H a0).toInt ∧ (fi D 12 10 H a0).toInt < (fi D 12 5 H a0).toInt) (hp1 : 1 ≤ (fi D 12 12 H a0).toInt ∧ (fi D 12 12 H a0).toInt ≤ 8 ∧ 2 ≤ (fi D 12 13 H a0).toInt ∧ (fi D 12 13 H a0).toInt ≤ 32 ∧ 1 ≤ (fi D 12 14 H a0).toInt ∧ (fi D 12 14 H a0).toInt ≤ 20) : MI l D cI cS τ ρ yX12_readsItem cX12_readsItem 3 (some .boolean) 3 70 H [.ref a0] (fun (r : Int32) (u : Heap) => (IM D ρ N u a0) ∧ (r = 0 ∨ r = 1) ∧ ((fi D 12 10 H a0).toInt + 1 ≤ (fi D 12 10 u a0).toInt ∧ (fi D 12 10 u a0).toInt ≤ (fi D 12 10 H a0).toInt + 11) ∧ (r.toInt = 1 → (1 ≤ (fi D 12 12 u a0).toInt ∧ (fi D 12 12 u a0).toInt ≤ 8 ∧ 2 ≤ (fi D 12 13 u a0).toInt ∧ (fi D 12 13 u a0).toInt ≤ 32 ∧ 1 ≤ (fi D 12 14 u a0).toInt ∧ (fi D 12 14 u a0).toInt ≤ 20)) ∧ (fi D 12 5 u a0 = fi D 12 5 H a0)) (fun q => q = a0 ∨ q = ρ a0 15) := by
  refine MI.of (by decide) (Nat.le_of_ble_eq_true rfl) ?_
  intro p e s m args below meth c E hml hr hlk hs ls hl
  have hx := E.1
  have hb := E.2.1
  have hown := E.2.2.1
  have hts := E.2.2.2.1
  have hS : SS (fun q => q = a0 ∨ q = ρ a0 15) H H [] := SS.rf
  have hl : lv_has ls 3 [(0, .ref a0)] := hl
  have n01 := hI.2.2.2.2.2.1
  have n23 := hI.2.2.2.2.2.2.1
  have bL5 : 0 ≤ (fi D 12 5 H a0).toInt ∧ (fi D 12 5 H a0).toInt ≤ 200 := IF.f5 hI.2.2.2.2.2
  refine lv_aload_n hx hb dX12_readsItem_0 rfl (lv_at hl 0 rfl) ?_
  refine gf_X12_22 E hT hW ha0 dX12_readsItem_1 (fun h_1 => ?_)
  refine lv_aload_n hx hb dX12_readsItem_4 rfl (lv_at hl 0 rfl) ?_
  refine gf_X12_44 E hT ha0 dX12_readsItem_5 ?_
  refine lv_topi (fun x_2 ex_2 => ?_)
  have e_2 : x_2.toInt = (fi D 12 10 H a0).toInt := congrArg Int32.toInt ex_2
  refine th_iald E hT h_1 (by decide) (vp_in_iff.mpr ⟨by omega, by omega⟩) dX12_readsItem_8 ?_
  refine th_topi (y := ai H (ρ a0 4) x_2.toInt.toNat) rfl ?_
  refine lv_topi (fun x_3 ex_3 => ?_)
  refine lv_istore_n (lv' := [(1, .int x_3), (0, .ref a0)]) hx hb dX12_readsItem_9 rfl hl (by decide) rfl (fun ls hl => ?_)
  refine lv_aload_n hx hb dX12_readsItem_10 rfl (lv_at hl 1 rfl) ?_
  refine lv_dup hx hb dX12_readsItem_11 rfl ?_
  refine gf_X12_44 E hT ha0 dX12_readsItem_12 ?_
  refine th_topi (y := x_2) ex_2.symm ?_
  refine lv_iconst (v := 1) hx hb dX12_readsItem_15 (by decide) ?_
  refine lv_iadd hx hb dX12_readsItem_16 ?_
  refine lv_topi (fun x_4 ex_4 => ?_)
  have q_4 : x_4.toInt = x_2.toInt + 1 := i_pl rfl (by decide) ex_4 (by omega) (by omega)
  refine pf_X12_44 E hT hS ha0 (Or.inl rfl) dX12_readsItem_17 (fun H_5 locs_5 hT_5 hU_5 hS_5 => ?_)
  refine lv_iload_n hx hb dX12_readsItem_20 rfl (lv_at hl 0 rfl) ?_
  by_cases k6_98 : x_3 = 98
  · refine th_topi k6_98 ?_
    refine lv_lookup (tgt := 84) hx hb dX12_readsItem_21 (by decide) rfl (by decide) ?_
    have kc6_98 : x_3.toInt = 98 := r_eq rfl (by decide) k6_98
    refine lv_aload_n hx hb dX12_readsItem_84 rfl (lv_at hl 1 rfl) ?_
    refine lv_iconst (v := 2) hx hb dX12_readsItem_85 (by decide) ?_
    refine lv_bipush (v := 32) hx hb dX12_readsItem_86 (by decide) ?_
    refine lv_bipush (v := 59) hx hb dX12_readsItem_88 (by decide) ?_
    refine th_Vi (As := [.int 2, .int 32, .int 59]) (rest := []) E hml hl.1 (y_readsNumber l D cI cS τ ρ hW H_5 hT_5 a0 ha0 N hN0 hN1 ⟨(PW.q (hU_5.2.2 _ (th_ne (hW _ 12 0 ha0 (by decide) (by decide) (by decide)) ha0 (by decide))) hI.1), (QS.same (ai_q (hU_5.2.2 _ (th_ne (hW _ 12 0 ha0 (by decide) (by decide) (by decide)) ha0 (by decide)))) (ai_q (hU_5.2.2 _ (th_ne (hW _ 12 0 ha0 (by decide) (by decide) (by decide)) ha0 (by decide)))) hI.2.1), (QS.same (ai_q (hU_5.2.2 _ (th_ne (hW _ 12 0 ha0 (by decide) (by decide) (by decide)) ha0 (by decide)))) (ai_q (hU_5.2.2 _ (th_ne (hW _ 12 0 ha0 (by decide) (by decide) (by decide)) ha0 (by decide)))) hI.2.2.1), (PL.q (hU_5.2.2 _ (th_ne (hW _ 12 2 ha0 (by decide) (by decide) (by decide)) ha0 (by decide))) hI.2.2.2.1), (PL.q (hU_5.2.2 _ (th_ne (hW _ 12 3 ha0 (by decide) (by decide) (by decide)) ha0 (by decide))) hI.2.2.2.2.1), (IF.put hI.2.2.2.2.2 hU_5 (by decide))⟩ (by have : (fi D 12 10 H_5 a0).toInt = (x_4 : Int32).toInt := congrArg Int32.toInt (PU.i hU_5); omega)) lk_X12_67 yd_X12_readsNumber hT_5 ha0 rfl (by decide) hS_5 (fun q h => (Or.inl h)) ⟨by decide, by decide⟩ (Nat.le_of_ble_eq_true rfl) ⟨by decide, by decide⟩ rfl dX12_readsItem_90 (fun r_7 H_7 locs_7 p_7 hT_7 hk_7 hS_7 => ?_)
    have p_7 : (IM D ρ N H_7 a0) ∧ (r_7 = 0 ∨ r_7 = 1) ∧ ((fi D 12 10 H_5 a0).toInt + 1 ≤ (fi D 12 10 H_7 a0).toInt ∧ (fi D 12 10 H_7 a0).toInt ≤ (fi D 12 10 H_5 a0).toInt + 5) ∧ (r_7.toInt = 1 → (2 ≤ (fi D 12 11 H_7 a0).toInt ∧ (fi D 12 11 H_7 a0).toInt ≤ 32)) ∧ (fi D 12 5 H_7 a0 = fi D 12 5 H_5 a0) ∧ (fi D 12 12 H_7 a0 = fi D 12 12 H_5 a0) ∧ (fi D 12 13 H_7 a0 = fi D 12 13 H_5 a0) ∧ (fi D 12 14 H_7 a0 = fi D 12 14 H_5 a0) := p_7
    obtain ⟨p_7_0, p_7_1, p_7_2, p_7_3, p_7_4, p_7_5, p_7_6, p_7_7⟩ := p_7
    have lf_7_5 : (fi D 12 5 H_5 a0).toInt = (fi D 12 5 H a0 : Int32).toInt := congrArg Int32.toInt (PU.io hU_5 (j := 5) (by decide) (by decide))
    have lf_7_10 : (fi D 12 10 H_5 a0).toInt = (x_4 : Int32).toInt := congrArg Int32.toInt (PU.i hU_5)
    have lf_7_12 : (fi D 12 12 H_5 a0).toInt = (fi D 12 12 H a0 : Int32).toInt := congrArg Int32.toInt (PU.io hU_5 (j := 12) (by decide) (by decide))
    have lf_7_13 : (fi D 12 13 H_5 a0).toInt = (fi D 12 13 H a0 : Int32).toInt := congrArg Int32.toInt (PU.io hU_5 (j := 13) (by decide) (by decide))
    have lf_7_14 : (fi D 12 14 H_5 a0).toInt = (fi D 12 14 H a0 : Int32).toInt := congrArg Int32.toInt (PU.io hU_5 (j := 14) (by decide) (by decide))
    have z_7 := b_iv p_7_1
    refine lv_istore_n (lv' := [(2, .int r_7), (1, .int x_3), (0, .ref a0)]) hx hb dX12_readsItem_93 rfl hl (by decide) rfl (fun ls hl => ?_)
    refine lv_aload_n hx hb dX12_readsItem_94 rfl (lv_at hl 2 rfl) ?_
    refine lv_aload_n hx hb dX12_readsItem_95 rfl (lv_at hl 2 rfl) ?_
    refine gf_X12_58 E hT_7 ha0 dX12_readsItem_96 ?_
    refine lv_topi (fun x_8 ex_8 => ?_)
    have e_8 : x_8.toInt = (fi D 12 11 H_7 a0).toInt := congrArg Int32.toInt ex_8
    refine pf_X12_74 E hT_7 hS_7 ha0 (Or.inl rfl) dX12_readsItem_99 (fun H_9 locs_9 hT_9 hU_9 hS_9 => ?_)
    refine lv_iload_n hx hb dX12_readsItem_102 rfl (lv_at hl 0 rfl) ?_
    exact th_zret E hr hlk hs p_7_1 hT_9 hS_9 ⟨⟨(PW.q (hU_9.2.2 _ (th_ne (hW _ 12 0 ha0 (by decide) (by decide) (by decide)) ha0 (by decide))) p_7_0.1), (QS.same ((Eq.trans (ai_q (hU_9.2.2 _ (th_ne (hW _ 12 0 ha0 (by decide) (by decide) (by decide)) ha0 (by decide)))) (Eq.trans (ai_q (hk_7 _ (th_ne (hW _ 12 0 ha0 (by decide) (by decide) (by decide)) ha0 (by decide)))) (ai_q (hU_5.2.2 _ (th_ne (hW _ 12 0 ha0 (by decide) (by decide) (by decide)) ha0 (by decide)))))).trans (Eq.trans (ai_q (hk_7 _ (th_ne (hW _ 12 0 ha0 (by decide) (by decide) (by decide)) ha0 (by decide)))) (ai_q (hU_5.2.2 _ (th_ne (hW _ 12 0 ha0 (by decide) (by decide) (by decide)) ha0 (by decide))))).symm) ((Eq.trans (ai_q (hU_9.2.2 _ (th_ne (hW _ 12 0 ha0 (by decide) (by decide) (by decide)) ha0 (by decide)))) (Eq.trans (ai_q (hk_7 _ (th_ne (hW _ 12 0 ha0 (by decide) (by decide) (by decide)) ha0 (by decide)))) (ai_q (hU_5.2.2 _ (th_ne (hW _ 12 0 ha0 (by decide) (by decide) (by decide)) ha0 (by decide)))))).trans (Eq.trans (ai_q (hk_7 _ (th_ne (hW _ 12 0 ha0 (by decide) (by decide) (by decide)) ha0 (by decide)))) (ai_q (hU_5.2.2 _ (th_ne (hW _ 12 0 ha0 (by decide) (by decide) (by decide)) ha0 (by decide))))).symm) p_7_0.2.1), (QS.same ((Eq.trans (ai_q (hU_9.2.2 _ (th_ne (hW _ 12 0 ha0 (by decide) (by decide) (by decide)) ha0 (by decide)))) (Eq.trans (ai_q (hk_7 _ (th_ne (hW _ 12 0 ha0 (by decide) (by decide) (by decide)) ha0 (by decide)))) (ai_q (hU_5.2.2 _ (th_ne (hW _ 12 0 ha0 (by decide) (by decide) (by decide)) ha0 (by decide)))))).trans (Eq.trans (ai_q (hk_7 _ (th_ne (hW _ 12 0 ha0 (by decide) (by decide) (by decide)) ha0 (by decide)))) (ai_q (hU_5.2.2 _ (th_ne (hW _ 12 0 ha0 (by decide) (by decide) (by decide)) ha0 (by decide))))).symm) ((Eq.trans (ai_q (hU_9.2.2 _ (th_ne (hW _ 12 0 ha0 (by decide) (by decide) (by decide)) ha0 (by decide)))) (Eq.trans (ai_q (hk_7 _ (th_ne (hW _ 12 0 ha0 (by decide) (by decide) (by decide)) ha0 (by decide)))) (ai_q (hU_5.2.2 _ (th_ne (hW _ 12 0 ha0 (by decide) (by decide) (by decide)) ha0 (by decide)))))).trans (Eq.trans (ai_q (hk_7 _ (th_ne (hW _ 12 0 ha0 (by decide) (by decide) (by decide)) ha0 (by decide)))) (ai_q (hU_5.2.2 _ (th_ne (hW _ 12 0 ha0 (by decide) (by decide) (by decide)) ha0 (by decide))))).symm) p_7_0.2.2.1), (PL.q (hU_9.2.2 _ (th_ne (hW _ 12 2 ha0 (by decide) (by decide) (by decide)) ha0 (by decide))) p_7_0.2.2.2.1), (PL.q (hU_9.2.2 _ (th_ne (hW _ 12 3 ha0 (by decide) (by decide) (by decide)) ha0 (by decide))) p_7_0.2.2.2.2.1), (IF.put p_7_0.2.2.2.2.2 hU_9 (by decide))⟩, p_7_1, (by have : (fi D 12 10 H a0).toInt = (x_2 : Int32).toInt := congrArg Int32.toInt ex_2.symm; have : (fi D 12 10 H_9 a0).toInt = (fi D 12 10 H_7 a0 : Int32).toInt := congrArg Int32.toInt (PU.io hU_9 (j := 10) (by decide) (by decide)); omega), (by have : (fi D 12 12 H_9 a0).toInt = (fi D 12 12 H a0 : Int32).toInt := congrArg Int32.toInt (Eq.trans (PU.io hU_9 (j := 12) (by decide) (by decide)) (Eq.trans p_7_5 (PU.io hU_5 (j := 12) (by decide) (by decide)))); have : (fi D 12 13 H_9 a0).toInt = (x_8 : Int32).toInt := congrArg Int32.toInt (PU.i hU_9); have : (fi D 12 14 H_9 a0).toInt = (fi D 12 14 H a0 : Int32).toInt := congrArg Int32.toInt (Eq.trans (PU.io hU_9 (j := 14) (by decide) (by decide)) (Eq.trans p_7_7 (PU.io hU_5 (j := 14) (by decide) (by decide)))); omega), (Eq.trans (PU.io hU_9 (j := 5) (by decide) (by decide)) (Eq.trans p_7_4 (PU.io hU_5 (j := 5) (by decide) (by decide))))⟩ dX12_readsItem_103
  by_cases k6_102 : x_3 = 102
  · refine th_topi k6_102 ?_
    refine lv_lookup (tgt := 124) hx hb dX12_readsItem_21 (by decide) rfl (by decide) ?_
    have kc6_102 : x_3.toInt = 102 := r_eq rfl (by decide) k6_102
    refine lv_aload_n hx hb dX12_readsItem_124 rfl (lv_at hl 1 rfl) ?_
    refine lv_iconst (v := 0) hx hb dX12_readsItem_125 (by decide) ?_
    refine lv_sipush (v := 255) hx hb dX12_readsItem_126 (by decide) ?_
    refine lv_bipush (v := 44) hx hb dX12_readsItem_129 (by decide) ?_
    refine th_Vi (As := [.int 0, .int 255, .int 44]) (rest := []) E hml hl.1 (y_readsNumber_v2 l D cI cS τ ρ hW H_5 hT_5 a0 ha0 N hN0 hN1 ⟨(PW.q (hU_5.2.2 _ (th_ne (hW _ 12 0 ha0 (by decide) (by decide) (by decide)) ha0 (by decide))) hI.1), (QS.same (ai_q (hU_5.2.2 _ (th_ne (hW _ 12 0 ha0 (by decide) (by decide) (by decide)) ha0 (by decide)))) (ai_q (hU_5.2.2 _ (th_ne (hW _ 12 0 ha0 (by decide) (by decide) (by decide)) ha0 (by decide)))) hI.2.1), (QS.same (ai_q (hU_5.2.2 _ (th_ne (hW _ 12 0 ha0 (by decide) (by decide) (by decide)) ha0 (by decide)))) (ai_q (hU_5.2.2 _ (th_ne (hW _ 12 0 ha0 (by decide) (by decide) (by decide)) ha0 (by decide)))) hI.2.2.1), (PL.q (hU_5.2.2 _ (th_ne (hW _ 12 2 ha0 (by decide) (by decide) (by decide)) ha0 (by decide))) hI.2.2.2.1), (PL.q (hU_5.2.2 _ (th_ne (hW _ 12 3 ha0 (by decide) (by decide) (by decide)) ha0 (by decide))) hI.2.2.2.2.1), (IF.put hI.2.2.2.2.2 hU_5 (by decide))⟩ (by have : (fi D 12 10 H_5 a0).toInt = (x_4 : Int32).toInt := congrArg Int32.toInt (PU.i hU_5); omega)) lk_X12_67 yd_X12_readsNumber hT_5 ha0 rfl (by decide) hS_5 (fun q h => (Or.inl h)) ⟨by decide, by decide⟩ (Nat.le_of_ble_eq_true rfl) ⟨by decide, by decide⟩ rfl dX12_readsItem_131 (fun r_10 H_10 locs_10 p_10 hT_10 hk_10 hS_10 => ?_)
    have p_10 : (IM D ρ N H_10 a0) ∧ (r_10 = 0 ∨ r_10 = 1) ∧ ((fi D 12 10 H_5 a0).toInt + 1 ≤ (fi D 12 10 H_10 a0).toInt ∧ (fi D 12 10 H_10 a0).toInt ≤ (fi D 12 10 H_5 a0).toInt + 5) ∧ (r_10.toInt = 1 → (0 ≤ (fi D 12 11 H_10 a0).toInt ∧ (fi D 12 11 H_10 a0).toInt ≤ 255)) ∧ (fi D 12 5 H_10 a0 = fi D 12 5 H_5 a0) ∧ (fi D 12 12 H_10 a0 = fi D 12 12 H_5 a0) ∧ (fi D 12 13 H_10 a0 = fi D 12 13 H_5 a0) ∧ (fi D 12 14 H_10 a0 = fi D 12 14 H_5 a0) := p_10
    obtain ⟨p_10_0, p_10_1, p_10_2, p_10_3, p_10_4, p_10_5, p_10_6, p_10_7⟩ := p_10
    have lf_10_5 : (fi D 12 5 H_5 a0).toInt = (fi D 12 5 H a0 : Int32).toInt := congrArg Int32.toInt (PU.io hU_5 (j := 5) (by decide) (by decide))
    have lf_10_10 : (fi D 12 10 H_5 a0).toInt = (x_4 : Int32).toInt := congrArg Int32.toInt (PU.i hU_5)
    have lf_10_12 : (fi D 12 12 H_5 a0).toInt = (fi D 12 12 H a0 : Int32).toInt := congrArg Int32.toInt (PU.io hU_5 (j := 12) (by decide) (by decide))
    have lf_10_13 : (fi D 12 13 H_5 a0).toInt = (fi D 12 13 H a0 : Int32).toInt := congrArg Int32.toInt (PU.io hU_5 (j := 13) (by decide) (by decide))
    have lf_10_14 : (fi D 12 14 H_5 a0).toInt = (fi D 12 14 H a0 : Int32).toInt := congrArg Int32.toInt (PU.io hU_5 (j := 14) (by decide) (by decide))
    have z_10 := b_iv p_10_1
    refine lv_istore_n (lv' := [(2, .int r_10), (1, .int x_3), (0, .ref a0)]) hx hb dX12_readsItem_134 rfl hl (by decide) rfl (fun ls hl => ?_)
    refine lv_aload_n hx hb dX12_readsItem_135 rfl (lv_at hl 2 rfl) ?_
    refine gf_X12_38 E hT_10 hW ha0 dX12_readsItem_136 (fun h_11 => ?_)
    refine lv_iconst (v := 0) hx hb dX12_readsItem_139 (by decide) ?_
    refine lv_aload_n hx hb dX12_readsItem_140 rfl (lv_at hl 2 rfl) ?_
    refine gf_X12_58 E hT_10 ha0 dX12_readsItem_141 ?_
    refine lv_topi (fun x_12 ex_12 => ?_)
    have e_12 : x_12.toInt = (fi D 12 11 H_10 a0).toInt := congrArg Int32.toInt ex_12
    refine th_iast E hT_10 hS_10 h_11 (Or.inr rfl) (by decide) (vp_in_iff.mpr ⟨by decide, by decide⟩) dX12_readsItem_144 (fun H_13 locs_13 hT_13 hU_13 hS_13 => ?_)
    have hU_13 : AU 2 H_10 H_13 (ρ a0 15) 0 x_12 := hU_13
    refine lv_iload_n hx hb dX12_readsItem_145 rfl (lv_at hl 0 rfl) ?_
    refine lv_if_eq (tgt := 166) hx hb dX12_readsItem_146 (by decide) (fun c_14 => ?_) (fun c_14 => ?_)
    · have f_14 : r_10.toInt = 0 := r_eq rfl (by decide) c_14
      refine lv_iconst (v := 0) hx hb dX12_readsItem_166 (by decide) ?_
      refine lv_istore_n (lv' := [(2, .int 0), (1, .int x_3), (0, .ref a0)]) hx hb dX12_readsItem_167 rfl hl (by decide) rfl (fun ls hl => ?_)
      refine lv_aload_n hx hb dX12_readsItem_168 rfl (lv_at hl 2 rfl) ?_
      refine gf_X12_38 E hT_13 hW ha0 dX12_readsItem_169 (fun h_15 => ?_)
      refine lv_iconst (v := 1) hx hb dX12_readsItem_172 (by decide) ?_
      refine lv_aload_n hx hb dX12_readsItem_173 rfl (lv_at hl 2 rfl) ?_
      refine gf_X12_58 E hT_13 ha0 dX12_readsItem_174 ?_
      refine th_topi (y := x_12) (Eq.trans (fi_q (hU_13.2 _ (th_ne ha0 (hW _ 12 15 ha0 (by decide) (by decide) (by decide)) (by decide)))) ex_12.symm) ?_
      refine th_iast E hT_13 hS_13 h_15 (Or.inr rfl) (by decide) (vp_in_iff.mpr ⟨by decide, by decide⟩) dX12_readsItem_177 (fun H_16 locs_16 hT_16 hU_16 hS_16 => ?_)
      have hU_16 : AU 2 H_13 H_16 (ρ a0 15) 1 x_12 := hU_16
      refine lv_iload_n hx hb dX12_readsItem_178 rfl (lv_at hl 0 rfl) ?_
      exact th_zret E hr hlk hs (Or.inl rfl) hT_16 hS_16 ⟨⟨(PW.q (hU_16.2 _ (th_ne (hW _ 12 0 ha0 (by decide) (by decide) (by decide)) (hW _ 12 15 ha0 (by decide) (by decide) (by decide)) (by decide))) (PW.q (hU_13.2 _ (th_ne (hW _ 12 0 ha0 (by decide) (by decide) (by decide)) (hW _ 12 15 ha0 (by decide) (by decide) (by decide)) (by decide))) p_10_0.1)), (QS.same ((Eq.trans (ai_q (hU_16.2 _ (th_ne (hW _ 12 0 ha0 (by decide) (by decide) (by decide)) (hW _ 12 15 ha0 (by decide) (by decide) (by decide)) (by decide)))) (Eq.trans (ai_q (hU_13.2 _ (th_ne (hW _ 12 0 ha0 (by decide) (by decide) (by decide)) (hW _ 12 15 ha0 (by decide) (by decide) (by decide)) (by decide)))) (Eq.trans (ai_q (hk_10 _ (th_ne (hW _ 12 0 ha0 (by decide) (by decide) (by decide)) ha0 (by decide)))) (ai_q (hU_5.2.2 _ (th_ne (hW _ 12 0 ha0 (by decide) (by decide) (by decide)) ha0 (by decide))))))).trans (Eq.trans (ai_q (hk_10 _ (th_ne (hW _ 12 0 ha0 (by decide) (by decide) (by decide)) ha0 (by decide)))) (ai_q (hU_5.2.2 _ (th_ne (hW _ 12 0 ha0 (by decide) (by decide) (by decide)) ha0 (by decide))))).symm) ((Eq.trans (ai_q (hU_16.2 _ (th_ne (hW _ 12 0 ha0 (by decide) (by decide) (by decide)) (hW _ 12 15 ha0 (by decide) (by decide) (by decide)) (by decide)))) (Eq.trans (ai_q (hU_13.2 _ (th_ne (hW _ 12 0 ha0 (by decide) (by decide) (by decide)) (hW _ 12 15 ha0 (by decide) (by decide) (by decide)) (by decide)))) (Eq.trans (ai_q (hk_10 _ (th_ne (hW _ 12 0 ha0 (by decide) (by decide) (by decide)) ha0 (by decide)))) (ai_q (hU_5.2.2 _ (th_ne (hW _ 12 0 ha0 (by decide) (by decide) (by decide)) ha0 (by decide))))))).trans (Eq.trans (ai_q (hk_10 _ (th_ne (hW _ 12 0 ha0 (by decide) (by decide) (by decide)) ha0 (by decide)))) (ai_q (hU_5.2.2 _ (th_ne (hW _ 12 0 ha0 (by decide) (by decide) (by decide)) ha0 (by decide))))).symm) p_10_0.2.1), (QS.same ((Eq.trans (ai_q (hU_16.2 _ (th_ne (hW _ 12 0 ha0 (by decide) (by decide) (by decide)) (hW _ 12 15 ha0 (by decide) (by decide) (by decide)) (by decide)))) (Eq.trans (ai_q (hU_13.2 _ (th_ne (hW _ 12 0 ha0 (by decide) (by decide) (by decide)) (hW _ 12 15 ha0 (by decide) (by decide) (by decide)) (by decide)))) (Eq.trans (ai_q (hk_10 _ (th_ne (hW _ 12 0 ha0 (by decide) (by decide) (by decide)) ha0 (by decide)))) (ai_q (hU_5.2.2 _ (th_ne (hW _ 12 0 ha0 (by decide) (by decide) (by decide)) ha0 (by decide))))))).trans (Eq.trans (ai_q (hk_10 _ (th_ne (hW _ 12 0 ha0 (by decide) (by decide) (by decide)) ha0 (by decide)))) (ai_q (hU_5.2.2 _ (th_ne (hW _ 12 0 ha0 (by decide) (by decide) (by decide)) ha0 (by decide))))).symm) ((Eq.trans (ai_q (hU_16.2 _ (th_ne (hW _ 12 0 ha0 (by decide) (by decide) (by decide)) (hW _ 12 15 ha0 (by decide) (by decide) (by decide)) (by decide)))) (Eq.trans (ai_q (hU_13.2 _ (th_ne (hW _ 12 0 ha0 (by decide) (by decide) (by decide)) (hW _ 12 15 ha0 (by decide) (by decide) (by decide)) (by decide)))) (Eq.trans (ai_q (hk_10 _ (th_ne (hW _ 12 0 ha0 (by decide) (by decide) (by decide)) ha0 (by decide)))) (ai_q (hU_5.2.2 _ (th_ne (hW _ 12 0 ha0 (by decide) (by decide) (by decide)) ha0 (by decide))))))).trans (Eq.trans (ai_q (hk_10 _ (th_ne (hW _ 12 0 ha0 (by decide) (by decide) (by decide)) ha0 (by decide)))) (ai_q (hU_5.2.2 _ (th_ne (hW _ 12 0 ha0 (by decide) (by decide) (by decide)) ha0 (by decide))))).symm) p_10_0.2.2.1), (PL.q (hU_16.2 _ (th_ne (hW _ 12 2 ha0 (by decide) (by decide) (by decide)) (hW _ 12 15 ha0 (by decide) (by decide) (by decide)) (by decide))) (PL.q (hU_13.2 _ (th_ne (hW _ 12 2 ha0 (by decide) (by decide) (by decide)) (hW _ 12 15 ha0 (by decide) (by decide) (by decide)) (by decide))) p_10_0.2.2.2.1)), (PL.q (hU_16.2 _ (th_ne (hW _ 12 3 ha0 (by decide) (by decide) (by decide)) (hW _ 12 15 ha0 (by decide) (by decide) (by decide)) (by decide))) (PL.q (hU_13.2 _ (th_ne (hW _ 12 3 ha0 (by decide) (by decide) (by decide)) (hW _ 12 15 ha0 (by decide) (by decide) (by decide)) (by decide))) p_10_0.2.2.2.2.1)), (IF.q (hU_16.2 _ (th_ne ha0 (hW _ 12 15 ha0 (by decide) (by decide) (by decide)) (by decide))) (IF.q (hU_13.2 _ (th_ne ha0 (hW _ 12 15 ha0 (by decide) (by decide) (by decide)) (by decide))) p_10_0.2.2.2.2.2))⟩, (Or.inl rfl), (by have : (0 : Int32).toInt = 0 := (by decide); have : (fi D 12 10 H a0).toInt = (x_2 : Int32).toInt := congrArg Int32.toInt ex_2.symm; have : (fi D 12 10 H_16 a0).toInt = (fi D 12 10 H_10 a0 : Int32).toInt := congrArg Int32.toInt (Eq.trans (fi_q (hU_16.2 _ (th_ne ha0 (hW _ 12 15 ha0 (by decide) (by decide) (by decide)) (by decide)))) (fi_q (hU_13.2 _ (th_ne ha0 (hW _ 12 15 ha0 (by decide) (by decide) (by decide)) (by decide))))); omega), (by have : (0 : Int32).toInt = 0 := (by decide); have : (fi D 12 12 H_16 a0).toInt = (fi D 12 12 H a0 : Int32).toInt := congrArg Int32.toInt (Eq.trans (fi_q (hU_16.2 _ (th_ne ha0 (hW _ 12 15 ha0 (by decide) (by decide) (by decide)) (by decide)))) (Eq.trans (fi_q (hU_13.2 _ (th_ne ha0 (hW _ 12 15 ha0 (by decide) (by decide) (by decide)) (by decide)))) (Eq.trans p_10_5 (PU.io hU_5 (j := 12) (by decide) (by decide))))); have : (fi D 12 13 H_16 a0).toInt = (fi D 12 13 H a0 : Int32).toInt := congrArg Int32.toInt (Eq.trans (fi_q (hU_16.2 _ (th_ne ha0 (hW _ 12 15 ha0 (by decide) (by decide) (by decide)) (by decide)))) (Eq.trans (fi_q (hU_13.2 _ (th_ne ha0 (hW _ 12 15 ha0 (by decide) (by decide) (by decide)) (by decide)))) (Eq.trans p_10_6 (PU.io hU_5 (j := 13) (by decide) (by decide))))); have : (fi D 12 14 H_16 a0).toInt = (fi D 12 14 H a0 : Int32).toInt := congrArg Int32.toInt (Eq.trans (fi_q (hU_16.2 _ (th_ne ha0 (hW _ 12 15 ha0 (by decide) (by decide) (by decide)) (by decide)))) (Eq.trans (fi_q (hU_13.2 _ (th_ne ha0 (hW _ 12 15 ha0 (by decide) (by decide) (by decide)) (by decide)))) (Eq.trans p_10_7 (PU.io hU_5 (j := 14) (by decide) (by decide))))); omega), (Eq.trans (fi_q (hU_16.2 _ (th_ne ha0 (hW _ 12 15 ha0 (by decide) (by decide) (by decide)) (by decide)))) (Eq.trans (fi_q (hU_13.2 _ (th_ne ha0 (hW _ 12 15 ha0 (by decide) (by decide) (by decide)) (by decide)))) (Eq.trans p_10_4 (PU.io hU_5 (j := 5) (by decide) (by decide)))))⟩ dX12_readsItem_179
    · have f_14 : ¬ r_10.toInt = 0 := r_ne rfl (by decide) c_14
      have nz_r_10 : ¬ r_10 = 0 := c_14
      refine lv_aload_n hx hb dX12_readsItem_149 rfl (lv_at hl 2 rfl) ?_
      refine lv_iconst (v := 0) hx hb dX12_readsItem_150 (by decide) ?_
      refine lv_sipush (v := 255) hx hb dX12_readsItem_151 (by decide) ?_
      refine lv_bipush (v := 59) hx hb dX12_readsItem_154 (by decide) ?_
      refine th_Vi (As := [.int 0, .int 255, .int 59]) (rest := []) E hml hl.1 (y_readsNumber_v3 l D cI cS τ ρ hW H_13 hT_13 a0 ha0 N hN0 hN1 ⟨(PW.q (hU_13.2 _ (th_ne (hW _ 12 0 ha0 (by decide) (by decide) (by decide)) (hW _ 12 15 ha0 (by decide) (by decide) (by decide)) (by decide))) p_10_0.1), (QS.same ((Eq.trans (ai_q (hU_13.2 _ (th_ne (hW _ 12 0 ha0 (by decide) (by decide) (by decide)) (hW _ 12 15 ha0 (by decide) (by decide) (by decide)) (by decide)))) (Eq.trans (ai_q (hk_10 _ (th_ne (hW _ 12 0 ha0 (by decide) (by decide) (by decide)) ha0 (by decide)))) (ai_q (hU_5.2.2 _ (th_ne (hW _ 12 0 ha0 (by decide) (by decide) (by decide)) ha0 (by decide)))))).trans (Eq.trans (ai_q (hk_10 _ (th_ne (hW _ 12 0 ha0 (by decide) (by decide) (by decide)) ha0 (by decide)))) (ai_q (hU_5.2.2 _ (th_ne (hW _ 12 0 ha0 (by decide) (by decide) (by decide)) ha0 (by decide))))).symm) ((Eq.trans (ai_q (hU_13.2 _ (th_ne (hW _ 12 0 ha0 (by decide) (by decide) (by decide)) (hW _ 12 15 ha0 (by decide) (by decide) (by decide)) (by decide)))) (Eq.trans (ai_q (hk_10 _ (th_ne (hW _ 12 0 ha0 (by decide) (by decide) (by decide)) ha0 (by decide)))) (ai_q (hU_5.2.2 _ (th_ne (hW _ 12 0 ha0 (by decide) (by decide) (by decide)) ha0 (by decide)))))).trans (Eq.trans (ai_q (hk_10 _ (th_ne (hW _ 12 0 ha0 (by decide) (by decide) (by decide)) ha0 (by decide)))) (ai_q (hU_5.2.2 _ (th_ne (hW _ 12 0 ha0 (by decide) (by decide) (by decide)) ha0 (by decide))))).symm) p_10_0.2.1), (QS.same ((Eq.trans (ai_q (hU_13.2 _ (th_ne (hW _ 12 0 ha0 (by decide) (by decide) (by decide)) (hW _ 12 15 ha0 (by decide) (by decide) (by decide)) (by decide)))) (Eq.trans (ai_q (hk_10 _ (th_ne (hW _ 12 0 ha0 (by decide) (by decide) (by decide)) ha0 (by decide)))) (ai_q (hU_5.2.2 _ (th_ne (hW _ 12 0 ha0 (by decide) (by decide) (by decide)) ha0 (by decide)))))).trans (Eq.trans (ai_q (hk_10 _ (th_ne (hW _ 12 0 ha0 (by decide) (by decide) (by decide)) ha0 (by decide)))) (ai_q (hU_5.2.2 _ (th_ne (hW _ 12 0 ha0 (by decide) (by decide) (by decide)) ha0 (by decide))))).symm) ((Eq.trans (ai_q (hU_13.2 _ (th_ne (hW _ 12 0 ha0 (by decide) (by decide) (by decide)) (hW _ 12 15 ha0 (by decide) (by decide) (by decide)) (by decide)))) (Eq.trans (ai_q (hk_10 _ (th_ne (hW _ 12 0 ha0 (by decide) (by decide) (by decide)) ha0 (by decide)))) (ai_q (hU_5.2.2 _ (th_ne (hW _ 12 0 ha0 (by decide) (by decide) (by decide)) ha0 (by decide)))))).trans (Eq.trans (ai_q (hk_10 _ (th_ne (hW _ 12 0 ha0 (by decide) (by decide) (by decide)) ha0 (by decide)))) (ai_q (hU_5.2.2 _ (th_ne (hW _ 12 0 ha0 (by decide) (by decide) (by decide)) ha0 (by decide))))).symm) p_10_0.2.2.1), (PL.q (hU_13.2 _ (th_ne (hW _ 12 2 ha0 (by decide) (by decide) (by decide)) (hW _ 12 15 ha0 (by decide) (by decide) (by decide)) (by decide))) p_10_0.2.2.2.1), (PL.q (hU_13.2 _ (th_ne (hW _ 12 3 ha0 (by decide) (by decide) (by decide)) (hW _ 12 15 ha0 (by decide) (by decide) (by decide)) (by decide))) p_10_0.2.2.2.2.1), (IF.q (hU_13.2 _ (th_ne ha0 (hW _ 12 15 ha0 (by decide) (by decide) (by decide)) (by decide))) p_10_0.2.2.2.2.2)⟩ (by have : (fi D 12 10 H_13 a0).toInt = (fi D 12 10 H_10 a0 : Int32).toInt := congrArg Int32.toInt (fi_q (hU_13.2 _ (th_ne ha0 (hW _ 12 15 ha0 (by decide) (by decide) (by decide)) (by decide)))); omega)) lk_X12_67 yd_X12_readsNumber hT_13 ha0 rfl (by decide) hS_13 (fun q h => (Or.inl h)) ⟨by decide, by decide⟩ (Nat.le_of_ble_eq_true rfl) ⟨by decide, by decide⟩ rfl dX12_readsItem_156 (fun r_17 H_17 locs_17 p_17 hT_17 hk_17 hS_17 => ?_)
      have p_17 : (IM D ρ N H_17 a0) ∧ (r_17 = 0 ∨ r_17 = 1) ∧ ((fi D 12 10 H_13 a0).toInt + 1 ≤ (fi D 12 10 H_17 a0).toInt ∧ (fi D 12 10 H_17 a0).toInt ≤ (fi D 12 10 H_13 a0).toInt + 5) ∧ (r_17.toInt = 1 → (0 ≤ (fi D 12 11 H_17 a0).toInt ∧ (fi D 12 11 H_17 a0).toInt ≤ 255)) ∧ (fi D 12 5 H_17 a0 = fi D 12 5 H_13 a0) ∧ (fi D 12 12 H_17 a0 = fi D 12 12 H_13 a0) ∧ (fi D 12 13 H_17 a0 = fi D 12 13 H_13 a0) ∧ (fi D 12 14 H_17 a0 = fi D 12 14 H_13 a0) := p_17
      obtain ⟨p_17_0, p_17_1, p_17_2, p_17_3, p_17_4, p_17_5, p_17_6, p_17_7⟩ := p_17
      have lf_17_5 : (fi D 12 5 H_13 a0).toInt = (fi D 12 5 H a0 : Int32).toInt := congrArg Int32.toInt (Eq.trans (fi_q (hU_13.2 _ (th_ne ha0 (hW _ 12 15 ha0 (by decide) (by decide) (by decide)) (by decide)))) (Eq.trans p_10_4 (PU.io hU_5 (j := 5) (by decide) (by decide))))
      have lf_17_10 : (fi D 12 10 H_13 a0).toInt = (fi D 12 10 H_10 a0 : Int32).toInt := congrArg Int32.toInt (fi_q (hU_13.2 _ (th_ne ha0 (hW _ 12 15 ha0 (by decide) (by decide) (by decide)) (by decide))))
      have lf_17_12 : (fi D 12 12 H_13 a0).toInt = (fi D 12 12 H a0 : Int32).toInt := congrArg Int32.toInt (Eq.trans (fi_q (hU_13.2 _ (th_ne ha0 (hW _ 12 15 ha0 (by decide) (by decide) (by decide)) (by decide)))) (Eq.trans p_10_5 (PU.io hU_5 (j := 12) (by decide) (by decide))))
      have lf_17_13 : (fi D 12 13 H_13 a0).toInt = (fi D 12 13 H a0 : Int32).toInt := congrArg Int32.toInt (Eq.trans (fi_q (hU_13.2 _ (th_ne ha0 (hW _ 12 15 ha0 (by decide) (by decide) (by decide)) (by decide)))) (Eq.trans p_10_6 (PU.io hU_5 (j := 13) (by decide) (by decide))))
      have lf_17_14 : (fi D 12 14 H_13 a0).toInt = (fi D 12 14 H a0 : Int32).toInt := congrArg Int32.toInt (Eq.trans (fi_q (hU_13.2 _ (th_ne ha0 (hW _ 12 15 ha0 (by decide) (by decide) (by decide)) (by decide)))) (Eq.trans p_10_7 (PU.io hU_5 (j := 14) (by decide) (by decide))))
      have z_17 := b_iv p_17_1
      refine lv_if_eq (tgt := 166) hx hb dX12_readsItem_159 (by decide) (fun c_18 => ?_) (fun c_18 => ?_)
      · have f_18 : r_17.toInt = 0 := r_eq rfl (by decide) c_18
        refine lv_iconst (v := 0) hx hb dX12_readsItem_166 (by decide) ?_
        refine lv_istore_n (lv' := [(2, .int 0), (1, .int x_3), (0, .ref a0)]) hx hb dX12_readsItem_167 rfl hl (by decide) rfl (fun ls hl => ?_)
        refine lv_aload_n hx hb dX12_readsItem_168 rfl (lv_at hl 2 rfl) ?_
        refine gf_X12_38 E hT_17 hW ha0 dX12_readsItem_169 (fun h_19 => ?_)
        refine lv_iconst (v := 1) hx hb dX12_readsItem_172 (by decide) ?_
        refine lv_aload_n hx hb dX12_readsItem_173 rfl (lv_at hl 2 rfl) ?_
        refine gf_X12_58 E hT_17 ha0 dX12_readsItem_174 ?_
        refine lv_topi (fun x_20 ex_20 => ?_)
        have e_20 : x_20.toInt = (fi D 12 11 H_17 a0).toInt := congrArg Int32.toInt ex_20
        refine th_iast E hT_17 hS_17 h_19 (Or.inr rfl) (by decide) (vp_in_iff.mpr ⟨by decide, by decide⟩) dX12_readsItem_177 (fun H_21 locs_21 hT_21 hU_21 hS_21 => ?_)
        have hU_21 : AU 2 H_17 H_21 (ρ a0 15) 1 x_20 := hU_21
        refine lv_iload_n hx hb dX12_readsItem_178 rfl (lv_at hl 0 rfl) ?_
        exact th_zret E hr hlk hs (Or.inl rfl) hT_21 hS_21 ⟨⟨(PW.q (hU_21.2 _ (th_ne (hW _ 12 0 ha0 (by decide) (by decide) (by decide)) (hW _ 12 15 ha0 (by decide) (by decide) (by decide)) (by decide))) p_17_0.1), (QS.same ((Eq.trans (ai_q (hU_21.2 _ (th_ne (hW _ 12 0 ha0 (by decide) (by decide) (by decide)) (hW _ 12 15 ha0 (by decide) (by decide) (by decide)) (by decide)))) (Eq.trans (ai_q (hk_17 _ (th_ne (hW _ 12 0 ha0 (by decide) (by decide) (by decide)) ha0 (by decide)))) (Eq.trans (ai_q (hU_13.2 _ (th_ne (hW _ 12 0 ha0 (by decide) (by decide) (by decide)) (hW _ 12 15 ha0 (by decide) (by decide) (by decide)) (by decide)))) (Eq.trans (ai_q (hk_10 _ (th_ne (hW _ 12 0 ha0 (by decide) (by decide) (by decide)) ha0 (by decide)))) (ai_q (hU_5.2.2 _ (th_ne (hW _ 12 0 ha0 (by decide) (by decide) (by decide)) ha0 (by decide)))))))).trans (Eq.trans (ai_q (hk_17 _ (th_ne (hW _ 12 0 ha0 (by decide) (by decide) (by decide)) ha0 (by decide)))) (Eq.trans (ai_q (hU_13.2 _ (th_ne (hW _ 12 0 ha0 (by decide) (by decide) (by decide)) (hW _ 12 15 ha0 (by decide) (by decide) (by decide)) (by decide)))) (Eq.trans (ai_q (hk_10 _ (th_ne (hW _ 12 0 ha0 (by decide) (by decide) (by decide)) ha0 (by decide)))) (ai_q (hU_5.2.2 _ (th_ne (hW _ 12 0 ha0 (by decide) (by decide) (by decide)) ha0 (by decide))))))).symm) ((Eq.trans (ai_q (hU_21.2 _ (th_ne (hW _ 12 0 ha0 (by decide) (by decide) (by decide)) (hW _ 12 15 ha0 (by decide) (by decide) (by decide)) (by decide)))) (Eq.trans (ai_q (hk_17 _ (th_ne (hW _ 12 0 ha0 (by decide) (by decide) (by decide)) ha0 (by decide)))) (Eq.trans (ai_q (hU_13.2 _ (th_ne (hW _ 12 0 ha0 (by decide) (by decide) (by decide)) (hW _ 12 15 ha0 (by decide) (by decide) (by decide)) (by decide)))) (Eq.trans (ai_q (hk_10 _ (th_ne (hW _ 12 0 ha0 (by decide) (by decide) (by decide)) ha0 (by decide)))) (ai_q (hU_5.2.2 _ (th_ne (hW _ 12 0 ha0 (by decide) (by decide) (by decide)) ha0 (by decide)))))))).trans (Eq.trans (ai_q (hk_17 _ (th_ne (hW _ 12 0 ha0 (by decide) (by decide) (by decide)) ha0 (by decide)))) (Eq.trans (ai_q (hU_13.2 _ (th_ne (hW _ 12 0 ha0 (by decide) (by decide) (by decide)) (hW _ 12 15 ha0 (by decide) (by decide) (by decide)) (by decide)))) (Eq.trans (ai_q (hk_10 _ (th_ne (hW _ 12 0 ha0 (by decide) (by decide) (by decide)) ha0 (by decide)))) (ai_q (hU_5.2.2 _ (th_ne (hW _ 12 0 ha0 (by decide) (by decide) (by decide)) ha0 (by decide))))))).symm) p_17_0.2.1), (QS.same ((Eq.trans (ai_q (hU_21.2 _ (th_ne (hW _ 12 0 ha0 (by decide) (by decide) (by decide)) (hW _ 12 15 ha0 (by decide) (by decide) (by decide)) (by decide)))) (Eq.trans (ai_q (hk_17 _ (th_ne (hW _ 12 0 ha0 (by decide) (by decide) (by decide)) ha0 (by decide)))) (Eq.trans (ai_q (hU_13.2 _ (th_ne (hW _ 12 0 ha0 (by decide) (by decide) (by decide)) (hW _ 12 15 ha0 (by decide) (by decide) (by decide)) (by decide)))) (Eq.trans (ai_q (hk_10 _ (th_ne (hW _ 12 0 ha0 (by decide) (by decide) (by decide)) ha0 (by decide)))) (ai_q (hU_5.2.2 _ (th_ne (hW _ 12 0 ha0 (by decide) (by decide) (by decide)) ha0 (by decide)))))))).trans (Eq.trans (ai_q (hk_17 _ (th_ne (hW _ 12 0 ha0 (by decide) (by decide) (by decide)) ha0 (by decide)))) (Eq.trans (ai_q (hU_13.2 _ (th_ne (hW _ 12 0 ha0 (by decide) (by decide) (by decide)) (hW _ 12 15 ha0 (by decide) (by decide) (by decide)) (by decide)))) (Eq.trans (ai_q (hk_10 _ (th_ne (hW _ 12 0 ha0 (by decide) (by decide) (by decide)) ha0 (by decide)))) (ai_q (hU_5.2.2 _ (th_ne (hW _ 12 0 ha0 (by decide) (by decide) (by decide)) ha0 (by decide))))))).symm) ((Eq.trans (ai_q (hU_21.2 _ (th_ne (hW _ 12 0 ha0 (by decide) (by decide) (by decide)) (hW _ 12 15 ha0 (by decide) (by decide) (by decide)) (by decide)))) (Eq.trans (ai_q (hk_17 _ (th_ne (hW _ 12 0 ha0 (by decide) (by decide) (by decide)) ha0 (by decide)))) (Eq.trans (ai_q (hU_13.2 _ (th_ne (hW _ 12 0 ha0 (by decide) (by decide) (by decide)) (hW _ 12 15 ha0 (by decide) (by decide) (by decide)) (by decide)))) (Eq.trans (ai_q (hk_10 _ (th_ne (hW _ 12 0 ha0 (by decide) (by decide) (by decide)) ha0 (by decide)))) (ai_q (hU_5.2.2 _ (th_ne (hW _ 12 0 ha0 (by decide) (by decide) (by decide)) ha0 (by decide)))))))).trans (Eq.trans (ai_q (hk_17 _ (th_ne (hW _ 12 0 ha0 (by decide) (by decide) (by decide)) ha0 (by decide)))) (Eq.trans (ai_q (hU_13.2 _ (th_ne (hW _ 12 0 ha0 (by decide) (by decide) (by decide)) (hW _ 12 15 ha0 (by decide) (by decide) (by decide)) (by decide)))) (Eq.trans (ai_q (hk_10 _ (th_ne (hW _ 12 0 ha0 (by decide) (by decide) (by decide)) ha0 (by decide)))) (ai_q (hU_5.2.2 _ (th_ne (hW _ 12 0 ha0 (by decide) (by decide) (by decide)) ha0 (by decide))))))).symm) p_17_0.2.2.1), (PL.q (hU_21.2 _ (th_ne (hW _ 12 2 ha0 (by decide) (by decide) (by decide)) (hW _ 12 15 ha0 (by decide) (by decide) (by decide)) (by decide))) p_17_0.2.2.2.1), (PL.q (hU_21.2 _ (th_ne (hW _ 12 3 ha0 (by decide) (by decide) (by decide)) (hW _ 12 15 ha0 (by decide) (by decide) (by decide)) (by decide))) p_17_0.2.2.2.2.1), (IF.q (hU_21.2 _ (th_ne ha0 (hW _ 12 15 ha0 (by decide) (by decide) (by decide)) (by decide))) p_17_0.2.2.2.2.2)⟩, (Or.inl rfl), (by have : (0 : Int32).toInt = 0 := (by decide); have : (fi D 12 10 H a0).toInt = (x_2 : Int32).toInt := congrArg Int32.toInt ex_2.symm; have : (fi D 12 10 H_21 a0).toInt = (fi D 12 10 H_17 a0 : Int32).toInt := congrArg Int32.toInt (fi_q (hU_21.2 _ (th_ne ha0 (hW _ 12 15 ha0 (by decide) (by decide) (by decide)) (by decide)))); omega), (by have : (0 : Int32).toInt = 0 := (by decide); have : (fi D 12 12 H_21 a0).toInt = (fi D 12 12 H a0 : Int32).toInt := congrArg Int32.toInt (Eq.trans (fi_q (hU_21.2 _ (th_ne ha0 (hW _ 12 15 ha0 (by decide) (by decide) (by decide)) (by decide)))) (Eq.trans p_17_5 (Eq.trans (fi_q (hU_13.2 _ (th_ne ha0 (hW _ 12 15 ha0 (by decide) (by decide) (by decide)) (by decide)))) (Eq.trans p_10_5 (PU.io hU_5 (j := 12) (by decide) (by decide)))))); have : (fi D 12 13 H_21 a0).toInt = (fi D 12 13 H a0 : Int32).toInt := congrArg Int32.toInt (Eq.trans (fi_q (hU_21.2 _ (th_ne ha0 (hW _ 12 15 ha0 (by decide) (by decide) (by decide)) (by decide)))) (Eq.trans p_17_6 (Eq.trans (fi_q (hU_13.2 _ (th_ne ha0 (hW _ 12 15 ha0 (by decide) (by decide) (by decide)) (by decide)))) (Eq.trans p_10_6 (PU.io hU_5 (j := 13) (by decide) (by decide)))))); have : (fi D 12 14 H_21 a0).toInt = (fi D 12 14 H a0 : Int32).toInt := congrArg Int32.toInt (Eq.trans (fi_q (hU_21.2 _ (th_ne ha0 (hW _ 12 15 ha0 (by decide) (by decide) (by decide)) (by decide)))) (Eq.trans p_17_7 (Eq.trans (fi_q (hU_13.2 _ (th_ne ha0 (hW _ 12 15 ha0 (by decide) (by decide) (by decide)) (by decide)))) (Eq.trans p_10_7 (PU.io hU_5 (j := 14) (by decide) (by decide)))))); omega), (Eq.trans (fi_q (hU_21.2 _ (th_ne ha0 (hW _ 12 15 ha0 (by decide) (by decide) (by decide)) (by decide)))) (Eq.trans p_17_4 (Eq.trans (fi_q (hU_13.2 _ (th_ne ha0 (hW _ 12 15 ha0 (by decide) (by decide) (by decide)) (by decide)))) (Eq.trans p_10_4 (PU.io hU_5 (j := 5) (by decide) (by decide))))))⟩ dX12_readsItem_179
      · have f_18 : ¬ r_17.toInt = 0 := r_ne rfl (by decide) c_18
        have nz_r_17 : ¬ r_17 = 0 := c_18
        refine lv_iconst (v := 1) hx hb dX12_readsItem_162 (by decide) ?_
        refine lv_goto (tgt := 167) hx hb dX12_readsItem_163 (by decide) ?_
        refine lv_istore_n (lv' := [(2, .int 1), (1, .int x_3), (0, .ref a0)]) hx hb dX12_readsItem_167 rfl hl (by decide) rfl (fun ls hl => ?_)
        refine lv_aload_n hx hb dX12_readsItem_168 rfl (lv_at hl 2 rfl) ?_
        refine gf_X12_38 E hT_17 hW ha0 dX12_readsItem_169 (fun h_22 => ?_)
        refine lv_iconst (v := 1) hx hb dX12_readsItem_172 (by decide) ?_
        refine lv_aload_n hx hb dX12_readsItem_173 rfl (lv_at hl 2 rfl) ?_
        refine gf_X12_58 E hT_17 ha0 dX12_readsItem_174 ?_
        refine lv_topi (fun x_23 ex_23 => ?_)
        have e_23 : x_23.toInt = (fi D 12 11 H_17 a0).toInt := congrArg Int32.toInt ex_23
        refine th_iast E hT_17 hS_17 h_22 (Or.inr rfl) (by decide) (vp_in_iff.mpr ⟨by decide, by decide⟩) dX12_readsItem_177 (fun H_24 locs_24 hT_24 hU_24 hS_24 => ?_)
        have hU_24 : AU 2 H_17 H_24 (ρ a0 15) 1 x_23 := hU_24
        refine lv_iload_n hx hb dX12_readsItem_178 rfl (lv_at hl 0 rfl) ?_
        exact th_zret E hr hlk hs (Or.inr rfl) hT_24 hS_24 ⟨⟨(PW.q (hU_24.2 _ (th_ne (hW _ 12 0 ha0 (by decide) (by decide) (by decide)) (hW _ 12 15 ha0 (by decide) (by decide) (by decide)) (by decide))) p_17_0.1), (QS.same ((Eq.trans (ai_q (hU_24.2 _ (th_ne (hW _ 12 0 ha0 (by decide) (by decide) (by decide)) (hW _ 12 15 ha0 (by decide) (by decide) (by decide)) (by decide)))) (Eq.trans (ai_q (hk_17 _ (th_ne (hW _ 12 0 ha0 (by decide) (by decide) (by decide)) ha0 (by decide)))) (Eq.trans (ai_q (hU_13.2 _ (th_ne (hW _ 12 0 ha0 (by decide) (by decide) (by decide)) (hW _ 12 15 ha0 (by decide) (by decide) (by decide)) (by decide)))) (Eq.trans (ai_q (hk_10 _ (th_ne (hW _ 12 0 ha0 (by decide) (by decide) (by decide)) ha0 (by decide)))) (ai_q (hU_5.2.2 _ (th_ne (hW _ 12 0 ha0 (by decide) (by decide) (by decide)) ha0 (by decide)))))))).trans (Eq.trans (ai_q (hk_17 _ (th_ne (hW _ 12 0 ha0 (by decide) (by decide) (by decide)) ha0 (by decide)))) (Eq.trans (ai_q (hU_13.2 _ (th_ne (hW _ 12 0 ha0 (by decide) (by decide) (by decide)) (hW _ 12 15 ha0 (by decide) (by decide) (by decide)) (by decide)))) (Eq.trans (ai_q (hk_10 _ (th_ne (hW _ 12 0 ha0 (by decide) (by decide) (by decide)) ha0 (by decide)))) (ai_q (hU_5.2.2 _ (th_ne (hW _ 12 0 ha0 (by decide) (by decide) (by decide)) ha0 (by decide))))))).symm) ((Eq.trans (ai_q (hU_24.2 _ (th_ne (hW _ 12 0 ha0 (by decide) (by decide) (by decide)) (hW _ 12 15 ha0 (by decide) (by decide) (by decide)) (by decide)))) (Eq.trans (ai_q (hk_17 _ (th_ne (hW _ 12 0 ha0 (by decide) (by decide) (by decide)) ha0 (by decide)))) (Eq.trans (ai_q (hU_13.2 _ (th_ne (hW _ 12 0 ha0 (by decide) (by decide) (by decide)) (hW _ 12 15 ha0 (by decide) (by decide) (by decide)) (by decide)))) (Eq.trans (ai_q (hk_10 _ (th_ne (hW _ 12 0 ha0 (by decide) (by decide) (by decide)) ha0 (by decide)))) (ai_q (hU_5.2.2 _ (th_ne (hW _ 12 0 ha0 (by decide) (by decide) (by decide)) ha0 (by decide)))))))).trans (Eq.trans (ai_q (hk_17 _ (th_ne (hW _ 12 0 ha0 (by decide) (by decide) (by decide)) ha0 (by decide)))) (Eq.trans (ai_q (hU_13.2 _ (th_ne (hW _ 12 0 ha0 (by decide) (by decide) (by decide)) (hW _ 12 15 ha0 (by decide) (by decide) (by decide)) (by decide)))) (Eq.trans (ai_q (hk_10 _ (th_ne (hW _ 12 0 ha0 (by decide) (by decide) (by decide)) ha0 (by decide)))) (ai_q (hU_5.2.2 _ (th_ne (hW _ 12 0 ha0 (by decide) (by decide) (by decide)) ha0 (by decide))))))).symm) p_17_0.2.1), (QS.same ((Eq.trans (ai_q (hU_24.2 _ (th_ne (hW _ 12 0 ha0 (by decide) (by decide) (by decide)) (hW _ 12 15 ha0 (by decide) (by decide) (by decide)) (by decide)))) (Eq.trans (ai_q (hk_17 _ (th_ne (hW _ 12 0 ha0 (by decide) (by decide) (by decide)) ha0 (by decide)))) (Eq.trans (ai_q (hU_13.2 _ (th_ne (hW _ 12 0 ha0 (by decide) (by decide) (by decide)) (hW _ 12 15 ha0 (by decide) (by decide) (by decide)) (by decide)))) (Eq.trans (ai_q (hk_10 _ (th_ne (hW _ 12 0 ha0 (by decide) (by decide) (by decide)) ha0 (by decide)))) (ai_q (hU_5.2.2 _ (th_ne (hW _ 12 0 ha0 (by decide) (by decide) (by decide)) ha0 (by decide)))))))).trans (Eq.trans (ai_q (hk_17 _ (th_ne (hW _ 12 0 ha0 (by decide) (by decide) (by decide)) ha0 (by decide)))) (Eq.trans (ai_q (hU_13.2 _ (th_ne (hW _ 12 0 ha0 (by decide) (by decide) (by decide)) (hW _ 12 15 ha0 (by decide) (by decide) (by decide)) (by decide)))) (Eq.trans (ai_q (hk_10 _ (th_ne (hW _ 12 0 ha0 (by decide) (by decide) (by decide)) ha0 (by decide)))) (ai_q (hU_5.2.2 _ (th_ne (hW _ 12 0 ha0 (by decide) (by decide) (by decide)) ha0 (by decide))))))).symm) ((Eq.trans (ai_q (hU_24.2 _ (th_ne (hW _ 12 0 ha0 (by decide) (by decide) (by decide)) (hW _ 12 15 ha0 (by decide) (by decide) (by decide)) (by decide)))) (Eq.trans (ai_q (hk_17 _ (th_ne (hW _ 12 0 ha0 (by decide) (by decide) (by decide)) ha0 (by decide)))) (Eq.trans (ai_q (hU_13.2 _ (th_ne (hW _ 12 0 ha0 (by decide) (by decide) (by decide)) (hW _ 12 15 ha0 (by decide) (by decide) (by decide)) (by decide)))) (Eq.trans (ai_q (hk_10 _ (th_ne (hW _ 12 0 ha0 (by decide) (by decide) (by decide)) ha0 (by decide)))) (ai_q (hU_5.2.2 _ (th_ne (hW _ 12 0 ha0 (by decide) (by decide) (by decide)) ha0 (by decide)))))))).trans (Eq.trans (ai_q (hk_17 _ (th_ne (hW _ 12 0 ha0 (by decide) (by decide) (by decide)) ha0 (by decide)))) (Eq.trans (ai_q (hU_13.2 _ (th_ne (hW _ 12 0 ha0 (by decide) (by decide) (by decide)) (hW _ 12 15 ha0 (by decide) (by decide) (by decide)) (by decide)))) (Eq.trans (ai_q (hk_10 _ (th_ne (hW _ 12 0 ha0 (by decide) (by decide) (by decide)) ha0 (by decide)))) (ai_q (hU_5.2.2 _ (th_ne (hW _ 12 0 ha0 (by decide) (by decide) (by decide)) ha0 (by decide))))))).symm) p_17_0.2.2.1), (PL.q (hU_24.2 _ (th_ne (hW _ 12 2 ha0 (by decide) (by decide) (by decide)) (hW _ 12 15 ha0 (by decide) (by decide) (by decide)) (by decide))) p_17_0.2.2.2.1), (PL.q (hU_24.2 _ (th_ne (hW _ 12 3 ha0 (by decide) (by decide) (by decide)) (hW _ 12 15 ha0 (by decide) (by decide) (by decide)) (by decide))) p_17_0.2.2.2.2.1), (IF.q (hU_24.2 _ (th_ne ha0 (hW _ 12 15 ha0 (by decide) (by decide) (by decide)) (by decide))) p_17_0.2.2.2.2.2)⟩, (Or.inr rfl), (by have : (1 : Int32).toInt = 1 := (by decide); have : (fi D 12 10 H a0).toInt = (x_2 : Int32).toInt := congrArg Int32.toInt ex_2.symm; have : (fi D 12 10 H_24 a0).toInt = (fi D 12 10 H_17 a0 : Int32).toInt := congrArg Int32.toInt (fi_q (hU_24.2 _ (th_ne ha0 (hW _ 12 15 ha0 (by decide) (by decide) (by decide)) (by decide)))); omega), (by have : (1 : Int32).toInt = 1 := (by decide); have : (fi D 12 12 H_24 a0).toInt = (fi D 12 12 H a0 : Int32).toInt := congrArg Int32.toInt (Eq.trans (fi_q (hU_24.2 _ (th_ne ha0 (hW _ 12 15 ha0 (by decide) (by decide) (by decide)) (by decide)))) (Eq.trans p_17_5 (Eq.trans (fi_q (hU_13.2 _ (th_ne ha0 (hW _ 12 15 ha0 (by decide) (by decide) (by decide)) (by decide)))) (Eq.trans p_10_5 (PU.io hU_5 (j := 12) (by decide) (by decide)))))); have : (fi D 12 13 H_24 a0).toInt = (fi D 12 13 H a0 : Int32).toInt := congrArg Int32.toInt (Eq.trans (fi_q (hU_24.2 _ (th_ne ha0 (hW _ 12 15 ha0 (by decide) (by decide) (by decide)) (by decide)))) (Eq.trans p_17_6 (Eq.trans (fi_q (hU_13.2 _ (th_ne ha0 (hW _ 12 15 ha0 (by decide) (by decide) (by decide)) (by decide)))) (Eq.trans p_10_6 (PU.io hU_5 (j := 13) (by decide) (by decide)))))); have : (fi D 12 14 H_24 a0).toInt = (fi D 12 14 H a0 : Int32).toInt := congrArg Int32.toInt (Eq.trans (fi_q (hU_24.2 _ (th_ne ha0 (hW _ 12 15 ha0 (by decide) (by decide) (by decide)) (by decide)))) (Eq.trans p_17_7 (Eq.trans (fi_q (hU_13.2 _ (th_ne ha0 (hW _ 12 15 ha0 (by decide) (by decide) (by decide)) (by decide)))) (Eq.trans p_10_7 (PU.io hU_5 (j := 14) (by decide) (by decide)))))); omega), (Eq.trans (fi_q (hU_24.2 _ (th_ne ha0 (hW _ 12 15 ha0 (by decide) (by decide) (by decide)) (by decide)))) (Eq.trans p_17_4 (Eq.trans (fi_q (hU_13.2 _ (th_ne ha0 (hW _ 12 15 ha0 (by decide) (by decide) (by decide)) (by decide)))) (Eq.trans p_10_4 (PU.io hU_5 (j := 5) (by decide) (by decide))))))⟩ dX12_readsItem_179
  by_cases k6_108 : x_3 = 108
  · refine th_topi k6_108 ?_
    refine lv_lookup (tgt := 104) hx hb dX12_readsItem_21 (by decide) rfl (by decide) ?_
    have kc6_108 : x_3.toInt = 108 := r_eq rfl (by decide) k6_108
    refine lv_aload_n hx hb dX12_readsItem_104 rfl (lv_at hl 1 rfl) ?_
    refine lv_iconst (v := 1) hx hb dX12_readsItem_105 (by decide) ?_
    refine lv_bipush (v := 20) hx hb dX12_readsItem_106 (by decide) ?_
    refine lv_bipush (v := 59) hx hb dX12_readsItem_108 (by decide) ?_
    refine th_Vi (As := [.int 1, .int 20, .int 59]) (rest := []) E hml hl.1 (y_readsNumber_v4 l D cI cS τ ρ hW H_5 hT_5 a0 ha0 N hN0 hN1 ⟨(PW.q (hU_5.2.2 _ (th_ne (hW _ 12 0 ha0 (by decide) (by decide) (by decide)) ha0 (by decide))) hI.1), (QS.same (ai_q (hU_5.2.2 _ (th_ne (hW _ 12 0 ha0 (by decide) (by decide) (by decide)) ha0 (by decide)))) (ai_q (hU_5.2.2 _ (th_ne (hW _ 12 0 ha0 (by decide) (by decide) (by decide)) ha0 (by decide)))) hI.2.1), (QS.same (ai_q (hU_5.2.2 _ (th_ne (hW _ 12 0 ha0 (by decide) (by decide) (by decide)) ha0 (by decide)))) (ai_q (hU_5.2.2 _ (th_ne (hW _ 12 0 ha0 (by decide) (by decide) (by decide)) ha0 (by decide)))) hI.2.2.1), (PL.q (hU_5.2.2 _ (th_ne (hW _ 12 2 ha0 (by decide) (by decide) (by decide)) ha0 (by decide))) hI.2.2.2.1), (PL.q (hU_5.2.2 _ (th_ne (hW _ 12 3 ha0 (by decide) (by decide) (by decide)) ha0 (by decide))) hI.2.2.2.2.1), (IF.put hI.2.2.2.2.2 hU_5 (by decide))⟩ (by have : (fi D 12 10 H_5 a0).toInt = (x_4 : Int32).toInt := congrArg Int32.toInt (PU.i hU_5); omega)) lk_X12_67 yd_X12_readsNumber hT_5 ha0 rfl (by decide) hS_5 (fun q h => (Or.inl h)) ⟨by decide, by decide⟩ (Nat.le_of_ble_eq_true rfl) ⟨by decide, by decide⟩ rfl dX12_readsItem_110 (fun r_25 H_25 locs_25 p_25 hT_25 hk_25 hS_25 => ?_)
    have p_25 : (IM D ρ N H_25 a0) ∧ (r_25 = 0 ∨ r_25 = 1) ∧ ((fi D 12 10 H_5 a0).toInt + 1 ≤ (fi D 12 10 H_25 a0).toInt ∧ (fi D 12 10 H_25 a0).toInt ≤ (fi D 12 10 H_5 a0).toInt + 5) ∧ (r_25.toInt = 1 → (1 ≤ (fi D 12 11 H_25 a0).toInt ∧ (fi D 12 11 H_25 a0).toInt ≤ 20)) ∧ (fi D 12 5 H_25 a0 = fi D 12 5 H_5 a0) ∧ (fi D 12 12 H_25 a0 = fi D 12 12 H_5 a0) ∧ (fi D 12 13 H_25 a0 = fi D 12 13 H_5 a0) ∧ (fi D 12 14 H_25 a0 = fi D 12 14 H_5 a0) := p_25
    obtain ⟨p_25_0, p_25_1, p_25_2, p_25_3, p_25_4, p_25_5, p_25_6, p_25_7⟩ := p_25
    have lf_25_5 : (fi D 12 5 H_5 a0).toInt = (fi D 12 5 H a0 : Int32).toInt := congrArg Int32.toInt (PU.io hU_5 (j := 5) (by decide) (by decide))
    have lf_25_10 : (fi D 12 10 H_5 a0).toInt = (x_4 : Int32).toInt := congrArg Int32.toInt (PU.i hU_5)
    have lf_25_12 : (fi D 12 12 H_5 a0).toInt = (fi D 12 12 H a0 : Int32).toInt := congrArg Int32.toInt (PU.io hU_5 (j := 12) (by decide) (by decide))
    have lf_25_13 : (fi D 12 13 H_5 a0).toInt = (fi D 12 13 H a0 : Int32).toInt := congrArg Int32.toInt (PU.io hU_5 (j := 13) (by decide) (by decide))
    have lf_25_14 : (fi D 12 14 H_5 a0).toInt = (fi D 12 14 H a0 : Int32).toInt := congrArg Int32.toInt (PU.io hU_5 (j := 14) (by decide) (by decide))
    have z_25 := b_iv p_25_1
    refine lv_istore_n (lv' := [(2, .int r_25), (1, .int x_3), (0, .ref a0)]) hx hb dX12_readsItem_113 rfl hl (by decide) rfl (fun ls hl => ?_)
    refine lv_aload_n hx hb dX12_readsItem_114 rfl (lv_at hl 2 rfl) ?_
    refine lv_aload_n hx hb dX12_readsItem_115 rfl (lv_at hl 2 rfl) ?_
    refine gf_X12_58 E hT_25 ha0 dX12_readsItem_116 ?_
    refine lv_topi (fun x_26 ex_26 => ?_)
    have e_26 : x_26.toInt = (fi D 12 11 H_25 a0).toInt := congrArg Int32.toInt ex_26
    refine pf_X12_77 E hT_25 hS_25 ha0 (Or.inl rfl) dX12_readsItem_119 (fun H_27 locs_27 hT_27 hU_27 hS_27 => ?_)
    refine lv_iload_n hx hb dX12_readsItem_122 rfl (lv_at hl 0 rfl) ?_
    exact th_zret E hr hlk hs p_25_1 hT_27 hS_27 ⟨⟨(PW.q (hU_27.2.2 _ (th_ne (hW _ 12 0 ha0 (by decide) (by decide) (by decide)) ha0 (by decide))) p_25_0.1), (QS.same ((Eq.trans (ai_q (hU_27.2.2 _ (th_ne (hW _ 12 0 ha0 (by decide) (by decide) (by decide)) ha0 (by decide)))) (Eq.trans (ai_q (hk_25 _ (th_ne (hW _ 12 0 ha0 (by decide) (by decide) (by decide)) ha0 (by decide)))) (ai_q (hU_5.2.2 _ (th_ne (hW _ 12 0 ha0 (by decide) (by decide) (by decide)) ha0 (by decide)))))).trans (Eq.trans (ai_q (hk_25 _ (th_ne (hW _ 12 0 ha0 (by decide) (by decide) (by decide)) ha0 (by decide)))) (ai_q (hU_5.2.2 _ (th_ne (hW _ 12 0 ha0 (by decide) (by decide) (by decide)) ha0 (by decide))))).symm) ((Eq.trans (ai_q (hU_27.2.2 _ (th_ne (hW _ 12 0 ha0 (by decide) (by decide) (by decide)) ha0 (by decide)))) (Eq.trans (ai_q (hk_25 _ (th_ne (hW _ 12 0 ha0 (by decide) (by decide) (by decide)) ha0 (by decide)))) (ai_q (hU_5.2.2 _ (th_ne (hW _ 12 0 ha0 (by decide) (by decide) (by decide)) ha0 (by decide)))))).trans (Eq.trans (ai_q (hk_25 _ (th_ne (hW _ 12 0 ha0 (by decide) (by decide) (by decide)) ha0 (by decide)))) (ai_q (hU_5.2.2 _ (th_ne (hW _ 12 0 ha0 (by decide) (by decide) (by decide)) ha0 (by decide))))).symm) p_25_0.2.1), (QS.same ((Eq.trans (ai_q (hU_27.2.2 _ (th_ne (hW _ 12 0 ha0 (by decide) (by decide) (by decide)) ha0 (by decide)))) (Eq.trans (ai_q (hk_25 _ (th_ne (hW _ 12 0 ha0 (by decide) (by decide) (by decide)) ha0 (by decide)))) (ai_q (hU_5.2.2 _ (th_ne (hW _ 12 0 ha0 (by decide) (by decide) (by decide)) ha0 (by decide)))))).trans (Eq.trans (ai_q (hk_25 _ (th_ne (hW _ 12 0 ha0 (by decide) (by decide) (by decide)) ha0 (by decide)))) (ai_q (hU_5.2.2 _ (th_ne (hW _ 12 0 ha0 (by decide) (by decide) (by decide)) ha0 (by decide))))).symm) ((Eq.trans (ai_q (hU_27.2.2 _ (th_ne (hW _ 12 0 ha0 (by decide) (by decide) (by decide)) ha0 (by decide)))) (Eq.trans (ai_q (hk_25 _ (th_ne (hW _ 12 0 ha0 (by decide) (by decide) (by decide)) ha0 (by decide)))) (ai_q (hU_5.2.2 _ (th_ne (hW _ 12 0 ha0 (by decide) (by decide) (by decide)) ha0 (by decide)))))).trans (Eq.trans (ai_q (hk_25 _ (th_ne (hW _ 12 0 ha0 (by decide) (by decide) (by decide)) ha0 (by decide)))) (ai_q (hU_5.2.2 _ (th_ne (hW _ 12 0 ha0 (by decide) (by decide) (by decide)) ha0 (by decide))))).symm) p_25_0.2.2.1), (PL.q (hU_27.2.2 _ (th_ne (hW _ 12 2 ha0 (by decide) (by decide) (by decide)) ha0 (by decide))) p_25_0.2.2.2.1), (PL.q (hU_27.2.2 _ (th_ne (hW _ 12 3 ha0 (by decide) (by decide) (by decide)) ha0 (by decide))) p_25_0.2.2.2.2.1), (IF.put p_25_0.2.2.2.2.2 hU_27 (by decide))⟩, p_25_1, (by have : (fi D 12 10 H a0).toInt = (x_2 : Int32).toInt := congrArg Int32.toInt ex_2.symm; have : (fi D 12 10 H_27 a0).toInt = (fi D 12 10 H_25 a0 : Int32).toInt := congrArg Int32.toInt (PU.io hU_27 (j := 10) (by decide) (by decide)); omega), (by have : (fi D 12 12 H_27 a0).toInt = (fi D 12 12 H a0 : Int32).toInt := congrArg Int32.toInt (Eq.trans (PU.io hU_27 (j := 12) (by decide) (by decide)) (Eq.trans p_25_5 (PU.io hU_5 (j := 12) (by decide) (by decide)))); have : (fi D 12 13 H_27 a0).toInt = (fi D 12 13 H a0 : Int32).toInt := congrArg Int32.toInt (Eq.trans (PU.io hU_27 (j := 13) (by decide) (by decide)) (Eq.trans p_25_6 (PU.io hU_5 (j := 13) (by decide) (by decide)))); have : (fi D 12 14 H_27 a0).toInt = (x_26 : Int32).toInt := congrArg Int32.toInt (PU.i hU_27); omega), (Eq.trans (PU.io hU_27 (j := 5) (by decide) (by decide)) (Eq.trans p_25_4 (PU.io hU_5 (j := 5) (by decide) (by decide))))⟩ dX12_readsItem_123
  by_cases k6_112 : x_3 = 112
  · refine th_topi k6_112 ?_
    refine lv_lookup (tgt := 64) hx hb dX12_readsItem_21 (by decide) rfl (by decide) ?_
    have kc6_112 : x_3.toInt = 112 := r_eq rfl (by decide) k6_112
    refine lv_aload_n hx hb dX12_readsItem_64 rfl (lv_at hl 1 rfl) ?_
    refine lv_iconst (v := 1) hx hb dX12_readsItem_65 (by decide) ?_
    refine lv_bipush (v := 8) hx hb dX12_readsItem_66 (by decide) ?_
    refine lv_bipush (v := 59) hx hb dX12_readsItem_68 (by decide) ?_
    refine th_Vi (As := [.int 1, .int 8, .int 59]) (rest := []) E hml hl.1 (y_readsNumber_v5 l D cI cS τ ρ hW H_5 hT_5 a0 ha0 N hN0 hN1 ⟨(PW.q (hU_5.2.2 _ (th_ne (hW _ 12 0 ha0 (by decide) (by decide) (by decide)) ha0 (by decide))) hI.1), (QS.same (ai_q (hU_5.2.2 _ (th_ne (hW _ 12 0 ha0 (by decide) (by decide) (by decide)) ha0 (by decide)))) (ai_q (hU_5.2.2 _ (th_ne (hW _ 12 0 ha0 (by decide) (by decide) (by decide)) ha0 (by decide)))) hI.2.1), (QS.same (ai_q (hU_5.2.2 _ (th_ne (hW _ 12 0 ha0 (by decide) (by decide) (by decide)) ha0 (by decide)))) (ai_q (hU_5.2.2 _ (th_ne (hW _ 12 0 ha0 (by decide) (by decide) (by decide)) ha0 (by decide)))) hI.2.2.1), (PL.q (hU_5.2.2 _ (th_ne (hW _ 12 2 ha0 (by decide) (by decide) (by decide)) ha0 (by decide))) hI.2.2.2.1), (PL.q (hU_5.2.2 _ (th_ne (hW _ 12 3 ha0 (by decide) (by decide) (by decide)) ha0 (by decide))) hI.2.2.2.2.1), (IF.put hI.2.2.2.2.2 hU_5 (by decide))⟩ (by have : (fi D 12 10 H_5 a0).toInt = (x_4 : Int32).toInt := congrArg Int32.toInt (PU.i hU_5); omega)) lk_X12_67 yd_X12_readsNumber hT_5 ha0 rfl (by decide) hS_5 (fun q h => (Or.inl h)) ⟨by decide, by decide⟩ (Nat.le_of_ble_eq_true rfl) ⟨by decide, by decide⟩ rfl dX12_readsItem_70 (fun r_28 H_28 locs_28 p_28 hT_28 hk_28 hS_28 => ?_)
    have p_28 : (IM D ρ N H_28 a0) ∧ (r_28 = 0 ∨ r_28 = 1) ∧ ((fi D 12 10 H_5 a0).toInt + 1 ≤ (fi D 12 10 H_28 a0).toInt ∧ (fi D 12 10 H_28 a0).toInt ≤ (fi D 12 10 H_5 a0).toInt + 5) ∧ (r_28.toInt = 1 → (1 ≤ (fi D 12 11 H_28 a0).toInt ∧ (fi D 12 11 H_28 a0).toInt ≤ 8)) ∧ (fi D 12 5 H_28 a0 = fi D 12 5 H_5 a0) ∧ (fi D 12 12 H_28 a0 = fi D 12 12 H_5 a0) ∧ (fi D 12 13 H_28 a0 = fi D 12 13 H_5 a0) ∧ (fi D 12 14 H_28 a0 = fi D 12 14 H_5 a0) := p_28
    obtain ⟨p_28_0, p_28_1, p_28_2, p_28_3, p_28_4, p_28_5, p_28_6, p_28_7⟩ := p_28
    have lf_28_5 : (fi D 12 5 H_5 a0).toInt = (fi D 12 5 H a0 : Int32).toInt := congrArg Int32.toInt (PU.io hU_5 (j := 5) (by decide) (by decide))
    have lf_28_10 : (fi D 12 10 H_5 a0).toInt = (x_4 : Int32).toInt := congrArg Int32.toInt (PU.i hU_5)
    have lf_28_12 : (fi D 12 12 H_5 a0).toInt = (fi D 12 12 H a0 : Int32).toInt := congrArg Int32.toInt (PU.io hU_5 (j := 12) (by decide) (by decide))
    have lf_28_13 : (fi D 12 13 H_5 a0).toInt = (fi D 12 13 H a0 : Int32).toInt := congrArg Int32.toInt (PU.io hU_5 (j := 13) (by decide) (by decide))
    have lf_28_14 : (fi D 12 14 H_5 a0).toInt = (fi D 12 14 H a0 : Int32).toInt := congrArg Int32.toInt (PU.io hU_5 (j := 14) (by decide) (by decide))
    have z_28 := b_iv p_28_1
    refine lv_istore_n (lv' := [(2, .int r_28), (1, .int x_3), (0, .ref a0)]) hx hb dX12_readsItem_73 rfl hl (by decide) rfl (fun ls hl => ?_)
    refine lv_aload_n hx hb dX12_readsItem_74 rfl (lv_at hl 2 rfl) ?_
    refine lv_aload_n hx hb dX12_readsItem_75 rfl (lv_at hl 2 rfl) ?_
    refine gf_X12_58 E hT_28 ha0 dX12_readsItem_76 ?_
    refine lv_topi (fun x_29 ex_29 => ?_)
    have e_29 : x_29.toInt = (fi D 12 11 H_28 a0).toInt := congrArg Int32.toInt ex_29
    refine pf_X12_71 E hT_28 hS_28 ha0 (Or.inl rfl) dX12_readsItem_79 (fun H_30 locs_30 hT_30 hU_30 hS_30 => ?_)
    refine lv_iload_n hx hb dX12_readsItem_82 rfl (lv_at hl 0 rfl) ?_
    exact th_zret E hr hlk hs p_28_1 hT_30 hS_30 ⟨⟨(PW.q (hU_30.2.2 _ (th_ne (hW _ 12 0 ha0 (by decide) (by decide) (by decide)) ha0 (by decide))) p_28_0.1), (QS.same ((Eq.trans (ai_q (hU_30.2.2 _ (th_ne (hW _ 12 0 ha0 (by decide) (by decide) (by decide)) ha0 (by decide)))) (Eq.trans (ai_q (hk_28 _ (th_ne (hW _ 12 0 ha0 (by decide) (by decide) (by decide)) ha0 (by decide)))) (ai_q (hU_5.2.2 _ (th_ne (hW _ 12 0 ha0 (by decide) (by decide) (by decide)) ha0 (by decide)))))).trans (Eq.trans (ai_q (hk_28 _ (th_ne (hW _ 12 0 ha0 (by decide) (by decide) (by decide)) ha0 (by decide)))) (ai_q (hU_5.2.2 _ (th_ne (hW _ 12 0 ha0 (by decide) (by decide) (by decide)) ha0 (by decide))))).symm) ((Eq.trans (ai_q (hU_30.2.2 _ (th_ne (hW _ 12 0 ha0 (by decide) (by decide) (by decide)) ha0 (by decide)))) (Eq.trans (ai_q (hk_28 _ (th_ne (hW _ 12 0 ha0 (by decide) (by decide) (by decide)) ha0 (by decide)))) (ai_q (hU_5.2.2 _ (th_ne (hW _ 12 0 ha0 (by decide) (by decide) (by decide)) ha0 (by decide)))))).trans (Eq.trans (ai_q (hk_28 _ (th_ne (hW _ 12 0 ha0 (by decide) (by decide) (by decide)) ha0 (by decide)))) (ai_q (hU_5.2.2 _ (th_ne (hW _ 12 0 ha0 (by decide) (by decide) (by decide)) ha0 (by decide))))).symm) p_28_0.2.1), (QS.same ((Eq.trans (ai_q (hU_30.2.2 _ (th_ne (hW _ 12 0 ha0 (by decide) (by decide) (by decide)) ha0 (by decide)))) (Eq.trans (ai_q (hk_28 _ (th_ne (hW _ 12 0 ha0 (by decide) (by decide) (by decide)) ha0 (by decide)))) (ai_q (hU_5.2.2 _ (th_ne (hW _ 12 0 ha0 (by decide) (by decide) (by decide)) ha0 (by decide)))))).trans (Eq.trans (ai_q (hk_28 _ (th_ne (hW _ 12 0 ha0 (by decide) (by decide) (by decide)) ha0 (by decide)))) (ai_q (hU_5.2.2 _ (th_ne (hW _ 12 0 ha0 (by decide) (by decide) (by decide)) ha0 (by decide))))).symm) ((Eq.trans (ai_q (hU_30.2.2 _ (th_ne (hW _ 12 0 ha0 (by decide) (by decide) (by decide)) ha0 (by decide)))) (Eq.trans (ai_q (hk_28 _ (th_ne (hW _ 12 0 ha0 (by decide) (by decide) (by decide)) ha0 (by decide)))) (ai_q (hU_5.2.2 _ (th_ne (hW _ 12 0 ha0 (by decide) (by decide) (by decide)) ha0 (by decide)))))).trans (Eq.trans (ai_q (hk_28 _ (th_ne (hW _ 12 0 ha0 (by decide) (by decide) (by decide)) ha0 (by decide)))) (ai_q (hU_5.2.2 _ (th_ne (hW _ 12 0 ha0 (by decide) (by decide) (by decide)) ha0 (by decide))))).symm) p_28_0.2.2.1), (PL.q (hU_30.2.2 _ (th_ne (hW _ 12 2 ha0 (by decide) (by decide) (by decide)) ha0 (by decide))) p_28_0.2.2.2.1), (PL.q (hU_30.2.2 _ (th_ne (hW _ 12 3 ha0 (by decide) (by decide) (by decide)) ha0 (by decide))) p_28_0.2.2.2.2.1), (IF.put p_28_0.2.2.2.2.2 hU_30 (by decide))⟩, p_28_1, (by have : (fi D 12 10 H a0).toInt = (x_2 : Int32).toInt := congrArg Int32.toInt ex_2.symm; have : (fi D 12 10 H_30 a0).toInt = (fi D 12 10 H_28 a0 : Int32).toInt := congrArg Int32.toInt (PU.io hU_30 (j := 10) (by decide) (by decide)); omega), (by have : (fi D 12 12 H_30 a0).toInt = (x_29 : Int32).toInt := congrArg Int32.toInt (PU.i hU_30); have : (fi D 12 13 H_30 a0).toInt = (fi D 12 13 H a0 : Int32).toInt := congrArg Int32.toInt (Eq.trans (PU.io hU_30 (j := 13) (by decide) (by decide)) (Eq.trans p_28_6 (PU.io hU_5 (j := 13) (by decide) (by decide)))); have : (fi D 12 14 H_30 a0).toInt = (fi D 12 14 H a0 : Int32).toInt := congrArg Int32.toInt (Eq.trans (PU.io hU_30 (j := 14) (by decide) (by decide)) (Eq.trans p_28_7 (PU.io hU_5 (j := 14) (by decide) (by decide)))); omega), (Eq.trans (PU.io hU_30 (j := 5) (by decide) (by decide)) (Eq.trans p_28_4 (PU.io hU_5 (j := 5) (by decide) (by decide))))⟩ dX12_readsItem_83
  have n6_98 := i_ne k6_98 (k := 98) (by decide)
  have n6_102 := i_ne k6_102 (k := 102) (by decide)
  have n6_108 := i_ne k6_108 (k := 108) (by decide)
  have n6_112 := i_ne k6_112 (k := 112) (by decide)
  refine lv_lookup (tgt := 180) hx hb dX12_readsItem_21 (off := 159) (by decide) (by show Op.lookupswitch.offset [(98, 63), (102, 103), (108, 83), (112, 43)] _ _ = _; rw [lv_osw k6_98 (by decide), lv_osw k6_102 (by decide), lv_osw k6_108 (by decide), lv_osw k6_112 (by decide)]; rfl) (by decide) ?_
  refine lv_iconst (v := 0) hx hb dX12_readsItem_180 (by decide) ?_
  exact th_zret E hr hlk hs (Or.inl rfl) hT_5 hS_5 ⟨⟨(PW.q (hU_5.2.2 _ (th_ne (hW _ 12 0 ha0 (by decide) (by decide) (by decide)) ha0 (by decide))) hI.1), (QS.same (ai_q (hU_5.2.2 _ (th_ne (hW _ 12 0 ha0 (by decide) (by decide) (by decide)) ha0 (by decide)))) (ai_q (hU_5.2.2 _ (th_ne (hW _ 12 0 ha0 (by decide) (by decide) (by decide)) ha0 (by decide)))) hI.2.1), (QS.same (ai_q (hU_5.2.2 _ (th_ne (hW _ 12 0 ha0 (by decide) (by decide) (by decide)) ha0 (by decide)))) (ai_q (hU_5.2.2 _ (th_ne (hW _ 12 0 ha0 (by decide) (by decide) (by decide)) ha0 (by decide)))) hI.2.2.1), (PL.q (hU_5.2.2 _ (th_ne (hW _ 12 2 ha0 (by decide) (by decide) (by decide)) ha0 (by decide))) hI.2.2.2.1), (PL.q (hU_5.2.2 _ (th_ne (hW _ 12 3 ha0 (by decide) (by decide) (by decide)) ha0 (by decide))) hI.2.2.2.2.1), (IF.put hI.2.2.2.2.2 hU_5 (by decide))⟩, (Or.inl rfl), (by have : (0 : Int32).toInt = 0 := (by decide); have : (fi D 12 10 H a0).toInt = (x_2 : Int32).toInt := congrArg Int32.toInt ex_2.symm; have : (fi D 12 10 H_5 a0).toInt = (x_4 : Int32).toInt := congrArg Int32.toInt (PU.i hU_5); omega), (by have : (0 : Int32).toInt = 0 := (by decide); have : (fi D 12 12 H_5 a0).toInt = (fi D 12 12 H a0 : Int32).toInt := congrArg Int32.toInt (PU.io hU_5 (j := 12) (by decide) (by decide)); have : (fi D 12 13 H_5 a0).toInt = (fi D 12 13 H a0 : Int32).toInt := congrArg Int32.toInt (PU.io hU_5 (j := 13) (by decide) (by decide)); have : (fi D 12 14 H_5 a0).toInt = (fi D 12 14 H a0 : Int32).toInt := congrArg Int32.toInt (PU.io hU_5 (j := 14) (by decide) (by decide)); omega), (PU.io hU_5 (j := 5) (by decide) (by decide))⟩ dX12_readsItem_181
set_option maxHeartbeats 4000000 in
set_option maxRecDepth 100000 in
/-- the reference: reads -/
theorem y_reads (l : Launch) (D : va_G) (cI cS : ClassId) (τ : Nat → Option Nat) (ρ : Nat → Nat → Nat) (hW : WF τ ρ) (H : Heap) (hT : TH D cI cS τ ρ H) (a0 : Nat) (ha0 : τ a0 = some 12) (N : Int) (hN0 : 0 ≤ N) (hN1 : N ≤ 600) (hI : IM D ρ N H a0) : MI l D cI cS τ ρ yX12_reads cX12_reads 2 (some .int) 4 92 H [.ref a0] (fun (r : Int32) (u : Heap) => (IM D ρ N u a0) ∧ (r.toInt = -4 → (1 ≤ (fi D 12 12 u a0).toInt ∧ (fi D 12 12 u a0).toInt ≤ 8 ∧ 2 ≤ (fi D 12 13 u a0).toInt ∧ (fi D 12 13 u a0).toInt ≤ 32 ∧ 1 ≤ (fi D 12 14 u a0).toInt ∧ (fi D 12 14 u a0).toInt ≤ 20)) ∧ (fi D 12 5 u a0 = fi D 12 5 H a0)) (fun q => q = a0 ∨ q = ρ a0 15) := by
  refine MI.of (by decide) (Nat.le_of_ble_eq_true rfl) ?_
  intro p e s m args below meth c E hml hr hlk hs ls hl
  have hx := E.1
  have hb := E.2.1
  have hown := E.2.2.1
  have hts := E.2.2.2.1
  have hS : SS (fun q => q = a0 ∨ q = ρ a0 15) H H [] := SS.rf
  have hl : lv_has ls 2 [(0, .ref a0)] := hl
  have n01 := hI.2.2.2.2.2.1
  have n23 := hI.2.2.2.2.2.2.1
  have bL5 : 0 ≤ (fi D 12 5 H a0).toInt ∧ (fi D 12 5 H a0).toInt ≤ 200 := IF.f5 hI.2.2.2.2.2
  have L_35 : ∀ (n : Nat) (H_c35 : Heap) (lc_c35 : List Loc) (ls : Array Slot) (g35_0 : Int32), TH D cI cS τ ρ H_c35 → SS (fun q => q = a0 ∨ q = ρ a0 15) H H_c35 lc_c35 → lv_has ls 2 [(0, .ref a0)] → fi D 12 10 H_c35 a0 = g35_0 → fi D 12 5 H_c35 a0 = fi D 12 5 H a0 → IM D ρ N H_c35 a0 → 0 ≤ (fi D 12 10 H_c35 a0).toInt ∧ (fi D 12 10 H_c35 a0).toInt ≤ 250 ∧ 1 ≤ (fi D 12 12 H_c35 a0).toInt ∧ (fi D 12 12 H_c35 a0).toInt ≤ 8 ∧ 2 ≤ (fi D 12 13 H_c35 a0).toInt ∧ (fi D 12 13 H_c35 a0).toInt ≤ 32 ∧ 1 ≤ (fi D 12 14 H_c35 a0).toInt ∧ (fi D 12 14 H_c35 a0).toInt ≤ 20 → fi D 12 5 H_c35 a0 = fi D 12 5 H a0 → ((fi D 12 5 H a0).toInt - g35_0.toInt).toNat < n → W p l e (rmO 4 92) s m args below meth c H_c35 lc_c35 0 0 (MQ below (va_Qi (fun (r : Int32) (u : Heap) => (IM D ρ N u a0) ∧ (r.toInt = -4 → (1 ≤ (fi D 12 12 u a0).toInt ∧ (fi D 12 12 u a0).toInt ≤ 8 ∧ 2 ≤ (fi D 12 13 u a0).toInt ∧ (fi D 12 13 u a0).toInt ≤ 32 ∧ 1 ≤ (fi D 12 14 u a0).toInt ∧ (fi D 12 14 u a0).toInt ≤ 20)) ∧ (fi D 12 5 u a0 = fi D 12 5 H a0)) (Bt D cI cS τ ρ H) (fun q => q = a0 ∨ q = ρ a0 15)) args s 0 0 (fun q => q = a0 ∨ q = ρ a0 15)) (F0 m 35 ls []) := by
    intro n
    induction n with
    | zero => intro H_c35 lc_c35 ls g35_0 hT_c35 hS_c35 hl hg35_0 hg35_1 hI_c35 hx35_0 hf35_5 hm; exact absurd hm (Nat.not_lt_zero _)
    | succ n ih_35 =>
      intro H_c35 lc_c35 ls g35_0 hT_c35 hS_c35 hl hg35_0 hg35_1 hI_c35 hx35_0 hf35_5 hm_35
      have cg_g35_0 := congrArg Int32.toInt hg35_0
      have cg_g35_1 := congrArg Int32.toInt hg35_1
      refine lv_aload_n hx hb dX12_reads_35 rfl (lv_at hl 0 rfl) ?_
      refine gf_X12_44 E hT_c35 ha0 dX12_reads_36 ?_
      refine th_topi (y := g35_0) hg35_0 ?_
      refine lv_aload_n hx hb dX12_reads_39 rfl (lv_at hl 0 rfl) ?_
      refine gf_X12_47 E hT_c35 ha0 dX12_reads_40 ?_
      refine th_topi (y := fi D 12 5 H a0) hf35_5 ?_
      refine lv_topi (fun x_1 ex_1 => ?_)
      have e_1 : x_1.toInt = (fi D 12 5 H a0).toInt := congrArg Int32.toInt ex_1
      have b_1 : 0 ≤ x_1.toInt ∧ x_1.toInt ≤ 200 := by rw [ex_1]; exact IF.f5 hI.2.2.2.2.2
      refine lv_icmp_ge (tgt := 63) hx hb dX12_reads_43 (by decide) (fun c_2 => ?_) (fun c_2 => ?_)
      · have f_2 : x_1.toInt ≤ g35_0.toInt := r_le rfl rfl c_2
        refine lv_bipush (v := (-4)) hx hb dX12_reads_63 (by decide) ?_
        exact th_iret E hr hlk hs hT_c35 hS_c35 ⟨⟨hI_c35.1, hI_c35.2.1, hI_c35.2.2.1, hI_c35.2.2.2.1, hI_c35.2.2.2.2.1, hI_c35.2.2.2.2.2⟩, (by have : ((-4) : Int32).toInt = -4 := (by decide); omega), ((hf35_5.trans ex_1.symm).trans ex_1.symm.symm)⟩ dX12_reads_65
      · have f_2 : g35_0.toInt < x_1.toInt := r_nle rfl rfl c_2
        refine lv_aload_n hx hb dX12_reads_46 rfl (lv_at hl 0 rfl) ?_
        refine gf_X12_44 E hT_c35 ha0 dX12_reads_47 ?_
        refine th_topi (y := g35_0) hg35_0 ?_
        refine lv_istore_n (lv' := [(1, .int g35_0), (0, .ref a0)]) hx hb dX12_reads_50 rfl hl (by decide) rfl (fun ls hl => ?_)
        refine lv_aload_n hx hb dX12_reads_51 rfl (lv_at hl 1 rfl) ?_
        refine th_Vi (As := []) (rest := []) E hml hl.1 (y_readsItem l D cI cS τ ρ hW H_c35 hT_c35 a0 ha0 N hN0 hN1 ⟨hI_c35.1, hI_c35.2.1, hI_c35.2.2.1, hI_c35.2.2.2.1, hI_c35.2.2.2.2.1, hI_c35.2.2.2.2.2⟩ (by have : (fi D 12 5 H_c35 a0).toInt = (x_1 : Int32).toInt := congrArg Int32.toInt (hf35_5.trans ex_1.symm); have : (fi D 12 10 H_c35 a0).toInt = (g35_0 : Int32).toInt := congrArg Int32.toInt hg35_0; omega) (by omega)) lk_X12_80 yd_X12_readsItem hT_c35 ha0 rfl (by decide) hS_c35 (fun q => (fun h => h.elim (fun h => (Or.inl h)) (fun h => (Or.inr h)))) ⟨by decide, by decide⟩ (Nat.le_of_ble_eq_true rfl) ⟨by decide, by decide⟩ rfl dX12_reads_52 (fun r_3 H_3 locs_3 p_3 hT_3 hk_3 hS_3 => ?_)
        have p_3 : (IM D ρ N H_3 a0) ∧ (r_3 = 0 ∨ r_3 = 1) ∧ ((fi D 12 10 H_c35 a0).toInt + 1 ≤ (fi D 12 10 H_3 a0).toInt ∧ (fi D 12 10 H_3 a0).toInt ≤ (fi D 12 10 H_c35 a0).toInt + 11) ∧ (r_3.toInt = 1 → (1 ≤ (fi D 12 12 H_3 a0).toInt ∧ (fi D 12 12 H_3 a0).toInt ≤ 8 ∧ 2 ≤ (fi D 12 13 H_3 a0).toInt ∧ (fi D 12 13 H_3 a0).toInt ≤ 32 ∧ 1 ≤ (fi D 12 14 H_3 a0).toInt ∧ (fi D 12 14 H_3 a0).toInt ≤ 20)) ∧ (fi D 12 5 H_3 a0 = fi D 12 5 H_c35 a0) := p_3
        obtain ⟨p_3_0, p_3_1, p_3_2, p_3_3, p_3_4⟩ := p_3
        have lf_3_5 : (fi D 12 5 H_c35 a0).toInt = (x_1 : Int32).toInt := congrArg Int32.toInt (hf35_5.trans ex_1.symm)
        have lf_3_10 : (fi D 12 10 H_c35 a0).toInt = (g35_0 : Int32).toInt := congrArg Int32.toInt hg35_0
        have z_3 := b_iv p_3_1
        refine lv_if_ne (tgt := 60) hx hb dX12_reads_55 (by decide) (fun c_4 => ?_) (fun c_4 => ?_)
        · have f_4 : ¬ r_3.toInt = 0 := r_ne rfl (by decide) c_4
          have nz_r_3 : ¬ r_3 = 0 := c_4
          refine lv_goto (tgt := 35) hx hb dX12_reads_60 (by decide) ?_
          exact ih_35 H_3 locs_3 _ (fi D 12 10 H_3 a0) hT_3 hS_3 (lv_sub hl [1] rfl) rfl ((Eq.trans p_3_4 (hf35_5.trans ex_1.symm)).trans ex_1.symm.symm) ⟨p_3_0.1, p_3_0.2.1, p_3_0.2.2.1, p_3_0.2.2.2.1, p_3_0.2.2.2.2.1, p_3_0.2.2.2.2.2⟩ (by have : (fi D 12 10 H_c35 a0).toInt = (g35_0 : Int32).toInt := congrArg Int32.toInt hg35_0; omega) ((Eq.trans p_3_4 (hf35_5.trans ex_1.symm)).trans ex_1.symm.symm) (by omega)
        · have f_4 : r_3.toInt = 0 := r_eq rfl (by decide) c_4
          refine lv_iload_n hx hb dX12_reads_58 rfl (lv_at hl 0 rfl) ?_
          exact th_iret E hr hlk hs hT_3 hS_3 ⟨⟨p_3_0.1, p_3_0.2.1, p_3_0.2.2.1, p_3_0.2.2.2.1, p_3_0.2.2.2.2.1, p_3_0.2.2.2.2.2⟩, (by omega), ((Eq.trans p_3_4 (hf35_5.trans ex_1.symm)).trans ex_1.symm.symm)⟩ dX12_reads_59
  refine lv_aload_n hx hb dX12_reads_0 rfl (lv_at hl 0 rfl) ?_
  refine lv_iconst (v := 4) hx hb dX12_reads_1 (by decide) ?_
  refine pf_X12_71 E hT hS ha0 (Or.inl rfl) dX12_reads_2 (fun H_5 locs_5 hT_5 hU_5 hS_5 => ?_)
  refine lv_aload_n hx hb dX12_reads_5 rfl (lv_at hl 0 rfl) ?_
  refine lv_bipush (v := 16) hx hb dX12_reads_6 (by decide) ?_
  refine pf_X12_74 E hT_5 hS_5 ha0 (Or.inl rfl) dX12_reads_8 (fun H_6 locs_6 hT_6 hU_6 hS_6 => ?_)
  refine lv_aload_n hx hb dX12_reads_11 rfl (lv_at hl 0 rfl) ?_
  refine lv_iconst (v := 5) hx hb dX12_reads_12 (by decide) ?_
  refine pf_X12_77 E hT_6 hS_6 ha0 (Or.inl rfl) dX12_reads_13 (fun H_7 locs_7 hT_7 hU_7 hS_7 => ?_)
  refine lv_aload_n hx hb dX12_reads_16 rfl (lv_at hl 0 rfl) ?_
  refine gf_X12_38 E hT_7 hW ha0 dX12_reads_17 (fun h_8 => ?_)
  refine lv_iconst (v := 0) hx hb dX12_reads_20 (by decide) ?_
  refine lv_iconst (v := 0) hx hb dX12_reads_21 (by decide) ?_
  refine th_iast E hT_7 hS_7 h_8 (Or.inr rfl) (by decide) (vp_in_iff.mpr ⟨by decide, by decide⟩) dX12_reads_22 (fun H_9 locs_9 hT_9 hU_9 hS_9 => ?_)
  have hU_9 : AU 2 H_7 H_9 (ρ a0 15) 0 (0) := hU_9
  refine lv_aload_n hx hb dX12_reads_23 rfl (lv_at hl 0 rfl) ?_
  refine gf_X12_38 E hT_9 hW ha0 dX12_reads_24 (fun h_10 => ?_)
  refine lv_iconst (v := 1) hx hb dX12_reads_27 (by decide) ?_
  refine lv_iconst (v := 0) hx hb dX12_reads_28 (by decide) ?_
  refine th_iast E hT_9 hS_9 h_10 (Or.inr rfl) (by decide) (vp_in_iff.mpr ⟨by decide, by decide⟩) dX12_reads_29 (fun H_11 locs_11 hT_11 hU_11 hS_11 => ?_)
  have hU_11 : AU 2 H_9 H_11 (ρ a0 15) 1 (0) := hU_11
  refine lv_aload_n hx hb dX12_reads_30 rfl (lv_at hl 0 rfl) ?_
  refine lv_iconst (v := 0) hx hb dX12_reads_31 (by decide) ?_
  refine pf_X12_44 E hT_11 hS_11 ha0 (Or.inl rfl) dX12_reads_32 (fun H_12 locs_12 hT_12 hU_12 hS_12 => ?_)
  exact L_35 _ H_12 locs_12 _ 0 hT_12 hS_12 hl (PU.i hU_12) (Eq.trans (PU.io hU_12 (j := 5) (by decide) (by decide)) (Eq.trans (fi_q (hU_11.2 _ (th_ne ha0 (hW _ 12 15 ha0 (by decide) (by decide) (by decide)) (by decide)))) (Eq.trans (fi_q (hU_9.2 _ (th_ne ha0 (hW _ 12 15 ha0 (by decide) (by decide) (by decide)) (by decide)))) (Eq.trans (PU.io hU_7 (j := 5) (by decide) (by decide)) (Eq.trans (PU.io hU_6 (j := 5) (by decide) (by decide)) (PU.io hU_5 (j := 5) (by decide) (by decide))))))) ⟨(PW.q (hU_12.2.2 _ (th_ne (hW _ 12 0 ha0 (by decide) (by decide) (by decide)) ha0 (by decide))) (PW.q (hU_11.2 _ (th_ne (hW _ 12 0 ha0 (by decide) (by decide) (by decide)) (hW _ 12 15 ha0 (by decide) (by decide) (by decide)) (by decide))) (PW.q (hU_9.2 _ (th_ne (hW _ 12 0 ha0 (by decide) (by decide) (by decide)) (hW _ 12 15 ha0 (by decide) (by decide) (by decide)) (by decide))) (PW.q (hU_7.2.2 _ (th_ne (hW _ 12 0 ha0 (by decide) (by decide) (by decide)) ha0 (by decide))) (PW.q (hU_6.2.2 _ (th_ne (hW _ 12 0 ha0 (by decide) (by decide) (by decide)) ha0 (by decide))) (PW.q (hU_5.2.2 _ (th_ne (hW _ 12 0 ha0 (by decide) (by decide) (by decide)) ha0 (by decide))) hI.1)))))), (QS.same (Eq.trans (ai_q (hU_12.2.2 _ (th_ne (hW _ 12 0 ha0 (by decide) (by decide) (by decide)) ha0 (by decide)))) (Eq.trans (ai_q (hU_11.2 _ (th_ne (hW _ 12 0 ha0 (by decide) (by decide) (by decide)) (hW _ 12 15 ha0 (by decide) (by decide) (by decide)) (by decide)))) (Eq.trans (ai_q (hU_9.2 _ (th_ne (hW _ 12 0 ha0 (by decide) (by decide) (by decide)) (hW _ 12 15 ha0 (by decide) (by decide) (by decide)) (by decide)))) (Eq.trans (ai_q (hU_7.2.2 _ (th_ne (hW _ 12 0 ha0 (by decide) (by decide) (by decide)) ha0 (by decide)))) (Eq.trans (ai_q (hU_6.2.2 _ (th_ne (hW _ 12 0 ha0 (by decide) (by decide) (by decide)) ha0 (by decide)))) (ai_q (hU_5.2.2 _ (th_ne (hW _ 12 0 ha0 (by decide) (by decide) (by decide)) ha0 (by decide))))))))) (Eq.trans (ai_q (hU_12.2.2 _ (th_ne (hW _ 12 0 ha0 (by decide) (by decide) (by decide)) ha0 (by decide)))) (Eq.trans (ai_q (hU_11.2 _ (th_ne (hW _ 12 0 ha0 (by decide) (by decide) (by decide)) (hW _ 12 15 ha0 (by decide) (by decide) (by decide)) (by decide)))) (Eq.trans (ai_q (hU_9.2 _ (th_ne (hW _ 12 0 ha0 (by decide) (by decide) (by decide)) (hW _ 12 15 ha0 (by decide) (by decide) (by decide)) (by decide)))) (Eq.trans (ai_q (hU_7.2.2 _ (th_ne (hW _ 12 0 ha0 (by decide) (by decide) (by decide)) ha0 (by decide)))) (Eq.trans (ai_q (hU_6.2.2 _ (th_ne (hW _ 12 0 ha0 (by decide) (by decide) (by decide)) ha0 (by decide)))) (ai_q (hU_5.2.2 _ (th_ne (hW _ 12 0 ha0 (by decide) (by decide) (by decide)) ha0 (by decide))))))))) hI.2.1), (QS.same (Eq.trans (ai_q (hU_12.2.2 _ (th_ne (hW _ 12 0 ha0 (by decide) (by decide) (by decide)) ha0 (by decide)))) (Eq.trans (ai_q (hU_11.2 _ (th_ne (hW _ 12 0 ha0 (by decide) (by decide) (by decide)) (hW _ 12 15 ha0 (by decide) (by decide) (by decide)) (by decide)))) (Eq.trans (ai_q (hU_9.2 _ (th_ne (hW _ 12 0 ha0 (by decide) (by decide) (by decide)) (hW _ 12 15 ha0 (by decide) (by decide) (by decide)) (by decide)))) (Eq.trans (ai_q (hU_7.2.2 _ (th_ne (hW _ 12 0 ha0 (by decide) (by decide) (by decide)) ha0 (by decide)))) (Eq.trans (ai_q (hU_6.2.2 _ (th_ne (hW _ 12 0 ha0 (by decide) (by decide) (by decide)) ha0 (by decide)))) (ai_q (hU_5.2.2 _ (th_ne (hW _ 12 0 ha0 (by decide) (by decide) (by decide)) ha0 (by decide))))))))) (Eq.trans (ai_q (hU_12.2.2 _ (th_ne (hW _ 12 0 ha0 (by decide) (by decide) (by decide)) ha0 (by decide)))) (Eq.trans (ai_q (hU_11.2 _ (th_ne (hW _ 12 0 ha0 (by decide) (by decide) (by decide)) (hW _ 12 15 ha0 (by decide) (by decide) (by decide)) (by decide)))) (Eq.trans (ai_q (hU_9.2 _ (th_ne (hW _ 12 0 ha0 (by decide) (by decide) (by decide)) (hW _ 12 15 ha0 (by decide) (by decide) (by decide)) (by decide)))) (Eq.trans (ai_q (hU_7.2.2 _ (th_ne (hW _ 12 0 ha0 (by decide) (by decide) (by decide)) ha0 (by decide)))) (Eq.trans (ai_q (hU_6.2.2 _ (th_ne (hW _ 12 0 ha0 (by decide) (by decide) (by decide)) ha0 (by decide)))) (ai_q (hU_5.2.2 _ (th_ne (hW _ 12 0 ha0 (by decide) (by decide) (by decide)) ha0 (by decide))))))))) hI.2.2.1), (PL.q (hU_12.2.2 _ (th_ne (hW _ 12 2 ha0 (by decide) (by decide) (by decide)) ha0 (by decide))) (PL.q (hU_11.2 _ (th_ne (hW _ 12 2 ha0 (by decide) (by decide) (by decide)) (hW _ 12 15 ha0 (by decide) (by decide) (by decide)) (by decide))) (PL.q (hU_9.2 _ (th_ne (hW _ 12 2 ha0 (by decide) (by decide) (by decide)) (hW _ 12 15 ha0 (by decide) (by decide) (by decide)) (by decide))) (PL.q (hU_7.2.2 _ (th_ne (hW _ 12 2 ha0 (by decide) (by decide) (by decide)) ha0 (by decide))) (PL.q (hU_6.2.2 _ (th_ne (hW _ 12 2 ha0 (by decide) (by decide) (by decide)) ha0 (by decide))) (PL.q (hU_5.2.2 _ (th_ne (hW _ 12 2 ha0 (by decide) (by decide) (by decide)) ha0 (by decide))) hI.2.2.2.1)))))), (PL.q (hU_12.2.2 _ (th_ne (hW _ 12 3 ha0 (by decide) (by decide) (by decide)) ha0 (by decide))) (PL.q (hU_11.2 _ (th_ne (hW _ 12 3 ha0 (by decide) (by decide) (by decide)) (hW _ 12 15 ha0 (by decide) (by decide) (by decide)) (by decide))) (PL.q (hU_9.2 _ (th_ne (hW _ 12 3 ha0 (by decide) (by decide) (by decide)) (hW _ 12 15 ha0 (by decide) (by decide) (by decide)) (by decide))) (PL.q (hU_7.2.2 _ (th_ne (hW _ 12 3 ha0 (by decide) (by decide) (by decide)) ha0 (by decide))) (PL.q (hU_6.2.2 _ (th_ne (hW _ 12 3 ha0 (by decide) (by decide) (by decide)) ha0 (by decide))) (PL.q (hU_5.2.2 _ (th_ne (hW _ 12 3 ha0 (by decide) (by decide) (by decide)) ha0 (by decide))) hI.2.2.2.2.1)))))), (IF.put (IF.q (hU_11.2 _ (th_ne ha0 (hW _ 12 15 ha0 (by decide) (by decide) (by decide)) (by decide))) (IF.q (hU_9.2 _ (th_ne ha0 (hW _ 12 15 ha0 (by decide) (by decide) (by decide)) (by decide))) (IF.put (IF.put (IF.put hI.2.2.2.2.2 hU_5 (by decide)) hU_6 (by decide)) hU_7 (by decide)))) hU_12 (by decide))⟩ (by have : (fi D 12 10 H_12 a0).toInt = (0 : Int32).toInt := congrArg Int32.toInt (PU.i hU_12); have : (0 : Int32).toInt = 0 := (by decide); have : (fi D 12 12 H_12 a0).toInt = (4 : Int32).toInt := congrArg Int32.toInt (Eq.trans (PU.io hU_12 (j := 12) (by decide) (by decide)) (Eq.trans (fi_q (hU_11.2 _ (th_ne ha0 (hW _ 12 15 ha0 (by decide) (by decide) (by decide)) (by decide)))) (Eq.trans (fi_q (hU_9.2 _ (th_ne ha0 (hW _ 12 15 ha0 (by decide) (by decide) (by decide)) (by decide)))) (Eq.trans (PU.io hU_7 (j := 12) (by decide) (by decide)) (Eq.trans (PU.io hU_6 (j := 12) (by decide) (by decide)) (PU.i hU_5)))))); have : (4 : Int32).toInt = 4 := (by decide); have : (fi D 12 13 H_12 a0).toInt = (16 : Int32).toInt := congrArg Int32.toInt (Eq.trans (PU.io hU_12 (j := 13) (by decide) (by decide)) (Eq.trans (fi_q (hU_11.2 _ (th_ne ha0 (hW _ 12 15 ha0 (by decide) (by decide) (by decide)) (by decide)))) (Eq.trans (fi_q (hU_9.2 _ (th_ne ha0 (hW _ 12 15 ha0 (by decide) (by decide) (by decide)) (by decide)))) (Eq.trans (PU.io hU_7 (j := 13) (by decide) (by decide)) (PU.i hU_6))))); have : (16 : Int32).toInt = 16 := (by decide); have : (fi D 12 14 H_12 a0).toInt = (5 : Int32).toInt := congrArg Int32.toInt (Eq.trans (PU.io hU_12 (j := 14) (by decide) (by decide)) (Eq.trans (fi_q (hU_11.2 _ (th_ne ha0 (hW _ 12 15 ha0 (by decide) (by decide) (by decide)) (by decide)))) (Eq.trans (fi_q (hU_9.2 _ (th_ne ha0 (hW _ 12 15 ha0 (by decide) (by decide) (by decide)) (by decide)))) (PU.i hU_7)))); have : (5 : Int32).toInt = 5 := (by decide); omega) (Eq.trans (PU.io hU_12 (j := 5) (by decide) (by decide)) (Eq.trans (fi_q (hU_11.2 _ (th_ne ha0 (hW _ 12 15 ha0 (by decide) (by decide) (by decide)) (by decide)))) (Eq.trans (fi_q (hU_9.2 _ (th_ne ha0 (hW _ 12 15 ha0 (by decide) (by decide) (by decide)) (by decide)))) (Eq.trans (PU.io hU_7 (j := 5) (by decide) (by decide)) (Eq.trans (PU.io hU_6 (j := 5) (by decide) (by decide)) (PU.io hU_5 (j := 5) (by decide) (by decide))))))) (Nat.lt_succ_self _)
set_option maxHeartbeats 4000000 in
set_option maxRecDepth 100000 in
/-- the reference: fault -/
theorem y_fault (l : Launch) (D : va_G) (cI cS : ClassId) (τ : Nat → Option Nat) (ρ : Nat → Nat → Nat) (hW : WF τ ρ) (H : Heap) (hT : TH D cI cS τ ρ H) (a0 : Nat) (ha0 : τ a0 = some 12) (N : Int) (hN0 : 0 ≤ N) (hN1 : N ≤ 600) (hI : IM D ρ N H a0) : MI l D cI cS τ ρ yX12_fault cX12_fault 1 (some .int) 5 113 H [.ref a0] (fun (r : Int32) (u : Heap) => (IM D ρ N u a0) ∧ (fi D 12 5 u a0 = fi D 12 5 H a0)) (fun q => q = a0 ∨ q = ρ a0 15) := by
  refine MI.of (by decide) (Nat.le_of_ble_eq_true rfl) ?_
  intro p e s m args below meth c E hml hr hlk hs ls hl
  have hx := E.1
  have hb := E.2.1
  have hown := E.2.2.1
  have hts := E.2.2.2.1
  have hS : SS (fun q => q = a0 ∨ q = ρ a0 15) H H [] := SS.rf
  have hl : lv_has ls 1 [(0, .ref a0)] := hl
  have n01 := hI.2.2.2.2.2.1
  have n23 := hI.2.2.2.2.2.2.1
  have bL5 : 0 ≤ (fi D 12 5 H a0).toInt ∧ (fi D 12 5 H a0).toInt ≤ 200 := IF.f5 hI.2.2.2.2.2
  refine lv_aload_n hx hb dX12_fault_0 rfl (lv_at hl 0 rfl) ?_
  refine th_Vi (As := []) (rest := []) E hml hl.1 (y_reads l D cI cS τ ρ hW H hT a0 ha0 N hN0 hN1 ⟨hI.1, hI.2.1, hI.2.2.1, hI.2.2.2.1, hI.2.2.2.2.1, hI.2.2.2.2.2⟩) lk_X12_87 yd_X12_reads hT ha0 rfl (by decide) hS (fun q => (fun h => h.elim (fun h => (Or.inl h)) (fun h => (Or.inr h)))) ⟨by decide, by decide⟩ (Nat.le_of_ble_eq_true rfl) ⟨by decide, by decide⟩ rfl dX12_fault_1 (fun r_1 H_1 locs_1 p_1 hT_1 hk_1 hS_1 => ?_)
  have p_1 : (IM D ρ N H_1 a0) ∧ (r_1.toInt = -4 → (1 ≤ (fi D 12 12 H_1 a0).toInt ∧ (fi D 12 12 H_1 a0).toInt ≤ 8 ∧ 2 ≤ (fi D 12 13 H_1 a0).toInt ∧ (fi D 12 13 H_1 a0).toInt ≤ 32 ∧ 1 ≤ (fi D 12 14 H_1 a0).toInt ∧ (fi D 12 14 H_1 a0).toInt ≤ 20)) ∧ (fi D 12 5 H_1 a0 = fi D 12 5 H a0) := p_1
  obtain ⟨p_1_0, p_1_1, p_1_2⟩ := p_1
  exact th_iret E hr hlk hs hT_1 hS_1 ⟨⟨p_1_0.1, p_1_0.2.1, p_1_0.2.2.1, p_1_0.2.2.2.1, p_1_0.2.2.2.2.1, p_1_0.2.2.2.2.2⟩, p_1_2⟩ dX12_fault_4
set_option maxHeartbeats 4000000 in
set_option maxRecDepth 100000 in
/-- the reference: begins -/
theorem y_begins (l : Launch) (D : va_G) (cI cS : ClassId) (τ : Nat → Option Nat) (ρ : Nat → Nat → Nat) (hW : WF τ ρ) (H : Heap) (hT : TH D cI cS τ ρ H) (a0 : Nat) (ha0 : τ a0 = some 12) (N : Int) (hN0 : 0 ≤ N) (hN1 : N ≤ 600) (hI : IM D ρ N H a0) : MV l D cI cS τ ρ yX12_begins cX12_begins 2 none 2 45 H [.ref a0] (fun (u : Heap) => (IM D ρ N u a0)) (fun q => q = ρ a0 0) := by
  refine MV.of (by decide) (Nat.le_of_ble_eq_true rfl) ?_
  intro p e s m args below meth c E hml hr hlk hs ls hl
  have hx := E.1
  have hb := E.2.1
  have hown := E.2.2.1
  have hts := E.2.2.2.1
  have hS : SS (fun q => q = ρ a0 0) H H [] := SS.rf
  have hl : lv_has ls 2 [(0, .ref a0)] := hl
  have n01 := hI.2.2.2.2.2.1
  have n23 := hI.2.2.2.2.2.2.1
  have L_2 : ∀ (n : Nat) (H_c2 : Heap) (lc_c2 : List Loc) (ls : Array Slot) (y2_1 : Int32), TH D cI cS τ ρ H_c2 → SS (fun q => q = ρ a0 0) H H_c2 lc_c2 → lv_has ls 2 [(0, .ref a0), (1, .int y2_1)] → 0 ≤ y2_1.toInt → IM D ρ N H_c2 a0 → (985 - y2_1.toInt).toNat < n → W p l e (rmO 2 45) s m args below meth c H_c2 lc_c2 0 0 (MQ below (va_Qv (fun (u : Heap) => (IM D ρ N u a0)) (Bt D cI cS τ ρ H) (fun q => q = ρ a0 0)) args s 0 0 (fun q => q = ρ a0 0)) (F0 m 2 ls []) := by
    intro n
    induction n with
    | zero => intro H_c2 lc_c2 ls y2_1 hT_c2 hS_c2 hl ly2_1 hI_c2 hm; exact absurd hm (Nat.not_lt_zero _)
    | succ n ih_2 =>
      intro H_c2 lc_c2 ls y2_1 hT_c2 hS_c2 hl ly2_1 hI_c2 hm_2
      refine lv_iload_n hx hb dX12_begins_2 rfl (lv_at hl 1 rfl) ?_
      refine lv_sipush (v := 985) hx hb dX12_begins_3 (by decide) ?_
      refine lv_icmp_ge (tgt := 22) hx hb dX12_begins_6 (by decide) (fun c_1 => ?_) (fun c_1 => ?_)
      · have f_1 : 985 ≤ y2_1.toInt := r_le (by decide) rfl c_1
        refine lv_aload_n hx hb dX12_begins_22 rfl (lv_at hl 0 rfl) ?_
        refine lv_iconst (v := 0) hx hb dX12_begins_23 (by decide) ?_
        refine th_Vv (As := [.int 0]) (rest := []) E hml hl.1 (y_starts l D cI cS τ ρ hW H_c2 hT_c2 a0 ha0 N hN0 hN1 ⟨hI_c2.1, hI_c2.2.1, hI_c2.2.2.1, hI_c2.2.2.2.1, hI_c2.2.2.2.2.1, hI_c2.2.2.2.2.2⟩) lk_X12_91 yd_X12_starts hT_c2 ha0 rfl (by decide) hS_c2 (fun q h => h) ⟨by decide, by decide⟩ (Nat.le_of_ble_eq_true rfl) ⟨by decide, by decide⟩ rfl dX12_begins_24 (fun H_2 locs_2 p_2 hT_2 hk_2 hS_2 => ?_)
        have p_2 : (IM D ρ N H_2 a0) ∧ ((ai H_2 (ρ a0 0) 2).toInt ≤ N + 1) := p_2
        obtain ⟨p_2_0, p_2_1⟩ := p_2
        refine lv_aload_n hx hb dX12_begins_27 rfl (lv_at hl 0 rfl) ?_
        refine lv_iconst (v := 1) hx hb dX12_begins_28 (by decide) ?_
        refine th_Vv (As := [.int 1]) (rest := []) E hml hl.1 (y_starts_v2 l D cI cS τ ρ hW H_2 hT_2 a0 ha0 N hN0 hN1 ⟨p_2_0.1, p_2_0.2.1, p_2_0.2.2.1, p_2_0.2.2.2.1, p_2_0.2.2.2.2.1, p_2_0.2.2.2.2.2⟩) lk_X12_91 yd_X12_starts hT_2 ha0 rfl (by decide) hS_2 (fun q h => h) ⟨by decide, by decide⟩ (Nat.le_of_ble_eq_true rfl) ⟨by decide, by decide⟩ rfl dX12_begins_29 (fun H_3 locs_3 p_3 hT_3 hk_3 hS_3 => ?_)
        have p_3 : (IM D ρ N H_3 a0) ∧ ((ai H_3 (ρ a0 0) 290).toInt ≤ N + 1) := p_3
        obtain ⟨p_3_0, p_3_1⟩ := p_3
        exact th_vret E hr hlk hs hT_3 hS_3 ⟨p_3_0.1, p_3_0.2.1, p_3_0.2.2.1, p_3_0.2.2.2.1, p_3_0.2.2.2.2.1, p_3_0.2.2.2.2.2⟩ dX12_begins_32
      · have f_1 : y2_1.toInt < 985 := r_nle (by decide) rfl c_1
        refine lv_aload_n hx hb dX12_begins_9 rfl (lv_at hl 0 rfl) ?_
        refine gf_X12_7 E hT_c2 hW ha0 dX12_begins_10 (fun h_4 => ?_)
        refine lv_iload_n hx hb dX12_begins_13 rfl (lv_at hl 1 rfl) ?_
        refine lv_iconst (v := 0) hx hb dX12_begins_14 (by decide) ?_
        refine th_iast E hT_c2 hS_c2 h_4 rfl (by decide) (vp_in_iff.mpr ⟨by omega, by omega⟩) dX12_begins_15 (fun H_5 locs_5 hT_5 hU_5 hS_5 => ?_)
        have hU_5 : AU 985 H_c2 H_5 (ρ a0 0) y2_1.toInt.toNat (0) := hU_5
        have hW_5 : PW N H_5 (ρ a0 0) := PW.zero hI_c2.1 hU_5 (by omega)
        obtain ⟨x_6, ex_6⟩ : ∃ y : Int32, y2_1 + 1 = y := ⟨_, rfl⟩
        have q_x_6 : x_6.toInt = y2_1.toInt + 1 := i_add (k := 1) (by decide) ex_6 (by have := i_min y2_1; omega) (by have := i_max y2_1; omega)
        refine lv_iinc (v := x_6) (lv' := [(1, .int x_6), (0, .ref a0)]) hx hb dX12_begins_16 hl (k := 1) rfl (by rw [← ex_6]; rfl) (by decide) rfl (fun ls hl => ?_)
        refine lv_goto (tgt := 2) hx hb dX12_begins_19 (by decide) ?_
        exact ih_2 H_5 locs_5 _ x_6 hT_5 hS_5 (lv_sub hl [1, 0] rfl) (by omega) ⟨hW_5, (QS.zero hI_c2.2.1 hU_5 (by decide) (by decide) hN0), (QS.zero hI_c2.2.2.1 hU_5 (by decide) (by decide) hN0), (PL.q (hU_5.2 _ (th_ne (hW _ 12 2 ha0 (by decide) (by decide) (by decide)) (hW _ 12 0 ha0 (by decide) (by decide) (by decide)) (by decide))) hI_c2.2.2.2.1), (PL.q (hU_5.2 _ (th_ne (hW _ 12 3 ha0 (by decide) (by decide) (by decide)) (hW _ 12 0 ha0 (by decide) (by decide) (by decide)) (by decide))) hI_c2.2.2.2.2.1), (IF.q (hU_5.2 _ (th_ne ha0 (hW _ 12 0 ha0 (by decide) (by decide) (by decide)) (by decide))) hI_c2.2.2.2.2.2)⟩ (by omega)
  refine lv_iconst (v := 0) hx hb dX12_begins_0 (by decide) ?_
  refine lv_istore_n (lv' := [(1, .int 0), (0, .ref a0)]) hx hb dX12_begins_1 rfl hl (by decide) rfl (fun ls hl => ?_)
  exact L_2 _ H [] _ 0 hT hS (lv_sub hl [1, 0] rfl) (by decide) ⟨hI.1, hI.2.1, hI.2.2.1, hI.2.2.2.1, hI.2.2.2.2.1, hI.2.2.2.2.2⟩ (Nat.lt_succ_self _)
set_option maxHeartbeats 4000000 in
set_option maxRecDepth 100000 in
/-- the reference: lay -/
theorem y_lay (l : Launch) (D : va_G) (cI cS : ClassId) (τ : Nat → Option Nat) (ρ : Nat → Nat → Nat) (hW : WF τ ρ) (H : Heap) (hT : TH D cI cS τ ρ H) (a0 : Nat) (ha0 : τ a0 = some 12) (N : Int) (hN0 : 0 ≤ N) (hN1 : N ≤ 600) (hI : IM D ρ N H a0) : MI l D cI cS τ ρ yX12_lay cX12_lay 1 (some .int) 5 113 H [.ref a0] (fun (r : Int32) (u : Heap) => (IM D ρ N u a0) ∧ (fi D 12 5 u a0 = fi D 12 5 H a0)) (fun q => q = a0 ∨ q = ρ a0 15 ∨ q = ρ a0 9 ∨ q = ρ a0 0) := by
  refine MI.of (by decide) (Nat.le_of_ble_eq_true rfl) ?_
  intro p e s m args below meth c E hml hr hlk hs ls hl
  have hx := E.1
  have hb := E.2.1
  have hown := E.2.2.1
  have hts := E.2.2.2.1
  have hS : SS (fun q => q = a0 ∨ q = ρ a0 15 ∨ q = ρ a0 9 ∨ q = ρ a0 0) H H [] := SS.rf
  have hl : lv_has ls 1 [(0, .ref a0)] := hl
  have n01 := hI.2.2.2.2.2.1
  have n23 := hI.2.2.2.2.2.2.1
  have bL5 : 0 ≤ (fi D 12 5 H a0).toInt ∧ (fi D 12 5 H a0).toInt ≤ 200 := IF.f5 hI.2.2.2.2.2
  refine lv_aload_n hx hb dX12_lay_0 rfl (lv_at hl 0 rfl) ?_
  refine th_Vi (As := []) (rest := []) E hml hl.1 (y_reads l D cI cS τ ρ hW H hT a0 ha0 N hN0 hN1 ⟨hI.1, hI.2.1, hI.2.2.1, hI.2.2.2.1, hI.2.2.2.2.1, hI.2.2.2.2.2⟩) lk_X12_87 yd_X12_reads hT ha0 rfl (by decide) hS (fun q => (fun h => h.elim (fun h => (Or.inl h)) (fun h => (Or.inr (Or.inl h))))) ⟨by decide, by decide⟩ (Nat.le_of_ble_eq_true rfl) ⟨by decide, by decide⟩ rfl dX12_lay_1 (fun r_1 H_1 locs_1 p_1 hT_1 hk_1 hS_1 => ?_)
  have p_1 : (IM D ρ N H_1 a0) ∧ (r_1.toInt = -4 → (1 ≤ (fi D 12 12 H_1 a0).toInt ∧ (fi D 12 12 H_1 a0).toInt ≤ 8 ∧ 2 ≤ (fi D 12 13 H_1 a0).toInt ∧ (fi D 12 13 H_1 a0).toInt ≤ 32 ∧ 1 ≤ (fi D 12 14 H_1 a0).toInt ∧ (fi D 12 14 H_1 a0).toInt ≤ 20)) ∧ (fi D 12 5 H_1 a0 = fi D 12 5 H a0) := p_1
  obtain ⟨p_1_0, p_1_1, p_1_2⟩ := p_1
  refine lv_bipush (v := (-4)) hx hb dX12_lay_4 (by decide) ?_
  refine lv_icmp_ne (tgt := 22) hx hb dX12_lay_6 (by decide) (fun c_2 => ?_) (fun c_2 => ?_)
  · have f_2 : ¬ r_1.toInt = -4 := r_ne rfl (by decide) c_2
    refine lv_bipush (v := (-2)) hx hb dX12_lay_22 (by decide) ?_
    exact th_iret E hr hlk hs hT_1 hS_1 ⟨⟨p_1_0.1, p_1_0.2.1, p_1_0.2.2.1, p_1_0.2.2.2.1, p_1_0.2.2.2.2.1, p_1_0.2.2.2.2.2⟩, p_1_2⟩ dX12_lay_24
  · have f_2 : r_1.toInt = -4 := r_eq rfl (by decide) c_2
    refine lv_aload_n hx hb dX12_lay_9 rfl (lv_at hl 0 rfl) ?_
    refine gf_X12_74 E hT_1 ha0 dX12_lay_10 ?_
    refine lv_topi (fun x_3 ex_3 => ?_)
    have e_3 : x_3.toInt = (fi D 12 13 H_1 a0).toInt := congrArg Int32.toInt ex_3
    refine lv_iconst (v := 2) hx hb dX12_lay_13 (by decide) ?_
    refine lv_aload_n hx hb dX12_lay_14 rfl (lv_at hl 0 rfl) ?_
    refine gf_X12_71 E hT_1 ha0 dX12_lay_15 ?_
    refine lv_topi (fun x_4 ex_4 => ?_)
    have e_4 : x_4.toInt = (fi D 12 12 H_1 a0).toInt := congrArg Int32.toInt ex_4
    refine lv_imul hx hb dX12_lay_18 ?_
    refine lv_topi (fun x_5 ex_5 => ?_)
    refine lv_icmp_ge (tgt := 25) hx hb dX12_lay_19 (by decide) (fun c_6 => ?_) (fun c_6 => ?_)
    · have f_6 : x_5.toInt ≤ x_3.toInt := r_le rfl rfl c_6
      refine lv_aload_n hx hb dX12_lay_25 rfl (lv_at hl 0 rfl) ?_
      refine lv_aload_n hx hb dX12_lay_26 rfl (lv_at hl 0 rfl) ?_
      refine gf_X12_71 E hT_1 ha0 dX12_lay_27 ?_
      refine th_topi (y := x_4) ex_4.symm ?_
      refine pf_X12_25 E hT_1 hS_1 ha0 (Or.inl rfl) dX12_lay_30 (fun H_7 locs_7 hT_7 hU_7 hS_7 => ?_)
      refine lv_aload_n hx hb dX12_lay_33 rfl (lv_at hl 0 rfl) ?_
      refine lv_aload_n hx hb dX12_lay_34 rfl (lv_at hl 0 rfl) ?_
      refine gf_X12_74 E hT_7 ha0 dX12_lay_35 ?_
      refine th_topi (y := x_3) (Eq.trans (PU.io hU_7 (j := 13) (by decide) (by decide)) ex_3.symm) ?_
      refine pf_X12_29 E hT_7 hS_7 ha0 (Or.inl rfl) dX12_lay_38 (fun H_8 locs_8 hT_8 hU_8 hS_8 => ?_)
      refine lv_aload_n hx hb dX12_lay_41 rfl (lv_at hl 0 rfl) ?_
      refine lv_aload_n hx hb dX12_lay_42 rfl (lv_at hl 0 rfl) ?_
      refine gf_X12_77 E hT_8 ha0 dX12_lay_43 ?_
      refine th_topi (y := fi D 12 14 H_1 a0) (Eq.trans (PU.io hU_8 (j := 14) (by decide) (by decide)) (PU.io hU_7 (j := 14) (by decide) (by decide))) ?_
      refine lv_topi (fun x_9 ex_9 => ?_)
      have e_9 : x_9.toInt = (fi D 12 14 H_1 a0).toInt := congrArg Int32.toInt ex_9
      refine pf_X12_32 E hT_8 hS_8 ha0 (Or.inl rfl) dX12_lay_46 (fun H_10 locs_10 hT_10 hU_10 hS_10 => ?_)
      refine lv_aload_n hx hb dX12_lay_49 rfl (lv_at hl 0 rfl) ?_
      refine gf_X12_35 E hT_10 hW ha0 dX12_lay_50 (fun h_11 => ?_)
      refine lv_iconst (v := 0) hx hb dX12_lay_53 (by decide) ?_
      refine lv_aload_n hx hb dX12_lay_54 rfl (lv_at hl 0 rfl) ?_
      refine gf_X12_38 E hT_10 hW ha0 dX12_lay_55 (fun h_12 => ?_)
      refine lv_iconst (v := 0) hx hb dX12_lay_58 (by decide) ?_
      refine th_iald E hT_10 h_12 (by decide) (vp_in_iff.mpr ⟨by decide, by decide⟩) dX12_lay_59 ?_
      refine th_topi (y := ai H_10 (ρ a0 15) 0) rfl ?_
      refine th_topi (y := ai H_1 (ρ a0 15) 0) (Eq.trans (ai_q (hU_10.2.2 _ (th_ne (hW _ 12 15 ha0 (by decide) (by decide) (by decide)) ha0 (by decide)))) (Eq.trans (ai_q (hU_8.2.2 _ (th_ne (hW _ 12 15 ha0 (by decide) (by decide) (by decide)) ha0 (by decide)))) (ai_q (hU_7.2.2 _ (th_ne (hW _ 12 15 ha0 (by decide) (by decide) (by decide)) ha0 (by decide)))))) ?_
      refine lv_topi (fun x_13 ex_13 => ?_)
      refine th_iast E hT_10 hS_10 h_11 (Or.inr (Or.inr (Or.inl rfl))) (by decide) (vp_in_iff.mpr ⟨by decide, by decide⟩) dX12_lay_60 (fun H_14 locs_14 hT_14 hU_14 hS_14 => ?_)
      have hU_14 : AU 2 H_10 H_14 (ρ a0 9) 0 x_13 := hU_14
      refine lv_aload_n hx hb dX12_lay_61 rfl (lv_at hl 0 rfl) ?_
      refine gf_X12_35 E hT_14 hW ha0 dX12_lay_62 (fun h_15 => ?_)
      refine lv_iconst (v := 1) hx hb dX12_lay_65 (by decide) ?_
      refine lv_aload_n hx hb dX12_lay_66 rfl (lv_at hl 0 rfl) ?_
      refine gf_X12_38 E hT_14 hW ha0 dX12_lay_67 (fun h_16 => ?_)
      refine lv_iconst (v := 1) hx hb dX12_lay_70 (by decide) ?_
      refine th_iald E hT_14 h_16 (by decide) (vp_in_iff.mpr ⟨by decide, by decide⟩) dX12_lay_71 ?_
      refine th_topi (y := ai H_14 (ρ a0 15) 1) rfl ?_
      refine lv_topi (fun x_17 ex_17 => ?_)
      refine th_iast E hT_14 hS_14 h_15 (Or.inr (Or.inr (Or.inl rfl))) (by decide) (vp_in_iff.mpr ⟨by decide, by decide⟩) dX12_lay_72 (fun H_18 locs_18 hT_18 hU_18 hS_18 => ?_)
      have hU_18 : AU 2 H_14 H_18 (ρ a0 9) 1 x_17 := hU_18
      refine lv_aload_n hx hb dX12_lay_73 rfl (lv_at hl 0 rfl) ?_
      refine th_Vv (As := []) (rest := []) E hml hl.1 (y_begins l D cI cS τ ρ hW H_18 hT_18 a0 ha0 N hN0 hN1 ⟨(PW.q (hU_18.2 _ (th_ne (hW _ 12 0 ha0 (by decide) (by decide) (by decide)) (hW _ 12 9 ha0 (by decide) (by decide) (by decide)) (by decide))) (PW.q (hU_14.2 _ (th_ne (hW _ 12 0 ha0 (by decide) (by decide) (by decide)) (hW _ 12 9 ha0 (by decide) (by decide) (by decide)) (by decide))) (PW.q (hU_10.2.2 _ (th_ne (hW _ 12 0 ha0 (by decide) (by decide) (by decide)) ha0 (by decide))) (PW.q (hU_8.2.2 _ (th_ne (hW _ 12 0 ha0 (by decide) (by decide) (by decide)) ha0 (by decide))) (PW.q (hU_7.2.2 _ (th_ne (hW _ 12 0 ha0 (by decide) (by decide) (by decide)) ha0 (by decide))) p_1_0.1))))), (QS.same ((Eq.trans (ai_q (hU_18.2 _ (th_ne (hW _ 12 0 ha0 (by decide) (by decide) (by decide)) (hW _ 12 9 ha0 (by decide) (by decide) (by decide)) (by decide)))) (Eq.trans (ai_q (hU_14.2 _ (th_ne (hW _ 12 0 ha0 (by decide) (by decide) (by decide)) (hW _ 12 9 ha0 (by decide) (by decide) (by decide)) (by decide)))) (Eq.trans (ai_q (hU_10.2.2 _ (th_ne (hW _ 12 0 ha0 (by decide) (by decide) (by decide)) ha0 (by decide)))) (Eq.trans (ai_q (hU_8.2.2 _ (th_ne (hW _ 12 0 ha0 (by decide) (by decide) (by decide)) ha0 (by decide)))) (Eq.trans (ai_q (hU_7.2.2 _ (th_ne (hW _ 12 0 ha0 (by decide) (by decide) (by decide)) ha0 (by decide)))) (ai_q (hk_1 _ (fun h => h.elim (th_ne (hW _ 12 0 ha0 (by decide) (by decide) (by decide)) ha0 (by decide)) (th_ne (hW _ 12 0 ha0 (by decide) (by decide) (by decide)) (hW _ 12 15 ha0 (by decide) (by decide) (by decide)) (by decide)))))))))).trans (ai_q (hk_1 _ (fun h => h.elim (th_ne (hW _ 12 0 ha0 (by decide) (by decide) (by decide)) ha0 (by decide)) (th_ne (hW _ 12 0 ha0 (by decide) (by decide) (by decide)) (hW _ 12 15 ha0 (by decide) (by decide) (by decide)) (by decide))))).symm) ((Eq.trans (ai_q (hU_18.2 _ (th_ne (hW _ 12 0 ha0 (by decide) (by decide) (by decide)) (hW _ 12 9 ha0 (by decide) (by decide) (by decide)) (by decide)))) (Eq.trans (ai_q (hU_14.2 _ (th_ne (hW _ 12 0 ha0 (by decide) (by decide) (by decide)) (hW _ 12 9 ha0 (by decide) (by decide) (by decide)) (by decide)))) (Eq.trans (ai_q (hU_10.2.2 _ (th_ne (hW _ 12 0 ha0 (by decide) (by decide) (by decide)) ha0 (by decide)))) (Eq.trans (ai_q (hU_8.2.2 _ (th_ne (hW _ 12 0 ha0 (by decide) (by decide) (by decide)) ha0 (by decide)))) (Eq.trans (ai_q (hU_7.2.2 _ (th_ne (hW _ 12 0 ha0 (by decide) (by decide) (by decide)) ha0 (by decide)))) (ai_q (hk_1 _ (fun h => h.elim (th_ne (hW _ 12 0 ha0 (by decide) (by decide) (by decide)) ha0 (by decide)) (th_ne (hW _ 12 0 ha0 (by decide) (by decide) (by decide)) (hW _ 12 15 ha0 (by decide) (by decide) (by decide)) (by decide)))))))))).trans (ai_q (hk_1 _ (fun h => h.elim (th_ne (hW _ 12 0 ha0 (by decide) (by decide) (by decide)) ha0 (by decide)) (th_ne (hW _ 12 0 ha0 (by decide) (by decide) (by decide)) (hW _ 12 15 ha0 (by decide) (by decide) (by decide)) (by decide))))).symm) p_1_0.2.1), (QS.same ((Eq.trans (ai_q (hU_18.2 _ (th_ne (hW _ 12 0 ha0 (by decide) (by decide) (by decide)) (hW _ 12 9 ha0 (by decide) (by decide) (by decide)) (by decide)))) (Eq.trans (ai_q (hU_14.2 _ (th_ne (hW _ 12 0 ha0 (by decide) (by decide) (by decide)) (hW _ 12 9 ha0 (by decide) (by decide) (by decide)) (by decide)))) (Eq.trans (ai_q (hU_10.2.2 _ (th_ne (hW _ 12 0 ha0 (by decide) (by decide) (by decide)) ha0 (by decide)))) (Eq.trans (ai_q (hU_8.2.2 _ (th_ne (hW _ 12 0 ha0 (by decide) (by decide) (by decide)) ha0 (by decide)))) (Eq.trans (ai_q (hU_7.2.2 _ (th_ne (hW _ 12 0 ha0 (by decide) (by decide) (by decide)) ha0 (by decide)))) (ai_q (hk_1 _ (fun h => h.elim (th_ne (hW _ 12 0 ha0 (by decide) (by decide) (by decide)) ha0 (by decide)) (th_ne (hW _ 12 0 ha0 (by decide) (by decide) (by decide)) (hW _ 12 15 ha0 (by decide) (by decide) (by decide)) (by decide)))))))))).trans (ai_q (hk_1 _ (fun h => h.elim (th_ne (hW _ 12 0 ha0 (by decide) (by decide) (by decide)) ha0 (by decide)) (th_ne (hW _ 12 0 ha0 (by decide) (by decide) (by decide)) (hW _ 12 15 ha0 (by decide) (by decide) (by decide)) (by decide))))).symm) ((Eq.trans (ai_q (hU_18.2 _ (th_ne (hW _ 12 0 ha0 (by decide) (by decide) (by decide)) (hW _ 12 9 ha0 (by decide) (by decide) (by decide)) (by decide)))) (Eq.trans (ai_q (hU_14.2 _ (th_ne (hW _ 12 0 ha0 (by decide) (by decide) (by decide)) (hW _ 12 9 ha0 (by decide) (by decide) (by decide)) (by decide)))) (Eq.trans (ai_q (hU_10.2.2 _ (th_ne (hW _ 12 0 ha0 (by decide) (by decide) (by decide)) ha0 (by decide)))) (Eq.trans (ai_q (hU_8.2.2 _ (th_ne (hW _ 12 0 ha0 (by decide) (by decide) (by decide)) ha0 (by decide)))) (Eq.trans (ai_q (hU_7.2.2 _ (th_ne (hW _ 12 0 ha0 (by decide) (by decide) (by decide)) ha0 (by decide)))) (ai_q (hk_1 _ (fun h => h.elim (th_ne (hW _ 12 0 ha0 (by decide) (by decide) (by decide)) ha0 (by decide)) (th_ne (hW _ 12 0 ha0 (by decide) (by decide) (by decide)) (hW _ 12 15 ha0 (by decide) (by decide) (by decide)) (by decide)))))))))).trans (ai_q (hk_1 _ (fun h => h.elim (th_ne (hW _ 12 0 ha0 (by decide) (by decide) (by decide)) ha0 (by decide)) (th_ne (hW _ 12 0 ha0 (by decide) (by decide) (by decide)) (hW _ 12 15 ha0 (by decide) (by decide) (by decide)) (by decide))))).symm) p_1_0.2.2.1), (PL.q (hU_18.2 _ (th_ne (hW _ 12 2 ha0 (by decide) (by decide) (by decide)) (hW _ 12 9 ha0 (by decide) (by decide) (by decide)) (by decide))) (PL.q (hU_14.2 _ (th_ne (hW _ 12 2 ha0 (by decide) (by decide) (by decide)) (hW _ 12 9 ha0 (by decide) (by decide) (by decide)) (by decide))) (PL.q (hU_10.2.2 _ (th_ne (hW _ 12 2 ha0 (by decide) (by decide) (by decide)) ha0 (by decide))) (PL.q (hU_8.2.2 _ (th_ne (hW _ 12 2 ha0 (by decide) (by decide) (by decide)) ha0 (by decide))) (PL.q (hU_7.2.2 _ (th_ne (hW _ 12 2 ha0 (by decide) (by decide) (by decide)) ha0 (by decide))) p_1_0.2.2.2.1))))), (PL.q (hU_18.2 _ (th_ne (hW _ 12 3 ha0 (by decide) (by decide) (by decide)) (hW _ 12 9 ha0 (by decide) (by decide) (by decide)) (by decide))) (PL.q (hU_14.2 _ (th_ne (hW _ 12 3 ha0 (by decide) (by decide) (by decide)) (hW _ 12 9 ha0 (by decide) (by decide) (by decide)) (by decide))) (PL.q (hU_10.2.2 _ (th_ne (hW _ 12 3 ha0 (by decide) (by decide) (by decide)) ha0 (by decide))) (PL.q (hU_8.2.2 _ (th_ne (hW _ 12 3 ha0 (by decide) (by decide) (by decide)) ha0 (by decide))) (PL.q (hU_7.2.2 _ (th_ne (hW _ 12 3 ha0 (by decide) (by decide) (by decide)) ha0 (by decide))) p_1_0.2.2.2.2.1))))), (IF.q (hU_18.2 _ (th_ne ha0 (hW _ 12 9 ha0 (by decide) (by decide) (by decide)) (by decide))) (IF.q (hU_14.2 _ (th_ne ha0 (hW _ 12 9 ha0 (by decide) (by decide) (by decide)) (by decide))) (IF.put8 (IF.put7 (IF.put6 p_1_0.2.2.2.2.2 hU_7 (by omega)) hU_8 (by omega)) hU_10 (by omega))))⟩) lk_X12_41 yd_X12_begins hT_18 ha0 rfl (by decide) hS_18 (fun q h => (Or.inr (Or.inr (Or.inr h)))) ⟨by decide, by decide⟩ (Nat.le_of_ble_eq_true rfl) ⟨by decide, by decide⟩ rfl dX12_lay_74 (fun H_19 locs_19 p_19 hT_19 hk_19 hS_19 => ?_)
      have p_19 : (IM D ρ N H_19 a0) := p_19
      refine lv_aload_n hx hb dX12_lay_77 rfl (lv_at hl 0 rfl) ?_
      refine gf_X12_25 E hT_19 ha0 dX12_lay_78 ?_
      refine th_topi (y := x_4) (Eq.trans (fi_q (hk_19 _ (th_ne ha0 (hW _ 12 0 ha0 (by decide) (by decide) (by decide)) (by decide)))) (Eq.trans (fi_q (hU_18.2 _ (th_ne ha0 (hW _ 12 9 ha0 (by decide) (by decide) (by decide)) (by decide)))) (Eq.trans (fi_q (hU_14.2 _ (th_ne ha0 (hW _ 12 9 ha0 (by decide) (by decide) (by decide)) (by decide)))) (Eq.trans (PU.io hU_10 (j := 6) (by decide) (by decide)) (Eq.trans (PU.io hU_8 (j := 6) (by decide) (by decide)) (PU.i hU_7)))))) ?_
      exact th_iret E hr hlk hs hT_19 hS_19 ⟨⟨p_19.1, p_19.2.1, p_19.2.2.1, p_19.2.2.2.1, p_19.2.2.2.2.1, p_19.2.2.2.2.2⟩, (Eq.trans (fi_q (hk_19 _ (th_ne ha0 (hW _ 12 0 ha0 (by decide) (by decide) (by decide)) (by decide)))) (Eq.trans (fi_q (hU_18.2 _ (th_ne ha0 (hW _ 12 9 ha0 (by decide) (by decide) (by decide)) (by decide)))) (Eq.trans (fi_q (hU_14.2 _ (th_ne ha0 (hW _ 12 9 ha0 (by decide) (by decide) (by decide)) (by decide)))) (Eq.trans (PU.io hU_10 (j := 5) (by decide) (by decide)) (Eq.trans (PU.io hU_8 (j := 5) (by decide) (by decide)) (Eq.trans (PU.io hU_7 (j := 5) (by decide) (by decide)) p_1_2))))))⟩ dX12_lay_81
    · have f_6 : x_3.toInt < x_5.toInt := r_nle rfl rfl c_6
      refine lv_bipush (v := (-2)) hx hb dX12_lay_22 (by decide) ?_
      exact th_iret E hr hlk hs hT_1 hS_1 ⟨⟨p_1_0.1, p_1_0.2.1, p_1_0.2.2.1, p_1_0.2.2.2.1, p_1_0.2.2.2.2.1, p_1_0.2.2.2.2.2⟩, p_1_2⟩ dX12_lay_24
set_option maxHeartbeats 4000000 in
set_option maxRecDepth 100000 in
/-- the reference: in -/
theorem y_in_v21 (l : Launch) (D : va_G) (cI cS : ClassId) (τ : Nat → Option Nat) (ρ : Nat → Nat → Nat) (hW : WF τ ρ) (H : Heap) (hT : TH D cI cS τ ρ H) (x0 : Int64) : MI l D cI cS τ ρ yX12_in cX12_in 6 (some .boolean) 0 0 H [.long x0, .long 0, .long 5] (fun (r : Int32) (u : Heap) => (H = u) ∧ (r = 0 ∨ r = 1) ∧ ((r.toInt = 1 ∧ 0 ≤ x0.toInt ∧ x0.toInt ≤ 5) ∨ (r.toInt = 0 ∧ (x0.toInt < 0 ∨ 5 < x0.toInt)))) (fun q => False) := by
  refine MI.of (by decide) (Nat.le_of_ble_eq_true rfl) ?_
  intro p e s m args below meth c E hml hr hlk hs ls hl
  have hx := E.1
  have hb := E.2.1
  have hown := E.2.2.1
  have hts := E.2.2.2.1
  have hS : SS (fun q => False) H H [] := SS.rf
  have hl : lv_has ls 6 [(0, .long x0), (2, .long 0), (4, .long 5)] := hl
  refine lv_lload_n hx hb dX12_in_0 rfl (lv_at hl 0 rfl) ?_
  refine lv_lload_n hx hb dX12_in_1 rfl (lv_at hl 1 rfl) ?_
  refine W.lcmp hx hb dX12_in_2 ?_
  refine lv_topi (fun x_1 ex_1 => ?_)
  have q_1 := l_cmp (a := x0) (b := (0 : Int64)) (m := x0.toInt) (n := 0) rfl (by decide) ex_1
  refine lv_if_lt (tgt := 17) hx hb dX12_in_3 (by decide) (fun c_2 => ?_) (fun c_2 => ?_)
  · have f_2 : x_1.toInt < 0 := r_lt rfl (by decide) c_2
    refine lv_iconst (v := 0) hx hb dX12_in_17 (by decide) ?_
    exact th_zret E hr hlk hs (Or.inl rfl) hT hS ⟨rfl, (Or.inl rfl), (by have : (0 : Int32).toInt = 0 := (by decide); omega)⟩ dX12_in_18
  · have f_2 : 0 ≤ x_1.toInt := r_nlt rfl (by decide) c_2
    refine lv_lload_n hx hb dX12_in_6 rfl (lv_at hl 0 rfl) ?_
    refine lv_lload hx hb dX12_in_7 (lv_at hl 2 rfl) ?_
    refine W.lcmp hx hb dX12_in_9 ?_
    refine lv_topi (fun x_3 ex_3 => ?_)
    have q_3 := l_cmp (a := x0) (b := (5 : Int64)) (m := x0.toInt) (n := 5) rfl (by decide) ex_3
    refine lv_if_gt (tgt := 17) hx hb dX12_in_10 (by decide) (fun c_4 => ?_) (fun c_4 => ?_)
    · have f_4 : 0 < x_3.toInt := r_lt (by decide) rfl c_4
      refine lv_iconst (v := 0) hx hb dX12_in_17 (by decide) ?_
      exact th_zret E hr hlk hs (Or.inl rfl) hT hS ⟨rfl, (Or.inl rfl), (by have : (0 : Int32).toInt = 0 := (by decide); omega)⟩ dX12_in_18
    · have f_4 : x_3.toInt ≤ 0 := r_nlt (by decide) rfl c_4
      refine lv_iconst (v := 1) hx hb dX12_in_13 (by decide) ?_
      refine lv_goto (tgt := 18) hx hb dX12_in_14 (by decide) ?_
      exact th_zret E hr hlk hs (Or.inr rfl) hT hS ⟨rfl, (Or.inr rfl), (by have : (1 : Int32).toInt = 1 := (by decide); omega)⟩ dX12_in_18
set_option maxHeartbeats 4000000 in
set_option maxRecDepth 100000 in
/-- the reference: isCalm -/
theorem y_isCalm (l : Launch) (D : va_G) (cI cS : ClassId) (τ : Nat → Option Nat) (ρ : Nat → Nat → Nat) (hW : WF τ ρ) (H : Heap) (hT : TH D cI cS τ ρ H) (a0 : Nat) (ha0 : τ a0 = some 12) : MI l D cI cS τ ρ yX12_isCalm cX12_isCalm 1 (some .boolean) 1 22 H [.ref a0] (fun (r : Int32) (u : Heap) => (H = u) ∧ (r = 0 ∨ r = 1)) (fun q => False) := by
  refine MI.of (by decide) (Nat.le_of_ble_eq_true rfl) ?_
  intro p e s m args below meth c E hml hr hlk hs ls hl
  have hx := E.1
  have hb := E.2.1
  have hown := E.2.2.1
  have hts := E.2.2.2.1
  have hS : SS (fun q => False) H H [] := SS.rf
  have hl : lv_has ls 1 [(0, .ref a0)] := hl
  refine lv_aload_n hx hb dX12_isCalm_0 rfl (lv_at hl 0 rfl) ?_
  refine gf_X12_7 E hT hW ha0 dX12_isCalm_1 (fun h_1 => ?_)
  refine lv_sipush (v := 976) hx hb dX12_isCalm_4 (by decide) ?_
  refine th_iald E hT h_1 (by decide) (vp_in_iff.mpr ⟨by decide, by decide⟩) dX12_isCalm_7 ?_
  refine th_topi (y := ai H (ρ a0 0) 976) rfl ?_
  refine lv_topi (fun x_2 ex_2 => ?_)
  have c_x_2 := congrArg Int32.toInt ex_2.symm
  refine lv_if_ne (tgt := 57) hx hb dX12_isCalm_8 (by decide) (fun c_3 => ?_) (fun c_3 => ?_)
  · have f_3 : ¬ x_2.toInt = 0 := r_ne rfl (by decide) c_3
    have nz_x_2 : ¬ x_2 = 0 := c_3
    refine lv_iconst (v := 0) hx hb dX12_isCalm_57 (by decide) ?_
    exact th_zret E hr hlk hs (Or.inl rfl) hT hS ⟨rfl, (Or.inl rfl)⟩ dX12_isCalm_58
  · have f_3 : x_2.toInt = 0 := r_eq rfl (by decide) c_3
    refine lv_aload_n hx hb dX12_isCalm_11 rfl (lv_at hl 0 rfl) ?_
    refine lv_iconst (v := 0) hx hb dX12_isCalm_12 (by decide) ?_
    refine lv_bipush (v := 11) hx hb dX12_isCalm_13 (by decide) ?_
    refine th_Vi (As := [.int 0, .int 11]) (rest := []) E hml hl.1 (y_get_v36 l D cI cS τ ρ hW H hT a0 ha0) lk_X12_99 yd_X12_get hT ha0 rfl (by decide) hS (fun _ h => h.elim) ⟨by decide, by decide⟩ (Nat.le_of_ble_eq_true rfl) ⟨by decide, by decide⟩ rfl dX12_isCalm_15 (fun r_4 H_4 locs_4 p_4 hT_4 hk_4 hS_4 => ?_)
    have p_4 : H = H_4 ∧ (ai H (ρ a0 0) 11 = r_4) := p_4
    obtain ⟨rfl, p_4_0⟩ := p_4
    have c_r_4 := congrArg Int32.toInt p_4_0
    refine lv_if_ne (tgt := 57) hx hb dX12_isCalm_18 (by decide) (fun c_5 => ?_) (fun c_5 => ?_)
    · have f_5 : ¬ r_4.toInt = 0 := r_ne rfl (by decide) c_5
      have nz_r_4 : ¬ r_4 = 0 := c_5
      refine lv_iconst (v := 0) hx hb dX12_isCalm_57 (by decide) ?_
      exact th_zret E hr hlk hs (Or.inl rfl) hT_4 hS_4 ⟨rfl, (Or.inl rfl)⟩ dX12_isCalm_58
    · have f_5 : r_4.toInt = 0 := r_eq rfl (by decide) c_5
      refine lv_aload_n hx hb dX12_isCalm_21 rfl (lv_at hl 0 rfl) ?_
      refine lv_iconst (v := 1) hx hb dX12_isCalm_22 (by decide) ?_
      refine lv_bipush (v := 11) hx hb dX12_isCalm_23 (by decide) ?_
      refine th_Vi (As := [.int 1, .int 11]) (rest := []) E hml hl.1 (y_get_v39 l D cI cS τ ρ hW H hT_4 a0 ha0) lk_X12_99 yd_X12_get hT_4 ha0 rfl (by decide) hS_4 (fun _ h => h.elim) ⟨by decide, by decide⟩ (Nat.le_of_ble_eq_true rfl) ⟨by decide, by decide⟩ rfl dX12_isCalm_25 (fun r_6 H_6 locs_6 p_6 hT_6 hk_6 hS_6 => ?_)
      have p_6 : H = H_6 ∧ (ai H (ρ a0 0) 299 = r_6) := p_6
      obtain ⟨rfl, p_6_0⟩ := p_6
      have c_r_6 := congrArg Int32.toInt p_6_0
      refine lv_if_ne (tgt := 57) hx hb dX12_isCalm_28 (by decide) (fun c_7 => ?_) (fun c_7 => ?_)
      · have f_7 : ¬ r_6.toInt = 0 := r_ne rfl (by decide) c_7
        have nz_r_6 : ¬ r_6 = 0 := c_7
        refine lv_iconst (v := 0) hx hb dX12_isCalm_57 (by decide) ?_
        exact th_zret E hr hlk hs (Or.inl rfl) hT_6 hS_6 ⟨rfl, (Or.inl rfl)⟩ dX12_isCalm_58
      · have f_7 : r_6.toInt = 0 := r_eq rfl (by decide) c_7
        refine lv_aload_n hx hb dX12_isCalm_31 rfl (lv_at hl 0 rfl) ?_
        refine lv_iconst (v := 0) hx hb dX12_isCalm_32 (by decide) ?_
        refine lv_iconst (v := 0) hx hb dX12_isCalm_33 (by decide) ?_
        refine th_Vi (As := [.int 0, .int 0]) (rest := []) E hml hl.1 (y_get_v21 l D cI cS τ ρ hW H hT_6 a0 ha0) lk_X12_99 yd_X12_get hT_6 ha0 rfl (by decide) hS_6 (fun _ h => h.elim) ⟨by decide, by decide⟩ (Nat.le_of_ble_eq_true rfl) ⟨by decide, by decide⟩ rfl dX12_isCalm_34 (fun r_8 H_8 locs_8 p_8 hT_8 hk_8 hS_8 => ?_)
        have p_8 : H = H_8 ∧ (ai H (ρ a0 0) 0 = r_8) := p_8
        obtain ⟨rfl, p_8_0⟩ := p_8
        have c_r_8 := congrArg Int32.toInt p_8_0
        refine lv_bipush (v := 10) hx hb dX12_isCalm_37 (by decide) ?_
        refine lv_icmp_eq (tgt := 57) hx hb dX12_isCalm_39 (by decide) (fun c_9 => ?_) (fun c_9 => ?_)
        · have f_9 : r_8.toInt = 10 := r_eq rfl (by decide) c_9
          refine lv_iconst (v := 0) hx hb dX12_isCalm_57 (by decide) ?_
          exact th_zret E hr hlk hs (Or.inl rfl) hT_8 hS_8 ⟨rfl, (Or.inl rfl)⟩ dX12_isCalm_58
        · have f_9 : ¬ r_8.toInt = 10 := r_ne rfl (by decide) c_9
          refine lv_aload_n hx hb dX12_isCalm_42 rfl (lv_at hl 0 rfl) ?_
          refine lv_iconst (v := 1) hx hb dX12_isCalm_43 (by decide) ?_
          refine lv_iconst (v := 0) hx hb dX12_isCalm_44 (by decide) ?_
          refine th_Vi (As := [.int 1, .int 0]) (rest := []) E hml hl.1 (y_get_v20 l D cI cS τ ρ hW H hT_8 a0 ha0) lk_X12_99 yd_X12_get hT_8 ha0 rfl (by decide) hS_8 (fun _ h => h.elim) ⟨by decide, by decide⟩ (Nat.le_of_ble_eq_true rfl) ⟨by decide, by decide⟩ rfl dX12_isCalm_45 (fun r_10 H_10 locs_10 p_10 hT_10 hk_10 hS_10 => ?_)
          have p_10 : H = H_10 ∧ (ai H (ρ a0 0) 288 = r_10) := p_10
          obtain ⟨rfl, p_10_0⟩ := p_10
          have c_r_10 := congrArg Int32.toInt p_10_0
          refine lv_bipush (v := 10) hx hb dX12_isCalm_48 (by decide) ?_
          refine lv_icmp_eq (tgt := 57) hx hb dX12_isCalm_50 (by decide) (fun c_11 => ?_) (fun c_11 => ?_)
          · have f_11 : r_10.toInt = 10 := r_eq rfl (by decide) c_11
            refine lv_iconst (v := 0) hx hb dX12_isCalm_57 (by decide) ?_
            exact th_zret E hr hlk hs (Or.inl rfl) hT_10 hS_10 ⟨rfl, (Or.inl rfl)⟩ dX12_isCalm_58
          · have f_11 : ¬ r_10.toInt = 10 := r_ne rfl (by decide) c_11
            refine lv_iconst (v := 1) hx hb dX12_isCalm_53 (by decide) ?_
            refine lv_goto (tgt := 58) hx hb dX12_isCalm_54 (by decide) ?_
            exact th_zret E hr hlk hs (Or.inr rfl) hT_10 hS_10 ⟨rfl, (Or.inr rfl)⟩ dX12_isCalm_58
set_option maxHeartbeats 4000000 in
set_option maxRecDepth 100000 in
/-- the reference: removes -/
theorem y_removes_v2 (l : Launch) (D : va_G) (cI cS : ClassId) (τ : Nat → Option Nat) (ρ : Nat → Nat → Nat) (hW : WF τ ρ) (H : Heap) (hT : TH D cI cS τ ρ H) (a0 : Nat) (ha0 : τ a0 = some 12) (N : Int) (hN0 : 0 ≤ N) (hN1 : N ≤ 600) (hI : IM D ρ N H a0) (hp0 : 0 ≤ 0 ∧ 0 + 1 ≤ (ai H (ρ a0 0) 976).toInt) : MV l D cI cS τ ρ yX12_removes cX12_removes 3 none 0 0 H [.ref a0, .int 0] (fun (u : Heap) => (IM D ρ N u a0) ∧ ((ai u (ρ a0 0) 976).toInt = (ai H (ρ a0 0) 976).toInt - 1)) (fun q => q = ρ a0 0) := by
  refine MV.of (by decide) (Nat.le_of_ble_eq_true rfl) ?_
  intro p e s m args below meth c E hml hr hlk hs ls hl
  have hx := E.1
  have hb := E.2.1
  have hown := E.2.2.1
  have hts := E.2.2.2.1
  have hS : SS (fun q => q = ρ a0 0) H H [] := SS.rf
  have hl : lv_has ls 3 [(0, .ref a0), (1, .int 0)] := hl
  have n01 := hI.2.2.2.2.2.1
  have n23 := hI.2.2.2.2.2.2.1
  have L_21 : ∀ (n : Nat) (H_c21 : Heap) (lc_c21 : List Loc) (ls : Array Slot) (y21_2 : Int32) (g21_0 : Int32), TH D cI cS τ ρ H_c21 → SS (fun q => q = ρ a0 0) H H_c21 lc_c21 → lv_has ls 3 [(0, .ref a0), (1, .int 0), (2, .int y21_2)] → 576 ≤ y21_2.toInt → -1 ≤ g21_0.toInt → g21_0.toInt ≤ 19 → ai H_c21 (ρ a0 0) 976 = g21_0 → IM D ρ N H_c21 a0 → (ai H_c21 (ρ a0 0) 976).toInt = (ai H (ρ a0 0) 976).toInt - 1 → (976 - y21_2.toInt).toNat < n → W p l e (rmO 0 0) s m args below meth c H_c21 lc_c21 0 0 (MQ below (va_Qv (fun (u : Heap) => (IM D ρ N u a0) ∧ ((ai u (ρ a0 0) 976).toInt = (ai H (ρ a0 0) 976).toInt - 1)) (Bt D cI cS τ ρ H) (fun q => q = ρ a0 0)) args s 0 0 (fun q => q = ρ a0 0)) (F0 m 21 ls []) := by
    intro n
    induction n with
    | zero => intro H_c21 lc_c21 ls y21_2 g21_0 hT_c21 hS_c21 hl ly21_2 lg21_0 ug21_0 hg21_0 hI_c21 hx21_0 hm; exact absurd hm (Nat.not_lt_zero _)
    | succ n ih_21 =>
      intro H_c21 lc_c21 ls y21_2 g21_0 hT_c21 hS_c21 hl ly21_2 lg21_0 ug21_0 hg21_0 hI_c21 hx21_0 hm_21
      have bb_g21_0 : 0 ≤ g21_0.toInt ∧ g21_0.toInt ≤ 20 := by rw [← hg21_0]; exact hI_c21.1 976 (by decide)
      have cg_g21_0 := congrArg Int32.toInt hg21_0
      refine lv_iload_n hx hb dX12_removes_21 rfl (lv_at hl 2 rfl) ?_
      refine lv_sipush (v := 576) hx hb dX12_removes_22 (by decide) ?_
      refine lv_bipush (v := 20) hx hb dX12_removes_25 (by decide) ?_
      refine lv_aload_n hx hb dX12_removes_27 rfl (lv_at hl 0 rfl) ?_
      refine gf_X12_7 E hT_c21 hW ha0 dX12_removes_28 (fun h_1 => ?_)
      refine lv_sipush (v := 976) hx hb dX12_removes_31 (by decide) ?_
      refine th_iald E hT_c21 h_1 (by decide) (vp_in_iff.mpr ⟨by decide, by decide⟩) dX12_removes_34 ?_
      refine th_topi (y := ai H_c21 (ρ a0 0) 976) rfl ?_
      refine th_topi (y := g21_0) hg21_0 ?_
      refine lv_imul hx hb dX12_removes_35 ?_
      refine lv_topi (fun x_3 ex_3 => ?_)
      have q_3 : x_3.toInt = 20 * g21_0.toInt := i_ml (by decide) rfl ex_3 (by omega) (by omega)
      refine lv_iadd hx hb dX12_removes_36 ?_
      refine lv_topi (fun x_4 ex_4 => ?_)
      have q_4 : x_4.toInt = 576 + x_3.toInt := i_pl (by decide) rfl ex_4 (by omega) (by omega)
      refine lv_icmp_ge (tgt := 61) hx hb dX12_removes_37 (by decide) (fun c_5 => ?_) (fun c_5 => ?_)
      · have f_5 : x_4.toInt ≤ y21_2.toInt := r_le rfl rfl c_5
        exact th_vret E hr hlk hs hT_c21 hS_c21 ⟨⟨hI_c21.1, hI_c21.2.1, hI_c21.2.2.1, hI_c21.2.2.2.1, hI_c21.2.2.2.2.1, hI_c21.2.2.2.2.2⟩, (by have : (ai H_c21 (ρ a0 0) 976).toInt = (g21_0 : Int32).toInt := congrArg Int32.toInt hg21_0; omega)⟩ dX12_removes_61
      · have f_5 : y21_2.toInt < x_4.toInt := r_nle rfl rfl c_5
        refine lv_aload_n hx hb dX12_removes_40 rfl (lv_at hl 0 rfl) ?_
        refine gf_X12_7 E hT_c21 hW ha0 dX12_removes_41 (fun h_6 => ?_)
        refine lv_iload_n hx hb dX12_removes_44 rfl (lv_at hl 2 rfl) ?_
        refine lv_aload_n hx hb dX12_removes_45 rfl (lv_at hl 0 rfl) ?_
        refine gf_X12_7 E hT_c21 hW ha0 dX12_removes_46 (fun h_7 => ?_)
        refine lv_iload_n hx hb dX12_removes_49 rfl (lv_at hl 2 rfl) ?_
        refine lv_bipush (v := 20) hx hb dX12_removes_50 (by decide) ?_
        refine lv_iadd hx hb dX12_removes_52 ?_
        refine lv_topi (fun x_8 ex_8 => ?_)
        have q_8 : x_8.toInt = y21_2.toInt + 20 := i_pl rfl (by decide) ex_8 (by omega) (by omega)
        refine th_iald E hT_c21 h_7 (by decide) (vp_in_iff.mpr ⟨by omega, by omega⟩) dX12_removes_53 ?_
        refine th_topi (y := ai H_c21 (ρ a0 0) x_8.toInt.toNat) rfl ?_
        refine lv_topi (fun x_9 ex_9 => ?_)
        have cl_9 : bW (x_8.toInt.toNat) ≤ x_9.toInt ∧ x_9.toInt ≤ uW N (x_8.toInt.toNat) := by rw [ex_9]; exact hI_c21.1 _ (by have := i_max x_8; omega)
        refine th_iast E hT_c21 hS_c21 h_6 rfl (by decide) (vp_in_iff.mpr ⟨by omega, by omega⟩) dX12_removes_54 (fun H_10 locs_10 hT_10 hU_10 hS_10 => ?_)
        have hU_10 : AU 985 H_c21 H_10 (ρ a0 0) y21_2.toInt.toNat x_9 := hU_10
        have hW_10 : PW N H_10 (ρ a0 0) := PW.shift hI_c21.1 hU_10 cl_9 (by omega) (by omega) (by omega)
        obtain ⟨x_11, ex_11⟩ : ∃ y : Int32, y21_2 + 1 = y := ⟨_, rfl⟩
        have q_x_11 : x_11.toInt = y21_2.toInt + 1 := i_add (k := 1) (by decide) ex_11 (by have := i_min y21_2; omega) (by have := i_max y21_2; omega)
        refine lv_iinc (v := x_11) (lv' := [(2, .int x_11), (0, .ref a0), (1, .int 0)]) hx hb dX12_removes_55 hl (k := 2) rfl (by rw [← ex_11]; rfl) (by decide) rfl (fun ls hl => ?_)
        refine lv_goto (tgt := 21) hx hb dX12_removes_58 (by decide) ?_
        exact ih_21 H_10 locs_10 _ x_11 g21_0 hT_10 hS_10 (lv_sub hl [1, 2, 0] rfl) (by omega) (by have b9 : 0 ≤ (g21_0 : Int32).toInt ∧ (g21_0 : Int32).toInt ≤ 20 := (by rw [← (Eq.trans (AU.o hU_10 (by decide) (by omega)) hg21_0)]; exact hW_10 976 (by decide)); omega) (by have b9 : 0 ≤ (g21_0 : Int32).toInt ∧ (g21_0 : Int32).toInt ≤ 20 := (by rw [← (Eq.trans (AU.o hU_10 (by decide) (by omega)) hg21_0)]; exact hW_10 976 (by decide)); omega) (Eq.trans (AU.o hU_10 (by decide) (by omega)) hg21_0) ⟨hW_10, (QS.same (AU.o hU_10 (by decide) (by omega)) (AU.o hU_10 (by decide) (by omega)) hI_c21.2.1), (QS.same (AU.o hU_10 (by decide) (by omega)) (AU.o hU_10 (by decide) (by omega)) hI_c21.2.2.1), (PL.q (hU_10.2 _ (th_ne (hW _ 12 2 ha0 (by decide) (by decide) (by decide)) (hW _ 12 0 ha0 (by decide) (by decide) (by decide)) (by decide))) hI_c21.2.2.2.1), (PL.q (hU_10.2 _ (th_ne (hW _ 12 3 ha0 (by decide) (by decide) (by decide)) (hW _ 12 0 ha0 (by decide) (by decide) (by decide)) (by decide))) hI_c21.2.2.2.2.1), (IF.q (hU_10.2 _ (th_ne ha0 (hW _ 12 0 ha0 (by decide) (by decide) (by decide)) (by decide))) hI_c21.2.2.2.2.2)⟩ (by have : (ai H_10 (ρ a0 0) 976).toInt = (g21_0 : Int32).toInt := congrArg Int32.toInt (Eq.trans (AU.o hU_10 (by decide) (by omega)) hg21_0); have : (ai H_c21 (ρ a0 0) 976).toInt = (g21_0 : Int32).toInt := congrArg Int32.toInt hg21_0; omega) (by omega)
  refine lv_aload_n hx hb dX12_removes_0 rfl (lv_at hl 0 rfl) ?_
  refine gf_X12_7 E hT hW ha0 dX12_removes_1 (fun h_12 => ?_)
  refine lv_sipush (v := 976) hx hb dX12_removes_4 (by decide) ?_
  refine lv_dup2_11 hx hb dX12_removes_7 rfl rfl ?_
  refine th_iald E hT h_12 (by decide) (vp_in_iff.mpr ⟨by decide, by decide⟩) dX12_removes_8 ?_
  refine th_topi (y := ai H (ρ a0 0) 976) rfl ?_
  refine lv_topi (fun x_13 ex_13 => ?_)
  have b_x_13 : 0 ≤ x_13.toInt ∧ x_13.toInt ≤ 20 := by rw [← ex_13.symm]; exact hI.1 976 (by decide)
  have c_x_13 := congrArg Int32.toInt ex_13.symm
  refine lv_iconst (v := 1) hx hb dX12_removes_9 (by decide) ?_
  refine lv_isub hx hb dX12_removes_10 ?_
  refine lv_topi (fun x_14 ex_14 => ?_)
  have q_14 : x_14.toInt = x_13.toInt - 1 := i_mi rfl (by decide) ex_14 (by omega) (by omega)
  refine th_iast E hT hS h_12 rfl (by decide) (vp_in_iff.mpr ⟨by decide, by decide⟩) dX12_removes_11 (fun H_15 locs_15 hT_15 hU_15 hS_15 => ?_)
  have hU_15 : AU 985 H H_15 (ρ a0 0) 976 x_14 := hU_15
  have hW_15 : PW N H_15 (ρ a0 0) := PW.put hI.1 hU_15 (by show (0 : Int) ≤ x_14.toInt; omega) (by show x_14.toInt ≤ (20 : Int); omega)
  refine lv_sipush (v := 576) hx hb dX12_removes_12 (by decide) ?_
  refine lv_bipush (v := 20) hx hb dX12_removes_15 (by decide) ?_
  refine lv_iload_n hx hb dX12_removes_17 rfl (lv_at hl 1 rfl) ?_
  refine lv_imul hx hb dX12_removes_18 ?_
  refine th_topi (y := 0) (by decide) ?_
  refine lv_iadd hx hb dX12_removes_19 ?_
  refine th_topi (y := 576) (by decide) ?_
  refine lv_istore_n (lv' := [(2, .int 576), (0, .ref a0), (1, .int 0)]) hx hb dX12_removes_20 rfl hl (by decide) rfl (fun ls hl => ?_)
  exact L_21 _ H_15 locs_15 _ 576 x_14 hT_15 hS_15 (lv_sub hl [1, 2, 0] rfl) (by decide) (by have b9 : 0 ≤ (x_14 : Int32).toInt ∧ (x_14 : Int32).toInt ≤ 20 := (by rw [← (AU.s hU_15 (by decide))]; exact hW_15 976 (by decide)); omega) (by have b9 : 0 ≤ (x_14 : Int32).toInt ∧ (x_14 : Int32).toInt ≤ 20 := (by rw [← (AU.s hU_15 (by decide))]; exact hW_15 976 (by decide)); omega) (AU.s hU_15 (by decide)) ⟨hW_15, (QS.same (AU.o hU_15 (by decide) (by decide)) (AU.o hU_15 (by decide) (by decide)) hI.2.1), (QS.same (AU.o hU_15 (by decide) (by decide)) (AU.o hU_15 (by decide) (by decide)) hI.2.2.1), (PL.q (hU_15.2 _ (th_ne (hW _ 12 2 ha0 (by decide) (by decide) (by decide)) (hW _ 12 0 ha0 (by decide) (by decide) (by decide)) (by decide))) hI.2.2.2.1), (PL.q (hU_15.2 _ (th_ne (hW _ 12 3 ha0 (by decide) (by decide) (by decide)) (hW _ 12 0 ha0 (by decide) (by decide) (by decide)) (by decide))) hI.2.2.2.2.1), (IF.q (hU_15.2 _ (th_ne ha0 (hW _ 12 0 ha0 (by decide) (by decide) (by decide)) (by decide))) hI.2.2.2.2.2)⟩ (by have : (ai H_15 (ρ a0 0) 976).toInt = (x_14 : Int32).toInt := congrArg Int32.toInt (AU.s hU_15 (by decide)); have : (ai H (ρ a0 0) 976).toInt = (x_13 : Int32).toInt := congrArg Int32.toInt ex_13.symm; have : (ai H (ρ a0 0) 976).toInt = (x_13 : Int32).toInt := congrArg Int32.toInt ex_13.symm; omega) (Nat.lt_succ_self _)
set_option maxHeartbeats 4000000 in
set_option maxRecDepth 100000 in
/-- the reference: arrives -/
theorem y_arrives_v2 (l : Launch) (D : va_G) (cI cS : ClassId) (τ : Nat → Option Nat) (ρ : Nat → Nat → Nat) (hW : WF τ ρ) (H : Heap) (hT : TH D cI cS τ ρ H) (a0 : Nat) (ha0 : τ a0 = some 12) (N : Int) (hN0 : 0 ≤ N) (hN1 : N ≤ 600) (hI : IM D ρ N H a0) (hp0 : 0 ≤ 0 ∧ 0 + 1 ≤ (ai H (ρ a0 0) 976).toInt) : MI l D cI cS τ ρ yX12_arrives cX12_arrives 5 (some .int) 11 261 H [.ref a0, .int 0] (fun (r : Int32) (u : Heap) => (IM D ρ N u a0) ∧ ((ai H (ρ a0 0) 976).toInt - 1 ≤ (ai u (ρ a0 0) 976).toInt)) (fun q => q = ρ a0 3 ∨ q = ρ a0 0 ∨ q = ρ a0 2) := by
  refine MI.of (by decide) (Nat.le_of_ble_eq_true rfl) ?_
  intro p e s m args below meth c E hml hr hlk hs ls hl
  have hx := E.1
  have hb := E.2.1
  have hown := E.2.2.1
  have hts := E.2.2.2.1
  have hS : SS (fun q => q = ρ a0 3 ∨ q = ρ a0 0 ∨ q = ρ a0 2) H H [] := SS.rf
  have hl : lv_has ls 5 [(0, .ref a0), (1, .int 0)] := hl
  have n01 := hI.2.2.2.2.2.1
  have n23 := hI.2.2.2.2.2.2.1
  have bM : 0 ≤ (ai H (ρ a0 0) 976).toInt ∧ (ai H (ρ a0 0) 976).toInt ≤ 20 := hI.1 976 (by decide)
  have L_2 : ∀ (n : Nat) (H_c2 : Heap) (lc_c2 : List Loc) (ls : Array Slot) (y2_2 : Int32), TH D cI cS τ ρ H_c2 → SS (fun q => q = ρ a0 3 ∨ q = ρ a0 0 ∨ q = ρ a0 2) H H_c2 lc_c2 → lv_has ls 5 [(0, .ref a0), (1, .int 0), (2, .int y2_2)] → 0 ≤ y2_2.toInt → ai H_c2 (ρ a0 0) 976 = ai H (ρ a0 0) 976 → IM D ρ N H_c2 a0 → (20 - y2_2.toInt).toNat < n → W p l e (rmO 11 261) s m args below meth c H_c2 lc_c2 0 0 (MQ below (va_Qi (fun (r : Int32) (u : Heap) => (IM D ρ N u a0) ∧ ((ai H (ρ a0 0) 976).toInt - 1 ≤ (ai u (ρ a0 0) 976).toInt)) (Bt D cI cS τ ρ H) (fun q => q = ρ a0 3 ∨ q = ρ a0 0 ∨ q = ρ a0 2)) args s 0 0 (fun q => q = ρ a0 3 ∨ q = ρ a0 0 ∨ q = ρ a0 2)) (F0 m 2 ls []) := by
    intro n
    induction n with
    | zero => intro H_c2 lc_c2 ls y2_2 hT_c2 hS_c2 hl ly2_2 hg2_0 hI_c2 hm; exact absurd hm (Nat.not_lt_zero _)
    | succ n ih_2 =>
      intro H_c2 lc_c2 ls y2_2 hT_c2 hS_c2 hl ly2_2 hg2_0 hI_c2 hm_2
      have bb_g2_0 : 0 ≤ (ai H (ρ a0 0) 976).toInt ∧ (ai H (ρ a0 0) 976).toInt ≤ 20 := by rw [← hg2_0]; exact hI_c2.1 976 (by decide)
      have cg_g2_0 := congrArg Int32.toInt hg2_0
      refine lv_iload_n hx hb dX12_arrives_2 rfl (lv_at hl 2 rfl) ?_
      refine lv_bipush (v := 20) hx hb dX12_arrives_3 (by decide) ?_
      refine lv_icmp_ge (tgt := 35) hx hb dX12_arrives_5 (by decide) (fun c_1 => ?_) (fun c_1 => ?_)
      · have f_1 : 20 ≤ y2_2.toInt := r_le (by decide) rfl c_1
        refine lv_aload_n hx hb dX12_arrives_35 rfl (lv_at hl 0 rfl) ?_
        refine lv_iload_n hx hb dX12_arrives_36 rfl (lv_at hl 1 rfl) ?_
        refine th_Vv (As := [.int 0]) (rest := []) E hml hl.1 (y_removes_v2 l D cI cS τ ρ hW H_c2 hT_c2 a0 ha0 N hN0 hN1 ⟨hI_c2.1, hI_c2.2.1, hI_c2.2.2.1, hI_c2.2.2.2.1, hI_c2.2.2.2.2.1, hI_c2.2.2.2.2.2⟩ (by have : (ai H_c2 (ρ a0 0) 976).toInt = (ai H (ρ a0 0) 976 : Int32).toInt := congrArg Int32.toInt hg2_0; omega)) lk_X12_236 yd_X12_removes hT_c2 ha0 rfl (by decide) hS_c2 (fun q h => (Or.inr (Or.inl h))) ⟨by decide, by decide⟩ (Nat.le_of_ble_eq_true rfl) ⟨by decide, by decide⟩ rfl dX12_arrives_37 (fun H_2 locs_2 p_2 hT_2 hk_2 hS_2 => ?_)
        have p_2 : (IM D ρ N H_2 a0) ∧ ((ai H_2 (ρ a0 0) 976).toInt = (ai H_c2 (ρ a0 0) 976).toInt - 1) := p_2
        obtain ⟨p_2_0, p_2_1⟩ := p_2
        refine lv_aload_n hx hb dX12_arrives_40 rfl (lv_at hl 0 rfl) ?_
        refine gf_X12_7 E hT_2 hW ha0 dX12_arrives_41 (fun h_3 => ?_)
        refine lv_sipush (v := 982) hx hb dX12_arrives_44 (by decide) ?_
        refine lv_iconst (v := 0) hx hb dX12_arrives_47 (by decide) ?_
        refine th_iast E hT_2 hS_2 h_3 (Or.inr (Or.inl rfl)) (by decide) (vp_in_iff.mpr ⟨by decide, by decide⟩) dX12_arrives_48 (fun H_4 locs_4 hT_4 hU_4 hS_4 => ?_)
        have hU_4 : AU 985 H_2 H_4 (ρ a0 0) 982 (0) := hU_4
        have hW_4 : PW N H_4 (ρ a0 0) := PW.put p_2_0.1 hU_4 (by show (-2147483648 : Int) ≤ _; exact i_min _) (by show (0 : Int32).toInt ≤ (2 : Int); have : (0 : Int32).toInt = 0 := (by decide); omega)
        refine lv_iconst (v := 1) hx hb dX12_arrives_49 (by decide) ?_
        refine lv_aload_n hx hb dX12_arrives_50 rfl (lv_at hl 0 rfl) ?_
        refine gf_X12_19 E hT_4 hW ha0 dX12_arrives_51 (fun h_5 => ?_)
        refine lv_iconst (v := 0) hx hb dX12_arrives_54 (by decide) ?_
        refine th_iald E hT_4 h_5 (by decide) (vp_in_iff.mpr ⟨by decide, by decide⟩) dX12_arrives_55 ?_
        refine th_topi (y := ai H_4 (ρ a0 3) 0) rfl ?_
        refine th_topi (y := ai H_c2 (ρ a0 3) 0) (Eq.trans (ai_q (hU_4.2 _ (th_ne (hW _ 12 3 ha0 (by decide) (by decide) (by decide)) (hW _ 12 0 ha0 (by decide) (by decide) (by decide)) (by decide)))) (ai_q (hk_2 _ (th_ne (hW _ 12 3 ha0 (by decide) (by decide) (by decide)) (hW _ 12 0 ha0 (by decide) (by decide) (by decide)) (by decide))))) ?_
        refine lv_topi (fun x_6 ex_6 => ?_)
        have c_x_6 := congrArg Int32.toInt ex_6.symm
        have b_x_6 : 0 ≤ x_6.toInt ∧ x_6.toInt ≤ 1 := by rw [← ex_6.symm]; exact hI_c2.2.2.2.2.1 0 (by decide)
        refine lv_isub hx hb dX12_arrives_56 ?_
        refine lv_topi (fun x_7 ex_7 => ?_)
        have q_7 : x_7.toInt = 1 - x_6.toInt := i_mi (by decide) rfl ex_7 (by omega) (by omega)
        refine lv_istore_n (lv' := [(2, .int x_7), (0, .ref a0), (1, .int 0)]) hx hb dX12_arrives_57 rfl hl (by decide) rfl (fun ls hl => ?_)
        rcases (show x_7.toInt = 0 ∨ x_7.toInt = 1 by omega) with g_9 | g_9
        · have e_9 : x_7 = 0 := i_eqc g_9 (by decide)
          have hl : lv_has ls 5 [(2, .int 0), (0, .ref a0), (1, .int 0)] := by rw [e_9] at hl; exact hl
          refine lv_aload_n hx hb dX12_arrives_58 rfl (lv_at hl 1 rfl) ?_
          refine lv_iload_n hx hb dX12_arrives_59 rfl (lv_at hl 0 rfl) ?_
          refine lv_iconst (v := 0) hx hb dX12_arrives_60 (by decide) ?_
          refine th_Vi (As := [.int 0, .int 0]) (rest := []) E hml hl.1 (y_get_v21 l D cI cS τ ρ hW H_4 hT_4 a0 ha0) lk_X12_99 yd_X12_get hT_4 ha0 rfl (by decide) hS_4 (fun _ h => h.elim) ⟨by decide, by decide⟩ (Nat.le_of_ble_eq_true rfl) ⟨by decide, by decide⟩ rfl dX12_arrives_61 (fun r_8 H_8 locs_8 p_8 hT_8 hk_8 hS_8 => ?_)
          have p_8 : H_4 = H_8 ∧ (ai H_4 (ρ a0 0) 0 = r_8) := p_8
          obtain ⟨rfl, p_8_0⟩ := p_8
          have t_8 : ai H_2 (ρ a0 0) 0 = r_8 := (AU.o hU_4 (by decide) (by decide)).symm.trans p_8_0
          have c_r_8 := congrArg Int32.toInt t_8
          refine lv_istore_n (lv' := [(3, .int r_8), (2, .int 0), (0, .ref a0), (1, .int 0)]) hx hb dX12_arrives_64 rfl hl (by decide) rfl (fun ls hl => ?_)
          refine lv_iload_n hx hb dX12_arrives_65 rfl (lv_at hl 0 rfl) ?_
          refine lv_if_ne (tgt := 77) hx hb dX12_arrives_66 (by decide) (fun c_9 => ?_) (fun c_9 => ?_)
          · have f_9 : ¬ r_8.toInt = 0 := r_ne rfl (by decide) c_9
            have nz_r_8 : ¬ r_8 = 0 := c_9
            refine lv_iload_n hx hb dX12_arrives_77 rfl (lv_at hl 0 rfl) ?_
            refine lv_iconst (v := 1) hx hb dX12_arrives_78 (by decide) ?_
            refine lv_icmp_ne (tgt := 90) hx hb dX12_arrives_79 (by decide) (fun c_10 => ?_) (fun c_10 => ?_)
            · have f_10 : ¬ r_8.toInt = 1 := r_ne rfl (by decide) c_10
              refine lv_iload_n hx hb dX12_arrives_90 rfl (lv_at hl 0 rfl) ?_
              refine lv_iconst (v := 2) hx hb dX12_arrives_91 (by decide) ?_
              refine lv_icmp_ne (tgt := 103) hx hb dX12_arrives_92 (by decide) (fun c_11 => ?_) (fun c_11 => ?_)
              · have f_11 : ¬ r_8.toInt = 2 := r_ne rfl (by decide) c_11
                refine lv_aload_n hx hb dX12_arrives_103 rfl (lv_at hl 2 rfl) ?_
                refine lv_iload_n hx hb dX12_arrives_104 rfl (lv_at hl 1 rfl) ?_
                refine th_Vi (As := [.int 0]) (rest := []) E hml hl.1 (y_inOthers l D cI cS τ ρ hW H_4 hT_8 a0 ha0 N hN0 hN1 ⟨hW_4, (QS.same (((AU.o hU_4 (by decide) (by decide)).trans t_8).trans t_8.symm) (AU.o hU_4 (by decide) (by decide)) p_2_0.2.1), (QS.same (AU.o hU_4 (by decide) (by decide)) (AU.o hU_4 (by decide) (by decide)) p_2_0.2.2.1), (PL.q (hU_4.2 _ (th_ne (hW _ 12 2 ha0 (by decide) (by decide) (by decide)) (hW _ 12 0 ha0 (by decide) (by decide) (by decide)) (by decide))) p_2_0.2.2.2.1), (PL.q (hU_4.2 _ (th_ne (hW _ 12 3 ha0 (by decide) (by decide) (by decide)) (hW _ 12 0 ha0 (by decide) (by decide) (by decide)) (by decide))) p_2_0.2.2.2.2.1), (IF.q (hU_4.2 _ (th_ne ha0 (hW _ 12 0 ha0 (by decide) (by decide) (by decide)) (by decide))) p_2_0.2.2.2.2.2)⟩) lk_X12_248 yd_X12_inOthers hT_8 ha0 rfl (by decide) hS_8 (fun q => (fun h => h.elim (fun h => (Or.inr (Or.inr h))) (fun h => (Or.inr (Or.inl h))))) ⟨by decide, by decide⟩ (Nat.le_of_ble_eq_true rfl) ⟨by decide, by decide⟩ rfl dX12_arrives_105 (fun r_12 H_12 locs_12 p_12 hT_12 hk_12 hS_12 => ?_)
                have p_12 : (IM D ρ N H_12 a0) ∧ ((ai H_4 (ρ a0 0) 976).toInt ≤ (ai H_12 (ρ a0 0) 976).toInt) := p_12
                obtain ⟨p_12_0, p_12_1⟩ := p_12
                have mn_12 : (ai H_2 (ρ a0 0) 976).toInt ≤ (ai H_12 (ρ a0 0) 976).toInt := by have h := p_12_1; rw [(AU.o hU_4 (by decide) (by decide))] at h; exact h
                refine lv_istore (lv' := [(4, .int r_12), (3, .int r_8), (2, .int 0), (0, .ref a0), (1, .int 0)]) hx hb dX12_arrives_108 hl (by decide) rfl (fun ls hl => ?_)
                refine lv_aload_n hx hb dX12_arrives_110 rfl (lv_at hl 3 rfl) ?_
                refine lv_iload_n hx hb dX12_arrives_111 rfl (lv_at hl 2 rfl) ?_
                refine th_Vv (As := [.int 0]) (rest := []) E hml hl.1 (y_settles l D cI cS τ ρ hW H_12 hT_12 a0 ha0 N hN0 hN1 ⟨p_12_0.1, p_12_0.2.1, p_12_0.2.2.1, p_12_0.2.2.2.1, p_12_0.2.2.2.2.1, p_12_0.2.2.2.2.2⟩) lk_X12_166 yd_X12_settles hT_12 ha0 rfl (by decide) hS_12 (fun q h => (Or.inr (Or.inl h))) ⟨by decide, by decide⟩ (Nat.le_of_ble_eq_true rfl) ⟨by decide, by decide⟩ rfl dX12_arrives_112 (fun H_13 locs_13 p_13 hT_13 hk_13 hS_13 => ?_)
                have p_13 : (IM D ρ N H_13 a0) ∧ ((ai H_12 (ρ a0 0) 976).toInt ≤ (ai H_13 (ρ a0 0) 976).toInt) := p_13
                obtain ⟨p_13_0, p_13_1⟩ := p_13
                have mn_13 : (ai H_12 (ρ a0 0) 976).toInt ≤ (ai H_13 (ρ a0 0) 976).toInt := by exact p_13_1
                refine lv_iload hx hb dX12_arrives_115 (lv_at hl 0 rfl) ?_
                exact th_iret E hr hlk hs hT_13 hS_13 ⟨⟨p_13_0.1, p_13_0.2.1, p_13_0.2.2.1, p_13_0.2.2.2.1, p_13_0.2.2.2.2.1, p_13_0.2.2.2.2.2⟩, (by omega)⟩ dX12_arrives_117
              · have f_11 : r_8.toInt = 2 := r_eq rfl (by decide) c_11
                refine lv_aload_n hx hb dX12_arrives_95 rfl (lv_at hl 2 rfl) ?_
                refine lv_iload_n hx hb dX12_arrives_96 rfl (lv_at hl 1 rfl) ?_
                refine th_Vi (As := [.int 0]) (rest := []) E hml hl.1 (y_inCalling_v2 l D cI cS τ ρ hW H_4 hT_8 a0 ha0 N hN0 hN1 ⟨hW_4, (QS.same (((AU.o hU_4 (by decide) (by decide)).trans t_8).trans t_8.symm) (AU.o hU_4 (by decide) (by decide)) p_2_0.2.1), (QS.same (AU.o hU_4 (by decide) (by decide)) (AU.o hU_4 (by decide) (by decide)) p_2_0.2.2.1), (PL.q (hU_4.2 _ (th_ne (hW _ 12 2 ha0 (by decide) (by decide) (by decide)) (hW _ 12 0 ha0 (by decide) (by decide) (by decide)) (by decide))) p_2_0.2.2.2.1), (PL.q (hU_4.2 _ (th_ne (hW _ 12 3 ha0 (by decide) (by decide) (by decide)) (hW _ 12 0 ha0 (by decide) (by decide) (by decide)) (by decide))) p_2_0.2.2.2.2.1), (IF.q (hU_4.2 _ (th_ne ha0 (hW _ 12 0 ha0 (by decide) (by decide) (by decide)) (by decide))) p_2_0.2.2.2.2.2)⟩ (by have : (ai H_4 (ρ a0 0) 0).toInt = (r_8 : Int32).toInt := congrArg Int32.toInt ((AU.o hU_4 (by decide) (by decide)).trans t_8); omega)) lk_X12_245 yd_X12_inCalling hT_8 ha0 rfl (by decide) hS_8 (fun q => (fun h => h.elim (fun h => (Or.inr (Or.inl h))) (fun h => (Or.inr (Or.inr h))))) ⟨by decide, by decide⟩ (Nat.le_of_ble_eq_true rfl) ⟨by decide, by decide⟩ rfl dX12_arrives_97 (fun r_14 H_14 locs_14 p_14 hT_14 hk_14 hS_14 => ?_)
                have p_14 : (IM D ρ N H_14 a0) ∧ ((ai H_4 (ρ a0 0) 976).toInt ≤ (ai H_14 (ρ a0 0) 976).toInt) := p_14
                obtain ⟨p_14_0, p_14_1⟩ := p_14
                have mn_14 : (ai H_2 (ρ a0 0) 976).toInt ≤ (ai H_14 (ρ a0 0) 976).toInt := by have h := p_14_1; rw [(AU.o hU_4 (by decide) (by decide))] at h; exact h
                refine lv_goto (tgt := 108) hx hb dX12_arrives_100 (by decide) ?_
                refine lv_istore (lv' := [(4, .int r_14), (3, .int r_8), (2, .int 0), (0, .ref a0), (1, .int 0)]) hx hb dX12_arrives_108 hl (by decide) rfl (fun ls hl => ?_)
                refine lv_aload_n hx hb dX12_arrives_110 rfl (lv_at hl 3 rfl) ?_
                refine lv_iload_n hx hb dX12_arrives_111 rfl (lv_at hl 2 rfl) ?_
                refine th_Vv (As := [.int 0]) (rest := []) E hml hl.1 (y_settles l D cI cS τ ρ hW H_14 hT_14 a0 ha0 N hN0 hN1 ⟨p_14_0.1, p_14_0.2.1, p_14_0.2.2.1, p_14_0.2.2.2.1, p_14_0.2.2.2.2.1, p_14_0.2.2.2.2.2⟩) lk_X12_166 yd_X12_settles hT_14 ha0 rfl (by decide) hS_14 (fun q h => (Or.inr (Or.inl h))) ⟨by decide, by decide⟩ (Nat.le_of_ble_eq_true rfl) ⟨by decide, by decide⟩ rfl dX12_arrives_112 (fun H_15 locs_15 p_15 hT_15 hk_15 hS_15 => ?_)
                have p_15 : (IM D ρ N H_15 a0) ∧ ((ai H_14 (ρ a0 0) 976).toInt ≤ (ai H_15 (ρ a0 0) 976).toInt) := p_15
                obtain ⟨p_15_0, p_15_1⟩ := p_15
                have mn_15 : (ai H_14 (ρ a0 0) 976).toInt ≤ (ai H_15 (ρ a0 0) 976).toInt := by exact p_15_1
                refine lv_iload hx hb dX12_arrives_115 (lv_at hl 0 rfl) ?_
                exact th_iret E hr hlk hs hT_15 hS_15 ⟨⟨p_15_0.1, p_15_0.2.1, p_15_0.2.2.1, p_15_0.2.2.2.1, p_15_0.2.2.2.2.1, p_15_0.2.2.2.2.2⟩, (by omega)⟩ dX12_arrives_117
            · have f_10 : r_8.toInt = 1 := r_eq rfl (by decide) c_10
              refine lv_aload_n hx hb dX12_arrives_82 rfl (lv_at hl 2 rfl) ?_
              refine lv_iload_n hx hb dX12_arrives_83 rfl (lv_at hl 1 rfl) ?_
              refine th_Vi (As := [.int 0]) (rest := []) E hml hl.1 (y_inWaiting l D cI cS τ ρ hW H_4 hT_8 a0 ha0 N hN0 hN1 ⟨hW_4, (QS.same (((AU.o hU_4 (by decide) (by decide)).trans t_8).trans t_8.symm) (AU.o hU_4 (by decide) (by decide)) p_2_0.2.1), (QS.same (AU.o hU_4 (by decide) (by decide)) (AU.o hU_4 (by decide) (by decide)) p_2_0.2.2.1), (PL.q (hU_4.2 _ (th_ne (hW _ 12 2 ha0 (by decide) (by decide) (by decide)) (hW _ 12 0 ha0 (by decide) (by decide) (by decide)) (by decide))) p_2_0.2.2.2.1), (PL.q (hU_4.2 _ (th_ne (hW _ 12 3 ha0 (by decide) (by decide) (by decide)) (hW _ 12 0 ha0 (by decide) (by decide) (by decide)) (by decide))) p_2_0.2.2.2.2.1), (IF.q (hU_4.2 _ (th_ne ha0 (hW _ 12 0 ha0 (by decide) (by decide) (by decide)) (by decide))) p_2_0.2.2.2.2.2)⟩ (by have : (ai H_4 (ρ a0 0) 0).toInt = (r_8 : Int32).toInt := congrArg Int32.toInt ((AU.o hU_4 (by decide) (by decide)).trans t_8); omega)) lk_X12_242 yd_X12_inWaiting hT_8 ha0 rfl (by decide) hS_8 (fun q => (fun h => h.elim (fun h => (Or.inr (Or.inl h))) (fun h => (Or.inr (Or.inr h))))) ⟨by decide, by decide⟩ (Nat.le_of_ble_eq_true rfl) ⟨by decide, by decide⟩ rfl dX12_arrives_84 (fun r_16 H_16 locs_16 p_16 hT_16 hk_16 hS_16 => ?_)
              have p_16 : (IM D ρ N H_16 a0) ∧ ((ai H_4 (ρ a0 0) 976).toInt ≤ (ai H_16 (ρ a0 0) 976).toInt) := p_16
              obtain ⟨p_16_0, p_16_1⟩ := p_16
              have mn_16 : (ai H_2 (ρ a0 0) 976).toInt ≤ (ai H_16 (ρ a0 0) 976).toInt := by have h := p_16_1; rw [(AU.o hU_4 (by decide) (by decide))] at h; exact h
              refine lv_goto (tgt := 108) hx hb dX12_arrives_87 (by decide) ?_
              refine lv_istore (lv' := [(4, .int r_16), (3, .int r_8), (2, .int 0), (0, .ref a0), (1, .int 0)]) hx hb dX12_arrives_108 hl (by decide) rfl (fun ls hl => ?_)
              refine lv_aload_n hx hb dX12_arrives_110 rfl (lv_at hl 3 rfl) ?_
              refine lv_iload_n hx hb dX12_arrives_111 rfl (lv_at hl 2 rfl) ?_
              refine th_Vv (As := [.int 0]) (rest := []) E hml hl.1 (y_settles l D cI cS τ ρ hW H_16 hT_16 a0 ha0 N hN0 hN1 ⟨p_16_0.1, p_16_0.2.1, p_16_0.2.2.1, p_16_0.2.2.2.1, p_16_0.2.2.2.2.1, p_16_0.2.2.2.2.2⟩) lk_X12_166 yd_X12_settles hT_16 ha0 rfl (by decide) hS_16 (fun q h => (Or.inr (Or.inl h))) ⟨by decide, by decide⟩ (Nat.le_of_ble_eq_true rfl) ⟨by decide, by decide⟩ rfl dX12_arrives_112 (fun H_17 locs_17 p_17 hT_17 hk_17 hS_17 => ?_)
              have p_17 : (IM D ρ N H_17 a0) ∧ ((ai H_16 (ρ a0 0) 976).toInt ≤ (ai H_17 (ρ a0 0) 976).toInt) := p_17
              obtain ⟨p_17_0, p_17_1⟩ := p_17
              have mn_17 : (ai H_16 (ρ a0 0) 976).toInt ≤ (ai H_17 (ρ a0 0) 976).toInt := by exact p_17_1
              refine lv_iload hx hb dX12_arrives_115 (lv_at hl 0 rfl) ?_
              exact th_iret E hr hlk hs hT_17 hS_17 ⟨⟨p_17_0.1, p_17_0.2.1, p_17_0.2.2.1, p_17_0.2.2.2.1, p_17_0.2.2.2.2.1, p_17_0.2.2.2.2.2⟩, (by omega)⟩ dX12_arrives_117
          · have f_9 : r_8.toInt = 0 := r_eq rfl (by decide) c_9
            refine lv_aload_n hx hb dX12_arrives_69 rfl (lv_at hl 2 rfl) ?_
            refine lv_iload_n hx hb dX12_arrives_70 rfl (lv_at hl 1 rfl) ?_
            refine th_Vi (As := [.int 0]) (rest := []) E hml hl.1 (y_inShut l D cI cS τ ρ hW H_4 hT_8 a0 ha0 N hN0 hN1 ⟨hW_4, (QS.same (((AU.o hU_4 (by decide) (by decide)).trans t_8).trans t_8.symm) (AU.o hU_4 (by decide) (by decide)) p_2_0.2.1), (QS.same (AU.o hU_4 (by decide) (by decide)) (AU.o hU_4 (by decide) (by decide)) p_2_0.2.2.1), (PL.q (hU_4.2 _ (th_ne (hW _ 12 2 ha0 (by decide) (by decide) (by decide)) (hW _ 12 0 ha0 (by decide) (by decide) (by decide)) (by decide))) p_2_0.2.2.2.1), (PL.q (hU_4.2 _ (th_ne (hW _ 12 3 ha0 (by decide) (by decide) (by decide)) (hW _ 12 0 ha0 (by decide) (by decide) (by decide)) (by decide))) p_2_0.2.2.2.2.1), (IF.q (hU_4.2 _ (th_ne ha0 (hW _ 12 0 ha0 (by decide) (by decide) (by decide)) (by decide))) p_2_0.2.2.2.2.2)⟩) lk_X12_239 yd_X12_inShut hT_8 ha0 rfl (by decide) hS_8 (fun q => (fun h => h.elim (fun h => (Or.inr (Or.inr h))) (fun h => (Or.inr (Or.inl h))))) ⟨by decide, by decide⟩ (Nat.le_of_ble_eq_true rfl) ⟨by decide, by decide⟩ rfl dX12_arrives_71 (fun r_18 H_18 locs_18 p_18 hT_18 hk_18 hS_18 => ?_)
            have p_18 : (IM D ρ N H_18 a0) ∧ ((ai H_4 (ρ a0 0) 976).toInt ≤ (ai H_18 (ρ a0 0) 976).toInt) := p_18
            obtain ⟨p_18_0, p_18_1⟩ := p_18
            have mn_18 : (ai H_2 (ρ a0 0) 976).toInt ≤ (ai H_18 (ρ a0 0) 976).toInt := by have h := p_18_1; rw [(AU.o hU_4 (by decide) (by decide))] at h; exact h
            refine lv_goto (tgt := 108) hx hb dX12_arrives_74 (by decide) ?_
            refine lv_istore (lv' := [(4, .int r_18), (3, .int r_8), (2, .int 0), (0, .ref a0), (1, .int 0)]) hx hb dX12_arrives_108 hl (by decide) rfl (fun ls hl => ?_)
            refine lv_aload_n hx hb dX12_arrives_110 rfl (lv_at hl 3 rfl) ?_
            refine lv_iload_n hx hb dX12_arrives_111 rfl (lv_at hl 2 rfl) ?_
            refine th_Vv (As := [.int 0]) (rest := []) E hml hl.1 (y_settles l D cI cS τ ρ hW H_18 hT_18 a0 ha0 N hN0 hN1 ⟨p_18_0.1, p_18_0.2.1, p_18_0.2.2.1, p_18_0.2.2.2.1, p_18_0.2.2.2.2.1, p_18_0.2.2.2.2.2⟩) lk_X12_166 yd_X12_settles hT_18 ha0 rfl (by decide) hS_18 (fun q h => (Or.inr (Or.inl h))) ⟨by decide, by decide⟩ (Nat.le_of_ble_eq_true rfl) ⟨by decide, by decide⟩ rfl dX12_arrives_112 (fun H_19 locs_19 p_19 hT_19 hk_19 hS_19 => ?_)
            have p_19 : (IM D ρ N H_19 a0) ∧ ((ai H_18 (ρ a0 0) 976).toInt ≤ (ai H_19 (ρ a0 0) 976).toInt) := p_19
            obtain ⟨p_19_0, p_19_1⟩ := p_19
            have mn_19 : (ai H_18 (ρ a0 0) 976).toInt ≤ (ai H_19 (ρ a0 0) 976).toInt := by exact p_19_1
            refine lv_iload hx hb dX12_arrives_115 (lv_at hl 0 rfl) ?_
            exact th_iret E hr hlk hs hT_19 hS_19 ⟨⟨p_19_0.1, p_19_0.2.1, p_19_0.2.2.1, p_19_0.2.2.2.1, p_19_0.2.2.2.2.1, p_19_0.2.2.2.2.2⟩, (by omega)⟩ dX12_arrives_117
        · have e_9 : x_7 = 1 := i_eqc g_9 (by decide)
          have hl : lv_has ls 5 [(2, .int 1), (0, .ref a0), (1, .int 0)] := by rw [e_9] at hl; exact hl
          refine lv_aload_n hx hb dX12_arrives_58 rfl (lv_at hl 1 rfl) ?_
          refine lv_iload_n hx hb dX12_arrives_59 rfl (lv_at hl 0 rfl) ?_
          refine lv_iconst (v := 0) hx hb dX12_arrives_60 (by decide) ?_
          refine th_Vi (As := [.int 1, .int 0]) (rest := []) E hml hl.1 (y_get_v20 l D cI cS τ ρ hW H_4 hT_4 a0 ha0) lk_X12_99 yd_X12_get hT_4 ha0 rfl (by decide) hS_4 (fun _ h => h.elim) ⟨by decide, by decide⟩ (Nat.le_of_ble_eq_true rfl) ⟨by decide, by decide⟩ rfl dX12_arrives_61 (fun r_20 H_20 locs_20 p_20 hT_20 hk_20 hS_20 => ?_)
          have p_20 : H_4 = H_20 ∧ (ai H_4 (ρ a0 0) 288 = r_20) := p_20
          obtain ⟨rfl, p_20_0⟩ := p_20
          have t_20 : ai H_2 (ρ a0 0) 288 = r_20 := (AU.o hU_4 (by decide) (by decide)).symm.trans p_20_0
          have c_r_20 := congrArg Int32.toInt t_20
          refine lv_istore_n (lv' := [(3, .int r_20), (2, .int 1), (0, .ref a0), (1, .int 0)]) hx hb dX12_arrives_64 rfl hl (by decide) rfl (fun ls hl => ?_)
          refine lv_iload_n hx hb dX12_arrives_65 rfl (lv_at hl 0 rfl) ?_
          refine lv_if_ne (tgt := 77) hx hb dX12_arrives_66 (by decide) (fun c_21 => ?_) (fun c_21 => ?_)
          · have f_21 : ¬ r_20.toInt = 0 := r_ne rfl (by decide) c_21
            have nz_r_20 : ¬ r_20 = 0 := c_21
            refine lv_iload_n hx hb dX12_arrives_77 rfl (lv_at hl 0 rfl) ?_
            refine lv_iconst (v := 1) hx hb dX12_arrives_78 (by decide) ?_
            refine lv_icmp_ne (tgt := 90) hx hb dX12_arrives_79 (by decide) (fun c_22 => ?_) (fun c_22 => ?_)
            · have f_22 : ¬ r_20.toInt = 1 := r_ne rfl (by decide) c_22
              refine lv_iload_n hx hb dX12_arrives_90 rfl (lv_at hl 0 rfl) ?_
              refine lv_iconst (v := 2) hx hb dX12_arrives_91 (by decide) ?_
              refine lv_icmp_ne (tgt := 103) hx hb dX12_arrives_92 (by decide) (fun c_23 => ?_) (fun c_23 => ?_)
              · have f_23 : ¬ r_20.toInt = 2 := r_ne rfl (by decide) c_23
                refine lv_aload_n hx hb dX12_arrives_103 rfl (lv_at hl 2 rfl) ?_
                refine lv_iload_n hx hb dX12_arrives_104 rfl (lv_at hl 1 rfl) ?_
                refine th_Vi (As := [.int 1]) (rest := []) E hml hl.1 (y_inOthers_v2 l D cI cS τ ρ hW H_4 hT_20 a0 ha0 N hN0 hN1 ⟨hW_4, (QS.same (AU.o hU_4 (by decide) (by decide)) (AU.o hU_4 (by decide) (by decide)) p_2_0.2.1), (QS.same (((AU.o hU_4 (by decide) (by decide)).trans t_20).trans t_20.symm) (AU.o hU_4 (by decide) (by decide)) p_2_0.2.2.1), (PL.q (hU_4.2 _ (th_ne (hW _ 12 2 ha0 (by decide) (by decide) (by decide)) (hW _ 12 0 ha0 (by decide) (by decide) (by decide)) (by decide))) p_2_0.2.2.2.1), (PL.q (hU_4.2 _ (th_ne (hW _ 12 3 ha0 (by decide) (by decide) (by decide)) (hW _ 12 0 ha0 (by decide) (by decide) (by decide)) (by decide))) p_2_0.2.2.2.2.1), (IF.q (hU_4.2 _ (th_ne ha0 (hW _ 12 0 ha0 (by decide) (by decide) (by decide)) (by decide))) p_2_0.2.2.2.2.2)⟩) lk_X12_248 yd_X12_inOthers hT_20 ha0 rfl (by decide) hS_20 (fun q => (fun h => h.elim (fun h => (Or.inr (Or.inr h))) (fun h => (Or.inr (Or.inl h))))) ⟨by decide, by decide⟩ (Nat.le_of_ble_eq_true rfl) ⟨by decide, by decide⟩ rfl dX12_arrives_105 (fun r_24 H_24 locs_24 p_24 hT_24 hk_24 hS_24 => ?_)
                have p_24 : (IM D ρ N H_24 a0) ∧ ((ai H_4 (ρ a0 0) 976).toInt ≤ (ai H_24 (ρ a0 0) 976).toInt) := p_24
                obtain ⟨p_24_0, p_24_1⟩ := p_24
                have mn_24 : (ai H_2 (ρ a0 0) 976).toInt ≤ (ai H_24 (ρ a0 0) 976).toInt := by have h := p_24_1; rw [(AU.o hU_4 (by decide) (by decide))] at h; exact h
                refine lv_istore (lv' := [(4, .int r_24), (3, .int r_20), (2, .int 1), (0, .ref a0), (1, .int 0)]) hx hb dX12_arrives_108 hl (by decide) rfl (fun ls hl => ?_)
                refine lv_aload_n hx hb dX12_arrives_110 rfl (lv_at hl 3 rfl) ?_
                refine lv_iload_n hx hb dX12_arrives_111 rfl (lv_at hl 2 rfl) ?_
                refine th_Vv (As := [.int 1]) (rest := []) E hml hl.1 (y_settles_v2 l D cI cS τ ρ hW H_24 hT_24 a0 ha0 N hN0 hN1 ⟨p_24_0.1, p_24_0.2.1, p_24_0.2.2.1, p_24_0.2.2.2.1, p_24_0.2.2.2.2.1, p_24_0.2.2.2.2.2⟩) lk_X12_166 yd_X12_settles hT_24 ha0 rfl (by decide) hS_24 (fun q h => (Or.inr (Or.inl h))) ⟨by decide, by decide⟩ (Nat.le_of_ble_eq_true rfl) ⟨by decide, by decide⟩ rfl dX12_arrives_112 (fun H_25 locs_25 p_25 hT_25 hk_25 hS_25 => ?_)
                have p_25 : (IM D ρ N H_25 a0) ∧ ((ai H_24 (ρ a0 0) 976).toInt ≤ (ai H_25 (ρ a0 0) 976).toInt) := p_25
                obtain ⟨p_25_0, p_25_1⟩ := p_25
                have mn_25 : (ai H_24 (ρ a0 0) 976).toInt ≤ (ai H_25 (ρ a0 0) 976).toInt := by exact p_25_1
                refine lv_iload hx hb dX12_arrives_115 (lv_at hl 0 rfl) ?_
                exact th_iret E hr hlk hs hT_25 hS_25 ⟨⟨p_25_0.1, p_25_0.2.1, p_25_0.2.2.1, p_25_0.2.2.2.1, p_25_0.2.2.2.2.1, p_25_0.2.2.2.2.2⟩, (by omega)⟩ dX12_arrives_117
              · have f_23 : r_20.toInt = 2 := r_eq rfl (by decide) c_23
                refine lv_aload_n hx hb dX12_arrives_95 rfl (lv_at hl 2 rfl) ?_
                refine lv_iload_n hx hb dX12_arrives_96 rfl (lv_at hl 1 rfl) ?_
                refine th_Vi (As := [.int 1]) (rest := []) E hml hl.1 (y_inCalling l D cI cS τ ρ hW H_4 hT_20 a0 ha0 N hN0 hN1 ⟨hW_4, (QS.same (AU.o hU_4 (by decide) (by decide)) (AU.o hU_4 (by decide) (by decide)) p_2_0.2.1), (QS.same (((AU.o hU_4 (by decide) (by decide)).trans t_20).trans t_20.symm) (AU.o hU_4 (by decide) (by decide)) p_2_0.2.2.1), (PL.q (hU_4.2 _ (th_ne (hW _ 12 2 ha0 (by decide) (by decide) (by decide)) (hW _ 12 0 ha0 (by decide) (by decide) (by decide)) (by decide))) p_2_0.2.2.2.1), (PL.q (hU_4.2 _ (th_ne (hW _ 12 3 ha0 (by decide) (by decide) (by decide)) (hW _ 12 0 ha0 (by decide) (by decide) (by decide)) (by decide))) p_2_0.2.2.2.2.1), (IF.q (hU_4.2 _ (th_ne ha0 (hW _ 12 0 ha0 (by decide) (by decide) (by decide)) (by decide))) p_2_0.2.2.2.2.2)⟩ (by have : (ai H_4 (ρ a0 0) 288).toInt = (r_20 : Int32).toInt := congrArg Int32.toInt ((AU.o hU_4 (by decide) (by decide)).trans t_20); omega)) lk_X12_245 yd_X12_inCalling hT_20 ha0 rfl (by decide) hS_20 (fun q => (fun h => h.elim (fun h => (Or.inr (Or.inl h))) (fun h => (Or.inr (Or.inr h))))) ⟨by decide, by decide⟩ (Nat.le_of_ble_eq_true rfl) ⟨by decide, by decide⟩ rfl dX12_arrives_97 (fun r_26 H_26 locs_26 p_26 hT_26 hk_26 hS_26 => ?_)
                have p_26 : (IM D ρ N H_26 a0) ∧ ((ai H_4 (ρ a0 0) 976).toInt ≤ (ai H_26 (ρ a0 0) 976).toInt) := p_26
                obtain ⟨p_26_0, p_26_1⟩ := p_26
                have mn_26 : (ai H_2 (ρ a0 0) 976).toInt ≤ (ai H_26 (ρ a0 0) 976).toInt := by have h := p_26_1; rw [(AU.o hU_4 (by decide) (by decide))] at h; exact h
                refine lv_goto (tgt := 108) hx hb dX12_arrives_100 (by decide) ?_
                refine lv_istore (lv' := [(4, .int r_26), (3, .int r_20), (2, .int 1), (0, .ref a0), (1, .int 0)]) hx hb dX12_arrives_108 hl (by decide) rfl (fun ls hl => ?_)
                refine lv_aload_n hx hb dX12_arrives_110 rfl (lv_at hl 3 rfl) ?_
                refine lv_iload_n hx hb dX12_arrives_111 rfl (lv_at hl 2 rfl) ?_
                refine th_Vv (As := [.int 1]) (rest := []) E hml hl.1 (y_settles_v2 l D cI cS τ ρ hW H_26 hT_26 a0 ha0 N hN0 hN1 ⟨p_26_0.1, p_26_0.2.1, p_26_0.2.2.1, p_26_0.2.2.2.1, p_26_0.2.2.2.2.1, p_26_0.2.2.2.2.2⟩) lk_X12_166 yd_X12_settles hT_26 ha0 rfl (by decide) hS_26 (fun q h => (Or.inr (Or.inl h))) ⟨by decide, by decide⟩ (Nat.le_of_ble_eq_true rfl) ⟨by decide, by decide⟩ rfl dX12_arrives_112 (fun H_27 locs_27 p_27 hT_27 hk_27 hS_27 => ?_)
                have p_27 : (IM D ρ N H_27 a0) ∧ ((ai H_26 (ρ a0 0) 976).toInt ≤ (ai H_27 (ρ a0 0) 976).toInt) := p_27
                obtain ⟨p_27_0, p_27_1⟩ := p_27
                have mn_27 : (ai H_26 (ρ a0 0) 976).toInt ≤ (ai H_27 (ρ a0 0) 976).toInt := by exact p_27_1
                refine lv_iload hx hb dX12_arrives_115 (lv_at hl 0 rfl) ?_
                exact th_iret E hr hlk hs hT_27 hS_27 ⟨⟨p_27_0.1, p_27_0.2.1, p_27_0.2.2.1, p_27_0.2.2.2.1, p_27_0.2.2.2.2.1, p_27_0.2.2.2.2.2⟩, (by omega)⟩ dX12_arrives_117
            · have f_22 : r_20.toInt = 1 := r_eq rfl (by decide) c_22
              refine lv_aload_n hx hb dX12_arrives_82 rfl (lv_at hl 2 rfl) ?_
              refine lv_iload_n hx hb dX12_arrives_83 rfl (lv_at hl 1 rfl) ?_
              refine th_Vi (As := [.int 1]) (rest := []) E hml hl.1 (y_inWaiting_v2 l D cI cS τ ρ hW H_4 hT_20 a0 ha0 N hN0 hN1 ⟨hW_4, (QS.same (AU.o hU_4 (by decide) (by decide)) (AU.o hU_4 (by decide) (by decide)) p_2_0.2.1), (QS.same (((AU.o hU_4 (by decide) (by decide)).trans t_20).trans t_20.symm) (AU.o hU_4 (by decide) (by decide)) p_2_0.2.2.1), (PL.q (hU_4.2 _ (th_ne (hW _ 12 2 ha0 (by decide) (by decide) (by decide)) (hW _ 12 0 ha0 (by decide) (by decide) (by decide)) (by decide))) p_2_0.2.2.2.1), (PL.q (hU_4.2 _ (th_ne (hW _ 12 3 ha0 (by decide) (by decide) (by decide)) (hW _ 12 0 ha0 (by decide) (by decide) (by decide)) (by decide))) p_2_0.2.2.2.2.1), (IF.q (hU_4.2 _ (th_ne ha0 (hW _ 12 0 ha0 (by decide) (by decide) (by decide)) (by decide))) p_2_0.2.2.2.2.2)⟩ (by have : (ai H_4 (ρ a0 0) 288).toInt = (r_20 : Int32).toInt := congrArg Int32.toInt ((AU.o hU_4 (by decide) (by decide)).trans t_20); omega)) lk_X12_242 yd_X12_inWaiting hT_20 ha0 rfl (by decide) hS_20 (fun q => (fun h => h.elim (fun h => (Or.inr (Or.inl h))) (fun h => (Or.inr (Or.inr h))))) ⟨by decide, by decide⟩ (Nat.le_of_ble_eq_true rfl) ⟨by decide, by decide⟩ rfl dX12_arrives_84 (fun r_28 H_28 locs_28 p_28 hT_28 hk_28 hS_28 => ?_)
              have p_28 : (IM D ρ N H_28 a0) ∧ ((ai H_4 (ρ a0 0) 976).toInt ≤ (ai H_28 (ρ a0 0) 976).toInt) := p_28
              obtain ⟨p_28_0, p_28_1⟩ := p_28
              have mn_28 : (ai H_2 (ρ a0 0) 976).toInt ≤ (ai H_28 (ρ a0 0) 976).toInt := by have h := p_28_1; rw [(AU.o hU_4 (by decide) (by decide))] at h; exact h
              refine lv_goto (tgt := 108) hx hb dX12_arrives_87 (by decide) ?_
              refine lv_istore (lv' := [(4, .int r_28), (3, .int r_20), (2, .int 1), (0, .ref a0), (1, .int 0)]) hx hb dX12_arrives_108 hl (by decide) rfl (fun ls hl => ?_)
              refine lv_aload_n hx hb dX12_arrives_110 rfl (lv_at hl 3 rfl) ?_
              refine lv_iload_n hx hb dX12_arrives_111 rfl (lv_at hl 2 rfl) ?_
              refine th_Vv (As := [.int 1]) (rest := []) E hml hl.1 (y_settles_v2 l D cI cS τ ρ hW H_28 hT_28 a0 ha0 N hN0 hN1 ⟨p_28_0.1, p_28_0.2.1, p_28_0.2.2.1, p_28_0.2.2.2.1, p_28_0.2.2.2.2.1, p_28_0.2.2.2.2.2⟩) lk_X12_166 yd_X12_settles hT_28 ha0 rfl (by decide) hS_28 (fun q h => (Or.inr (Or.inl h))) ⟨by decide, by decide⟩ (Nat.le_of_ble_eq_true rfl) ⟨by decide, by decide⟩ rfl dX12_arrives_112 (fun H_29 locs_29 p_29 hT_29 hk_29 hS_29 => ?_)
              have p_29 : (IM D ρ N H_29 a0) ∧ ((ai H_28 (ρ a0 0) 976).toInt ≤ (ai H_29 (ρ a0 0) 976).toInt) := p_29
              obtain ⟨p_29_0, p_29_1⟩ := p_29
              have mn_29 : (ai H_28 (ρ a0 0) 976).toInt ≤ (ai H_29 (ρ a0 0) 976).toInt := by exact p_29_1
              refine lv_iload hx hb dX12_arrives_115 (lv_at hl 0 rfl) ?_
              exact th_iret E hr hlk hs hT_29 hS_29 ⟨⟨p_29_0.1, p_29_0.2.1, p_29_0.2.2.1, p_29_0.2.2.2.1, p_29_0.2.2.2.2.1, p_29_0.2.2.2.2.2⟩, (by omega)⟩ dX12_arrives_117
          · have f_21 : r_20.toInt = 0 := r_eq rfl (by decide) c_21
            refine lv_aload_n hx hb dX12_arrives_69 rfl (lv_at hl 2 rfl) ?_
            refine lv_iload_n hx hb dX12_arrives_70 rfl (lv_at hl 1 rfl) ?_
            refine th_Vi (As := [.int 1]) (rest := []) E hml hl.1 (y_inShut_v2 l D cI cS τ ρ hW H_4 hT_20 a0 ha0 N hN0 hN1 ⟨hW_4, (QS.same (AU.o hU_4 (by decide) (by decide)) (AU.o hU_4 (by decide) (by decide)) p_2_0.2.1), (QS.same (((AU.o hU_4 (by decide) (by decide)).trans t_20).trans t_20.symm) (AU.o hU_4 (by decide) (by decide)) p_2_0.2.2.1), (PL.q (hU_4.2 _ (th_ne (hW _ 12 2 ha0 (by decide) (by decide) (by decide)) (hW _ 12 0 ha0 (by decide) (by decide) (by decide)) (by decide))) p_2_0.2.2.2.1), (PL.q (hU_4.2 _ (th_ne (hW _ 12 3 ha0 (by decide) (by decide) (by decide)) (hW _ 12 0 ha0 (by decide) (by decide) (by decide)) (by decide))) p_2_0.2.2.2.2.1), (IF.q (hU_4.2 _ (th_ne ha0 (hW _ 12 0 ha0 (by decide) (by decide) (by decide)) (by decide))) p_2_0.2.2.2.2.2)⟩) lk_X12_239 yd_X12_inShut hT_20 ha0 rfl (by decide) hS_20 (fun q => (fun h => h.elim (fun h => (Or.inr (Or.inr h))) (fun h => (Or.inr (Or.inl h))))) ⟨by decide, by decide⟩ (Nat.le_of_ble_eq_true rfl) ⟨by decide, by decide⟩ rfl dX12_arrives_71 (fun r_30 H_30 locs_30 p_30 hT_30 hk_30 hS_30 => ?_)
            have p_30 : (IM D ρ N H_30 a0) ∧ ((ai H_4 (ρ a0 0) 976).toInt ≤ (ai H_30 (ρ a0 0) 976).toInt) := p_30
            obtain ⟨p_30_0, p_30_1⟩ := p_30
            have mn_30 : (ai H_2 (ρ a0 0) 976).toInt ≤ (ai H_30 (ρ a0 0) 976).toInt := by have h := p_30_1; rw [(AU.o hU_4 (by decide) (by decide))] at h; exact h
            refine lv_goto (tgt := 108) hx hb dX12_arrives_74 (by decide) ?_
            refine lv_istore (lv' := [(4, .int r_30), (3, .int r_20), (2, .int 1), (0, .ref a0), (1, .int 0)]) hx hb dX12_arrives_108 hl (by decide) rfl (fun ls hl => ?_)
            refine lv_aload_n hx hb dX12_arrives_110 rfl (lv_at hl 3 rfl) ?_
            refine lv_iload_n hx hb dX12_arrives_111 rfl (lv_at hl 2 rfl) ?_
            refine th_Vv (As := [.int 1]) (rest := []) E hml hl.1 (y_settles_v2 l D cI cS τ ρ hW H_30 hT_30 a0 ha0 N hN0 hN1 ⟨p_30_0.1, p_30_0.2.1, p_30_0.2.2.1, p_30_0.2.2.2.1, p_30_0.2.2.2.2.1, p_30_0.2.2.2.2.2⟩) lk_X12_166 yd_X12_settles hT_30 ha0 rfl (by decide) hS_30 (fun q h => (Or.inr (Or.inl h))) ⟨by decide, by decide⟩ (Nat.le_of_ble_eq_true rfl) ⟨by decide, by decide⟩ rfl dX12_arrives_112 (fun H_31 locs_31 p_31 hT_31 hk_31 hS_31 => ?_)
            have p_31 : (IM D ρ N H_31 a0) ∧ ((ai H_30 (ρ a0 0) 976).toInt ≤ (ai H_31 (ρ a0 0) 976).toInt) := p_31
            obtain ⟨p_31_0, p_31_1⟩ := p_31
            have mn_31 : (ai H_30 (ρ a0 0) 976).toInt ≤ (ai H_31 (ρ a0 0) 976).toInt := by exact p_31_1
            refine lv_iload hx hb dX12_arrives_115 (lv_at hl 0 rfl) ?_
            exact th_iret E hr hlk hs hT_31 hS_31 ⟨⟨p_31_0.1, p_31_0.2.1, p_31_0.2.2.1, p_31_0.2.2.2.1, p_31_0.2.2.2.2.1, p_31_0.2.2.2.2.2⟩, (by omega)⟩ dX12_arrives_117
      · have f_1 : y2_2.toInt < 20 := r_nle (by decide) rfl c_1
        refine lv_aload_n hx hb dX12_arrives_8 rfl (lv_at hl 0 rfl) ?_
        refine gf_X12_19 E hT_c2 hW ha0 dX12_arrives_9 (fun h_32 => ?_)
        refine lv_iload_n hx hb dX12_arrives_12 rfl (lv_at hl 2 rfl) ?_
        refine lv_aload_n hx hb dX12_arrives_13 rfl (lv_at hl 0 rfl) ?_
        refine gf_X12_7 E hT_c2 hW ha0 dX12_arrives_14 (fun h_33 => ?_)
        refine lv_sipush (v := 576) hx hb dX12_arrives_17 (by decide) ?_
        refine lv_bipush (v := 20) hx hb dX12_arrives_20 (by decide) ?_
        refine lv_iload_n hx hb dX12_arrives_22 rfl (lv_at hl 1 rfl) ?_
        refine lv_imul hx hb dX12_arrives_23 ?_
        refine th_topi (y := 0) (by decide) ?_
        refine lv_iadd hx hb dX12_arrives_24 ?_
        refine th_topi (y := 576) (by decide) ?_
        refine lv_iload_n hx hb dX12_arrives_25 rfl (lv_at hl 2 rfl) ?_
        refine lv_iadd hx hb dX12_arrives_26 ?_
        refine lv_topi (fun x_34 ex_34 => ?_)
        have q_34 : x_34.toInt = 576 + y2_2.toInt := i_pl (by decide) rfl ex_34 (by omega) (by omega)
        refine th_iald E hT_c2 h_33 (by decide) (vp_in_iff.mpr ⟨by omega, by omega⟩) dX12_arrives_27 ?_
        refine th_topi (y := ai H_c2 (ρ a0 0) x_34.toInt.toNat) rfl ?_
        refine lv_topi (fun x_35 ex_35 => ?_)
        have cl_35 : bW (x_34.toInt.toNat) ≤ x_35.toInt ∧ x_35.toInt ≤ uW N (x_34.toInt.toNat) := by rw [ex_35]; exact hI_c2.1 _ (by have := i_max x_34; omega)
        refine th_iast E hT_c2 hS_c2 h_32 (Or.inl rfl) (by decide) (vp_in_iff.mpr ⟨by omega, by omega⟩) dX12_arrives_28 (fun H_36 locs_36 hT_36 hU_36 hS_36 => ?_)
        have hU_36 : AU 20 H_c2 H_36 (ρ a0 3) y2_2.toInt.toNat x_35 := hU_36
        have hL_36 : PL H_36 (ρ a0 3) := PL.shift hI_c2.2.2.2.2.1 hU_36 cl_35 (by omega) (by omega)
        obtain ⟨x_37, ex_37⟩ : ∃ y : Int32, y2_2 + 1 = y := ⟨_, rfl⟩
        have q_x_37 : x_37.toInt = y2_2.toInt + 1 := i_add (k := 1) (by decide) ex_37 (by have := i_min y2_2; omega) (by have := i_max y2_2; omega)
        refine lv_iinc (v := x_37) (lv' := [(2, .int x_37), (0, .ref a0), (1, .int 0)]) hx hb dX12_arrives_29 hl (k := 2) rfl (by rw [← ex_37]; rfl) (by decide) rfl (fun ls hl => ?_)
        refine lv_goto (tgt := 2) hx hb dX12_arrives_32 (by decide) ?_
        exact ih_2 H_36 locs_36 _ x_37 hT_36 hS_36 (lv_sub hl [1, 2, 0] rfl) (by omega) (Eq.trans (ai_q (hU_36.2 _ (th_ne (hW _ 12 0 ha0 (by decide) (by decide) (by decide)) (hW _ 12 3 ha0 (by decide) (by decide) (by decide)) (by decide)))) hg2_0) ⟨(PW.q (hU_36.2 _ (th_ne (hW _ 12 0 ha0 (by decide) (by decide) (by decide)) (hW _ 12 3 ha0 (by decide) (by decide) (by decide)) (by decide))) hI_c2.1), (QS.same (ai_q (hU_36.2 _ (th_ne (hW _ 12 0 ha0 (by decide) (by decide) (by decide)) (hW _ 12 3 ha0 (by decide) (by decide) (by decide)) (by decide)))) (ai_q (hU_36.2 _ (th_ne (hW _ 12 0 ha0 (by decide) (by decide) (by decide)) (hW _ 12 3 ha0 (by decide) (by decide) (by decide)) (by decide)))) hI_c2.2.1), (QS.same (ai_q (hU_36.2 _ (th_ne (hW _ 12 0 ha0 (by decide) (by decide) (by decide)) (hW _ 12 3 ha0 (by decide) (by decide) (by decide)) (by decide)))) (ai_q (hU_36.2 _ (th_ne (hW _ 12 0 ha0 (by decide) (by decide) (by decide)) (hW _ 12 3 ha0 (by decide) (by decide) (by decide)) (by decide)))) hI_c2.2.2.1), (PL.q (hU_36.2 _ n23) hI_c2.2.2.2.1), hL_36, (IF.q (hU_36.2 _ (th_ne ha0 (hW _ 12 3 ha0 (by decide) (by decide) (by decide)) (by decide))) hI_c2.2.2.2.2.2)⟩ (by omega)
  refine lv_iconst (v := 0) hx hb dX12_arrives_0 (by decide) ?_
  refine lv_istore_n (lv' := [(2, .int 0), (0, .ref a0), (1, .int 0)]) hx hb dX12_arrives_1 rfl hl (by decide) rfl (fun ls hl => ?_)
  exact L_2 _ H [] _ 0 hT hS (lv_sub hl [1, 2, 0] rfl) (by decide) rfl ⟨hI.1, hI.2.1, hI.2.2.1, hI.2.2.2.1, hI.2.2.2.2.1, hI.2.2.2.2.2⟩ (Nat.lt_succ_self _)
set_option maxHeartbeats 4000000 in
set_option maxRecDepth 100000 in
/-- the reference: calm -/
theorem y_calm (l : Launch) (D : va_G) (cI cS : ClassId) (τ : Nat → Option Nat) (ρ : Nat → Nat → Nat) (hW : WF τ ρ) (H : Heap) (hT : TH D cI cS τ ρ H) (a0 : Nat) (x0 : Int32) (ha0 : τ a0 = some 12) (N : Int) (hN0 : 0 ≤ N) (hN1 : N ≤ 600) (hI : IM D ρ N H a0) : MI l D cI cS τ ρ yX12_calm cX12_calm 5 (some .int) 12 285 H [.ref a0, .int x0] (fun (r : Int32) (u : Heap) => (IM D ρ N u a0)) (fun q => q = ρ a0 1 ∨ q = ρ a0 0 ∨ q = ρ a0 2 ∨ q = ρ a0 3) := by
  refine MI.of (by decide) (Nat.le_of_ble_eq_true rfl) ?_
  intro p e s m args below meth c E hml hr hlk hs ls hl
  have hx := E.1
  have hb := E.2.1
  have hown := E.2.2.1
  have hts := E.2.2.2.1
  have hS : SS (fun q => q = ρ a0 1 ∨ q = ρ a0 0 ∨ q = ρ a0 2 ∨ q = ρ a0 3) H H [] := SS.rf
  have hl : lv_has ls 5 [(0, .ref a0), (1, .int x0)] := hl
  have n01 := hI.2.2.2.2.2.1
  have n23 := hI.2.2.2.2.2.2.1
  have L_152 : ∀ (n : Nat) (H_c152 : Heap) (lc_c152 : List Loc) (ls : Array Slot) (y152_1 : Int32) (y152_2 : Int32) (y152_3 : Int32) (y152_4 : Int32), TH D cI cS τ ρ H_c152 → SS (fun q => q = ρ a0 1 ∨ q = ρ a0 0 ∨ q = ρ a0 2 ∨ q = ρ a0 3) H H_c152 lc_c152 → lv_has ls 5 [(0, .ref a0), (1, .int y152_1), (2, .int y152_2), (3, .int y152_3), (4, .int y152_4)] → 0 ≤ y152_1.toInt → y152_1.toInt ≤ 5 → 0 ≤ y152_2.toInt → 0 ≤ y152_4.toInt → IM0 D ρ N H_c152 a0 → WQ N H_c152 (ρ a0 1) → (∀ j, j < ((y152_4.toInt) : Int).toNat → ai H_c152 (ρ a0 0) j = ai H_c152 (ρ a0 1) j) → (985 - y152_4.toInt).toNat < n → W p l e (rmO 12 285) s m args below meth c H_c152 lc_c152 0 0 (MQ below (va_Qi (fun (r : Int32) (u : Heap) => (IM D ρ N u a0)) (Bt D cI cS τ ρ H) (fun q => q = ρ a0 1 ∨ q = ρ a0 0 ∨ q = ρ a0 2 ∨ q = ρ a0 3)) args s 0 0 (fun q => q = ρ a0 1 ∨ q = ρ a0 0 ∨ q = ρ a0 2 ∨ q = ρ a0 3)) (F0 m 152 ls []) := by
    intro n
    induction n with
    | zero => intro H_c152 lc_c152 ls y152_1 y152_2 y152_3 y152_4 hT_c152 hS_c152 hl ly152_1 uy152_1 ly152_2 ly152_4 hI_c152 hx152_0 hx152_1 hm; exact absurd hm (Nat.not_lt_zero _)
    | succ n ih_152 =>
      intro H_c152 lc_c152 ls y152_1 y152_2 y152_3 y152_4 hT_c152 hS_c152 hl ly152_1 uy152_1 ly152_2 ly152_4 hI_c152 hx152_0 hx152_1 hm_152
      refine lv_iload hx hb dX12_calm_152 (lv_at hl 4 rfl) ?_
      refine lv_sipush (v := 985) hx hb dX12_calm_154 (by decide) ?_
      refine lv_icmp_ge (tgt := 180) hx hb dX12_calm_157 (by decide) (fun c_1 => ?_) (fun c_1 => ?_)
      · have f_1 : 985 ≤ y152_4.toInt := r_le (by decide) rfl c_1
        have cc : ∀ j, j < 985 → ai H_c152 (ρ a0 0) j = ai H_c152 (ρ a0 1) j := fun j hj => hx152_1 j (by omega)
        have qq0 := QS.other (N := N) (cc 0 (by decide)) (cc 2 (by decide)) hx152_0.2.1
        have qq1 := QS.other (N := N) (cc 288 (by decide)) (cc 290 (by decide)) hx152_0.2.2
        refine lv_iload_n hx hb dX12_calm_180 rfl (lv_at hl 3 rfl) ?_
        exact th_iret E hr hlk hs hT_c152 hS_c152 ⟨hI_c152.1, qq0, qq1, hI_c152.2.1, hI_c152.2.2.1, hI_c152.2.2.2⟩ dX12_calm_181
      · have f_1 : y152_4.toInt < 985 := r_nle (by decide) rfl c_1
        refine lv_aload_n hx hb dX12_calm_160 rfl (lv_at hl 0 rfl) ?_
        refine gf_X12_7 E hT_c152 hW ha0 dX12_calm_161 (fun h_2 => ?_)
        refine lv_iload hx hb dX12_calm_164 (lv_at hl 4 rfl) ?_
        refine lv_aload_n hx hb dX12_calm_166 rfl (lv_at hl 0 rfl) ?_
        refine gf_X12_13 E hT_c152 hW ha0 dX12_calm_167 (fun h_3 => ?_)
        refine lv_iload hx hb dX12_calm_170 (lv_at hl 4 rfl) ?_
        refine th_iald E hT_c152 h_3 (by decide) (vp_in_iff.mpr ⟨by omega, by omega⟩) dX12_calm_172 ?_
        refine th_topi (y := ai H_c152 (ρ a0 1) y152_4.toInt.toNat) rfl ?_
        refine lv_topi (fun x_4 ex_4 => ?_)
        refine th_iast E hT_c152 hS_c152 h_2 (Or.inr (Or.inl rfl)) (by decide) (vp_in_iff.mpr ⟨by omega, by omega⟩) dX12_calm_173 (fun H_5 locs_5 hT_5 hU_5 hS_5 => ?_)
        have hU_5 : AU 985 H_c152 H_5 (ρ a0 0) y152_4.toInt.toNat x_4 := hU_5
        have hW_5 : PW N H_5 (ρ a0 0) := PW.put hI_c152.1 hU_5 (by rw [ex_4]; exact (hx152_0.1 (y152_4.toInt.toNat) (by omega)).1) (by rw [ex_4]; exact (hx152_0.1 (y152_4.toInt.toNat) (by omega)).2)
        obtain ⟨x_6, ex_6⟩ : ∃ y : Int32, y152_4 + 1 = y := ⟨_, rfl⟩
        have q_x_6 : x_6.toInt = y152_4.toInt + 1 := i_add (k := 1) (by decide) ex_6 (by have := i_min y152_4; omega) (by have := i_max y152_4; omega)
        refine lv_iinc (v := x_6) (lv' := [(4, .int x_6), (0, .ref a0), (1, .int y152_1), (2, .int y152_2), (3, .int y152_3)]) hx hb dX12_calm_174 hl (k := 4) rfl (by rw [← ex_6]; rfl) (by decide) rfl (fun ls hl => ?_)
        refine lv_goto (tgt := 152) hx hb dX12_calm_177 (by decide) ?_
        exact ih_152 H_5 locs_5 _ y152_1 y152_2 y152_3 x_6 hT_5 hS_5 (lv_sub hl [1, 2, 3, 4, 0] rfl) (by omega) (by omega) (by omega) (by omega) ⟨hW_5, (PL.q (hU_5.2 _ (th_ne (hW _ 12 2 ha0 (by decide) (by decide) (by decide)) (hW _ 12 0 ha0 (by decide) (by decide) (by decide)) (by decide))) hI_c152.2.1), (PL.q (hU_5.2 _ (th_ne (hW _ 12 3 ha0 (by decide) (by decide) (by decide)) (hW _ 12 0 ha0 (by decide) (by decide) (by decide)) (by decide))) hI_c152.2.2.1), (IF.q (hU_5.2 _ (th_ne ha0 (hW _ 12 0 ha0 (by decide) (by decide) (by decide)) (by decide))) hI_c152.2.2.2)⟩ (WQ.q (hU_5.2 _ (Ne.symm n01)) hx152_0) (by have c := cp_step hx152_1 hU_5 ex_4 (Ne.symm n01) (by omega); intro j hj; exact c j (by omega)) (by omega)
  have J_148 : ∀ (H_c148 : Heap) (lc_c148 : List Loc) (ls : Array Slot) (y148_1 : Int32) (y148_2 : Int32) (z148_0 : Int32), TH D cI cS τ ρ H_c148 → SS (fun q => q = ρ a0 1 ∨ q = ρ a0 0 ∨ q = ρ a0 2 ∨ q = ρ a0 3) H H_c148 lc_c148 → lv_has ls 5 [(0, .ref a0), (1, .int y148_1), (2, .int y148_2)] → 0 ≤ y148_1.toInt → y148_1.toInt ≤ 5 → 0 ≤ y148_2.toInt → IM D ρ N H_c148 a0 → WQ N H_c148 (ρ a0 1) → W p l e (rmO 12 285) s m args below meth c H_c148 lc_c148 0 0 (MQ below (va_Qi (fun (r : Int32) (u : Heap) => (IM D ρ N u a0)) (Bt D cI cS τ ρ H) (fun q => q = ρ a0 1 ∨ q = ρ a0 0 ∨ q = ρ a0 2 ∨ q = ρ a0 3)) args s 0 0 (fun q => q = ρ a0 1 ∨ q = ρ a0 0 ∨ q = ρ a0 2 ∨ q = ρ a0 3)) (F0 m 148 ls [.int z148_0]) := by
    intro H_c148 lc_c148 ls y148_1 y148_2 z148_0 hT_c148 hS_c148 hl ly148_1 uy148_1 ly148_2 hI_c148 hx148_0
    refine lv_istore_n (lv' := [(3, .int z148_0), (0, .ref a0), (1, .int y148_1), (2, .int y148_2)]) hx hb dX12_calm_148 rfl hl (by decide) rfl (fun ls hl => ?_)
    refine lv_iconst (v := 0) hx hb dX12_calm_149 (by decide) ?_
    refine lv_istore (lv' := [(4, .int 0), (3, .int z148_0), (0, .ref a0), (1, .int y148_1), (2, .int y148_2)]) hx hb dX12_calm_150 hl (by decide) rfl (fun ls hl => ?_)
    exact L_152 _ H_c148 lc_c148 _ y148_1 y148_2 z148_0 0 hT_c148 hS_c148 (lv_sub hl [2, 3, 4, 1, 0] rfl) (by omega) (by omega) (by omega) (by decide) ⟨hI_c148.1, hI_c148.2.2.2.1, hI_c148.2.2.2.2.1, hI_c148.2.2.2.2.2⟩ hx148_0 (fun j hj => absurd hj (Nat.not_lt_zero _)) (Nat.lt_succ_self _)
  have J_92 : ∀ (H_c92 : Heap) (lc_c92 : List Loc) (ls : Array Slot) (y92_2 : Int32), TH D cI cS τ ρ H_c92 → SS (fun q => q = ρ a0 1 ∨ q = ρ a0 0 ∨ q = ρ a0 2 ∨ q = ρ a0 3) H H_c92 lc_c92 → lv_has ls 5 [(0, .ref a0), (1, .int x0), (2, .int y92_2)] → 0 ≤ x0.toInt → x0.toInt ≤ 5 → 0 ≤ y92_2.toInt → IM D ρ N H_c92 a0 → WQ N H_c92 (ρ a0 1) → W p l e (rmO 12 285) s m args below meth c H_c92 lc_c92 0 0 (MQ below (va_Qi (fun (r : Int32) (u : Heap) => (IM D ρ N u a0)) (Bt D cI cS τ ρ H) (fun q => q = ρ a0 1 ∨ q = ρ a0 0 ∨ q = ρ a0 2 ∨ q = ρ a0 3)) args s 0 0 (fun q => q = ρ a0 1 ∨ q = ρ a0 0 ∨ q = ρ a0 2 ∨ q = ρ a0 3)) (F0 m 92 ls []) := by
    intro H_c92 lc_c92 ls y92_2 hT_c92 hS_c92 hl ly92_1 uy92_1 ly92_2 hI_c92 hx92_0
    refine lv_iload_n hx hb dX12_calm_92 rfl (lv_at hl 1 rfl) ?_
    refine lv_if_ne (tgt := 100) hx hb dX12_calm_93 (by decide) (fun c_7 => ?_) (fun c_7 => ?_)
    · have f_7 : ¬ x0.toInt = 0 := r_ne rfl (by decide) c_7
      have nz_x0 : ¬ x0 = 0 := c_7
      refine lv_iload_n hx hb dX12_calm_100 rfl (lv_at hl 1 rfl) ?_
      refine lv_iconst (v := 3) hx hb dX12_calm_101 (by decide) ?_
      refine lv_icmp_ge (tgt := 116) hx hb dX12_calm_102 (by decide) (fun c_8 => ?_) (fun c_8 => ?_)
      · have f_8 : 3 ≤ x0.toInt := r_le (by decide) rfl c_8
        refine lv_iload_n hx hb dX12_calm_116 rfl (lv_at hl 1 rfl) ?_
        refine lv_iconst (v := 5) hx hb dX12_calm_117 (by decide) ?_
        refine lv_icmp_ge (tgt := 131) hx hb dX12_calm_118 (by decide) (fun c_9 => ?_) (fun c_9 => ?_)
        · have f_9 : 5 ≤ x0.toInt := r_le (by decide) rfl c_9
          refine lv_aload_n hx hb dX12_calm_131 rfl (lv_at hl 0 rfl) ?_
          refine gf_X12_7 E hT_c92 hW ha0 dX12_calm_132 (fun h_10 => ?_)
          refine lv_sipush (v := 978) hx hb dX12_calm_135 (by decide) ?_
          refine th_iald E hT_c92 h_10 (by decide) (vp_in_iff.mpr ⟨by decide, by decide⟩) dX12_calm_138 ?_
          refine th_topi (y := ai H_c92 (ρ a0 0) 978) rfl ?_
          refine lv_topi (fun x_11 ex_11 => ?_)
          have c_x_11 := congrArg Int32.toInt ex_11.symm
          refine lv_aload_n hx hb dX12_calm_139 rfl (lv_at hl 0 rfl) ?_
          refine gf_X12_13 E hT_c92 hW ha0 dX12_calm_140 (fun h_12 => ?_)
          refine lv_sipush (v := 978) hx hb dX12_calm_143 (by decide) ?_
          refine th_iald E hT_c92 h_12 (by decide) (vp_in_iff.mpr ⟨by decide, by decide⟩) dX12_calm_146 ?_
          refine th_topi (y := ai H_c92 (ρ a0 1) 978) rfl ?_
          refine lv_topi (fun x_13 ex_13 => ?_)
          refine lv_isub hx hb dX12_calm_147 ?_
          refine lv_topi (fun x_14 ex_14 => ?_)
          exact J_148 H_c92 lc_c92 _ x0 y92_2 x_14 hT_c92 hS_c92 hl (by omega) (by omega) (by omega) ⟨hI_c92.1, hI_c92.2.1, hI_c92.2.2.1, hI_c92.2.2.2.1, hI_c92.2.2.2.2.1, hI_c92.2.2.2.2.2⟩ hx92_0
        · have f_9 : x0.toInt < 5 := r_nle (by decide) rfl c_9
          rcases (show x0.toInt = 3 ∨ x0.toInt = 4 by omega) with g_9 | g_9
          · have e_9 : x0 = 3 := i_eqc g_9 (by decide)
            have hl : lv_has ls 5 [(0, .ref a0), (1, .int 3), (2, .int y92_2)] := by rw [e_9] at hl; exact hl
            refine lv_aload_n hx hb dX12_calm_121 rfl (lv_at hl 0 rfl) ?_
            refine lv_iload_n hx hb dX12_calm_122 rfl (lv_at hl 1 rfl) ?_
            refine lv_iconst (v := 3) hx hb dX12_calm_123 (by decide) ?_
            refine lv_isub hx hb dX12_calm_124 ?_
            refine th_topi (y := 0) (by decide) ?_
            refine th_Vi (As := [.int 0]) (rest := []) E hml hl.1 (y_there l D cI cS τ ρ hW H_c92 hT_c92 a0 ha0) lk_X12_185 yd_X12_there hT_c92 ha0 rfl (by decide) hS_c92 (fun _ h => h.elim) ⟨by decide, by decide⟩ (Nat.le_of_ble_eq_true rfl) ⟨by decide, by decide⟩ rfl dX12_calm_125 (fun r_15 H_15 locs_15 p_15 hT_15 hk_15 hS_15 => ?_)
            have p_15 : H_c92 = H_15 := p_15
            obtain rfl := p_15
            refine lv_goto (tgt := 148) hx hb dX12_calm_128 (by decide) ?_
            exact J_148 H_c92 locs_15 _ 3 y92_2 r_15 hT_15 hS_15 hl (by decide) (by decide) (by omega) ⟨hI_c92.1, hI_c92.2.1, hI_c92.2.2.1, hI_c92.2.2.2.1, hI_c92.2.2.2.2.1, hI_c92.2.2.2.2.2⟩ hx92_0
          · have e_9 : x0 = 4 := i_eqc g_9 (by decide)
            have hl : lv_has ls 5 [(0, .ref a0), (1, .int 4), (2, .int y92_2)] := by rw [e_9] at hl; exact hl
            refine lv_aload_n hx hb dX12_calm_121 rfl (lv_at hl 0 rfl) ?_
            refine lv_iload_n hx hb dX12_calm_122 rfl (lv_at hl 1 rfl) ?_
            refine lv_iconst (v := 3) hx hb dX12_calm_123 (by decide) ?_
            refine lv_isub hx hb dX12_calm_124 ?_
            refine th_topi (y := 1) (by decide) ?_
            refine th_Vi (As := [.int 1]) (rest := []) E hml hl.1 (y_there_v2 l D cI cS τ ρ hW H_c92 hT_c92 a0 ha0) lk_X12_185 yd_X12_there hT_c92 ha0 rfl (by decide) hS_c92 (fun _ h => h.elim) ⟨by decide, by decide⟩ (Nat.le_of_ble_eq_true rfl) ⟨by decide, by decide⟩ rfl dX12_calm_125 (fun r_16 H_16 locs_16 p_16 hT_16 hk_16 hS_16 => ?_)
            have p_16 : H_c92 = H_16 := p_16
            obtain rfl := p_16
            refine lv_goto (tgt := 148) hx hb dX12_calm_128 (by decide) ?_
            exact J_148 H_c92 locs_16 _ 4 y92_2 r_16 hT_16 hS_16 hl (by decide) (by decide) (by omega) ⟨hI_c92.1, hI_c92.2.1, hI_c92.2.2.1, hI_c92.2.2.2.1, hI_c92.2.2.2.2.1, hI_c92.2.2.2.2.2⟩ hx92_0
      · have f_8 : x0.toInt < 3 := r_nle (by decide) rfl c_8
        rcases (show x0.toInt = 1 ∨ x0.toInt = 2 by omega) with g_9 | g_9
        · have e_9 : x0 = 1 := i_eqc g_9 (by decide)
          have hl : lv_has ls 5 [(0, .ref a0), (1, .int 1), (2, .int y92_2)] := by rw [e_9] at hl; exact hl
          refine lv_aload_n hx hb dX12_calm_105 rfl (lv_at hl 0 rfl) ?_
          refine lv_iload_n hx hb dX12_calm_106 rfl (lv_at hl 1 rfl) ?_
          refine lv_iconst (v := 1) hx hb dX12_calm_107 (by decide) ?_
          refine lv_isub hx hb dX12_calm_108 ?_
          refine th_topi (y := 0) (by decide) ?_
          refine lv_iconst (v := 0) hx hb dX12_calm_109 (by decide) ?_
          refine th_Vi (As := [.int 0, .int 0]) (rest := []) E hml hl.1 (y_get_v21 l D cI cS τ ρ hW H_c92 hT_c92 a0 ha0) lk_X12_99 yd_X12_get hT_c92 ha0 rfl (by decide) hS_c92 (fun _ h => h.elim) ⟨by decide, by decide⟩ (Nat.le_of_ble_eq_true rfl) ⟨by decide, by decide⟩ rfl dX12_calm_110 (fun r_17 H_17 locs_17 p_17 hT_17 hk_17 hS_17 => ?_)
          have p_17 : H_c92 = H_17 ∧ (ai H_c92 (ρ a0 0) 0 = r_17) := p_17
          obtain ⟨rfl, p_17_0⟩ := p_17
          have c_r_17 := congrArg Int32.toInt p_17_0
          refine lv_goto (tgt := 148) hx hb dX12_calm_113 (by decide) ?_
          exact J_148 H_c92 locs_17 _ 1 y92_2 r_17 hT_17 hS_17 hl (by decide) (by decide) (by omega) ⟨hI_c92.1, hI_c92.2.1, hI_c92.2.2.1, hI_c92.2.2.2.1, hI_c92.2.2.2.2.1, hI_c92.2.2.2.2.2⟩ hx92_0
        · have e_9 : x0 = 2 := i_eqc g_9 (by decide)
          have hl : lv_has ls 5 [(0, .ref a0), (1, .int 2), (2, .int y92_2)] := by rw [e_9] at hl; exact hl
          refine lv_aload_n hx hb dX12_calm_105 rfl (lv_at hl 0 rfl) ?_
          refine lv_iload_n hx hb dX12_calm_106 rfl (lv_at hl 1 rfl) ?_
          refine lv_iconst (v := 1) hx hb dX12_calm_107 (by decide) ?_
          refine lv_isub hx hb dX12_calm_108 ?_
          refine th_topi (y := 1) (by decide) ?_
          refine lv_iconst (v := 0) hx hb dX12_calm_109 (by decide) ?_
          refine th_Vi (As := [.int 1, .int 0]) (rest := []) E hml hl.1 (y_get_v20 l D cI cS τ ρ hW H_c92 hT_c92 a0 ha0) lk_X12_99 yd_X12_get hT_c92 ha0 rfl (by decide) hS_c92 (fun _ h => h.elim) ⟨by decide, by decide⟩ (Nat.le_of_ble_eq_true rfl) ⟨by decide, by decide⟩ rfl dX12_calm_110 (fun r_18 H_18 locs_18 p_18 hT_18 hk_18 hS_18 => ?_)
          have p_18 : H_c92 = H_18 ∧ (ai H_c92 (ρ a0 0) 288 = r_18) := p_18
          obtain ⟨rfl, p_18_0⟩ := p_18
          have c_r_18 := congrArg Int32.toInt p_18_0
          refine lv_goto (tgt := 148) hx hb dX12_calm_113 (by decide) ?_
          exact J_148 H_c92 locs_18 _ 2 y92_2 r_18 hT_18 hS_18 hl (by decide) (by decide) (by omega) ⟨hI_c92.1, hI_c92.2.1, hI_c92.2.2.1, hI_c92.2.2.2.1, hI_c92.2.2.2.2.1, hI_c92.2.2.2.2.2⟩ hx92_0
    · have f_7 : x0.toInt = 0 := r_eq rfl (by decide) c_7
      refine lv_iload_n hx hb dX12_calm_96 rfl (lv_at hl 2 rfl) ?_
      refine lv_goto (tgt := 148) hx hb dX12_calm_97 (by decide) ?_
      exact J_148 H_c92 lc_c92 _ x0 y92_2 y92_2 hT_c92 hS_c92 hl (by omega) (by omega) (by omega) ⟨hI_c92.1, hI_c92.2.1, hI_c92.2.2.1, hI_c92.2.2.2.1, hI_c92.2.2.2.2.1, hI_c92.2.2.2.2.2⟩ hx92_0
  have L_43 : ∀ (n : Nat) (H_c43 : Heap) (lc_c43 : List Loc) (ls : Array Slot) (y43_2 : Int32), TH D cI cS τ ρ H_c43 → SS (fun q => q = ρ a0 1 ∨ q = ρ a0 0 ∨ q = ρ a0 2 ∨ q = ρ a0 3) H H_c43 lc_c43 → lv_has ls 5 [(0, .ref a0), (1, .int x0), (2, .int y43_2)] → 0 ≤ x0.toInt → x0.toInt ≤ 5 → 0 ≤ y43_2.toInt → IM D ρ N H_c43 a0 → WQ N H_c43 (ρ a0 1) → (300 - y43_2.toInt).toNat < n → W p l e (rmO 12 285) s m args below meth c H_c43 lc_c43 0 0 (MQ below (va_Qi (fun (r : Int32) (u : Heap) => (IM D ρ N u a0)) (Bt D cI cS τ ρ H) (fun q => q = ρ a0 1 ∨ q = ρ a0 0 ∨ q = ρ a0 2 ∨ q = ρ a0 3)) args s 0 0 (fun q => q = ρ a0 1 ∨ q = ρ a0 0 ∨ q = ρ a0 2 ∨ q = ρ a0 3)) (F0 m 43 ls []) := by
    intro n
    induction n with
    | zero => intro H_c43 lc_c43 ls y43_2 hT_c43 hS_c43 hl ly43_1 uy43_1 ly43_2 hI_c43 hx43_0 hm; exact absurd hm (Nat.not_lt_zero _)
    | succ n ih_43 =>
      intro H_c43 lc_c43 ls y43_2 hT_c43 hS_c43 hl ly43_1 uy43_1 ly43_2 hI_c43 hx43_0 hm_43
      have L_66 : ∀ (n : Nat) (H_c66 : Heap) (lc_c66 : List Loc) (ls : Array Slot) (y66_3 : Int32), TH D cI cS τ ρ H_c66 → SS (fun q => q = ρ a0 1 ∨ q = ρ a0 0 ∨ q = ρ a0 2 ∨ q = ρ a0 3) H H_c66 lc_c66 → lv_has ls 5 [(0, .ref a0), (1, .int x0), (2, .int y43_2), (3, .int y66_3)] → 0 ≤ x0.toInt → x0.toInt ≤ 5 → 0 ≤ y43_2.toInt → y43_2.toInt ≤ 299 → 0 ≤ y66_3.toInt → y66_3.toInt ≤ 20 → IM D ρ N H_c66 a0 → WQ N H_c66 (ρ a0 1) → y66_3.toInt ≤ (ai H_c66 (ρ a0 0) 976).toInt → (y66_3.toInt).toNat < n → W p l e (rmO 12 285) s m args below meth c H_c66 lc_c66 0 0 (MQ below (va_Qi (fun (r : Int32) (u : Heap) => (IM D ρ N u a0)) (Bt D cI cS τ ρ H) (fun q => q = ρ a0 1 ∨ q = ρ a0 0 ∨ q = ρ a0 2 ∨ q = ρ a0 3)) args s 0 0 (fun q => q = ρ a0 1 ∨ q = ρ a0 0 ∨ q = ρ a0 2 ∨ q = ρ a0 3)) (F0 m 66 ls []) := by
        intro n
        induction n with
        | zero => intro H_c66 lc_c66 ls y66_3 hT_c66 hS_c66 hl ly66_1 uy66_1 ly66_2 uy66_2 ly66_3 uy66_3 hI_c66 hx66_0 hx66_1 hm; exact absurd hm (Nat.not_lt_zero _)
        | succ n ih_66 =>
          intro H_c66 lc_c66 ls y66_3 hT_c66 hS_c66 hl ly66_1 uy66_1 ly66_2 uy66_2 ly66_3 uy66_3 hI_c66 hx66_0 hx66_1 hm_66
          refine lv_iload_n hx hb dX12_calm_66 rfl (lv_at hl 3 rfl) ?_
          refine lv_if_le (tgt := 82) hx hb dX12_calm_67 (by decide) (fun c_19 => ?_) (fun c_19 => ?_)
          · have f_19 : y66_3.toInt ≤ 0 := r_le rfl (by decide) c_19
            refine lv_aload_n hx hb dX12_calm_82 rfl (lv_at hl 0 rfl) ?_
            refine th_Vv (As := []) (rest := []) E hml hl.1 (y_ticks l D cI cS τ ρ hW H_c66 hT_c66 a0 ha0 N hN0 hN1 ⟨hI_c66.1, hI_c66.2.1, hI_c66.2.2.1, hI_c66.2.2.2.1, hI_c66.2.2.2.2.1, hI_c66.2.2.2.2.2⟩) lk_X12_274 yd_X12_ticks hT_c66 ha0 rfl (by decide) hS_c66 (fun q => (fun h => h.elim (fun h => (Or.inr (Or.inl h))) (fun h => (Or.inr (Or.inr (Or.inl h)))))) ⟨by decide, by decide⟩ (Nat.le_of_ble_eq_true rfl) ⟨by decide, by decide⟩ rfl dX12_calm_83 (fun H_20 locs_20 p_20 hT_20 hk_20 hS_20 => ?_)
            have p_20 : (IM D ρ N H_20 a0) := p_20
            obtain ⟨x_21, ex_21⟩ : ∃ y : Int32, y43_2 + 1 = y := ⟨_, rfl⟩
            have q_x_21 : x_21.toInt = y43_2.toInt + 1 := i_add (k := 1) (by decide) ex_21 (by have := i_min y43_2; omega) (by have := i_max y43_2; omega)
            refine lv_iinc (v := x_21) (lv' := [(2, .int x_21), (0, .ref a0), (1, .int x0), (3, .int y66_3)]) hx hb dX12_calm_86 hl (k := 2) rfl (by rw [← ex_21]; rfl) (by decide) rfl (fun ls hl => ?_)
            refine lv_goto (tgt := 43) hx hb dX12_calm_89 (by decide) ?_
            exact ih_43 H_20 locs_20 _ x_21 hT_20 hS_20 (lv_sub hl [1, 2, 0] rfl) (by omega) (by omega) (by omega) ⟨p_20.1, p_20.2.1, p_20.2.2.1, p_20.2.2.2.1, p_20.2.2.2.2.1, p_20.2.2.2.2.2⟩ (WQ.q (hk_20 _ (fun h => h.elim (Ne.symm n01) (th_ne (hW _ 12 1 ha0 (by decide) (by decide) (by decide)) (hW _ 12 2 ha0 (by decide) (by decide) (by decide)) (by decide)))) hx66_0) (by omega)
          · have f_19 : 0 < y66_3.toInt := r_nle rfl (by decide) c_19
            refine lv_aload_n hx hb dX12_calm_70 rfl (lv_at hl 0 rfl) ?_
            refine lv_iconst (v := 0) hx hb dX12_calm_71 (by decide) ?_
            refine th_Vi (As := [.int 0]) (rest := []) E hml hl.1 (y_arrives_v2 l D cI cS τ ρ hW H_c66 hT_c66 a0 ha0 N hN0 hN1 ⟨hI_c66.1, hI_c66.2.1, hI_c66.2.2.1, hI_c66.2.2.2.1, hI_c66.2.2.2.2.1, hI_c66.2.2.2.2.2⟩ (by omega)) lk_X12_254 yd_X12_arrives hT_c66 ha0 rfl (by decide) hS_c66 (fun q => (fun h => h.elim (fun h => (Or.inr (Or.inr (Or.inr h)))) (fun h => h.elim (fun h => (Or.inr (Or.inl h))) (fun h => (Or.inr (Or.inr (Or.inl h))))))) ⟨by decide, by decide⟩ (Nat.le_of_ble_eq_true rfl) ⟨by decide, by decide⟩ rfl dX12_calm_72 (fun r_22 H_22 locs_22 p_22 hT_22 hk_22 hS_22 => ?_)
            have p_22 : (IM D ρ N H_22 a0) ∧ ((ai H_c66 (ρ a0 0) 976).toInt - 1 ≤ (ai H_22 (ρ a0 0) 976).toInt) := p_22
            obtain ⟨p_22_0, p_22_1⟩ := p_22
            refine lv_pop hx hb dX12_calm_75 rfl ?_
            obtain ⟨x_23, ex_23⟩ : ∃ y : Int32, y66_3 + (-1) = y := ⟨_, rfl⟩
            have q_x_23 : x_23.toInt = y66_3.toInt + -1 := i_add (k := -1) (by decide) ex_23 (by have := i_min y66_3; omega) (by have := i_max y66_3; omega)
            refine lv_iinc (v := x_23) (lv' := [(3, .int x_23), (0, .ref a0), (1, .int x0), (2, .int y43_2)]) hx hb dX12_calm_76 hl (k := 3) rfl (by rw [← ex_23]; rfl) (by decide) rfl (fun ls hl => ?_)
            refine lv_goto (tgt := 66) hx hb dX12_calm_79 (by decide) ?_
            exact ih_66 H_22 locs_22 _ x_23 hT_22 hS_22 (lv_sub hl [1, 2, 3, 0] rfl) (by omega) (by omega) (by omega) (by omega) (by omega) (by omega) ⟨p_22_0.1, p_22_0.2.1, p_22_0.2.2.1, p_22_0.2.2.2.1, p_22_0.2.2.2.2.1, p_22_0.2.2.2.2.2⟩ (WQ.q (hk_22 _ (fun h => h.elim (th_ne (hW _ 12 1 ha0 (by decide) (by decide) (by decide)) (hW _ 12 3 ha0 (by decide) (by decide) (by decide)) (by decide)) (fun h => h.elim (Ne.symm n01) (th_ne (hW _ 12 1 ha0 (by decide) (by decide) (by decide)) (hW _ 12 2 ha0 (by decide) (by decide) (by decide)) (by decide))))) hx66_0) (by omega) (by omega)
      refine lv_aload_n hx hb dX12_calm_43 rfl (lv_at hl 0 rfl) ?_
      refine th_Vi (As := []) (rest := []) E hml hl.1 (y_isCalm l D cI cS τ ρ hW H_c43 hT_c43 a0 ha0) lk_X12_289 yd_X12_isCalm hT_c43 ha0 rfl (by decide) hS_c43 (fun _ h => h.elim) ⟨by decide, by decide⟩ (Nat.le_of_ble_eq_true rfl) ⟨by decide, by decide⟩ rfl dX12_calm_44 (fun r_24 H_24 locs_24 p_24 hT_24 hk_24 hS_24 => ?_)
      have p_24 : H_c43 = H_24 ∧ (r_24 = 0 ∨ r_24 = 1) := p_24
      obtain ⟨rfl, p_24_0⟩ := p_24
      have z_24 := b_iv p_24_0
      refine lv_if_ne (tgt := 92) hx hb dX12_calm_47 (by decide) (fun c_25 => ?_) (fun c_25 => ?_)
      · have f_25 : ¬ r_24.toInt = 0 := r_ne rfl (by decide) c_25
        have nz_r_24 : ¬ r_24 = 0 := c_25
        exact J_92 H_c43 locs_24 _ y43_2 hT_24 hS_24 hl (by omega) (by omega) (by omega) ⟨hI_c43.1, hI_c43.2.1, hI_c43.2.2.1, hI_c43.2.2.2.1, hI_c43.2.2.2.2.1, hI_c43.2.2.2.2.2⟩ hx43_0
      · have f_25 : r_24.toInt = 0 := r_eq rfl (by decide) c_25
        refine lv_iload_n hx hb dX12_calm_50 rfl (lv_at hl 2 rfl) ?_
        refine lv_sipush (v := 300) hx hb dX12_calm_51 (by decide) ?_
        refine lv_icmp_ge (tgt := 92) hx hb dX12_calm_54 (by decide) (fun c_26 => ?_) (fun c_26 => ?_)
        · have f_26 : 300 ≤ y43_2.toInt := r_le (by decide) rfl c_26
          exact J_92 H_c43 locs_24 _ y43_2 hT_24 hS_24 hl (by omega) (by omega) (by omega) ⟨hI_c43.1, hI_c43.2.1, hI_c43.2.2.1, hI_c43.2.2.2.1, hI_c43.2.2.2.2.1, hI_c43.2.2.2.2.2⟩ hx43_0
        · have f_26 : y43_2.toInt < 300 := r_nle (by decide) rfl c_26
          refine lv_aload_n hx hb dX12_calm_57 rfl (lv_at hl 0 rfl) ?_
          refine gf_X12_7 E hT_24 hW ha0 dX12_calm_58 (fun h_27 => ?_)
          refine lv_sipush (v := 976) hx hb dX12_calm_61 (by decide) ?_
          refine th_iald E hT_24 h_27 (by decide) (vp_in_iff.mpr ⟨by decide, by decide⟩) dX12_calm_64 ?_
          refine th_topi (y := ai H_c43 (ρ a0 0) 976) rfl ?_
          refine lv_topi (fun x_28 ex_28 => ?_)
          have b_x_28 : 0 ≤ x_28.toInt ∧ x_28.toInt ≤ 20 := by rw [← ex_28.symm]; exact hI_c43.1 976 (by decide)
          have c_x_28 := congrArg Int32.toInt ex_28.symm
          refine lv_istore_n (lv' := [(3, .int x_28), (0, .ref a0), (1, .int x0), (2, .int y43_2)]) hx hb dX12_calm_65 rfl hl (by decide) rfl (fun ls hl => ?_)
          exact L_66 _ H_c43 locs_24 _ x_28 hT_24 hS_24 (lv_sub hl [1, 2, 3, 0] rfl) (by omega) (by omega) (by omega) (by omega) (by omega) (by omega) ⟨hI_c43.1, hI_c43.2.1, hI_c43.2.2.1, hI_c43.2.2.2.1, hI_c43.2.2.2.2.1, hI_c43.2.2.2.2.2⟩ hx43_0 (by have : (ai H_c43 (ρ a0 0) 976).toInt = (x_28 : Int32).toInt := congrArg Int32.toInt ex_28.symm; have : (ai H_c43 (ρ a0 0) 976).toInt = (x_28 : Int32).toInt := congrArg Int32.toInt ex_28.symm; omega) (Nat.lt_succ_self _)
  have L_16 : ∀ (n : Nat) (H_c16 : Heap) (lc_c16 : List Loc) (ls : Array Slot) (y16_2 : Int32), TH D cI cS τ ρ H_c16 → SS (fun q => q = ρ a0 1 ∨ q = ρ a0 0 ∨ q = ρ a0 2 ∨ q = ρ a0 3) H H_c16 lc_c16 → lv_has ls 5 [(0, .ref a0), (1, .int x0), (2, .int y16_2)] → 0 ≤ x0.toInt → x0.toInt ≤ 5 → 0 ≤ y16_2.toInt → IM D ρ N H_c16 a0 → (∀ j, j < ((y16_2.toInt) : Int).toNat → ai H_c16 (ρ a0 1) j = ai H_c16 (ρ a0 0) j) → (985 - y16_2.toInt).toNat < n → W p l e (rmO 12 285) s m args below meth c H_c16 lc_c16 0 0 (MQ below (va_Qi (fun (r : Int32) (u : Heap) => (IM D ρ N u a0)) (Bt D cI cS τ ρ H) (fun q => q = ρ a0 1 ∨ q = ρ a0 0 ∨ q = ρ a0 2 ∨ q = ρ a0 3)) args s 0 0 (fun q => q = ρ a0 1 ∨ q = ρ a0 0 ∨ q = ρ a0 2 ∨ q = ρ a0 3)) (F0 m 16 ls []) := by
    intro n
    induction n with
    | zero => intro H_c16 lc_c16 ls y16_2 hT_c16 hS_c16 hl ly16_1 uy16_1 ly16_2 hI_c16 hx16_0 hm; exact absurd hm (Nat.not_lt_zero _)
    | succ n ih_16 =>
      intro H_c16 lc_c16 ls y16_2 hT_c16 hS_c16 hl ly16_1 uy16_1 ly16_2 hI_c16 hx16_0 hm_16
      refine lv_iload_n hx hb dX12_calm_16 rfl (lv_at hl 2 rfl) ?_
      refine lv_sipush (v := 985) hx hb dX12_calm_17 (by decide) ?_
      refine lv_icmp_ge (tgt := 41) hx hb dX12_calm_20 (by decide) (fun c_29 => ?_) (fun c_29 => ?_)
      · have f_29 : 985 ≤ y16_2.toInt := r_le (by decide) rfl c_29
        refine lv_iconst (v := 0) hx hb dX12_calm_41 (by decide) ?_
        refine lv_istore_n (lv' := [(2, .int 0), (0, .ref a0), (1, .int x0)]) hx hb dX12_calm_42 rfl hl (by decide) rfl (fun ls hl => ?_)
        exact L_43 _ H_c16 lc_c16 _ 0 hT_c16 hS_c16 (lv_sub hl [1, 2, 0] rfl) (by omega) (by omega) (by decide) ⟨hI_c16.1, hI_c16.2.1, hI_c16.2.2.1, hI_c16.2.2.2.1, hI_c16.2.2.2.2.1, hI_c16.2.2.2.2.2⟩ (WQ.of (fun j hj => hx16_0 j (by omega)) hI_c16.1 hI_c16.2.1 hI_c16.2.2.1) (Nat.lt_succ_self _)
      · have f_29 : y16_2.toInt < 985 := r_nle (by decide) rfl c_29
        refine lv_aload_n hx hb dX12_calm_23 rfl (lv_at hl 0 rfl) ?_
        refine gf_X12_13 E hT_c16 hW ha0 dX12_calm_24 (fun h_30 => ?_)
        refine lv_iload_n hx hb dX12_calm_27 rfl (lv_at hl 2 rfl) ?_
        refine lv_aload_n hx hb dX12_calm_28 rfl (lv_at hl 0 rfl) ?_
        refine gf_X12_7 E hT_c16 hW ha0 dX12_calm_29 (fun h_31 => ?_)
        refine lv_iload_n hx hb dX12_calm_32 rfl (lv_at hl 2 rfl) ?_
        refine th_iald E hT_c16 h_31 (by decide) (vp_in_iff.mpr ⟨by omega, by omega⟩) dX12_calm_33 ?_
        refine th_topi (y := ai H_c16 (ρ a0 0) y16_2.toInt.toNat) rfl ?_
        refine lv_topi (fun x_32 ex_32 => ?_)
        have cl_32 : bW (y16_2.toInt.toNat) ≤ x_32.toInt ∧ x_32.toInt ≤ uW N (y16_2.toInt.toNat) := by rw [ex_32]; exact hI_c16.1 _ (by have := i_max y16_2; omega)
        refine th_iast E hT_c16 hS_c16 h_30 (Or.inl rfl) (by decide) (vp_in_iff.mpr ⟨by omega, by omega⟩) dX12_calm_34 (fun H_33 locs_33 hT_33 hU_33 hS_33 => ?_)
        have hU_33 : AU 985 H_c16 H_33 (ρ a0 1) y16_2.toInt.toNat x_32 := hU_33
        obtain ⟨x_34, ex_34⟩ : ∃ y : Int32, y16_2 + 1 = y := ⟨_, rfl⟩
        have q_x_34 : x_34.toInt = y16_2.toInt + 1 := i_add (k := 1) (by decide) ex_34 (by have := i_min y16_2; omega) (by have := i_max y16_2; omega)
        refine lv_iinc (v := x_34) (lv' := [(2, .int x_34), (0, .ref a0), (1, .int x0)]) hx hb dX12_calm_35 hl (k := 2) rfl (by rw [← ex_34]; rfl) (by decide) rfl (fun ls hl => ?_)
        refine lv_goto (tgt := 16) hx hb dX12_calm_38 (by decide) ?_
        exact ih_16 H_33 locs_33 _ x_34 hT_33 hS_33 (lv_sub hl [1, 2, 0] rfl) (by omega) (by omega) (by omega) ⟨(PW.q (hU_33.2 _ n01) hI_c16.1), (QS.same (ai_q (hU_33.2 _ n01)) (ai_q (hU_33.2 _ n01)) hI_c16.2.1), (QS.same (ai_q (hU_33.2 _ n01)) (ai_q (hU_33.2 _ n01)) hI_c16.2.2.1), (PL.q (hU_33.2 _ (th_ne (hW _ 12 2 ha0 (by decide) (by decide) (by decide)) (hW _ 12 1 ha0 (by decide) (by decide) (by decide)) (by decide))) hI_c16.2.2.2.1), (PL.q (hU_33.2 _ (th_ne (hW _ 12 3 ha0 (by decide) (by decide) (by decide)) (hW _ 12 1 ha0 (by decide) (by decide) (by decide)) (by decide))) hI_c16.2.2.2.2.1), (IF.q (hU_33.2 _ (th_ne ha0 (hW _ 12 1 ha0 (by decide) (by decide) (by decide)) (by decide))) hI_c16.2.2.2.2.2)⟩ (by have c := cp_step hx16_0 hU_33 ex_32 n01 (by omega); intro j hj; exact c j (by omega)) (by omega)
  refine lv_iload_n hx hb dX12_calm_0 rfl (lv_at hl 1 rfl) ?_
  obtain ⟨x_35, ex_35⟩ : ∃ y : Int64, x0.toInt64 = y := ⟨_, rfl⟩
  refine lv_i2l (v := x_35) hx hb dX12_calm_1 ex_35 ?_
  have q_35 : x_35.toInt = x0.toInt := by rw [← ex_35]; exact Int32.toInt_toInt64 _
  refine lv_lconst (v := 0) hx hb dX12_calm_2 (by decide) ?_
  refine lv_ldc2 (v := 5) hx hb hown (hts _ qw_1219) dX12_calm_3 ?_
  refine th_Si (As := [.long x_35, .long 0, .long 5]) (rest := []) E hml hl.1 (y_in_v21 l D cI cS τ ρ hW H hT x_35) lk_X12_54 yd_X12_in hS (fun _ h => h.elim) ⟨by decide, by decide⟩ (Nat.le_of_ble_eq_true rfl) ⟨by decide, by decide⟩ rfl dX12_calm_6 (fun r_36 H_36 locs_36 p_36 hT_36 hk_36 hS_36 => ?_)
  have p_36 : H = H_36 ∧ (r_36 = 0 ∨ r_36 = 1) ∧ ((r_36.toInt = 1 ∧ 0 ≤ x_35.toInt ∧ x_35.toInt ≤ 5) ∨ (r_36.toInt = 0 ∧ (x_35.toInt < 0 ∨ 5 < x_35.toInt))) := p_36
  obtain ⟨rfl, p_36_0, p_36_1⟩ := p_36
  have z_36 := b_iv p_36_0
  refine lv_if_ne (tgt := 14) hx hb dX12_calm_9 (by decide) (fun c_37 => ?_) (fun c_37 => ?_)
  · have f_37 : ¬ r_36.toInt = 0 := r_ne rfl (by decide) c_37
    have nz_r_36 : ¬ r_36 = 0 := c_37
    refine lv_iconst (v := 0) hx hb dX12_calm_14 (by decide) ?_
    refine lv_istore_n (lv' := [(2, .int 0), (0, .ref a0), (1, .int x0)]) hx hb dX12_calm_15 rfl hl (by decide) rfl (fun ls hl => ?_)
    exact L_16 _ H locs_36 _ 0 hT_36 hS_36 (lv_sub hl [1, 2, 0] rfl) (by omega) (by omega) (by decide) ⟨hI.1, hI.2.1, hI.2.2.1, hI.2.2.2.1, hI.2.2.2.2.1, hI.2.2.2.2.2⟩ (fun j hj => absurd hj (Nat.not_lt_zero _)) (Nat.lt_succ_self _)
  · have f_37 : r_36.toInt = 0 := r_eq rfl (by decide) c_37
    refine lv_iconst (v := (-1)) hx hb dX12_calm_12 (by decide) ?_
    exact th_iret E hr hlk hs hT_36 hS_36 ⟨hI.1, hI.2.1, hI.2.2.1, hI.2.2.2.1, hI.2.2.2.2.1, hI.2.2.2.2.2⟩ dX12_calm_13
