/-! what is written stands in the text -/
def wrT (T : Nat → Int32) (n : Nat) (x : Int32) (k : Nat) : Int32 := if k = n then x else T k
def nx (T : Nat → Int32) (n : Nat) (x : Int32) : (Nat → Int32) × Nat := if 32 ≤ x.toInt ∧ x.toInt ≤ 126 ∧ n < 200 then (wrT T n x, n + 1) else (T, n)
section NXS
variable {D : va_G} {ρ : Nat → Nat → Nat} {T : Nat → Int32} {n j a : Nat} {x y : Int32} {H H1 H2 : Heap} {N : Int}
theorem nx_y (h : 32 ≤ x.toInt ∧ x.toInt ≤ 126 ∧ n < 200) : nx T n x = (wrT T n x, n + 1) := by unfold nx; rw [if_pos h]
theorem nx_n (h : ¬ (32 ≤ x.toInt ∧ x.toInt ≤ 126 ∧ n < 200)) : nx T n x = (T, n) := by unfold nx; rw [if_neg h]
theorem wr_row {q : Nat} (hT : ∀ k, k < n → ai H q k = T k) (hn : n < 200) (hj : j = n) (hU : AU 200 H H1 q j x) (e2 : H2[q]? = H1[q]?) : ∀ k, k < n + 1 → ai H2 q k = wrT T n x k := fun k hk => by
  rw [ai_q e2, hU.1 k (by omega), hj]
  unfold wrT
  by_cases z : k = n
  · rw [if_pos z, if_pos z]
  · rw [if_neg z, if_neg z]
    exact hT k (by omega)
theorem TX.wr (h : TX D ρ T n H a) (hn : n < 200) (hj : j = n) (hU : AU 200 H H1 (ρ a 0) j x) (e2 : H2[ρ a 0]? = H1[ρ a 0]?) (hy : fi D 9 1 H2 a = y) (hy2 : y.toInt = (n : Int) + 1) : TX D ρ (wrT T n x) (n + 1) H2 a :=
  ⟨by omega, by rw [hy]; omega, wr_row h.2.2 hn hj hU e2⟩
theorem RX.wr (h : RX D ρ T n H a) (hn : n < 200) (hj : j = n) (hU : AU 200 H H1 (ρ a 4) j x) (e2 : H2[ρ a 4]? = H1[ρ a 4]?) (hy : fi D 12 5 H2 a = y) (hy2 : y.toInt = (n : Int) + 1) : RX D ρ (wrT T n x) (n + 1) H2 a :=
  ⟨by omega, by rw [hy]; omega, wr_row h.2.2 hn hj hU e2⟩
theorem TX.nil (h : (fi D 9 1 H a).toInt = 0) : TX D ρ T 0 H a := ⟨by omega, by rw [h]; rfl, fun k hk => absurd hk (by omega)⟩
theorem RX.nil (h : (fi D 12 5 H a).toInt = 0) : RX D ρ T 0 H a := ⟨by omega, by rw [h]; rfl, fun k hk => absurd hk (by omega)⟩
/-- the invariant needs the three rows and a few fields alone -/
theorem IM.fk (h : IM D ρ N H a) (e0 : H1[ρ a 0]? = H[ρ a 0]?) (e2 : H1[ρ a 2]? = H[ρ a 2]?) (e3 : H1[ρ a 3]? = H[ρ a 3]?) (ef : ∀ k, k < 10 → fi D 12 k H1 a = fi D 12 k H a) : IM D ρ N H1 a := by
  refine ⟨PW.q e0 h.1, QS.q e0 h.2.1, QS.q e0 h.2.2.1, PL.q e2 h.2.2.2.1, PL.q e3 h.2.2.2.2.1, ?_⟩
  have hf := h.2.2.2.2.2
  unfold IF at hf ⊢
  rw [ef 6 (by decide), ef 7 (by decide), ef 8 (by decide), ef 5 (by decide)]
  exact hf
end NXS
set_option maxHeartbeats 4000000 in
set_option maxRecDepth 100000 in
theorem e_append (l : Launch) (D : va_G) (cI cS : ClassId) (τ : Nat → Option Nat) (ρ : Nat → Nat → Nat) (hW : WF τ ρ) (H : Heap) (hT : TH D cI cS τ ρ H) (a0 : Nat) (x0 : Int32) (ha0 : τ a0 = some 9) (T : Nat → Int32) (n : Nat) (hX : TX D ρ T n H a0) : MI l D cI cS τ ρ yX9_append cX9_append 2 (some .boolean) 0 0 H [.ref a0, .int x0] (fun (r : Int32) (u : Heap) => (r = 0 ∨ r = 1) ∧ ((r.toInt = 1 ∧ n < 200 ∧ TX D ρ (wrT T n x0) (n + 1) u a0) ∨ (r.toInt = 0 ∧ n = 200 ∧ TX D ρ T n u a0))) (AT τ [9, 300]) := by
  refine MI.of (by decide) (Nat.le_of_ble_eq_true rfl) ?_
  intro p e s m args below meth c E hml hr hlk hs ls hl
  have hx := E.1
  have hb := E.2.1
  have hown := E.2.2.1
  have hts := E.2.2.2.1
  have hS : SS (AT τ [9, 300]) H H [] := SS.rf
  have hn := hX.1
  have hlen := hX.2.1
  have hl : lv_has ls 2 [(0, .ref a0), (1, .int x0)] := hl
  refine lv_aload_n hx hb dX9_append_0 rfl (lv_at hl 0 rfl) ?_
  refine gf_X9_15 E hT ha0 dX9_append_1 ?_
  refine lv_topi (fun x_1 ex_1 => ?_)
  have e_1 : x_1.toInt = (fi D 9 1 H a0).toInt := congrArg Int32.toInt ex_1
  refine lv_if_lt (tgt := 17) hx hb dX9_append_4 (by decide) (fun c_2 => ?_) (fun c_2 => ?_)
  · have f_2 : x_1.toInt < 0 := r_lt rfl (by decide) c_2
    omega
  · have f_2 : 0 ≤ x_1.toInt := r_nlt rfl (by decide) c_2
    refine lv_aload_n hx hb dX9_append_7 rfl (lv_at hl 0 rfl) ?_
    refine gf_X9_15 E hT ha0 dX9_append_8 ?_
    refine th_topi (y := x_1) ex_1.symm ?_
    refine lv_sipush (v := 200) hx hb dX9_append_11 (by decide) ?_
    refine lv_icmp_lt (tgt := 19) hx hb dX9_append_14 (by decide) (fun c_3 => ?_) (fun c_3 => ?_)
    · have f_3 : x_1.toInt < 200 := r_lt rfl (by decide) c_3
      refine lv_aload_n hx hb dX9_append_19 rfl (lv_at hl 0 rfl) ?_
      refine gf_X9_9 E hT hW ha0 dX9_append_20 (fun h_4 => ?_)
      refine lv_aload_n hx hb dX9_append_23 rfl (lv_at hl 0 rfl) ?_
      refine gf_X9_15 E hT ha0 dX9_append_24 ?_
      refine th_topi (y := x_1) ex_1.symm ?_
      refine lv_iload_n hx hb dX9_append_27 rfl (lv_at hl 1 rfl) ?_
      refine th_iast E hT hS h_4 ⟨_, h_4, by decide⟩ (by decide) (vp_in_iff.mpr ⟨by omega, by omega⟩) dX9_append_28 (fun H_5 locs_5 hT_5 hU_5 hS_5 => ?_)
      have hU_5 : AU 200 H H_5 (ρ a0 0) x_1.toInt.toNat x0 := hU_5
      refine lv_aload_n hx hb dX9_append_29 rfl (lv_at hl 0 rfl) ?_
      refine lv_dup hx hb dX9_append_30 rfl ?_
      refine gf_X9_15 E hT_5 ha0 dX9_append_31 ?_
      refine th_topi (y := x_1) (Eq.trans (fi_q (hU_5.2 _ (th_ne ha0 h_4 (by decide)))) ex_1.symm) ?_
      refine lv_iconst (v := 1) hx hb dX9_append_34 (by decide) ?_
      refine lv_iadd hx hb dX9_append_35 ?_
      refine lv_topi (fun x_6 ex_6 => ?_)
      have q_6 : x_6.toInt = x_1.toInt + 1 := i_pl rfl (by decide) ex_6 (by omega) (by omega)
      refine pf_X9_15 E hT_5 hS_5 ha0 ⟨_, ha0, by decide⟩ dX9_append_36 (fun H_7 locs_7 hT_7 hU_7 hS_7 => ?_)
      refine lv_iconst (v := 1) hx hb dX9_append_39 (by decide) ?_
      exact th_zret E hr hlk hs (Or.inr rfl) hT_7 hS_7 ⟨(Or.inr rfl), Or.inl ⟨by decide, by omega, hX.wr (by omega) (by omega) hU_5 (hU_7.2.2 _ (th_ne h_4 ha0 (by decide))) hU_7.i (by omega)⟩⟩ dX9_append_40
    · have f_3 : 200 ≤ x_1.toInt := r_nlt rfl (by decide) c_3
      refine lv_iconst (v := 0) hx hb dX9_append_17 (by decide) ?_
      exact th_zret E hr hlk hs (Or.inl rfl) hT hS ⟨(Or.inl rfl), Or.inr ⟨by decide, by omega, hX⟩⟩ dX9_append_18
set_option maxHeartbeats 4000000 in
set_option maxRecDepth 100000 in
theorem e_write (l : Launch) (D : va_G) (cI cS : ClassId) (τ : Nat → Option Nat) (ρ : Nat → Nat → Nat) (hW : WF τ ρ) (H : Heap) (hT : TH D cI cS τ ρ H) (a0 : Nat) (x0 : Int32) (ha0 : τ a0 = some 11) (T : Nat → Int32) (n : Nat) (hX : TX D ρ T n H (ρ a0 0)) : MI l D cI cS τ ρ yX11_write cX11_write 2 (some .int) 1 21 H [.ref a0, .int x0] (fun (r : Int32) (u : Heap) => TX D ρ (nx T n x0).1 (nx T n x0).2 u (ρ a0 0)) (AT τ [9, 300]) := by
  refine MI.of (by decide) (Nat.le_of_ble_eq_true rfl) ?_
  intro p e s m args below meth c E hml hr hlk hs ls hl
  have hx := E.1
  have hb := E.2.1
  have hown := E.2.2.1
  have hts := E.2.2.2.1
  have hS : SS (AT τ [9, 300]) H H [] := SS.rf
  have hl : lv_has ls 2 [(0, .ref a0), (1, .int x0)] := hl
  refine lv_iload_n hx hb dX11_write_0 rfl (lv_at hl 1 rfl) ?_
  refine lv_bipush (v := 32) hx hb dX11_write_1 (by decide) ?_
  refine lv_icmp_lt (tgt := 12) hx hb dX11_write_3 (by decide) (fun c_1 => ?_) (fun c_1 => ?_)
  · have f_1 : x0.toInt < 32 := r_lt rfl (by decide) c_1
    refine lv_iconst (v := (-1)) hx hb dX11_write_12 (by decide) ?_
    exact th_iret E hr hlk hs hT hS (by rw [nx_n (by omega)]; exact hX) dX11_write_13
  · have f_1 : 32 ≤ x0.toInt := r_nlt rfl (by decide) c_1
    refine lv_iload_n hx hb dX11_write_6 rfl (lv_at hl 1 rfl) ?_
    refine lv_bipush (v := 126) hx hb dX11_write_7 (by decide) ?_
    refine lv_icmp_le (tgt := 14) hx hb dX11_write_9 (by decide) (fun c_2 => ?_) (fun c_2 => ?_)
    · have f_2 : x0.toInt ≤ 126 := r_le rfl (by decide) c_2
      refine lv_aload_n hx hb dX11_write_14 rfl (lv_at hl 0 rfl) ?_
      refine gf_X11_10 E hT hW ha0 dX11_write_15 (fun h_3 => ?_)
      refine lv_iload_n hx hb dX11_write_18 rfl (lv_at hl 1 rfl) ?_
      refine th_Vi (As := [.int x0]) (rest := []) E hml hl.1 (e_append l D cI cS τ ρ hW H hT (ρ a0 0) x0 h_3 T n hX) lk_X11_47 yd_X9_append hT h_3 rfl (by decide) hS (AT.sub (by decide)) ⟨by decide, by decide⟩ (Nat.le_of_ble_eq_true rfl) ⟨by decide, by decide⟩ rfl dX11_write_19 (fun r_4 H_4 locs_4 p_4 hT_4 hk_4 hS_4 => ?_)
      obtain ⟨p_4, px_4⟩ := p_4
      have z_4 := b_iv p_4
      refine lv_if_eq (tgt := 35) hx hb dX11_write_22 (by decide) (fun c_5 => ?_) (fun c_5 => ?_)
      · have f_5 : r_4.toInt = 0 := r_eq rfl (by decide) c_5
        refine lv_bipush (v := (-3)) hx hb dX11_write_35 (by decide) ?_
        have q_4 := px_4.resolve_left (fun q => by have := q.1; omega)
        have n_4 := q_4.2.1
        exact th_iret E hr hlk hs hT_4 hS_4 (by rw [nx_n (by omega)]; exact q_4.2.2) dX11_write_37
      · have f_5 : ¬ r_4.toInt = 0 := r_ne rfl (by decide) c_5
        have nz_r_4 : ¬ r_4 = 0 := c_5
        refine lv_aload_n hx hb dX11_write_25 rfl (lv_at hl 0 rfl) ?_
        refine gf_X11_10 E hT_4 hW ha0 dX11_write_26 (fun h_6 => ?_)
        refine gf_X11_51 E hT_4 h_6 dX11_write_29 ?_
        refine lv_topi (fun x_7 ex_7 => ?_)
        have e_7 : x_7.toInt = (fi D 9 1 H_4 (ρ a0 0)).toInt := congrArg Int32.toInt ex_7
        refine lv_goto (tgt := 37) hx hb dX11_write_32 (by decide) ?_
        have q_4 := px_4.resolve_right (fun q => by have := q.1; omega)
        have n_4 := q_4.2.1
        exact th_iret E hr hlk hs hT_4 hS_4 (by rw [nx_y (by omega)]; exact q_4.2.2) dX11_write_37
    · have f_2 : 126 < x0.toInt := r_nle rfl (by decide) c_2
      refine lv_iconst (v := (-1)) hx hb dX11_write_12 (by decide) ?_
      exact th_iret E hr hlk hs hT hS (by rw [nx_n (by omega)]; exact hX) dX11_write_13
set_option maxHeartbeats 4000000 in
set_option maxRecDepth 100000 in
theorem f_write (l : Launch) (D : va_G) (cI cS : ClassId) (τ : Nat → Option Nat) (ρ : Nat → Nat → Nat) (hW : WF τ ρ) (H : Heap) (hT : TH D cI cS τ ρ H) (a0 : Nat) (x0 : Int32) (ha0 : τ a0 = some 12) (N : Int) (hN0 : 0 ≤ N) (hN1 : N ≤ 600) (hI : IM D ρ N H a0) (T : Nat → Int32) (n : Nat) (hX : RX D ρ T n H a0) : MI l D cI cS τ ρ yX12_write cX12_write 2 (some .int) 1 25 H [.ref a0, .int x0] (fun (r : Int32) (u : Heap) => IM D ρ N u a0 ∧ RX D ρ (nx T n x0).1 (nx T n x0).2 u a0) (fun q => q = ρ a0 4 ∨ q = a0) := by
  refine MI.of (by decide) (Nat.le_of_ble_eq_true rfl) ?_
  intro p e s m args below meth c E hml hr hlk hs ls hl
  have hx := E.1
  have hb := E.2.1
  have hown := E.2.2.1
  have hts := E.2.2.2.1
  have hS : SS (fun q => q = ρ a0 4 ∨ q = a0) H H [] := SS.rf
  have hl : lv_has ls 2 [(0, .ref a0), (1, .int x0)] := hl
  have n01 := hI.2.2.2.2.2.1
  have n23 := hI.2.2.2.2.2.2.1
  have bL5 : 0 ≤ (fi D 12 5 H a0).toInt ∧ (fi D 12 5 H a0).toInt ≤ 200 := IF.f5 hI.2.2.2.2.2
  have hn := hX.1
  have hlen := hX.2.1
  refine lv_iload_n hx hb dX12_write_0 rfl (lv_at hl 1 rfl) ?_
  obtain ⟨x_1, ex_1⟩ : ∃ y : Int64, x0.toInt64 = y := ⟨_, rfl⟩
  refine lv_i2l (v := x_1) hx hb dX12_write_1 ex_1 ?_
  have q_1 : x_1.toInt = x0.toInt := by rw [← ex_1]; exact Int32.toInt_toInt64 _
  refine lv_ldc2 (v := 32) hx hb hown (hts _ qw_1207) dX12_write_2 ?_
  refine lv_ldc2 (v := 126) hx hb hown (hts _ qw_1208) dX12_write_5 ?_
  refine th_Si (As := [.long x_1, .long 32, .long 126]) (rest := []) E hml hl.1 (y_in_v15 l D cI cS τ ρ hW H hT x_1) lk_X12_54 yd_X12_in hS (fun _ h => h.elim) ⟨by decide, by decide⟩ (Nat.le_of_ble_eq_true rfl) ⟨by decide, by decide⟩ rfl dX12_write_8 (fun r_2 H_2 locs_2 p_2 hT_2 hk_2 hS_2 => ?_)
  have p_2 : H = H_2 ∧ (r_2 = 0 ∨ r_2 = 1) ∧ ((r_2.toInt = 1 ∧ 32 ≤ x_1.toInt ∧ x_1.toInt ≤ 126) ∨ (r_2.toInt = 0 ∧ (x_1.toInt < 32 ∨ 126 < x_1.toInt))) := p_2
  obtain ⟨rfl, p_2_0, p_2_1⟩ := p_2
  have z_2 := b_iv p_2_0
  refine lv_if_ne (tgt := 16) hx hb dX12_write_11 (by decide) (fun c_3 => ?_) (fun c_3 => ?_)
  · have f_3 : ¬ r_2.toInt = 0 := r_ne rfl (by decide) c_3
    have nz_r_2 : ¬ r_2 = 0 := c_3
    refine lv_aload_n hx hb dX12_write_16 rfl (lv_at hl 0 rfl) ?_
    refine gf_X12_47 E hT_2 ha0 dX12_write_17 ?_
    refine lv_topi (fun x_4 ex_4 => ?_)
    have e_4 : x_4.toInt = (fi D 12 5 H a0).toInt := congrArg Int32.toInt ex_4
    have b_4 : 0 ≤ x_4.toInt ∧ x_4.toInt ≤ 200 := by rw [ex_4]; exact IF.f5 hI.2.2.2.2.2
    refine lv_sipush (v := 200) hx hb dX12_write_20 (by decide) ?_
    refine lv_icmp_ne (tgt := 29) hx hb dX12_write_23 (by decide) (fun c_5 => ?_) (fun c_5 => ?_)
    · have f_5 : ¬ x_4.toInt = 200 := r_ne rfl (by decide) c_5
      refine lv_aload_n hx hb dX12_write_29 rfl (lv_at hl 0 rfl) ?_
      refine gf_X12_22 E hT_2 hW ha0 dX12_write_30 (fun h_6 => ?_)
      refine lv_aload_n hx hb dX12_write_33 rfl (lv_at hl 0 rfl) ?_
      refine gf_X12_47 E hT_2 ha0 dX12_write_34 ?_
      refine th_topi (y := x_4) ex_4.symm ?_
      refine lv_iload_n hx hb dX12_write_37 rfl (lv_at hl 1 rfl) ?_
      refine th_iast E hT_2 hS_2 h_6 (Or.inl rfl) (by decide) (vp_in_iff.mpr ⟨by omega, by omega⟩) dX12_write_38 (fun H_7 locs_7 hT_7 hU_7 hS_7 => ?_)
      have hU_7 : AU 200 H H_7 (ρ a0 4) x_4.toInt.toNat x0 := hU_7
      refine lv_aload_n hx hb dX12_write_39 rfl (lv_at hl 0 rfl) ?_
      refine lv_dup hx hb dX12_write_40 rfl ?_
      refine gf_X12_47 E hT_7 ha0 dX12_write_41 ?_
      refine th_topi (y := x_4) (Eq.trans (fi_q (hU_7.2 _ (th_ne ha0 (hW _ 12 4 ha0 (by decide) (by decide) (by decide)) (by decide)))) ex_4.symm) ?_
      refine lv_iconst (v := 1) hx hb dX12_write_44 (by decide) ?_
      refine lv_iadd hx hb dX12_write_45 ?_
      refine lv_topi (fun x_8 ex_8 => ?_)
      have q_8 : x_8.toInt = x_4.toInt + 1 := i_pl rfl (by decide) ex_8 (by omega) (by omega)
      refine pf_X12_47 E hT_7 hS_7 ha0 (Or.inr rfl) dX12_write_46 (fun H_9 locs_9 hT_9 hU_9 hS_9 => ?_)
      refine lv_aload_n hx hb dX12_write_49 rfl (lv_at hl 0 rfl) ?_
      refine gf_X12_47 E hT_9 ha0 dX12_write_50 ?_
      refine th_topi (y := x_8) (PU.i hU_9) ?_
      exact th_iret E hr hlk hs hT_9 hS_9 ⟨⟨(PW.q (hU_9.2.2 _ (th_ne (hW _ 12 0 ha0 (by decide) (by decide) (by decide)) ha0 (by decide))) (PW.q (hU_7.2 _ (th_ne (hW _ 12 0 ha0 (by decide) (by decide) (by decide)) (hW _ 12 4 ha0 (by decide) (by decide) (by decide)) (by decide))) hI.1)), (QS.same (Eq.trans (ai_q (hU_9.2.2 _ (th_ne (hW _ 12 0 ha0 (by decide) (by decide) (by decide)) ha0 (by decide)))) (ai_q (hU_7.2 _ (th_ne (hW _ 12 0 ha0 (by decide) (by decide) (by decide)) (hW _ 12 4 ha0 (by decide) (by decide) (by decide)) (by decide))))) (Eq.trans (ai_q (hU_9.2.2 _ (th_ne (hW _ 12 0 ha0 (by decide) (by decide) (by decide)) ha0 (by decide)))) (ai_q (hU_7.2 _ (th_ne (hW _ 12 0 ha0 (by decide) (by decide) (by decide)) (hW _ 12 4 ha0 (by decide) (by decide) (by decide)) (by decide))))) hI.2.1), (QS.same (Eq.trans (ai_q (hU_9.2.2 _ (th_ne (hW _ 12 0 ha0 (by decide) (by decide) (by decide)) ha0 (by decide)))) (ai_q (hU_7.2 _ (th_ne (hW _ 12 0 ha0 (by decide) (by decide) (by decide)) (hW _ 12 4 ha0 (by decide) (by decide) (by decide)) (by decide))))) (Eq.trans (ai_q (hU_9.2.2 _ (th_ne (hW _ 12 0 ha0 (by decide) (by decide) (by decide)) ha0 (by decide)))) (ai_q (hU_7.2 _ (th_ne (hW _ 12 0 ha0 (by decide) (by decide) (by decide)) (hW _ 12 4 ha0 (by decide) (by decide) (by decide)) (by decide))))) hI.2.2.1), (PL.q (hU_9.2.2 _ (th_ne (hW _ 12 2 ha0 (by decide) (by decide) (by decide)) ha0 (by decide))) (PL.q (hU_7.2 _ (th_ne (hW _ 12 2 ha0 (by decide) (by decide) (by decide)) (hW _ 12 4 ha0 (by decide) (by decide) (by decide)) (by decide))) hI.2.2.2.1)), (PL.q (hU_9.2.2 _ (th_ne (hW _ 12 3 ha0 (by decide) (by decide) (by decide)) ha0 (by decide))) (PL.q (hU_7.2 _ (th_ne (hW _ 12 3 ha0 (by decide) (by decide) (by decide)) (hW _ 12 4 ha0 (by decide) (by decide) (by decide)) (by decide))) hI.2.2.2.2.1)), (IF.put5 (IF.q (hU_7.2 _ (th_ne ha0 (hW _ 12 4 ha0 (by decide) (by decide) (by decide)) (by decide))) hI.2.2.2.2.2) hU_9 (by omega))⟩, (by rw [nx_y (by omega)]; exact hX.wr (by omega) (by omega) hU_7 (hU_9.2.2 _ (th_ne (hW _ 12 4 ha0 (by decide) (by decide) (by decide)) ha0 (by decide))) hU_9.i (by omega))⟩ dX12_write_53
    · have f_5 : x_4.toInt = 200 := r_eq rfl (by decide) c_5
      refine lv_bipush (v := (-3)) hx hb dX12_write_26 (by decide) ?_
      exact th_iret E hr hlk hs hT_2 hS_2 ⟨⟨hI.1, hI.2.1, hI.2.2.1, hI.2.2.2.1, hI.2.2.2.2.1, hI.2.2.2.2.2⟩, (by rw [nx_n (by omega)]; exact hX)⟩ dX12_write_28
  · have f_3 : r_2.toInt = 0 := r_eq rfl (by decide) c_3
    refine lv_iconst (v := (-1)) hx hb dX12_write_14 (by decide) ?_
    exact th_iret E hr hlk hs hT_2 hS_2 ⟨⟨hI.1, hI.2.1, hI.2.2.1, hI.2.2.2.1, hI.2.2.2.2.1, hI.2.2.2.2.2⟩, (by rw [nx_n (by omega)]; exact hX)⟩ dX12_write_15
