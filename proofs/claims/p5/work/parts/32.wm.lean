/-! THE REFERENCE: weak contracts (written by wip/gen) -/
set_option maxHeartbeats 4000000 in
set_option maxRecDepth 100000 in
/-- the reference: lesser -/
theorem y_lesser_v2 (l : Launch) (D : va_G) (cI cS : ClassId) (τ : Nat → Option Nat) (ρ : Nat → Nat → Nat) (hW : WF τ ρ) (H : Heap) (hT : TH D cI cS τ ρ H) (x0 : Int32) (x1 : Int32) : MI l D cI cS τ ρ yX12_lesser cX12_lesser 2 (some .int) 0 0 H [.int x0, .int x1] (fun (r : Int32) (u : Heap) => (H = u) ∧ (r.toInt ≤ x0.toInt ∧ r.toInt ≤ x1.toInt ∧ (r.toInt = x0.toInt ∨ r.toInt = x1.toInt))) (fun q => False) := by
  refine MI.of (by decide) (Nat.le_of_ble_eq_true rfl) ?_
  intro p e s m args below meth c E hml hr hlk hs ls hl
  have hx := E.1
  have hb := E.2.1
  have hown := E.2.2.1
  have hts := E.2.2.2.1
  have hS : SS (fun q => False) H H [] := SS.rf
  have hl : lv_has ls 2 [(0, .int x0), (1, .int x1)] := hl
  refine lv_iload_n hx hb dX12_lesser_0 rfl (lv_at hl 0 rfl) ?_
  refine lv_iload_n hx hb dX12_lesser_1 rfl (lv_at hl 1 rfl) ?_
  refine lv_icmp_ge (tgt := 9) hx hb dX12_lesser_2 (by decide) (fun c_1 => ?_) (fun c_1 => ?_)
  · have f_1 : x1.toInt ≤ x0.toInt := r_le rfl rfl c_1
    refine lv_iload_n hx hb dX12_lesser_9 rfl (lv_at hl 1 rfl) ?_
    exact th_iret E hr hlk hs hT hS ⟨rfl, (by omega)⟩ dX12_lesser_10
  · have f_1 : x0.toInt < x1.toInt := r_nle rfl rfl c_1
    refine lv_iload_n hx hb dX12_lesser_5 rfl (lv_at hl 0 rfl) ?_
    refine lv_goto (tgt := 10) hx hb dX12_lesser_6 (by decide) ?_
    exact th_iret E hr hlk hs hT hS ⟨rfl, (by omega)⟩ dX12_lesser_10
set_option maxHeartbeats 4000000 in
set_option maxRecDepth 100000 in
/-- the reference: hears -/
theorem y_hears (l : Launch) (D : va_G) (cI cS : ClassId) (τ : Nat → Option Nat) (ρ : Nat → Nat → Nat) (hW : WF τ ρ) (H : Heap) (hT : TH D cI cS τ ρ H) (a0 : Nat) (x1 : Int32) (ha0 : τ a0 = some 12) (N : Int) (hN0 : 0 ≤ N) (hN1 : N ≤ 600) (hI : IM D ρ N H a0) (hp0 : x1.toInt ≤ N + 2 ∧ -1000 ≤ x1.toInt) : MV l D cI cS τ ρ yX12_hears cX12_hears 7 none 2 46 H [.ref a0, .int 0, .int x1] (fun (u : Heap) => (IM D ρ N u a0) ∧ ((ai H (ρ a0 0) 976).toInt ≤ (ai u (ρ a0 0) 976).toInt) ∧ (ai u (ρ a0 0) 0 = ai H (ρ a0 0) 0) ∧ (ai u (ρ a0 0) 2 = ai H (ρ a0 0) 2)) (fun q => q = ρ a0 0) := by
  refine MV.of (by decide) (Nat.le_of_ble_eq_true rfl) ?_
  intro p e s m args below meth c E hml hr hlk hs ls hl
  have hx := E.1
  have hb := E.2.1
  have hown := E.2.2.1
  have hts := E.2.2.2.1
  have hS : SS (fun q => q = ρ a0 0) H H [] := SS.rf
  have hl : lv_has ls 7 [(0, .ref a0), (1, .int 0), (2, .int x1)] := hl
  have n01 := hI.2.2.2.2.2.1
  have n23 := hI.2.2.2.2.2.2.1
  have L_55 : ∀ (n : Nat) (H_c55 : Heap) (lc_c55 : List Loc) (ls : Array Slot) (y55_3 : Int32) (g55_0 : Int32), TH D cI cS τ ρ H_c55 → SS (fun q => q = ρ a0 0) H H_c55 lc_c55 → lv_has ls 7 [(0, .ref a0), (1, .int 0), (2, .int x1), (3, .int y55_3)] → -1000 ≤ x1.toInt → x1.toInt ≤ 602 → 0 ≤ y55_3.toInt → y55_3.toInt ≤ 2 → ai H_c55 (ρ a0 3) 6 = g55_0 → IM D ρ N H_c55 a0 → (ai H (ρ a0 0) 976).toInt ≤ (ai H_c55 (ρ a0 0) 976).toInt → ai H_c55 (ρ a0 0) 0 = ai H (ρ a0 0) 0 → ai H_c55 (ρ a0 0) 2 = ai H (ρ a0 0) 2 → (g55_0.toInt - y55_3.toInt).toNat < n → W p l e (rmO 2 46) s m args below meth c H_c55 lc_c55 0 0 (MQ below (va_Qv (fun (u : Heap) => (IM D ρ N u a0) ∧ ((ai H (ρ a0 0) 976).toInt ≤ (ai u (ρ a0 0) 976).toInt) ∧ (ai u (ρ a0 0) 0 = ai H (ρ a0 0) 0) ∧ (ai u (ρ a0 0) 2 = ai H (ρ a0 0) 2)) (Bt D cI cS τ ρ H) (fun q => q = ρ a0 0)) args s 0 0 (fun q => q = ρ a0 0)) (F0 m 55 ls []) := by
    intro n
    induction n with
    | zero => intro H_c55 lc_c55 ls y55_3 g55_0 hT_c55 hS_c55 hl ly55_2 uy55_2 ly55_3 uy55_3 hg55_0 hI_c55 hmn_c55 hk55_0 hk55_2 hm; exact absurd hm (Nat.not_lt_zero _)
    | succ n ih_55 =>
      intro H_c55 lc_c55 ls y55_3 g55_0 hT_c55 hS_c55 hl ly55_2 uy55_2 ly55_3 uy55_3 hg55_0 hI_c55 hmn_c55 hk55_0 hk55_2 hm_55
      have bb_g55_0 : 0 ≤ g55_0.toInt ∧ g55_0.toInt ≤ 2 := by rw [← hg55_0]; exact hI_c55.2.2.2.2.1 6 (by decide)
      have cg_g55_0 := congrArg Int32.toInt hg55_0
      have L_129 : ∀ (n : Nat) (H_c129 : Heap) (lc_c129 : List Loc) (ls : Array Slot) (y129_4 : Int32) (y129_5 : Int32) (y129_6 : Int32), TH D cI cS τ ρ H_c129 → SS (fun q => q = ρ a0 0) H H_c129 lc_c129 → lv_has ls 7 [(0, .ref a0), (1, .int 0), (2, .int x1), (3, .int y55_3), (4, .int y129_4), (5, .int y129_5), (6, .int y129_6)] → -1000 ≤ x1.toInt → x1.toInt ≤ 602 → 0 ≤ y55_3.toInt → y55_3.toInt ≤ 1 → -128 ≤ y129_4.toInt → y129_4.toInt ≤ 729 → -128 ≤ y129_5.toInt → y129_5.toInt ≤ 729 → 0 ≤ y129_6.toInt → y129_6.toInt ≤ 729 → 1 ≤ g55_0.toInt → g55_0.toInt ≤ 2 → ai H_c129 (ρ a0 3) 6 = g55_0 → IM D ρ N H_c129 a0 → (ai H (ρ a0 0) 976).toInt ≤ (ai H_c129 (ρ a0 0) 976).toInt → y55_3.toInt < g55_0.toInt → ai H_c129 (ρ a0 0) 0 = ai H (ρ a0 0) 0 → ai H_c129 (ρ a0 0) 2 = ai H (ρ a0 0) 2 → (y129_5.toInt - y129_6.toInt).toNat < n → W p l e (rmO 2 46) s m args below meth c H_c129 lc_c129 0 0 (MQ below (va_Qv (fun (u : Heap) => (IM D ρ N u a0) ∧ ((ai H (ρ a0 0) 976).toInt ≤ (ai u (ρ a0 0) 976).toInt) ∧ (ai u (ρ a0 0) 0 = ai H (ρ a0 0) 0) ∧ (ai u (ρ a0 0) 2 = ai H (ρ a0 0) 2)) (Bt D cI cS τ ρ H) (fun q => q = ρ a0 0)) args s 0 0 (fun q => q = ρ a0 0)) (F0 m 129 ls []) := by
        intro n
        induction n with
        | zero => intro H_c129 lc_c129 ls y129_4 y129_5 y129_6 hT_c129 hS_c129 hl ly129_2 uy129_2 ly129_3 uy129_3 ly129_4 uy129_4 ly129_5 uy129_5 ly129_6 uy129_6 lg129_0 ug129_0 hg129_0 hI_c129 hmn_c129 hx129_0 hk129_0 hk129_2 hm; exact absurd hm (Nat.not_lt_zero _)
        | succ n ih_129 =>
          intro H_c129 lc_c129 ls y129_4 y129_5 y129_6 hT_c129 hS_c129 hl ly129_2 uy129_2 ly129_3 uy129_3 ly129_4 uy129_4 ly129_5 uy129_5 ly129_6 uy129_6 lg129_0 ug129_0 hg129_0 hI_c129 hmn_c129 hx129_0 hk129_0 hk129_2 hm_129
          have bb_g129_0 : 0 ≤ g55_0.toInt ∧ g55_0.toInt ≤ 2 := by rw [← hg129_0]; exact hI_c129.2.2.2.2.1 6 (by decide)
          have cg_g129_0 := congrArg Int32.toInt hg129_0
          refine lv_iload hx hb dX12_hears_129 (lv_at hl 6 rfl) ?_
          refine lv_iload hx hb dX12_hears_131 (lv_at hl 5 rfl) ?_
          refine lv_aload_n hx hb dX12_hears_133 rfl (lv_at hl 0 rfl) ?_
          refine lv_iload_n hx hb dX12_hears_134 rfl (lv_at hl 1 rfl) ?_
          refine lv_iconst (v := 2) hx hb dX12_hears_135 (by decide) ?_
          refine th_Vi (As := [.int 0, .int 2]) (rest := [.int y129_5, .int y129_6]) E hml hl.1 (y_get_v16 l D cI cS τ ρ hW H_c129 hT_c129 a0 ha0) lk_X12_99 yd_X12_get hT_c129 ha0 rfl (by decide) hS_c129 (fun _ h => h.elim) ⟨by decide, by decide⟩ (Nat.le_of_ble_eq_true rfl) ⟨by decide, by decide⟩ rfl dX12_hears_136 (fun r_1 H_1 locs_1 p_1 hT_1 hk_1 hS_1 => ?_)
          have p_1 : H_c129 = H_1 ∧ (ai H_c129 (ρ a0 0) 2 = r_1) := p_1
          obtain ⟨rfl, p_1_0⟩ := p_1
          have t_1 : ai H (ρ a0 0) 2 = r_1 := hk129_2.symm.trans p_1_0
          have b_r_1 : 0 ≤ r_1.toInt ∧ r_1.toInt ≤ N + 2 := by rw [← t_1]; exact hI.1 2 (by decide)
          have c_r_1 := congrArg Int32.toInt t_1
          refine th_Si (As := [.int y129_5, .int r_1]) (rest := [.int y129_6]) E hml hl.1 (y_lesser_v2 l D cI cS τ ρ hW H_c129 hT_1 y129_5 r_1) lk_X12_146 yd_X12_lesser hS_1 (fun _ h => h.elim) ⟨by decide, by decide⟩ (Nat.le_of_ble_eq_true rfl) ⟨by decide, by decide⟩ rfl dX12_hears_139 (fun r_2 H_2 locs_2 p_2 hT_2 hk_2 hS_2 => ?_)
          have p_2 : H_c129 = H_2 ∧ (r_2.toInt ≤ y129_5.toInt ∧ r_2.toInt ≤ r_1.toInt ∧ (r_2.toInt = y129_5.toInt ∨ r_2.toInt = r_1.toInt)) := p_2
          obtain ⟨rfl, p_2_0⟩ := p_2
          refine lv_icmp_ge (tgt := 168) hx hb dX12_hears_142 (by decide) (fun c_3 => ?_) (fun c_3 => ?_)
          · have f_3 : r_2.toInt ≤ y129_6.toInt := r_le rfl rfl c_3
            obtain ⟨x_4, ex_4⟩ : ∃ y : Int32, y55_3 + 1 = y := ⟨_, rfl⟩
            have q_x_4 : x_4.toInt = y55_3.toInt + 1 := i_add (k := 1) (by decide) ex_4 (by have := i_min y55_3; omega) (by have := i_max y55_3; omega)
            refine lv_iinc (v := x_4) (lv' := [(3, .int x_4), (0, .ref a0), (1, .int 0), (2, .int x1), (4, .int y129_4), (5, .int y129_5), (6, .int y129_6)]) hx hb dX12_hears_168 hl (k := 3) rfl (by rw [← ex_4]; rfl) (by decide) rfl (fun ls hl => ?_)
            refine lv_goto (tgt := 55) hx hb dX12_hears_171 (by decide) ?_
            exact ih_55 H_c129 locs_2 _ x_4 g55_0 hT_2 hS_2 (lv_sub hl [1, 2, 3, 0] rfl) (by omega) (by omega) (by omega) (by omega) hg129_0 ⟨hI_c129.1, hI_c129.2.1, hI_c129.2.2.1, hI_c129.2.2.2.1, hI_c129.2.2.2.2.1, hI_c129.2.2.2.2.2⟩ (by omega) hk129_0 ((hk129_2.trans t_1).trans t_1.symm) (by omega)
          · have f_3 : y129_6.toInt < r_2.toInt := r_nle rfl rfl c_3
            refine lv_aload_n hx hb dX12_hears_145 rfl (lv_at hl 0 rfl) ?_
            refine lv_iload_n hx hb dX12_hears_146 rfl (lv_at hl 1 rfl) ?_
            refine lv_bipush (v := 96) hx hb dX12_hears_147 (by decide) ?_
            refine lv_iload hx hb dX12_hears_149 (lv_at hl 6 rfl) ?_
            refine lv_bipush (v := 64) hx hb dX12_hears_151 (by decide) ?_
            refine lv_irem hx hb dX12_hears_153 (by decide) ?_
            refine lv_topi (fun x_5 ex_5 => ?_)
            have q_5 := i_rem (k := 64) (x := y129_6) (by decide) (by decide) ex_5
            have p_5 : 0 ≤ x_5.toInt := q_5.2.2 (by omega)
            refine lv_iadd hx hb dX12_hears_154 ?_
            refine lv_topi (fun x_6 ex_6 => ?_)
            have q_6 : x_6.toInt = 96 + x_5.toInt := i_pl (by decide) rfl ex_6 (by omega) (by omega)
            refine lv_iload hx hb dX12_hears_155 (lv_at hl 6 rfl) ?_
            refine lv_iconst (v := 1) hx hb dX12_hears_157 (by decide) ?_
            refine lv_iadd hx hb dX12_hears_158 ?_
            refine lv_topi (fun x_7 ex_7 => ?_)
            have q_7 : x_7.toInt = y129_6.toInt + 1 := i_pl rfl (by decide) ex_7 (by omega) (by omega)
            refine th_Vv (As := [.int 0, .int x_6, .int x_7]) (rest := []) E hml hl.1 (y_set_v16 l D cI cS τ ρ hW H_c129 hT_2 a0 x_6 x_7 ha0 (by omega)) lk_X12_95 yd_X12_set hT_2 ha0 rfl (by decide) hS_2 (fun q h => h) ⟨by decide, by decide⟩ (Nat.le_of_ble_eq_true rfl) ⟨by decide, by decide⟩ rfl dX12_hears_159 (fun H_8 locs_8 p_8 hT_8 hk_8 hS_8 => ?_)
            have p_8 : (AU 985 H_c129 H_8 (ρ a0 0) (0 + x_6.toInt).toNat x_7) := p_8
            have hW_8 : PW N H_8 (ρ a0 0) := PW.free hI_c129.1 p_8 (by omega)
            obtain ⟨x_9, ex_9⟩ : ∃ y : Int32, y129_6 + 1 = y := ⟨_, rfl⟩
            have q_x_9 : x_9.toInt = y129_6.toInt + 1 := i_add (k := 1) (by decide) ex_9 (by have := i_min y129_6; omega) (by have := i_max y129_6; omega)
            refine lv_iinc (v := x_9) (lv' := [(6, .int x_9), (0, .ref a0), (1, .int 0), (2, .int x1), (3, .int y55_3), (4, .int y129_4), (5, .int y129_5)]) hx hb dX12_hears_162 hl (k := 6) rfl (by rw [← ex_9]; rfl) (by decide) rfl (fun ls hl => ?_)
            refine lv_goto (tgt := 129) hx hb dX12_hears_165 (by decide) ?_
            exact ih_129 H_8 locs_8 _ y129_4 y129_5 x_9 hT_8 hS_8 (lv_sub hl [1, 2, 3, 4, 5, 6, 0] rfl) (by omega) (by omega) (by omega) (by omega) (by omega) (by omega) (by omega) (by omega) (by omega) (by omega) (by have b9 : 0 ≤ (g55_0 : Int32).toInt ∧ (g55_0 : Int32).toInt ≤ 2 := (by rw [← (Eq.trans (ai_q (p_8.2 _ (th_ne (hW _ 12 3 ha0 (by decide) (by decide) (by decide)) (hW _ 12 0 ha0 (by decide) (by decide) (by decide)) (by decide)))) hg129_0)]; exact (PL.q (p_8.2 _ (th_ne (hW _ 12 3 ha0 (by decide) (by decide) (by decide)) (hW _ 12 0 ha0 (by decide) (by decide) (by decide)) (by decide))) hI_c129.2.2.2.2.1) 6 (by decide)); omega) (by have b9 : 0 ≤ (g55_0 : Int32).toInt ∧ (g55_0 : Int32).toInt ≤ 2 := (by rw [← (Eq.trans (ai_q (p_8.2 _ (th_ne (hW _ 12 3 ha0 (by decide) (by decide) (by decide)) (hW _ 12 0 ha0 (by decide) (by decide) (by decide)) (by decide)))) hg129_0)]; exact (PL.q (p_8.2 _ (th_ne (hW _ 12 3 ha0 (by decide) (by decide) (by decide)) (hW _ 12 0 ha0 (by decide) (by decide) (by decide)) (by decide))) hI_c129.2.2.2.2.1) 6 (by decide)); omega) (Eq.trans (ai_q (p_8.2 _ (th_ne (hW _ 12 3 ha0 (by decide) (by decide) (by decide)) (hW _ 12 0 ha0 (by decide) (by decide) (by decide)) (by decide)))) hg129_0) ⟨hW_8, (QS.same ((Eq.trans (AU.o p_8 (by decide) (by omega)) hk129_0).trans hk129_0.symm) ((Eq.trans (AU.o p_8 (by decide) (by omega)) (hk129_2.trans t_1)).trans (hk129_2.trans t_1).symm) hI_c129.2.1), (QS.same (AU.o p_8 (by decide) (by omega)) (AU.o p_8 (by decide) (by omega)) hI_c129.2.2.1), (PL.q (p_8.2 _ (th_ne (hW _ 12 2 ha0 (by decide) (by decide) (by decide)) (hW _ 12 0 ha0 (by decide) (by decide) (by decide)) (by decide))) hI_c129.2.2.2.1), (PL.q (p_8.2 _ (th_ne (hW _ 12 3 ha0 (by decide) (by decide) (by decide)) (hW _ 12 0 ha0 (by decide) (by decide) (by decide)) (by decide))) hI_c129.2.2.2.2.1), (IF.q (p_8.2 _ (th_ne ha0 (hW _ 12 0 ha0 (by decide) (by decide) (by decide)) (by decide))) hI_c129.2.2.2.2.2)⟩ (by rw [(AU.o p_8 (by decide) (by omega))]; omega) (by omega) (Eq.trans (AU.o p_8 (by decide) (by omega)) hk129_0) ((Eq.trans (AU.o p_8 (by decide) (by omega)) (hk129_2.trans t_1)).trans t_1.symm) (by omega)
      refine lv_iload_n hx hb dX12_hears_55 rfl (lv_at hl 3 rfl) ?_
      refine lv_aload_n hx hb dX12_hears_56 rfl (lv_at hl 0 rfl) ?_
      refine gf_X12_19 E hT_c55 hW ha0 dX12_hears_57 (fun h_10 => ?_)
      refine lv_bipush (v := 6) hx hb dX12_hears_60 (by decide) ?_
      refine th_iald E hT_c55 h_10 (by decide) (vp_in_iff.mpr ⟨by decide, by decide⟩) dX12_hears_62 ?_
      refine th_topi (y := ai H_c55 (ρ a0 3) 6) rfl ?_
      refine th_topi (y := g55_0) hg55_0 ?_
      refine lv_icmp_ge (tgt := 174) hx hb dX12_hears_63 (by decide) (fun c_12 => ?_) (fun c_12 => ?_)
      · have f_12 : g55_0.toInt ≤ y55_3.toInt := r_le rfl rfl c_12
        refine lv_aload_n hx hb dX12_hears_174 rfl (lv_at hl 0 rfl) ?_
        refine lv_iload_n hx hb dX12_hears_175 rfl (lv_at hl 1 rfl) ?_
        refine lv_iconst (v := 3) hx hb dX12_hears_176 (by decide) ?_
        refine lv_aload_n hx hb dX12_hears_177 rfl (lv_at hl 0 rfl) ?_
        refine lv_iload_n hx hb dX12_hears_178 rfl (lv_at hl 1 rfl) ?_
        refine lv_iconst (v := 3) hx hb dX12_hears_179 (by decide) ?_
        refine th_Vi (As := [.int 0, .int 3]) (rest := [.int 3, .int 0, .ref a0]) E hml hl.1 (y_get_v15 l D cI cS τ ρ hW H_c55 hT_c55 a0 ha0) lk_X12_99 yd_X12_get hT_c55 ha0 rfl (by decide) hS_c55 (fun _ h => h.elim) ⟨by decide, by decide⟩ (Nat.le_of_ble_eq_true rfl) ⟨by decide, by decide⟩ rfl dX12_hears_180 (fun r_13 H_13 locs_13 p_13 hT_13 hk_13 hS_13 => ?_)
        have p_13 : H_c55 = H_13 ∧ (ai H_c55 (ρ a0 0) 3 = r_13) := p_13
        obtain ⟨rfl, p_13_0⟩ := p_13
        have b_r_13 : 0 ≤ r_13.toInt ∧ r_13.toInt ≤ (2147483647 : Int) := by rw [← p_13_0]; exact hI_c55.1 3 (by decide)
        have c_r_13 := congrArg Int32.toInt p_13_0
        refine lv_iload_n hx hb dX12_hears_183 rfl (lv_at hl 2 rfl) ?_
        refine lv_aload_n hx hb dX12_hears_184 rfl (lv_at hl 0 rfl) ?_
        refine gf_X12_19 E hT_13 hW ha0 dX12_hears_185 (fun h_14 => ?_)
        refine lv_iconst (v := 4) hx hb dX12_hears_188 (by decide) ?_
        refine th_iald E hT_13 h_14 (by decide) (vp_in_iff.mpr ⟨by decide, by decide⟩) dX12_hears_189 ?_
        refine th_topi (y := ai H_c55 (ρ a0 3) 4) rfl ?_
        refine lv_topi (fun x_15 ex_15 => ?_)
        have c_x_15 := congrArg Int32.toInt ex_15.symm
        refine lv_iadd hx hb dX12_hears_190 ?_
        refine lv_topi (fun x_16 ex_16 => ?_)
        refine th_Si (As := [.int r_13, .int x_16]) (rest := [.int 3, .int 0, .ref a0]) E hml hl.1 (y_greater_v3 l D cI cS τ ρ hW H_c55 hT_13 r_13 x_16) lk_X12_103 yd_X12_greater hS_13 (fun _ h => h.elim) ⟨by decide, by decide⟩ (Nat.le_of_ble_eq_true rfl) ⟨by decide, by decide⟩ rfl dX12_hears_191 (fun r_17 H_17 locs_17 p_17 hT_17 hk_17 hS_17 => ?_)
        have p_17 : H_c55 = H_17 ∧ (r_13.toInt ≤ r_17.toInt ∧ x_16.toInt ≤ r_17.toInt ∧ (r_17.toInt = r_13.toInt ∨ r_17.toInt = x_16.toInt)) := p_17
        obtain ⟨rfl, p_17_0⟩ := p_17
        refine th_Vv (As := [.int 0, .int 3, .int r_17]) (rest := []) E hml hl.1 (y_set_v19 l D cI cS τ ρ hW H_c55 hT_17 a0 r_17 ha0) lk_X12_95 yd_X12_set hT_17 ha0 rfl (by decide) hS_17 (fun q h => h) ⟨by decide, by decide⟩ (Nat.le_of_ble_eq_true rfl) ⟨by decide, by decide⟩ rfl dX12_hears_194 (fun H_18 locs_18 p_18 hT_18 hk_18 hS_18 => ?_)
        have p_18 : (AU 985 H_c55 H_18 (ρ a0 0) 3 r_17) := p_18
        have hW_18 : PW N H_18 (ρ a0 0) := PW.put hI_c55.1 p_18 (by show (0 : Int) ≤ r_17.toInt; omega) (by show _ ≤ (2147483647 : Int); exact i_max _)
        exact th_vret E hr hlk hs hT_18 hS_18 ⟨⟨hW_18, (QS.same ((Eq.trans (AU.o p_18 (by decide) (by decide)) hk55_0).trans hk55_0.symm) ((Eq.trans (AU.o p_18 (by decide) (by decide)) hk55_2).trans hk55_2.symm) hI_c55.2.1), (QS.same (AU.o p_18 (by decide) (by decide)) (AU.o p_18 (by decide) (by decide)) hI_c55.2.2.1), (PL.q (p_18.2 _ (th_ne (hW _ 12 2 ha0 (by decide) (by decide) (by decide)) (hW _ 12 0 ha0 (by decide) (by decide) (by decide)) (by decide))) hI_c55.2.2.2.1), (PL.q (p_18.2 _ (th_ne (hW _ 12 3 ha0 (by decide) (by decide) (by decide)) (hW _ 12 0 ha0 (by decide) (by decide) (by decide)) (by decide))) hI_c55.2.2.2.2.1), (IF.q (p_18.2 _ (th_ne ha0 (hW _ 12 0 ha0 (by decide) (by decide) (by decide)) (by decide))) hI_c55.2.2.2.2.2)⟩, (by rw [(AU.o p_18 (by decide) (by decide))]; omega), (Eq.trans (AU.o p_18 (by decide) (by decide)) hk55_0), (Eq.trans (AU.o p_18 (by decide) (by decide)) hk55_2)⟩ dX12_hears_197
      · have f_12 : y55_3.toInt < g55_0.toInt := r_nle rfl rfl c_12
        refine lv_aload_n hx hb dX12_hears_66 rfl (lv_at hl 0 rfl) ?_
        refine lv_iload_n hx hb dX12_hears_67 rfl (lv_at hl 1 rfl) ?_
        refine lv_aload_n hx hb dX12_hears_68 rfl (lv_at hl 0 rfl) ?_
        refine gf_X12_19 E hT_c55 hW ha0 dX12_hears_69 (fun h_19 => ?_)
        refine lv_bipush (v := 8) hx hb dX12_hears_72 (by decide) ?_
        refine lv_iconst (v := 2) hx hb dX12_hears_74 (by decide) ?_
        refine lv_iload_n hx hb dX12_hears_75 rfl (lv_at hl 3 rfl) ?_
        refine lv_imul hx hb dX12_hears_76 ?_
        refine lv_topi (fun x_20 ex_20 => ?_)
        have q_20 : x_20.toInt = 2 * y55_3.toInt := i_ml (by decide) rfl ex_20 (by omega) (by omega)
        refine lv_iadd hx hb dX12_hears_77 ?_
        refine lv_topi (fun x_21 ex_21 => ?_)
        have q_21 : x_21.toInt = 8 + x_20.toInt := i_pl (by decide) rfl ex_21 (by omega) (by omega)
        refine th_iald E hT_c55 h_19 (by decide) (vp_in_iff.mpr ⟨by omega, by omega⟩) dX12_hears_78 ?_
        refine th_topi (y := ai H_c55 (ρ a0 3) x_21.toInt.toNat) rfl ?_
        refine lv_topi (fun x_22 ex_22 => ?_)
        have cl_22 : bL (x_21.toInt.toNat) ≤ x_22.toInt ∧ x_22.toInt ≤ uL (x_21.toInt.toNat) := by rw [ex_22]; exact hI_c55.2.2.2.2.1 _ (by omega)
        refine lv_aload_n hx hb dX12_hears_79 rfl (lv_at hl 0 rfl) ?_
        refine lv_iload_n hx hb dX12_hears_80 rfl (lv_at hl 1 rfl) ?_
        refine lv_iconst (v := 1) hx hb dX12_hears_81 (by decide) ?_
        refine th_Vi (As := [.int 0, .int 1]) (rest := [.int x_22, .int 0, .ref a0]) E hml hl.1 (y_get_v7 l D cI cS τ ρ hW H_c55 hT_c55 a0 ha0) lk_X12_99 yd_X12_get hT_c55 ha0 rfl (by decide) hS_c55 (fun _ h => h.elim) ⟨by decide, by decide⟩ (Nat.le_of_ble_eq_true rfl) ⟨by decide, by decide⟩ rfl dX12_hears_82 (fun r_23 H_23 locs_23 p_23 hT_23 hk_23 hS_23 => ?_)
        have p_23 : H_c55 = H_23 ∧ (ai H_c55 (ρ a0 0) 1 = r_23) := p_23
        obtain ⟨rfl, p_23_0⟩ := p_23
        have b_r_23 : 0 ≤ r_23.toInt ∧ r_23.toInt ≤ N + 2 := by rw [← p_23_0]; exact hI_c55.1 1 (by decide)
        have c_r_23 := congrArg Int32.toInt p_23_0
        refine th_Vi (As := [.int 0, .int x_22, .int r_23]) (rest := []) E hml hl.1 (y_means l D cI cS τ ρ hW H_c55 hT_23 a0 x_22 r_23 ha0 (by omega)) lk_X12_208 yd_X12_means hT_23 ha0 rfl (by decide) hS_23 (fun _ h => h.elim) ⟨by decide, by decide⟩ (Nat.le_of_ble_eq_true rfl) ⟨by decide, by decide⟩ rfl dX12_hears_85 (fun r_24 H_24 locs_24 p_24 hT_24 hk_24 hS_24 => ?_)
        have p_24 : H_c55 = H_24 ∧ (r_23.toInt - 128 ≤ r_24.toInt ∧ r_24.toInt ≤ r_23.toInt + 127) := p_24
        obtain ⟨rfl, p_24_0⟩ := p_24
        refine lv_istore (lv' := [(4, .int r_24), (0, .ref a0), (1, .int 0), (2, .int x1), (3, .int y55_3)]) hx hb dX12_hears_88 hl (by decide) rfl (fun ls hl => ?_)
        refine lv_aload_n hx hb dX12_hears_90 rfl (lv_at hl 1 rfl) ?_
        refine lv_iload_n hx hb dX12_hears_91 rfl (lv_at hl 2 rfl) ?_
        refine lv_aload_n hx hb dX12_hears_92 rfl (lv_at hl 1 rfl) ?_
        refine gf_X12_19 E hT_24 hW ha0 dX12_hears_93 (fun h_25 => ?_)
        refine lv_bipush (v := 8) hx hb dX12_hears_96 (by decide) ?_
        refine lv_iconst (v := 2) hx hb dX12_hears_98 (by decide) ?_
        refine lv_iload_n hx hb dX12_hears_99 rfl (lv_at hl 4 rfl) ?_
        refine lv_imul hx hb dX12_hears_100 ?_
        refine lv_topi (fun x_26 ex_26 => ?_)
        have q_26 : x_26.toInt = 2 * y55_3.toInt := i_ml (by decide) rfl ex_26 (by omega) (by omega)
        refine lv_iadd hx hb dX12_hears_101 ?_
        refine lv_topi (fun x_27 ex_27 => ?_)
        have q_27 : x_27.toInt = 8 + x_26.toInt := i_pl (by decide) rfl ex_27 (by omega) (by omega)
        refine lv_iconst (v := 1) hx hb dX12_hears_102 (by decide) ?_
        refine lv_iadd hx hb dX12_hears_103 ?_
        refine lv_topi (fun x_28 ex_28 => ?_)
        have q_28 : x_28.toInt = x_27.toInt + 1 := i_pl rfl (by decide) ex_28 (by omega) (by omega)
        refine th_iald E hT_24 h_25 (by decide) (vp_in_iff.mpr ⟨by omega, by omega⟩) dX12_hears_104 ?_
        refine th_topi (y := ai H_c55 (ρ a0 3) x_28.toInt.toNat) rfl ?_
        refine lv_topi (fun x_29 ex_29 => ?_)
        have cl_29 : bL (x_28.toInt.toNat) ≤ x_29.toInt ∧ x_29.toInt ≤ uL (x_28.toInt.toNat) := by rw [ex_29]; exact hI_c55.2.2.2.2.1 _ (by omega)
        refine lv_aload_n hx hb dX12_hears_105 rfl (lv_at hl 1 rfl) ?_
        refine lv_iload_n hx hb dX12_hears_106 rfl (lv_at hl 2 rfl) ?_
        refine lv_iconst (v := 1) hx hb dX12_hears_107 (by decide) ?_
        refine th_Vi (As := [.int 0, .int 1]) (rest := [.int x_29, .int 0, .ref a0]) E hml hl.1 (y_get_v7 l D cI cS τ ρ hW H_c55 hT_24 a0 ha0) lk_X12_99 yd_X12_get hT_24 ha0 rfl (by decide) hS_24 (fun _ h => h.elim) ⟨by decide, by decide⟩ (Nat.le_of_ble_eq_true rfl) ⟨by decide, by decide⟩ rfl dX12_hears_108 (fun r_30 H_30 locs_30 p_30 hT_30 hk_30 hS_30 => ?_)
        have p_30 : H_c55 = H_30 ∧ (ai H_c55 (ρ a0 0) 1 = r_30) := p_30
        obtain ⟨rfl, p_30_0⟩ := p_30
        have s_30 : r_30 = r_23 := p_30_0.symm.trans p_23_0
        refine th_topi s_30 ?_
        refine th_Vi (As := [.int 0, .int x_29, .int r_23]) (rest := []) E hml hl.1 (y_means l D cI cS τ ρ hW H_c55 hT_30 a0 x_29 r_23 ha0 (by omega)) lk_X12_208 yd_X12_means hT_30 ha0 rfl (by decide) hS_30 (fun _ h => h.elim) ⟨by decide, by decide⟩ (Nat.le_of_ble_eq_true rfl) ⟨by decide, by decide⟩ rfl dX12_hears_111 (fun r_31 H_31 locs_31 p_31 hT_31 hk_31 hS_31 => ?_)
        have p_31 : H_c55 = H_31 ∧ (r_23.toInt - 128 ≤ r_31.toInt ∧ r_31.toInt ≤ r_23.toInt + 127) := p_31
        obtain ⟨rfl, p_31_0⟩ := p_31
        refine lv_istore (lv' := [(5, .int r_31), (4, .int r_24), (0, .ref a0), (1, .int 0), (2, .int x1), (3, .int y55_3)]) hx hb dX12_hears_114 hl (by decide) rfl (fun ls hl => ?_)
        refine lv_iload hx hb dX12_hears_116 (lv_at hl 1 rfl) ?_
        refine lv_aload_n hx hb dX12_hears_118 rfl (lv_at hl 2 rfl) ?_
        refine lv_iload_n hx hb dX12_hears_119 rfl (lv_at hl 3 rfl) ?_
        refine lv_iconst (v := 1) hx hb dX12_hears_120 (by decide) ?_
        refine th_Vi (As := [.int 0, .int 1]) (rest := [.int r_24]) E hml hl.1 (y_get_v7 l D cI cS τ ρ hW H_c55 hT_31 a0 ha0) lk_X12_99 yd_X12_get hT_31 ha0 rfl (by decide) hS_31 (fun _ h => h.elim) ⟨by decide, by decide⟩ (Nat.le_of_ble_eq_true rfl) ⟨by decide, by decide⟩ rfl dX12_hears_121 (fun r_32 H_32 locs_32 p_32 hT_32 hk_32 hS_32 => ?_)
        have p_32 : H_c55 = H_32 ∧ (ai H_c55 (ρ a0 0) 1 = r_32) := p_32
        obtain ⟨rfl, p_32_0⟩ := p_32
        have s_32 : r_32 = r_23 := p_32_0.symm.trans p_23_0
        refine th_topi s_32 ?_
        refine th_Si (As := [.int r_24, .int r_23]) (rest := []) E hml hl.1 (y_greater_v3 l D cI cS τ ρ hW H_c55 hT_32 r_24 r_23) lk_X12_103 yd_X12_greater hS_32 (fun _ h => h.elim) ⟨by decide, by decide⟩ (Nat.le_of_ble_eq_true rfl) ⟨by decide, by decide⟩ rfl dX12_hears_124 (fun r_33 H_33 locs_33 p_33 hT_33 hk_33 hS_33 => ?_)
        have p_33 : H_c55 = H_33 ∧ (r_24.toInt ≤ r_33.toInt ∧ r_23.toInt ≤ r_33.toInt ∧ (r_33.toInt = r_24.toInt ∨ r_33.toInt = r_23.toInt)) := p_33
        obtain ⟨rfl, p_33_0⟩ := p_33
        refine lv_istore (lv' := [(6, .int r_33), (5, .int r_31), (4, .int r_24), (0, .ref a0), (1, .int 0), (2, .int x1), (3, .int y55_3)]) hx hb dX12_hears_127 hl (by decide) rfl (fun ls hl => ?_)
        exact L_129 _ H_c55 locs_33 _ r_24 r_31 r_33 hT_33 hS_33 (lv_sub hl [3, 4, 5, 6, 2, 1, 0] rfl) (by omega) (by omega) (by omega) (by omega) (by omega) (by omega) (by omega) (by omega) (by omega) (by omega) (by have b9 : 0 ≤ (g55_0 : Int32).toInt ∧ (g55_0 : Int32).toInt ≤ 2 := (by rw [← hg55_0]; exact hI_c55.2.2.2.2.1 6 (by decide)); omega) (by have b9 : 0 ≤ (g55_0 : Int32).toInt ∧ (g55_0 : Int32).toInt ≤ 2 := (by rw [← hg55_0]; exact hI_c55.2.2.2.2.1 6 (by decide)); omega) hg55_0 ⟨hI_c55.1, hI_c55.2.1, hI_c55.2.2.1, hI_c55.2.2.2.1, hI_c55.2.2.2.2.1, hI_c55.2.2.2.2.2⟩ (by omega) (by omega) hk55_0 hk55_2 (Nat.lt_succ_self _)
  have J_53 : ∀ (H_c53 : Heap) (lc_c53 : List Loc) (ls : Array Slot), TH D cI cS τ ρ H_c53 → SS (fun q => q = ρ a0 0) H H_c53 lc_c53 → lv_has ls 7 [(0, .ref a0), (1, .int 0), (2, .int x1)] → -1000 ≤ x1.toInt → x1.toInt ≤ 602 → IM D ρ N H_c53 a0 → (ai H (ρ a0 0) 976).toInt ≤ (ai H_c53 (ρ a0 0) 976).toInt → ai H_c53 (ρ a0 0) 0 = ai H (ρ a0 0) 0 → ai H_c53 (ρ a0 0) 2 = ai H (ρ a0 0) 2 → W p l e (rmO 2 46) s m args below meth c H_c53 lc_c53 0 0 (MQ below (va_Qv (fun (u : Heap) => (IM D ρ N u a0) ∧ ((ai H (ρ a0 0) 976).toInt ≤ (ai u (ρ a0 0) 976).toInt) ∧ (ai u (ρ a0 0) 0 = ai H (ρ a0 0) 0) ∧ (ai u (ρ a0 0) 2 = ai H (ρ a0 0) 2)) (Bt D cI cS τ ρ H) (fun q => q = ρ a0 0)) args s 0 0 (fun q => q = ρ a0 0)) (F0 m 53 ls []) := by
    intro H_c53 lc_c53 ls hT_c53 hS_c53 hl ly53_2 uy53_2 hI_c53 hmn_c53 hk53_0 hk53_2
    refine lv_iconst (v := 0) hx hb dX12_hears_53 (by decide) ?_
    refine lv_istore_n (lv' := [(3, .int 0), (0, .ref a0), (1, .int 0), (2, .int x1)]) hx hb dX12_hears_54 rfl hl (by decide) rfl (fun ls hl => ?_)
    exact L_55 _ H_c53 lc_c53 _ 0 (ai H_c53 (ρ a0 3) 6) hT_c53 hS_c53 (lv_sub hl [1, 2, 3, 0] rfl) (by omega) (by omega) (by decide) (by decide) rfl ⟨hI_c53.1, hI_c53.2.1, hI_c53.2.2.1, hI_c53.2.2.2.1, hI_c53.2.2.2.2.1, hI_c53.2.2.2.2.2⟩ (by omega) hk53_0 hk53_2 (Nat.lt_succ_self _)
  refine lv_iload_n hx hb dX12_hears_0 rfl (lv_at hl 2 rfl) ?_
  refine lv_aload_n hx hb dX12_hears_1 rfl (lv_at hl 0 rfl) ?_
  refine lv_iload_n hx hb dX12_hears_2 rfl (lv_at hl 1 rfl) ?_
  refine lv_iconst (v := 1) hx hb dX12_hears_3 (by decide) ?_
  refine th_Vi (As := [.int 0, .int 1]) (rest := [.int x1]) E hml hl.1 (y_get_v7 l D cI cS τ ρ hW H hT a0 ha0) lk_X12_99 yd_X12_get hT ha0 rfl (by decide) hS (fun _ h => h.elim) ⟨by decide, by decide⟩ (Nat.le_of_ble_eq_true rfl) ⟨by decide, by decide⟩ rfl dX12_hears_4 (fun r_34 H_34 locs_34 p_34 hT_34 hk_34 hS_34 => ?_)
  have p_34 : H = H_34 ∧ (ai H (ρ a0 0) 1 = r_34) := p_34
  obtain ⟨rfl, p_34_0⟩ := p_34
  have b_r_34 : 0 ≤ r_34.toInt ∧ r_34.toInt ≤ N + 2 := by rw [← p_34_0]; exact hI.1 1 (by decide)
  have c_r_34 := congrArg Int32.toInt p_34_0
  refine lv_icmp_le (tgt := 53) hx hb dX12_hears_7 (by decide) (fun c_35 => ?_) (fun c_35 => ?_)
  · have f_35 : x1.toInt ≤ r_34.toInt := r_le rfl rfl c_35
    exact J_53 H locs_34 _ hT_34 hS_34 hl (by omega) (by omega) ⟨hI.1, hI.2.1, hI.2.2.1, hI.2.2.2.1, hI.2.2.2.2.1, hI.2.2.2.2.2⟩ (by omega) rfl rfl
  · have f_35 : r_34.toInt < x1.toInt := r_nle rfl rfl c_35
    refine lv_aload_n hx hb dX12_hears_10 rfl (lv_at hl 0 rfl) ?_
    refine lv_iload_n hx hb dX12_hears_11 rfl (lv_at hl 1 rfl) ?_
    refine lv_iconst (v := 1) hx hb dX12_hears_12 (by decide) ?_
    refine lv_iload_n hx hb dX12_hears_13 rfl (lv_at hl 2 rfl) ?_
    refine th_Vv (As := [.int 0, .int 1, .int x1]) (rest := []) E hml hl.1 (y_set_v9 l D cI cS τ ρ hW H hT_34 a0 x1 ha0) lk_X12_95 yd_X12_set hT_34 ha0 rfl (by decide) hS_34 (fun q h => h) ⟨by decide, by decide⟩ (Nat.le_of_ble_eq_true rfl) ⟨by decide, by decide⟩ rfl dX12_hears_14 (fun H_36 locs_36 p_36 hT_36 hk_36 hS_36 => ?_)
    have p_36 : (AU 985 H H_36 (ρ a0 0) 1 x1) := p_36
    have hW_36 : PW N H_36 (ρ a0 0) := PW.put hI.1 p_36 (by show (0 : Int) ≤ x1.toInt; omega) (by show x1.toInt ≤ (N + 2 : Int); omega)
    refine lv_aload_n hx hb dX12_hears_17 rfl (lv_at hl 0 rfl) ?_
    refine lv_iload_n hx hb dX12_hears_18 rfl (lv_at hl 1 rfl) ?_
    refine lv_bipush (v := 11) hx hb dX12_hears_19 (by decide) ?_
    refine lv_iconst (v := 0) hx hb dX12_hears_21 (by decide) ?_
    refine th_Vv (As := [.int 0, .int 11, .int 0]) (rest := []) E hml hl.1 (y_set_v10 l D cI cS τ ρ hW H_36 hT_36 a0 ha0) lk_X12_95 yd_X12_set hT_36 ha0 rfl (by decide) hS_36 (fun q h => h) ⟨by decide, by decide⟩ (Nat.le_of_ble_eq_true rfl) ⟨by decide, by decide⟩ rfl dX12_hears_22 (fun H_37 locs_37 p_37 hT_37 hk_37 hS_37 => ?_)
    have p_37 : (AU 985 H_36 H_37 (ρ a0 0) 11 (0)) := p_37
    have hW_37 : PW N H_37 (ρ a0 0) := PW.put hW_36 p_37 (by show (-2147483648 : Int) ≤ _; exact i_min _) (by show _ ≤ (2147483647 : Int); exact i_max _)
    refine lv_aload_n hx hb dX12_hears_25 rfl (lv_at hl 0 rfl) ?_
    refine lv_iload_n hx hb dX12_hears_26 rfl (lv_at hl 1 rfl) ?_
    refine lv_bipush (v := 16) hx hb dX12_hears_27 (by decide) ?_
    refine th_Vi (As := [.int 0, .int 16]) (rest := []) E hml hl.1 (y_get_v8 l D cI cS τ ρ hW H_37 hT_37 a0 ha0) lk_X12_99 yd_X12_get hT_37 ha0 rfl (by decide) hS_37 (fun _ h => h.elim) ⟨by decide, by decide⟩ (Nat.le_of_ble_eq_true rfl) ⟨by decide, by decide⟩ rfl dX12_hears_29 (fun r_38 H_38 locs_38 p_38 hT_38 hk_38 hS_38 => ?_)
    have p_38 : H_37 = H_38 ∧ (ai H_37 (ρ a0 0) 16 = r_38) := p_38
    obtain ⟨rfl, p_38_0⟩ := p_38
    have t_38 : ai H (ρ a0 0) 16 = r_38 := (Eq.trans (AU.o p_37 (by decide) (by decide)) (AU.o p_36 (by decide) (by decide))).symm.trans p_38_0
    have c_r_38 := congrArg Int32.toInt t_38
    refine lv_bipush (v := (-4)) hx hb dX12_hears_32 (by decide) ?_
    refine lv_icmp_eq (tgt := 53) hx hb dX12_hears_34 (by decide) (fun c_39 => ?_) (fun c_39 => ?_)
    · have f_39 : r_38.toInt = -4 := r_eq rfl (by decide) c_39
      exact J_53 H_37 locs_38 _ hT_38 hS_38 hl (by omega) (by omega) ⟨hW_37, (QS.same (Eq.trans (AU.o p_37 (by decide) (by decide)) (AU.o p_36 (by decide) (by decide))) (Eq.trans (AU.o p_37 (by decide) (by decide)) (AU.o p_36 (by decide) (by decide))) hI.2.1), (QS.same (Eq.trans (AU.o p_37 (by decide) (by decide)) (AU.o p_36 (by decide) (by decide))) (Eq.trans (AU.o p_37 (by decide) (by decide)) (AU.o p_36 (by decide) (by decide))) hI.2.2.1), (PL.q (p_37.2 _ (th_ne (hW _ 12 2 ha0 (by decide) (by decide) (by decide)) (hW _ 12 0 ha0 (by decide) (by decide) (by decide)) (by decide))) (PL.q (p_36.2 _ (th_ne (hW _ 12 2 ha0 (by decide) (by decide) (by decide)) (hW _ 12 0 ha0 (by decide) (by decide) (by decide)) (by decide))) hI.2.2.2.1)), (PL.q (p_37.2 _ (th_ne (hW _ 12 3 ha0 (by decide) (by decide) (by decide)) (hW _ 12 0 ha0 (by decide) (by decide) (by decide)) (by decide))) (PL.q (p_36.2 _ (th_ne (hW _ 12 3 ha0 (by decide) (by decide) (by decide)) (hW _ 12 0 ha0 (by decide) (by decide) (by decide)) (by decide))) hI.2.2.2.2.1)), (IF.q (p_37.2 _ (th_ne ha0 (hW _ 12 0 ha0 (by decide) (by decide) (by decide)) (by decide))) (IF.q (p_36.2 _ (th_ne ha0 (hW _ 12 0 ha0 (by decide) (by decide) (by decide)) (by decide))) hI.2.2.2.2.2))⟩ (by rw [(Eq.trans (AU.o p_37 (by decide) (by decide)) (AU.o p_36 (by decide) (by decide)))]; omega) (Eq.trans (AU.o p_37 (by decide) (by decide)) (AU.o p_36 (by decide) (by decide))) (Eq.trans (AU.o p_37 (by decide) (by decide)) (AU.o p_36 (by decide) (by decide)))
    · have f_39 : ¬ r_38.toInt = -4 := r_ne rfl (by decide) c_39
      refine lv_iload_n hx hb dX12_hears_37 rfl (lv_at hl 2 rfl) ?_
      refine lv_aload_n hx hb dX12_hears_38 rfl (lv_at hl 0 rfl) ?_
      refine lv_iload_n hx hb dX12_hears_39 rfl (lv_at hl 1 rfl) ?_
      refine lv_bipush (v := 16) hx hb dX12_hears_40 (by decide) ?_
      refine th_Vi (As := [.int 0, .int 16]) (rest := [.int x1]) E hml hl.1 (y_get_v8 l D cI cS τ ρ hW H_37 hT_38 a0 ha0) lk_X12_99 yd_X12_get hT_38 ha0 rfl (by decide) hS_38 (fun _ h => h.elim) ⟨by decide, by decide⟩ (Nat.le_of_ble_eq_true rfl) ⟨by decide, by decide⟩ rfl dX12_hears_42 (fun r_40 H_40 locs_40 p_40 hT_40 hk_40 hS_40 => ?_)
      have p_40 : H_37 = H_40 ∧ (ai H_37 (ρ a0 0) 16 = r_40) := p_40
      obtain ⟨rfl, p_40_0⟩ := p_40
      have s_40 : r_40 = r_38 := p_40_0.symm.trans ((Eq.trans (AU.o p_37 (by decide) (by decide)) (AU.o p_36 (by decide) (by decide))).trans t_38)
      refine th_topi s_40 ?_
      refine lv_icmp_le (tgt := 53) hx hb dX12_hears_45 (by decide) (fun c_41 => ?_) (fun c_41 => ?_)
      · have f_41 : x1.toInt ≤ r_38.toInt := r_le rfl rfl c_41
        exact J_53 H_37 locs_40 _ hT_40 hS_40 hl (by omega) (by omega) ⟨hW_37, (QS.same (Eq.trans (AU.o p_37 (by decide) (by decide)) (AU.o p_36 (by decide) (by decide))) (Eq.trans (AU.o p_37 (by decide) (by decide)) (AU.o p_36 (by decide) (by decide))) hI.2.1), (QS.same (Eq.trans (AU.o p_37 (by decide) (by decide)) (AU.o p_36 (by decide) (by decide))) (Eq.trans (AU.o p_37 (by decide) (by decide)) (AU.o p_36 (by decide) (by decide))) hI.2.2.1), (PL.q (p_37.2 _ (th_ne (hW _ 12 2 ha0 (by decide) (by decide) (by decide)) (hW _ 12 0 ha0 (by decide) (by decide) (by decide)) (by decide))) (PL.q (p_36.2 _ (th_ne (hW _ 12 2 ha0 (by decide) (by decide) (by decide)) (hW _ 12 0 ha0 (by decide) (by decide) (by decide)) (by decide))) hI.2.2.2.1)), (PL.q (p_37.2 _ (th_ne (hW _ 12 3 ha0 (by decide) (by decide) (by decide)) (hW _ 12 0 ha0 (by decide) (by decide) (by decide)) (by decide))) (PL.q (p_36.2 _ (th_ne (hW _ 12 3 ha0 (by decide) (by decide) (by decide)) (hW _ 12 0 ha0 (by decide) (by decide) (by decide)) (by decide))) hI.2.2.2.2.1)), (IF.q (p_37.2 _ (th_ne ha0 (hW _ 12 0 ha0 (by decide) (by decide) (by decide)) (by decide))) (IF.q (p_36.2 _ (th_ne ha0 (hW _ 12 0 ha0 (by decide) (by decide) (by decide)) (by decide))) hI.2.2.2.2.2))⟩ (by rw [(Eq.trans (AU.o p_37 (by decide) (by decide)) (AU.o p_36 (by decide) (by decide)))]; omega) (Eq.trans (AU.o p_37 (by decide) (by decide)) (AU.o p_36 (by decide) (by decide))) (Eq.trans (AU.o p_37 (by decide) (by decide)) (AU.o p_36 (by decide) (by decide)))
      · have f_41 : r_38.toInt < x1.toInt := r_nle rfl rfl c_41
        refine lv_aload_n hx hb dX12_hears_48 rfl (lv_at hl 0 rfl) ?_
        refine lv_iload_n hx hb dX12_hears_49 rfl (lv_at hl 1 rfl) ?_
        refine th_Vv (As := [.int 0]) (rest := []) E hml hl.1 (y_rounds_v2 l D cI cS τ ρ hW H_37 hT_40 a0 ha0 N hN0 hN1 ⟨hW_37, (QS.same (Eq.trans (AU.o p_37 (by decide) (by decide)) (AU.o p_36 (by decide) (by decide))) (Eq.trans (AU.o p_37 (by decide) (by decide)) (AU.o p_36 (by decide) (by decide))) hI.2.1), (QS.same (Eq.trans (AU.o p_37 (by decide) (by decide)) (AU.o p_36 (by decide) (by decide))) (Eq.trans (AU.o p_37 (by decide) (by decide)) (AU.o p_36 (by decide) (by decide))) hI.2.2.1), (PL.q (p_37.2 _ (th_ne (hW _ 12 2 ha0 (by decide) (by decide) (by decide)) (hW _ 12 0 ha0 (by decide) (by decide) (by decide)) (by decide))) (PL.q (p_36.2 _ (th_ne (hW _ 12 2 ha0 (by decide) (by decide) (by decide)) (hW _ 12 0 ha0 (by decide) (by decide) (by decide)) (by decide))) hI.2.2.2.1)), (PL.q (p_37.2 _ (th_ne (hW _ 12 3 ha0 (by decide) (by decide) (by decide)) (hW _ 12 0 ha0 (by decide) (by decide) (by decide)) (by decide))) (PL.q (p_36.2 _ (th_ne (hW _ 12 3 ha0 (by decide) (by decide) (by decide)) (hW _ 12 0 ha0 (by decide) (by decide) (by decide)) (by decide))) hI.2.2.2.2.1)), (IF.q (p_37.2 _ (th_ne ha0 (hW _ 12 0 ha0 (by decide) (by decide) (by decide)) (by decide))) (IF.q (p_36.2 _ (th_ne ha0 (hW _ 12 0 ha0 (by decide) (by decide) (by decide)) (by decide))) hI.2.2.2.2.2))⟩) lk_X12_215 yd_X12_rounds hT_40 ha0 rfl (by decide) hS_40 (fun q h => h) ⟨by decide, by decide⟩ (Nat.le_of_ble_eq_true rfl) ⟨by decide, by decide⟩ rfl dX12_hears_50 (fun H_42 locs_42 p_42 hT_42 hk_42 hS_42 => ?_)
        have p_42 : (IM D ρ N H_42 a0) ∧ ((ai H_37 (ρ a0 0) 976).toInt ≤ (ai H_42 (ρ a0 0) 976).toInt) ∧ (ai H_42 (ρ a0 0) 0 = ai H_37 (ρ a0 0) 0) ∧ (ai H_42 (ρ a0 0) 2 = ai H_37 (ρ a0 0) 2) := p_42
        obtain ⟨p_42_0, p_42_1, p_42_2, p_42_3⟩ := p_42
        have mn_42 : (ai H (ρ a0 0) 976).toInt ≤ (ai H_42 (ρ a0 0) 976).toInt := by have h := p_42_1; rw [(Eq.trans (AU.o p_37 (by decide) (by decide)) (AU.o p_36 (by decide) (by decide)))] at h; exact h
        exact J_53 H_42 locs_42 _ hT_42 hS_42 hl (by omega) (by omega) ⟨p_42_0.1, p_42_0.2.1, p_42_0.2.2.1, p_42_0.2.2.2.1, p_42_0.2.2.2.2.1, p_42_0.2.2.2.2.2⟩ (by omega) (Eq.trans p_42_2 (Eq.trans (AU.o p_37 (by decide) (by decide)) (AU.o p_36 (by decide) (by decide)))) (Eq.trans p_42_3 (Eq.trans (AU.o p_37 (by decide) (by decide)) (AU.o p_36 (by decide) (by decide))))
set_option maxHeartbeats 4000000 in
set_option maxRecDepth 100000 in
/-- the reference: has -/
theorem y_has (l : Launch) (D : va_G) (cI cS : ClassId) (τ : Nat → Option Nat) (ρ : Nat → Nat → Nat) (hW : WF τ ρ) (H : Heap) (hT : TH D cI cS τ ρ H) (a0 : Nat) (ha0 : τ a0 = some 12) : MI l D cI cS τ ρ yX12_has cX12_has 2 (some .boolean) 0 0 H [.ref a0, .int 2] (fun (r : Int32) (u : Heap) => (H = u) ∧ (r = 0 ∨ r = 1)) (fun q => False) := by
  refine MI.of (by decide) (Nat.le_of_ble_eq_true rfl) ?_
  intro p e s m args below meth c E hml hr hlk hs ls hl
  have hx := E.1
  have hb := E.2.1
  have hown := E.2.2.1
  have hts := E.2.2.2.1
  have hS : SS (fun q => False) H H [] := SS.rf
  have hl : lv_has ls 2 [(0, .ref a0), (1, .int 2)] := hl
  refine lv_aload_n hx hb dX12_has_0 rfl (lv_at hl 0 rfl) ?_
  refine gf_X12_19 E hT hW ha0 dX12_has_1 (fun h_1 => ?_)
  refine lv_iconst (v := 1) hx hb dX12_has_4 (by decide) ?_
  refine th_iald E hT h_1 (by decide) (vp_in_iff.mpr ⟨by decide, by decide⟩) dX12_has_5 ?_
  refine th_topi (y := ai H (ρ a0 3) 1) rfl ?_
  refine lv_topi (fun x_2 ex_2 => ?_)
  have c_x_2 := congrArg Int32.toInt ex_2.symm
  refine lv_iload_n hx hb dX12_has_6 rfl (lv_at hl 1 rfl) ?_
  refine lv_iand hx hb dX12_has_7 ?_
  refine lv_topi (fun x_3 ex_3 => ?_)
  have q_3 := i_msk (k := 2) (x := x_2) (by decide) (by decide) ex_3
  refine lv_if_le (tgt := 15) hx hb dX12_has_8 (by decide) (fun c_4 => ?_) (fun c_4 => ?_)
  · have f_4 : x_3.toInt ≤ 0 := r_le rfl (by decide) c_4
    refine lv_iconst (v := 0) hx hb dX12_has_15 (by decide) ?_
    exact th_zret E hr hlk hs (Or.inl rfl) hT hS ⟨rfl, (Or.inl rfl)⟩ dX12_has_16
  · have f_4 : 0 < x_3.toInt := r_nle rfl (by decide) c_4
    refine lv_iconst (v := 1) hx hb dX12_has_11 (by decide) ?_
    refine lv_goto (tgt := 16) hx hb dX12_has_12 (by decide) ?_
    exact th_zret E hr hlk hs (Or.inr rfl) hT hS ⟨rfl, (Or.inr rfl)⟩ dX12_has_16
set_option maxHeartbeats 4000000 in
set_option maxRecDepth 100000 in
/-- the reference: get -/
theorem y_get_v17 (l : Launch) (D : va_G) (cI cS : ClassId) (τ : Nat → Option Nat) (ρ : Nat → Nat → Nat) (hW : WF τ ρ) (H : Heap) (hT : TH D cI cS τ ρ H) (a0 : Nat) (ha0 : τ a0 = some 12) : MI l D cI cS τ ρ yX12_get cX12_get 3 (some .int) 0 0 H [.ref a0, .int 1, .int 17] (fun (r : Int32) (u : Heap) => (H = u) ∧ (ai H (ρ a0 0) 305 = r)) (fun q => False) := by
  refine MI.of (by decide) (Nat.le_of_ble_eq_true rfl) ?_
  intro p e s m args below meth c E hml hr hlk hs ls hl
  have hx := E.1
  have hb := E.2.1
  have hown := E.2.2.1
  have hts := E.2.2.2.1
  have hS : SS (fun q => False) H H [] := SS.rf
  have hl : lv_has ls 3 [(0, .ref a0), (1, .int 1), (2, .int 17)] := hl
  refine lv_aload_n hx hb dX12_get_0 rfl (lv_at hl 0 rfl) ?_
  refine gf_X12_7 E hT hW ha0 dX12_get_1 (fun h_1 => ?_)
  refine lv_sipush (v := 288) hx hb dX12_get_4 (by decide) ?_
  refine lv_iload_n hx hb dX12_get_7 rfl (lv_at hl 1 rfl) ?_
  refine lv_imul hx hb dX12_get_8 ?_
  refine th_topi (y := 288) (by decide) ?_
  refine lv_iload_n hx hb dX12_get_9 rfl (lv_at hl 2 rfl) ?_
  refine lv_iadd hx hb dX12_get_10 ?_
  refine th_topi (y := 305) (by decide) ?_
  refine th_iald E hT h_1 (by decide) (vp_in_iff.mpr ⟨by decide, by decide⟩) dX12_get_11 ?_
  refine th_topi (y := ai H (ρ a0 0) 305) rfl ?_
  refine lv_topi (fun x_2 ex_2 => ?_)
  have c_x_2 := congrArg Int32.toInt ex_2.symm
  exact th_iret E hr hlk hs hT hS ⟨rfl, ex_2.symm⟩ dX12_get_12
set_option maxHeartbeats 4000000 in
set_option maxRecDepth 100000 in
/-- the reference: get -/
theorem y_get_v18 (l : Launch) (D : va_G) (cI cS : ClassId) (τ : Nat → Option Nat) (ρ : Nat → Nat → Nat) (hW : WF τ ρ) (H : Heap) (hT : TH D cI cS τ ρ H) (a0 : Nat) (ha0 : τ a0 = some 12) : MI l D cI cS τ ρ yX12_get cX12_get 3 (some .int) 0 0 H [.ref a0, .int 1, .int 5] (fun (r : Int32) (u : Heap) => (H = u) ∧ (ai H (ρ a0 0) 293 = r)) (fun q => False) := by
  refine MI.of (by decide) (Nat.le_of_ble_eq_true rfl) ?_
  intro p e s m args below meth c E hml hr hlk hs ls hl
  have hx := E.1
  have hb := E.2.1
  have hown := E.2.2.1
  have hts := E.2.2.2.1
  have hS : SS (fun q => False) H H [] := SS.rf
  have hl : lv_has ls 3 [(0, .ref a0), (1, .int 1), (2, .int 5)] := hl
  refine lv_aload_n hx hb dX12_get_0 rfl (lv_at hl 0 rfl) ?_
  refine gf_X12_7 E hT hW ha0 dX12_get_1 (fun h_1 => ?_)
  refine lv_sipush (v := 288) hx hb dX12_get_4 (by decide) ?_
  refine lv_iload_n hx hb dX12_get_7 rfl (lv_at hl 1 rfl) ?_
  refine lv_imul hx hb dX12_get_8 ?_
  refine th_topi (y := 288) (by decide) ?_
  refine lv_iload_n hx hb dX12_get_9 rfl (lv_at hl 2 rfl) ?_
  refine lv_iadd hx hb dX12_get_10 ?_
  refine th_topi (y := 293) (by decide) ?_
  refine th_iald E hT h_1 (by decide) (vp_in_iff.mpr ⟨by decide, by decide⟩) dX12_get_11 ?_
  refine th_topi (y := ai H (ρ a0 0) 293) rfl ?_
  refine lv_topi (fun x_2 ex_2 => ?_)
  have c_x_2 := congrArg Int32.toInt ex_2.symm
  exact th_iret E hr hlk hs hT hS ⟨rfl, ex_2.symm⟩ dX12_get_12
set_option maxHeartbeats 4000000 in
set_option maxRecDepth 100000 in
/-- the reference: get -/
theorem y_get_v19 (l : Launch) (D : va_G) (cI cS : ClassId) (τ : Nat → Option Nat) (ρ : Nat → Nat → Nat) (hW : WF τ ρ) (H : Heap) (hT : TH D cI cS τ ρ H) (a0 : Nat) (ha0 : τ a0 = some 12) : MI l D cI cS τ ρ yX12_get cX12_get 3 (some .int) 0 0 H [.ref a0, .int 1, .int 7] (fun (r : Int32) (u : Heap) => (H = u) ∧ (ai H (ρ a0 0) 295 = r)) (fun q => False) := by
  refine MI.of (by decide) (Nat.le_of_ble_eq_true rfl) ?_
  intro p e s m args below meth c E hml hr hlk hs ls hl
  have hx := E.1
  have hb := E.2.1
  have hown := E.2.2.1
  have hts := E.2.2.2.1
  have hS : SS (fun q => False) H H [] := SS.rf
  have hl : lv_has ls 3 [(0, .ref a0), (1, .int 1), (2, .int 7)] := hl
  refine lv_aload_n hx hb dX12_get_0 rfl (lv_at hl 0 rfl) ?_
  refine gf_X12_7 E hT hW ha0 dX12_get_1 (fun h_1 => ?_)
  refine lv_sipush (v := 288) hx hb dX12_get_4 (by decide) ?_
  refine lv_iload_n hx hb dX12_get_7 rfl (lv_at hl 1 rfl) ?_
  refine lv_imul hx hb dX12_get_8 ?_
  refine th_topi (y := 288) (by decide) ?_
  refine lv_iload_n hx hb dX12_get_9 rfl (lv_at hl 2 rfl) ?_
  refine lv_iadd hx hb dX12_get_10 ?_
  refine th_topi (y := 295) (by decide) ?_
  refine th_iald E hT h_1 (by decide) (vp_in_iff.mpr ⟨by decide, by decide⟩) dX12_get_11 ?_
  refine th_topi (y := ai H (ρ a0 0) 295) rfl ?_
  refine lv_topi (fun x_2 ex_2 => ?_)
  have c_x_2 := congrArg Int32.toInt ex_2.symm
  exact th_iret E hr hlk hs hT hS ⟨rfl, ex_2.symm⟩ dX12_get_12
set_option maxHeartbeats 4000000 in
set_option maxRecDepth 100000 in
/-- the reference: in -/
theorem y_in (l : Launch) (D : va_G) (cI cS : ClassId) (τ : Nat → Option Nat) (ρ : Nat → Nat → Nat) (hW : WF τ ρ) (H : Heap) (hT : TH D cI cS τ ρ H) (x0 : Int64) (x1 : Int64) (x2 : Int64) : MI l D cI cS τ ρ yX12_in cX12_in 6 (some .boolean) 0 0 H [.long x0, .long x1, .long x2] (fun (r : Int32) (u : Heap) => (H = u) ∧ (r = 0 ∨ r = 1) ∧ ((r.toInt = 1 ∧ x1.toInt ≤ x0.toInt ∧ x0.toInt ≤ x2.toInt) ∨ (r.toInt = 0 ∧ (x0.toInt < x1.toInt ∨ x2.toInt < x0.toInt)))) (fun q => False) := by
  refine MI.of (by decide) (Nat.le_of_ble_eq_true rfl) ?_
  intro p e s m args below meth c E hml hr hlk hs ls hl
  have hx := E.1
  have hb := E.2.1
  have hown := E.2.2.1
  have hts := E.2.2.2.1
  have hS : SS (fun q => False) H H [] := SS.rf
  have hl : lv_has ls 6 [(0, .long x0), (2, .long x1), (4, .long x2)] := hl
  refine lv_lload_n hx hb dX12_in_0 rfl (lv_at hl 0 rfl) ?_
  refine lv_lload_n hx hb dX12_in_1 rfl (lv_at hl 1 rfl) ?_
  refine W.lcmp hx hb dX12_in_2 ?_
  refine lv_topi (fun x_1 ex_1 => ?_)
  have q_1 := l_cmp (a := x0) (b := x1) (m := x0.toInt) (n := x1.toInt) rfl rfl ex_1
  refine lv_if_lt (tgt := 17) hx hb dX12_in_3 (by decide) (fun c_2 => ?_) (fun c_2 => ?_)
  · have f_2 : x_1.toInt < 0 := r_lt rfl (by decide) c_2
    refine lv_iconst (v := 0) hx hb dX12_in_17 (by decide) ?_
    exact th_zret E hr hlk hs (Or.inl rfl) hT hS ⟨rfl, (Or.inl rfl), (by have : (0 : Int32).toInt = 0 := (by decide); omega)⟩ dX12_in_18
  · have f_2 : 0 ≤ x_1.toInt := r_nlt rfl (by decide) c_2
    refine lv_lload_n hx hb dX12_in_6 rfl (lv_at hl 0 rfl) ?_
    refine lv_lload hx hb dX12_in_7 (lv_at hl 2 rfl) ?_
    refine W.lcmp hx hb dX12_in_9 ?_
    refine lv_topi (fun x_3 ex_3 => ?_)
    have q_3 := l_cmp (a := x0) (b := x2) (m := x0.toInt) (n := x2.toInt) rfl rfl ex_3
    refine lv_if_gt (tgt := 17) hx hb dX12_in_10 (by decide) (fun c_4 => ?_) (fun c_4 => ?_)
    · have f_4 : 0 < x_3.toInt := r_lt (by decide) rfl c_4
      refine lv_iconst (v := 0) hx hb dX12_in_17 (by decide) ?_
      exact th_zret E hr hlk hs (Or.inl rfl) hT hS ⟨rfl, (Or.inl rfl), (by have : (0 : Int32).toInt = 0 := (by decide); omega)⟩ dX12_in_18
    · have f_4 : x_3.toInt ≤ 0 := r_nlt (by decide) rfl c_4
      refine lv_iconst (v := 1) hx hb dX12_in_13 (by decide) ?_
      refine lv_goto (tgt := 18) hx hb dX12_in_14 (by decide) ?_
      exact th_zret E hr hlk hs (Or.inr rfl) hT hS ⟨rfl, (Or.inr rfl), (by have : (1 : Int32).toInt = 1 := (by decide); omega)⟩ dX12_in_18
set_option maxHeartbeats 4000000 in
set_option maxRecDepth 100000 in
/-- the reference: isWanted -/
theorem y_isWanted (l : Launch) (D : va_G) (cI cS : ClassId) (τ : Nat → Option Nat) (ρ : Nat → Nat → Nat) (hW : WF τ ρ) (H : Heap) (hT : TH D cI cS τ ρ H) (a0 : Nat) (x1 : Int32) (ha0 : τ a0 = some 12) (N : Int) (hN0 : 0 ≤ N) (hN1 : N ≤ 600) (hI : IM D ρ N H a0) : MI l D cI cS τ ρ yX12_isWanted cX12_isWanted 3 (some .boolean) 1 25 H [.ref a0, .int 1, .int x1] (fun (r : Int32) (u : Heap) => (H = u) ∧ (r = 0 ∨ r = 1) ∧ (r.toInt = 1 → (0 ≤ x1.toInt ∧ (ai H (ρ a0 0) 293).toInt ≤ x1.toInt ∧ x1.toInt ≤ N + 32))) (fun q => False) := by
  refine MI.of (by decide) (Nat.le_of_ble_eq_true rfl) ?_
  intro p e s m args below meth c E hml hr hlk hs ls hl
  have hx := E.1
  have hb := E.2.1
  have hown := E.2.2.1
  have hts := E.2.2.2.1
  have hS : SS (fun q => False) H H [] := SS.rf
  have hl : lv_has ls 3 [(0, .ref a0), (1, .int 1), (2, .int x1)] := hl
  have n01 := hI.2.2.2.2.2.1
  have n23 := hI.2.2.2.2.2.2.1
  refine lv_iload_n hx hb dX12_isWanted_0 rfl (lv_at hl 2 rfl) ?_
  obtain ⟨x_1, ex_1⟩ : ∃ y : Int64, x1.toInt64 = y := ⟨_, rfl⟩
  refine lv_i2l (v := x_1) hx hb dX12_isWanted_1 ex_1 ?_
  have q_1 : x_1.toInt = x1.toInt := by rw [← ex_1]; exact Int32.toInt_toInt64 _
  refine lv_aload_n hx hb dX12_isWanted_2 rfl (lv_at hl 0 rfl) ?_
  refine lv_iload_n hx hb dX12_isWanted_3 rfl (lv_at hl 1 rfl) ?_
  refine lv_iconst (v := 5) hx hb dX12_isWanted_4 (by decide) ?_
  refine th_Vi (As := [.int 1, .int 5]) (rest := [.long x_1]) E hml hl.1 (y_get_v18 l D cI cS τ ρ hW H hT a0 ha0) lk_X12_99 yd_X12_get hT ha0 rfl (by decide) hS (fun _ h => h.elim) ⟨by decide, by decide⟩ (Nat.le_of_ble_eq_true rfl) ⟨by decide, by decide⟩ rfl dX12_isWanted_5 (fun r_2 H_2 locs_2 p_2 hT_2 hk_2 hS_2 => ?_)
  have p_2 : H = H_2 ∧ (ai H (ρ a0 0) 293 = r_2) := p_2
  obtain ⟨rfl, p_2_0⟩ := p_2
  have b_r_2 : 0 ≤ r_2.toInt ∧ r_2.toInt ≤ N + 33 := by rw [← p_2_0]; exact hI.1 293 (by decide)
  have c_r_2 := congrArg Int32.toInt p_2_0
  obtain ⟨x_3, ex_3⟩ : ∃ y : Int64, r_2.toInt64 = y := ⟨_, rfl⟩
  refine lv_i2l (v := x_3) hx hb dX12_isWanted_8 ex_3 ?_
  have q_3 : x_3.toInt = r_2.toInt := by rw [← ex_3]; exact Int32.toInt_toInt64 _
  refine lv_aload_n hx hb dX12_isWanted_9 rfl (lv_at hl 0 rfl) ?_
  refine lv_iload_n hx hb dX12_isWanted_10 rfl (lv_at hl 1 rfl) ?_
  refine lv_bipush (v := 7) hx hb dX12_isWanted_11 (by decide) ?_
  refine th_Vi (As := [.int 1, .int 7]) (rest := [.long x_3, .long x_1]) E hml hl.1 (y_get_v19 l D cI cS τ ρ hW H hT_2 a0 ha0) lk_X12_99 yd_X12_get hT_2 ha0 rfl (by decide) hS_2 (fun _ h => h.elim) ⟨by decide, by decide⟩ (Nat.le_of_ble_eq_true rfl) ⟨by decide, by decide⟩ rfl dX12_isWanted_13 (fun r_4 H_4 locs_4 p_4 hT_4 hk_4 hS_4 => ?_)
  have p_4 : H = H_4 ∧ (ai H (ρ a0 0) 295 = r_4) := p_4
  obtain ⟨rfl, p_4_0⟩ := p_4
  have b_r_4 : 0 ≤ r_4.toInt ∧ r_4.toInt ≤ N + 33 := by rw [← p_4_0]; exact hI.1 295 (by decide)
  have c_r_4 := congrArg Int32.toInt p_4_0
  refine lv_iconst (v := 1) hx hb dX12_isWanted_16 (by decide) ?_
  refine lv_isub hx hb dX12_isWanted_17 ?_
  refine lv_topi (fun x_5 ex_5 => ?_)
  have q_5 : x_5.toInt = r_4.toInt - 1 := i_mi rfl (by decide) ex_5 (by omega) (by omega)
  obtain ⟨x_6, ex_6⟩ : ∃ y : Int64, x_5.toInt64 = y := ⟨_, rfl⟩
  refine lv_i2l (v := x_6) hx hb dX12_isWanted_18 ex_6 ?_
  have q_6 : x_6.toInt = x_5.toInt := by rw [← ex_6]; exact Int32.toInt_toInt64 _
  refine th_Si (As := [.long x_1, .long x_3, .long x_6]) (rest := []) E hml hl.1 (y_in l D cI cS τ ρ hW H hT_4 x_1 x_3 x_6) lk_X12_54 yd_X12_in hS_4 (fun _ h => h.elim) ⟨by decide, by decide⟩ (Nat.le_of_ble_eq_true rfl) ⟨by decide, by decide⟩ rfl dX12_isWanted_19 (fun r_7 H_7 locs_7 p_7 hT_7 hk_7 hS_7 => ?_)
  have p_7 : H = H_7 ∧ (r_7 = 0 ∨ r_7 = 1) ∧ ((r_7.toInt = 1 ∧ x_3.toInt ≤ x_1.toInt ∧ x_1.toInt ≤ x_6.toInt) ∨ (r_7.toInt = 0 ∧ (x_1.toInt < x_3.toInt ∨ x_6.toInt < x_1.toInt))) := p_7
  obtain ⟨rfl, p_7_0, p_7_1⟩ := p_7
  have z_7 := b_iv p_7_0
  exact th_zret E hr hlk hs p_7_0 hT_7 hS_7 ⟨rfl, p_7_0, (by have : (ai H (ρ a0 0) 293).toInt = (r_2 : Int32).toInt := congrArg Int32.toInt p_2_0; omega)⟩ dX12_isWanted_22
set_option maxHeartbeats 4000000 in
set_option maxRecDepth 100000 in
/-- the reference: set -/
theorem y_set_v20 (l : Launch) (D : va_G) (cI cS : ClassId) (τ : Nat → Option Nat) (ρ : Nat → Nat → Nat) (hW : WF τ ρ) (H : Heap) (hT : TH D cI cS τ ρ H) (a0 : Nat) (x2 : Int32) (ha0 : τ a0 = some 12) : MV l D cI cS τ ρ yX12_set cX12_set 4 none 0 0 H [.ref a0, .int 1, .int 17, .int x2] (fun (u : Heap) => (AU 985 H u (ρ a0 0) 305 x2)) (fun q => q = ρ a0 0) := by
  refine MV.of (by decide) (Nat.le_of_ble_eq_true rfl) ?_
  intro p e s m args below meth c E hml hr hlk hs ls hl
  have hx := E.1
  have hb := E.2.1
  have hown := E.2.2.1
  have hts := E.2.2.2.1
  have hS : SS (fun q => q = ρ a0 0) H H [] := SS.rf
  have hl : lv_has ls 4 [(0, .ref a0), (1, .int 1), (2, .int 17), (3, .int x2)] := hl
  refine lv_aload_n hx hb dX12_set_0 rfl (lv_at hl 0 rfl) ?_
  refine gf_X12_7 E hT hW ha0 dX12_set_1 (fun h_1 => ?_)
  refine lv_sipush (v := 288) hx hb dX12_set_4 (by decide) ?_
  refine lv_iload_n hx hb dX12_set_7 rfl (lv_at hl 1 rfl) ?_
  refine lv_imul hx hb dX12_set_8 ?_
  refine th_topi (y := 288) (by decide) ?_
  refine lv_iload_n hx hb dX12_set_9 rfl (lv_at hl 2 rfl) ?_
  refine lv_iadd hx hb dX12_set_10 ?_
  refine th_topi (y := 305) (by decide) ?_
  refine lv_iload_n hx hb dX12_set_11 rfl (lv_at hl 3 rfl) ?_
  refine th_iast E hT hS h_1 rfl (by decide) (vp_in_iff.mpr ⟨by decide, by decide⟩) dX12_set_12 (fun H_2 locs_2 hT_2 hU_2 hS_2 => ?_)
  have hU_2 : AU 985 H H_2 (ρ a0 0) 305 x2 := hU_2
  exact th_vret E hr hlk hs hT_2 hS_2 hU_2 dX12_set_13
set_option maxHeartbeats 4000000 in
set_option maxRecDepth 100000 in
/-- the reference: isHeld -/
theorem y_isHeld (l : Launch) (D : va_G) (cI cS : ClassId) (τ : Nat → Option Nat) (ρ : Nat → Nat → Nat) (hW : WF τ ρ) (H : Heap) (hT : TH D cI cS τ ρ H) (a0 : Nat) (x1 : Int32) (ha0 : τ a0 = some 12) (hp0 : 0 ≤ x1.toInt ∧ x1.toInt ≤ 5000) : MI l D cI cS τ ρ yX12_isHeld cX12_isHeld 3 (some .boolean) 1 22 H [.ref a0, .int 1, .int x1] (fun (r : Int32) (u : Heap) => (H = u) ∧ (r = 0 ∨ r = 1) ∧ ((r.toInt = 1 ∧ heldP 288 H (ρ a0 0) x1) ∨ (r.toInt = 0 ∧ ¬ heldP 288 H (ρ a0 0) x1))) (fun q => False) := by
  refine MI.of (by decide) (Nat.le_of_ble_eq_true rfl) ?_
  intro p e s m args below meth c E hml hr hlk hs ls hl
  have hx := E.1
  have hb := E.2.1
  have hown := E.2.2.1
  have hts := E.2.2.2.1
  have hS : SS (fun q => False) H H [] := SS.rf
  have hl : lv_has ls 3 [(0, .ref a0), (1, .int 1), (2, .int x1)] := hl
  refine lv_aload_n hx hb dX12_isHeld_0 rfl (lv_at hl 0 rfl) ?_
  refine lv_iload_n hx hb dX12_isHeld_1 rfl (lv_at hl 1 rfl) ?_
  refine lv_sipush (v := 160) hx hb dX12_isHeld_2 (by decide) ?_
  refine lv_iload_n hx hb dX12_isHeld_5 rfl (lv_at hl 2 rfl) ?_
  refine lv_bipush (v := 64) hx hb dX12_isHeld_6 (by decide) ?_
  refine lv_irem hx hb dX12_isHeld_8 (by decide) ?_
  refine lv_topi (fun x_1 ex_1 => ?_)
  have q_1 := i_rem (k := 64) (x := x1) (by decide) (by decide) ex_1
  have p_1 : 0 ≤ x_1.toInt := q_1.2.2 (by omega)
  refine lv_iadd hx hb dX12_isHeld_9 ?_
  refine lv_topi (fun x_2 ex_2 => ?_)
  have q_2 : x_2.toInt = 160 + x_1.toInt := i_pl (by decide) rfl ex_2 (by omega) (by omega)
  refine th_Vi (As := [.int 1, .int x_2]) (rest := []) E hml hl.1 (y_get_v6 l D cI cS τ ρ hW H hT a0 x_2 ha0 (by omega)) lk_X12_99 yd_X12_get hT ha0 rfl (by decide) hS (fun _ h => h.elim) ⟨by decide, by decide⟩ (Nat.le_of_ble_eq_true rfl) ⟨by decide, by decide⟩ rfl dX12_isHeld_10 (fun r_3 H_3 locs_3 p_3 hT_3 hk_3 hS_3 => ?_)
  have p_3 : H = H_3 ∧ (ai H (ρ a0 0) (288 + x_2.toInt).toNat = r_3) := p_3
  obtain ⟨rfl, p_3_0⟩ := p_3
  refine lv_iload_n hx hb dX12_isHeld_13 rfl (lv_at hl 2 rfl) ?_
  refine lv_iconst (v := 1) hx hb dX12_isHeld_14 (by decide) ?_
  refine lv_iadd hx hb dX12_isHeld_15 ?_
  refine lv_topi (fun x_4 ex_4 => ?_)
  have q_4 : x_4.toInt = x1.toInt + 1 := i_pl rfl (by decide) ex_4 (by omega) (by omega)
  refine lv_icmp_ne (tgt := 23) hx hb dX12_isHeld_16 (by decide) (fun c_5 => ?_) (fun c_5 => ?_)
  · have f_5 : ¬ r_3.toInt = x_4.toInt := r_ne rfl rfl c_5
    refine lv_iconst (v := 0) hx hb dX12_isHeld_23 (by decide) ?_
    exact th_zret E hr hlk hs (Or.inl rfl) hT_3 hS_3 ⟨rfl, (Or.inl rfl), (Or.inr ⟨by decide, fun h => by unfold heldP at h; rw [← ex_1, ← ex_2, p_3_0, ← ex_4] at h; exact c_5 h⟩)⟩ dX12_isHeld_24
  · have f_5 : r_3.toInt = x_4.toInt := r_eq rfl rfl c_5
    refine lv_iconst (v := 1) hx hb dX12_isHeld_19 (by decide) ?_
    refine lv_goto (tgt := 24) hx hb dX12_isHeld_20 (by decide) ?_
    exact th_zret E hr hlk hs (Or.inr rfl) hT_3 hS_3 ⟨rfl, (Or.inr rfl), (Or.inl ⟨by decide, by unfold heldP; rw [← ex_1, ← ex_2, p_3_0, ← ex_4]; exact c_5⟩)⟩ dX12_isHeld_24
set_option maxHeartbeats 4000000 in
set_option maxRecDepth 100000 in
/-- the reference: set -/
theorem y_set_v21 (l : Launch) (D : va_G) (cI cS : ClassId) (τ : Nat → Option Nat) (ρ : Nat → Nat → Nat) (hW : WF τ ρ) (H : Heap) (hT : TH D cI cS τ ρ H) (a0 : Nat) (x2 : Int32) (ha0 : τ a0 = some 12) : MV l D cI cS τ ρ yX12_set cX12_set 4 none 0 0 H [.ref a0, .int 1, .int 5, .int x2] (fun (u : Heap) => (AU 985 H u (ρ a0 0) 293 x2)) (fun q => q = ρ a0 0) := by
  refine MV.of (by decide) (Nat.le_of_ble_eq_true rfl) ?_
  intro p e s m args below meth c E hml hr hlk hs ls hl
  have hx := E.1
  have hb := E.2.1
  have hown := E.2.2.1
  have hts := E.2.2.2.1
  have hS : SS (fun q => q = ρ a0 0) H H [] := SS.rf
  have hl : lv_has ls 4 [(0, .ref a0), (1, .int 1), (2, .int 5), (3, .int x2)] := hl
  refine lv_aload_n hx hb dX12_set_0 rfl (lv_at hl 0 rfl) ?_
  refine gf_X12_7 E hT hW ha0 dX12_set_1 (fun h_1 => ?_)
  refine lv_sipush (v := 288) hx hb dX12_set_4 (by decide) ?_
  refine lv_iload_n hx hb dX12_set_7 rfl (lv_at hl 1 rfl) ?_
  refine lv_imul hx hb dX12_set_8 ?_
  refine th_topi (y := 288) (by decide) ?_
  refine lv_iload_n hx hb dX12_set_9 rfl (lv_at hl 2 rfl) ?_
  refine lv_iadd hx hb dX12_set_10 ?_
  refine th_topi (y := 293) (by decide) ?_
  refine lv_iload_n hx hb dX12_set_11 rfl (lv_at hl 3 rfl) ?_
  refine th_iast E hT hS h_1 rfl (by decide) (vp_in_iff.mpr ⟨by decide, by decide⟩) dX12_set_12 (fun H_2 locs_2 hT_2 hU_2 hS_2 => ?_)
  have hU_2 : AU 985 H H_2 (ρ a0 0) 293 x2 := hU_2
  exact th_vret E hr hlk hs hT_2 hS_2 hU_2 dX12_set_13
set_option maxHeartbeats 4000000 in
set_option maxRecDepth 100000 in
/-- the reference: get -/
theorem y_get_v20 (l : Launch) (D : va_G) (cI cS : ClassId) (τ : Nat → Option Nat) (ρ : Nat → Nat → Nat) (hW : WF τ ρ) (H : Heap) (hT : TH D cI cS τ ρ H) (a0 : Nat) (ha0 : τ a0 = some 12) : MI l D cI cS τ ρ yX12_get cX12_get 3 (some .int) 0 0 H [.ref a0, .int 1, .int 0] (fun (r : Int32) (u : Heap) => (H = u) ∧ (ai H (ρ a0 0) 288 = r)) (fun q => False) := by
  refine MI.of (by decide) (Nat.le_of_ble_eq_true rfl) ?_
  intro p e s m args below meth c E hml hr hlk hs ls hl
  have hx := E.1
  have hb := E.2.1
  have hown := E.2.2.1
  have hts := E.2.2.2.1
  have hS : SS (fun q => False) H H [] := SS.rf
  have hl : lv_has ls 3 [(0, .ref a0), (1, .int 1), (2, .int 0)] := hl
  refine lv_aload_n hx hb dX12_get_0 rfl (lv_at hl 0 rfl) ?_
  refine gf_X12_7 E hT hW ha0 dX12_get_1 (fun h_1 => ?_)
  refine lv_sipush (v := 288) hx hb dX12_get_4 (by decide) ?_
  refine lv_iload_n hx hb dX12_get_7 rfl (lv_at hl 1 rfl) ?_
  refine lv_imul hx hb dX12_get_8 ?_
  refine th_topi (y := 288) (by decide) ?_
  refine lv_iload_n hx hb dX12_get_9 rfl (lv_at hl 2 rfl) ?_
  refine lv_iadd hx hb dX12_get_10 ?_
  refine th_topi (y := 288) (by decide) ?_
  refine th_iald E hT h_1 (by decide) (vp_in_iff.mpr ⟨by decide, by decide⟩) dX12_get_11 ?_
  refine th_topi (y := ai H (ρ a0 0) 288) rfl ?_
  refine lv_topi (fun x_2 ex_2 => ?_)
  have c_x_2 := congrArg Int32.toInt ex_2.symm
  exact th_iret E hr hlk hs hT hS ⟨rfl, ex_2.symm⟩ dX12_get_12
set_option maxHeartbeats 4000000 in
set_option maxRecDepth 100000 in
/-- the reference: set -/
theorem y_set_v22 (l : Launch) (D : va_G) (cI cS : ClassId) (τ : Nat → Option Nat) (ρ : Nat → Nat → Nat) (hW : WF τ ρ) (H : Heap) (hT : TH D cI cS τ ρ H) (a0 : Nat) (ha0 : τ a0 = some 12) : MV l D cI cS τ ρ yX12_set cX12_set 4 none 0 0 H [.ref a0, .int 1, .int 0, .int 10] (fun (u : Heap) => (AU 985 H u (ρ a0 0) 288 (10))) (fun q => q = ρ a0 0) := by
  refine MV.of (by decide) (Nat.le_of_ble_eq_true rfl) ?_
  intro p e s m args below meth c E hml hr hlk hs ls hl
  have hx := E.1
  have hb := E.2.1
  have hown := E.2.2.1
  have hts := E.2.2.2.1
  have hS : SS (fun q => q = ρ a0 0) H H [] := SS.rf
  have hl : lv_has ls 4 [(0, .ref a0), (1, .int 1), (2, .int 0), (3, .int 10)] := hl
  refine lv_aload_n hx hb dX12_set_0 rfl (lv_at hl 0 rfl) ?_
  refine gf_X12_7 E hT hW ha0 dX12_set_1 (fun h_1 => ?_)
  refine lv_sipush (v := 288) hx hb dX12_set_4 (by decide) ?_
  refine lv_iload_n hx hb dX12_set_7 rfl (lv_at hl 1 rfl) ?_
  refine lv_imul hx hb dX12_set_8 ?_
  refine th_topi (y := 288) (by decide) ?_
  refine lv_iload_n hx hb dX12_set_9 rfl (lv_at hl 2 rfl) ?_
  refine lv_iadd hx hb dX12_set_10 ?_
  refine th_topi (y := 288) (by decide) ?_
  refine lv_iload_n hx hb dX12_set_11 rfl (lv_at hl 3 rfl) ?_
  refine th_iast E hT hS h_1 rfl (by decide) (vp_in_iff.mpr ⟨by decide, by decide⟩) dX12_set_12 (fun H_2 locs_2 hT_2 hU_2 hS_2 => ?_)
  have hU_2 : AU 985 H H_2 (ρ a0 0) 288 (10) := hU_2
  exact th_vret E hr hlk hs hT_2 hS_2 hU_2 dX12_set_13
set_option maxHeartbeats 4000000 in
set_option maxRecDepth 100000 in
/-- the reference: set -/
theorem y_set_v23 (l : Launch) (D : va_G) (cI cS : ClassId) (τ : Nat → Option Nat) (ρ : Nat → Nat → Nat) (hW : WF τ ρ) (H : Heap) (hT : TH D cI cS τ ρ H) (a0 : Nat) (ha0 : τ a0 = some 12) : MV l D cI cS τ ρ yX12_set cX12_set 4 none 0 0 H [.ref a0, .int 1, .int 0, .int 8] (fun (u : Heap) => (AU 985 H u (ρ a0 0) 288 (8))) (fun q => q = ρ a0 0) := by
  refine MV.of (by decide) (Nat.le_of_ble_eq_true rfl) ?_
  intro p e s m args below meth c E hml hr hlk hs ls hl
  have hx := E.1
  have hb := E.2.1
  have hown := E.2.2.1
  have hts := E.2.2.2.1
  have hS : SS (fun q => q = ρ a0 0) H H [] := SS.rf
  have hl : lv_has ls 4 [(0, .ref a0), (1, .int 1), (2, .int 0), (3, .int 8)] := hl
  refine lv_aload_n hx hb dX12_set_0 rfl (lv_at hl 0 rfl) ?_
  refine gf_X12_7 E hT hW ha0 dX12_set_1 (fun h_1 => ?_)
  refine lv_sipush (v := 288) hx hb dX12_set_4 (by decide) ?_
  refine lv_iload_n hx hb dX12_set_7 rfl (lv_at hl 1 rfl) ?_
  refine lv_imul hx hb dX12_set_8 ?_
  refine th_topi (y := 288) (by decide) ?_
  refine lv_iload_n hx hb dX12_set_9 rfl (lv_at hl 2 rfl) ?_
  refine lv_iadd hx hb dX12_set_10 ?_
  refine th_topi (y := 288) (by decide) ?_
  refine lv_iload_n hx hb dX12_set_11 rfl (lv_at hl 3 rfl) ?_
  refine th_iast E hT hS h_1 rfl (by decide) (vp_in_iff.mpr ⟨by decide, by decide⟩) dX12_set_12 (fun H_2 locs_2 hT_2 hU_2 hS_2 => ?_)
  have hU_2 : AU 985 H H_2 (ρ a0 0) 288 (8) := hU_2
  exact th_vret E hr hlk hs hT_2 hS_2 hU_2 dX12_set_13
set_option maxHeartbeats 4000000 in
set_option maxRecDepth 100000 in
/-- the reference: set -/
theorem y_set_v24 (l : Launch) (D : va_G) (cI cS : ClassId) (τ : Nat → Option Nat) (ρ : Nat → Nat → Nat) (hW : WF τ ρ) (H : Heap) (hT : TH D cI cS τ ρ H) (a0 : Nat) (ha0 : τ a0 = some 12) : MV l D cI cS τ ρ yX12_set cX12_set 4 none 0 0 H [.ref a0, .int 1, .int 0, .int 7] (fun (u : Heap) => (AU 985 H u (ρ a0 0) 288 (7))) (fun q => q = ρ a0 0) := by
  refine MV.of (by decide) (Nat.le_of_ble_eq_true rfl) ?_
  intro p e s m args below meth c E hml hr hlk hs ls hl
  have hx := E.1
  have hb := E.2.1
  have hown := E.2.2.1
  have hts := E.2.2.2.1
  have hS : SS (fun q => q = ρ a0 0) H H [] := SS.rf
  have hl : lv_has ls 4 [(0, .ref a0), (1, .int 1), (2, .int 0), (3, .int 7)] := hl
  refine lv_aload_n hx hb dX12_set_0 rfl (lv_at hl 0 rfl) ?_
  refine gf_X12_7 E hT hW ha0 dX12_set_1 (fun h_1 => ?_)
  refine lv_sipush (v := 288) hx hb dX12_set_4 (by decide) ?_
  refine lv_iload_n hx hb dX12_set_7 rfl (lv_at hl 1 rfl) ?_
  refine lv_imul hx hb dX12_set_8 ?_
  refine th_topi (y := 288) (by decide) ?_
  refine lv_iload_n hx hb dX12_set_9 rfl (lv_at hl 2 rfl) ?_
  refine lv_iadd hx hb dX12_set_10 ?_
  refine th_topi (y := 288) (by decide) ?_
  refine lv_iload_n hx hb dX12_set_11 rfl (lv_at hl 3 rfl) ?_
  refine th_iast E hT hS h_1 rfl (by decide) (vp_in_iff.mpr ⟨by decide, by decide⟩) dX12_set_12 (fun H_2 locs_2 hT_2 hU_2 hS_2 => ?_)
  have hU_2 : AU 985 H H_2 (ρ a0 0) 288 (7) := hU_2
  exact th_vret E hr hlk hs hT_2 hS_2 hU_2 dX12_set_13
set_option maxHeartbeats 4000000 in
set_option maxRecDepth 100000 in
/-- the reference: keeps -/
theorem y_keeps (l : Launch) (D : va_G) (cI cS : ClassId) (τ : Nat → Option Nat) (ρ : Nat → Nat → Nat) (hW : WF τ ρ) (H : Heap) (hT : TH D cI cS τ ρ H) (a0 : Nat) (x1 : Int32) (ha0 : τ a0 = some 12) (N : Int) (hN0 : 0 ≤ N) (hN1 : N ≤ 600) (hI : IM D ρ N H a0) (hp0 : -128 ≤ x1.toInt ∧ x1.toInt ≤ 827) : MV l D cI cS τ ρ yX12_keeps cX12_keeps 5 none 2 47 H [.ref a0, .int 1, .int x1] (fun (u : Heap) => (IM D ρ N u a0) ∧ ((ai H (ρ a0 0) 976).toInt ≤ (ai u (ρ a0 0) 976).toInt)) (fun q => q = ρ a0 0) := by
  refine MV.of (by decide) (Nat.le_of_ble_eq_true rfl) ?_
  intro p e s m args below meth c E hml hr hlk hs ls hl
  have hx := E.1
  have hb := E.2.1
  have hown := E.2.2.1
  have hts := E.2.2.2.1
  have hS : SS (fun q => q = ρ a0 0) H H [] := SS.rf
  have hl : lv_has ls 5 [(0, .ref a0), (1, .int 1), (2, .int x1)] := hl
  have n01 := hI.2.2.2.2.2.1
  have n23 := hI.2.2.2.2.2.2.1
  have L_135 : ∀ (n : Nat) (H_c135 : Heap) (lc_c135 : List Loc) (ls : Array Slot) (y135_3 : Int32) (g135_0 : Int32), TH D cI cS τ ρ H_c135 → SS (fun q => q = ρ a0 0) H H_c135 lc_c135 → lv_has ls 5 [(0, .ref a0), (1, .int 1), (2, .int x1), (3, .int y135_3)] → -128 ≤ x1.toInt → x1.toInt ≤ 827 → 0 ≤ y135_3.toInt → ai H_c135 (ρ a0 0) 293 = g135_0 → IM D ρ N H_c135 a0 → (ai H (ρ a0 0) 976).toInt ≤ (ai H_c135 (ρ a0 0) 976).toInt → (N + 33 - g135_0.toInt).toNat < n → W p l e (rmO 2 47) s m args below meth c H_c135 lc_c135 0 0 (MQ below (va_Qv (fun (u : Heap) => (IM D ρ N u a0) ∧ ((ai H (ρ a0 0) 976).toInt ≤ (ai u (ρ a0 0) 976).toInt)) (Bt D cI cS τ ρ H) (fun q => q = ρ a0 0)) args s 0 0 (fun q => q = ρ a0 0)) (F0 m 135 ls []) := by
    intro n
    induction n with
    | zero => intro H_c135 lc_c135 ls y135_3 g135_0 hT_c135 hS_c135 hl ly135_2 uy135_2 ly135_3 hg135_0 hI_c135 hmn_c135 hm; exact absurd hm (Nat.not_lt_zero _)
    | succ n ih_135 =>
      intro H_c135 lc_c135 ls y135_3 g135_0 hT_c135 hS_c135 hl ly135_2 uy135_2 ly135_3 hg135_0 hI_c135 hmn_c135 hm_135
      have bb_g135_0 : 0 ≤ g135_0.toInt ∧ g135_0.toInt ≤ N + 33 := by rw [← hg135_0]; exact hI_c135.1 293 (by decide)
      have cg_g135_0 := congrArg Int32.toInt hg135_0
      refine lv_aload_n hx hb dX12_keeps_135 rfl (lv_at hl 0 rfl) ?_
      refine lv_iload_n hx hb dX12_keeps_136 rfl (lv_at hl 1 rfl) ?_
      refine lv_aload_n hx hb dX12_keeps_137 rfl (lv_at hl 0 rfl) ?_
      refine lv_iload_n hx hb dX12_keeps_138 rfl (lv_at hl 1 rfl) ?_
      refine lv_iconst (v := 5) hx hb dX12_keeps_139 (by decide) ?_
      refine th_Vi (As := [.int 1, .int 5]) (rest := [.int 1, .ref a0]) E hml hl.1 (y_get_v18 l D cI cS τ ρ hW H_c135 hT_c135 a0 ha0) lk_X12_99 yd_X12_get hT_c135 ha0 rfl (by decide) hS_c135 (fun _ h => h.elim) ⟨by decide, by decide⟩ (Nat.le_of_ble_eq_true rfl) ⟨by decide, by decide⟩ rfl dX12_keeps_140 (fun r_1 H_1 locs_1 p_1 hT_1 hk_1 hS_1 => ?_)
      have p_1 : H_c135 = H_1 ∧ (ai H_c135 (ρ a0 0) 293 = r_1) := p_1
      obtain ⟨rfl, p_1_0⟩ := p_1
      have s_1 : r_1 = g135_0 := p_1_0.symm.trans hg135_0
      refine th_topi s_1 ?_
      refine th_Vi (As := [.int 1, .int g135_0]) (rest := []) E hml hl.1 (y_isHeld l D cI cS τ ρ hW H_c135 hT_1 a0 g135_0 ha0 (by omega)) lk_X12_118 yd_X12_isHeld hT_1 ha0 rfl (by decide) hS_1 (fun _ h => h.elim) ⟨by decide, by decide⟩ (Nat.le_of_ble_eq_true rfl) ⟨by decide, by decide⟩ rfl dX12_keeps_143 (fun r_2 H_2 locs_2 p_2 hT_2 hk_2 hS_2 => ?_)
      have p_2 : H_c135 = H_2 ∧ (r_2 = 0 ∨ r_2 = 1) ∧ ((r_2.toInt = 1 ∧ heldP 288 H_c135 (ρ a0 0) g135_0) ∨ (r_2.toInt = 0 ∧ ¬ heldP 288 H_c135 (ρ a0 0) g135_0)) := p_2
      obtain ⟨rfl, p_2_0, p_2_1⟩ := p_2
      have z_2 := b_iv p_2_0
      refine lv_if_eq (tgt := 166) hx hb dX12_keeps_146 (by decide) (fun c_3 => ?_) (fun c_3 => ?_)
      · have f_3 : r_2.toInt = 0 := r_eq rfl (by decide) c_3
        refine lv_aload_n hx hb dX12_keeps_166 rfl (lv_at hl 0 rfl) ?_
        refine lv_iload_n hx hb dX12_keeps_167 rfl (lv_at hl 1 rfl) ?_
        refine lv_iconst (v := 5) hx hb dX12_keeps_168 (by decide) ?_
        refine th_Vi (As := [.int 1, .int 5]) (rest := []) E hml hl.1 (y_get_v18 l D cI cS τ ρ hW H_c135 hT_2 a0 ha0) lk_X12_99 yd_X12_get hT_2 ha0 rfl (by decide) hS_2 (fun _ h => h.elim) ⟨by decide, by decide⟩ (Nat.le_of_ble_eq_true rfl) ⟨by decide, by decide⟩ rfl dX12_keeps_169 (fun r_4 H_4 locs_4 p_4 hT_4 hk_4 hS_4 => ?_)
        have p_4 : H_c135 = H_4 ∧ (ai H_c135 (ρ a0 0) 293 = r_4) := p_4
        obtain ⟨rfl, p_4_0⟩ := p_4
        have s_4 : r_4 = g135_0 := p_4_0.symm.trans hg135_0
        refine th_topi s_4 ?_
        refine lv_aload_n hx hb dX12_keeps_172 rfl (lv_at hl 0 rfl) ?_
        refine lv_iload_n hx hb dX12_keeps_173 rfl (lv_at hl 1 rfl) ?_
        refine lv_bipush (v := 17) hx hb dX12_keeps_174 (by decide) ?_
        refine th_Vi (As := [.int 1, .int 17]) (rest := [.int g135_0]) E hml hl.1 (y_get_v17 l D cI cS τ ρ hW H_c135 hT_4 a0 ha0) lk_X12_99 yd_X12_get hT_4 ha0 rfl (by decide) hS_4 (fun _ h => h.elim) ⟨by decide, by decide⟩ (Nat.le_of_ble_eq_true rfl) ⟨by decide, by decide⟩ rfl dX12_keeps_176 (fun r_5 H_5 locs_5 p_5 hT_5 hk_5 hS_5 => ?_)
        have p_5 : H_c135 = H_5 ∧ (ai H_c135 (ρ a0 0) 305 = r_5) := p_5
        obtain ⟨rfl, p_5_0⟩ := p_5
        have b_r_5 : (-2147483648 : Int) ≤ r_5.toInt ∧ r_5.toInt ≤ N + 32 := by rw [← p_5_0]; exact hI_c135.1 305 (by decide)
        have c_r_5 := congrArg Int32.toInt p_5_0
        refine lv_icmp_ne (tgt := 231) hx hb dX12_keeps_179 (by decide) (fun c_6 => ?_) (fun c_6 => ?_)
        · have f_6 : ¬ g135_0.toInt = r_5.toInt := r_ne rfl rfl c_6
          exact th_vret E hr hlk hs hT_5 hS_5 ⟨⟨hI_c135.1, hI_c135.2.1, hI_c135.2.2.1, hI_c135.2.2.2.1, hI_c135.2.2.2.2.1, hI_c135.2.2.2.2.2⟩, (by omega)⟩ dX12_keeps_231
        · have f_6 : g135_0.toInt = r_5.toInt := r_eq rfl rfl c_6
          refine lv_aload_n hx hb dX12_keeps_182 rfl (lv_at hl 0 rfl) ?_
          refine lv_iload_n hx hb dX12_keeps_183 rfl (lv_at hl 1 rfl) ?_
          refine lv_iconst (v := 5) hx hb dX12_keeps_184 (by decide) ?_
          refine lv_aload_n hx hb dX12_keeps_185 rfl (lv_at hl 0 rfl) ?_
          refine lv_iload_n hx hb dX12_keeps_186 rfl (lv_at hl 1 rfl) ?_
          refine lv_iconst (v := 5) hx hb dX12_keeps_187 (by decide) ?_
          refine th_Vi (As := [.int 1, .int 5]) (rest := [.int 5, .int 1, .ref a0]) E hml hl.1 (y_get_v18 l D cI cS τ ρ hW H_c135 hT_5 a0 ha0) lk_X12_99 yd_X12_get hT_5 ha0 rfl (by decide) hS_5 (fun _ h => h.elim) ⟨by decide, by decide⟩ (Nat.le_of_ble_eq_true rfl) ⟨by decide, by decide⟩ rfl dX12_keeps_188 (fun r_7 H_7 locs_7 p_7 hT_7 hk_7 hS_7 => ?_)
          have p_7 : H_c135 = H_7 ∧ (ai H_c135 (ρ a0 0) 293 = r_7) := p_7
          obtain ⟨rfl, p_7_0⟩ := p_7
          have s_7 : r_7 = g135_0 := p_7_0.symm.trans hg135_0
          refine th_topi s_7 ?_
          refine lv_iconst (v := 1) hx hb dX12_keeps_191 (by decide) ?_
          refine lv_iadd hx hb dX12_keeps_192 ?_
          refine lv_topi (fun x_8 ex_8 => ?_)
          have q_8 : x_8.toInt = g135_0.toInt + 1 := i_pl rfl (by decide) ex_8 (by omega) (by omega)
          refine th_Vv (As := [.int 1, .int 5, .int x_8]) (rest := []) E hml hl.1 (y_set_v21 l D cI cS τ ρ hW H_c135 hT_7 a0 x_8 ha0) lk_X12_95 yd_X12_set hT_7 ha0 rfl (by decide) hS_7 (fun q h => h) ⟨by decide, by decide⟩ (Nat.le_of_ble_eq_true rfl) ⟨by decide, by decide⟩ rfl dX12_keeps_193 (fun H_9 locs_9 p_9 hT_9 hk_9 hS_9 => ?_)
          have p_9 : (AU 985 H_c135 H_9 (ρ a0 0) 293 x_8) := p_9
          have hW_9 : PW N H_9 (ρ a0 0) := PW.put hI_c135.1 p_9 (by show (0 : Int) ≤ x_8.toInt; omega) (by show x_8.toInt ≤ (N + 33 : Int); omega)
          refine lv_aload_n hx hb dX12_keeps_196 rfl (lv_at hl 0 rfl) ?_
          refine lv_iload_n hx hb dX12_keeps_197 rfl (lv_at hl 1 rfl) ?_
          refine lv_iconst (v := 0) hx hb dX12_keeps_198 (by decide) ?_
          refine th_Vi (As := [.int 1, .int 0]) (rest := []) E hml hl.1 (y_get_v20 l D cI cS τ ρ hW H_9 hT_9 a0 ha0) lk_X12_99 yd_X12_get hT_9 ha0 rfl (by decide) hS_9 (fun _ h => h.elim) ⟨by decide, by decide⟩ (Nat.le_of_ble_eq_true rfl) ⟨by decide, by decide⟩ rfl dX12_keeps_199 (fun r_10 H_10 locs_10 p_10 hT_10 hk_10 hS_10 => ?_)
          have p_10 : H_9 = H_10 ∧ (ai H_9 (ρ a0 0) 288 = r_10) := p_10
          obtain ⟨rfl, p_10_0⟩ := p_10
          have t_10 : ai H_c135 (ρ a0 0) 288 = r_10 := (AU.o p_9 (by decide) (by decide)).symm.trans p_10_0
          have c_r_10 := congrArg Int32.toInt t_10
          refine lv_istore_n (lv' := [(3, .int r_10), (0, .ref a0), (1, .int 1), (2, .int x1)]) hx hb dX12_keeps_202 rfl hl (by decide) rfl (fun ls hl => ?_)
          refine lv_aload_n hx hb dX12_keeps_203 rfl (lv_at hl 1 rfl) ?_
          refine lv_iload_n hx hb dX12_keeps_204 rfl (lv_at hl 2 rfl) ?_
          refine lv_iconst (v := 0) hx hb dX12_keeps_205 (by decide) ?_
          refine lv_iload_n hx hb dX12_keeps_206 rfl (lv_at hl 0 rfl) ?_
          refine lv_iconst (v := 4) hx hb dX12_keeps_207 (by decide) ?_
          refine lv_icmp_ne (tgt := 216) hx hb dX12_keeps_208 (by decide) (fun c_11 => ?_) (fun c_11 => ?_)
          · have f_11 : ¬ r_10.toInt = 4 := r_ne rfl (by decide) c_11
            refine lv_iload_n hx hb dX12_keeps_216 rfl (lv_at hl 0 rfl) ?_
            refine lv_iconst (v := 5) hx hb dX12_keeps_217 (by decide) ?_
            refine lv_icmp_ne (tgt := 226) hx hb dX12_keeps_218 (by decide) (fun c_12 => ?_) (fun c_12 => ?_)
            · have f_12 : ¬ r_10.toInt = 5 := r_ne rfl (by decide) c_12
              refine lv_bipush (v := 10) hx hb dX12_keeps_226 (by decide) ?_
              refine th_Vv (As := [.int 1, .int 0, .int 10]) (rest := []) E hml hl.1 (y_set_v22 l D cI cS τ ρ hW H_9 hT_10 a0 ha0) lk_X12_95 yd_X12_set hT_10 ha0 rfl (by decide) hS_10 (fun q h => h) ⟨by decide, by decide⟩ (Nat.le_of_ble_eq_true rfl) ⟨by decide, by decide⟩ rfl dX12_keeps_228 (fun H_13 locs_13 p_13 hT_13 hk_13 hS_13 => ?_)
              have p_13 : (AU 985 H_9 H_13 (ρ a0 0) 288 (10)) := p_13
              have hW_13 : PW N H_13 (ρ a0 0) := PW.put hW_9 p_13 (by show (-2147483648 : Int) ≤ _; exact i_min _) (by show _ ≤ (2147483647 : Int); exact i_max _)
              exact th_vret E hr hlk hs hT_13 hS_13 ⟨⟨hW_13, (QS.same (Eq.trans (AU.o p_13 (by decide) (by decide)) (AU.o p_9 (by decide) (by decide))) (Eq.trans (AU.o p_13 (by decide) (by decide)) (AU.o p_9 (by decide) (by decide))) hI_c135.2.1), (QS.of (s := (10 : Int32)) (t := (ai H_c135 (ρ a0 0) 290 : Int32)) (AU.s p_13 (by decide)) (Eq.trans (AU.o p_13 (by decide) (by decide)) (AU.o p_9 (by decide) (by decide))) (by have j := hI_c135.2.2.1; unfold QS at j; have : (ai H_c135 (ρ a0 0) 288).toInt = (r_10 : Int32).toInt := congrArg Int32.toInt t_10; have : (10 : Int32).toInt = 10 := (by decide); omega)), (PL.q (p_13.2 _ (th_ne (hW _ 12 2 ha0 (by decide) (by decide) (by decide)) (hW _ 12 0 ha0 (by decide) (by decide) (by decide)) (by decide))) (PL.q (p_9.2 _ (th_ne (hW _ 12 2 ha0 (by decide) (by decide) (by decide)) (hW _ 12 0 ha0 (by decide) (by decide) (by decide)) (by decide))) hI_c135.2.2.2.1)), (PL.q (p_13.2 _ (th_ne (hW _ 12 3 ha0 (by decide) (by decide) (by decide)) (hW _ 12 0 ha0 (by decide) (by decide) (by decide)) (by decide))) (PL.q (p_9.2 _ (th_ne (hW _ 12 3 ha0 (by decide) (by decide) (by decide)) (hW _ 12 0 ha0 (by decide) (by decide) (by decide)) (by decide))) hI_c135.2.2.2.2.1)), (IF.q (p_13.2 _ (th_ne ha0 (hW _ 12 0 ha0 (by decide) (by decide) (by decide)) (by decide))) (IF.q (p_9.2 _ (th_ne ha0 (hW _ 12 0 ha0 (by decide) (by decide) (by decide)) (by decide))) hI_c135.2.2.2.2.2))⟩, (by rw [(Eq.trans (AU.o p_13 (by decide) (by decide)) (AU.o p_9 (by decide) (by decide)))]; omega)⟩ dX12_keeps_231
            · have f_12 : r_10.toInt = 5 := r_eq rfl (by decide) c_12
              refine lv_bipush (v := 8) hx hb dX12_keeps_221 (by decide) ?_
              refine lv_goto (tgt := 228) hx hb dX12_keeps_223 (by decide) ?_
              refine th_Vv (As := [.int 1, .int 0, .int 8]) (rest := []) E hml hl.1 (y_set_v23 l D cI cS τ ρ hW H_9 hT_10 a0 ha0) lk_X12_95 yd_X12_set hT_10 ha0 rfl (by decide) hS_10 (fun q h => h) ⟨by decide, by decide⟩ (Nat.le_of_ble_eq_true rfl) ⟨by decide, by decide⟩ rfl dX12_keeps_228 (fun H_14 locs_14 p_14 hT_14 hk_14 hS_14 => ?_)
              have p_14 : (AU 985 H_9 H_14 (ρ a0 0) 288 (8)) := p_14
              have hW_14 : PW N H_14 (ρ a0 0) := PW.put hW_9 p_14 (by show (-2147483648 : Int) ≤ _; exact i_min _) (by show _ ≤ (2147483647 : Int); exact i_max _)
              exact th_vret E hr hlk hs hT_14 hS_14 ⟨⟨hW_14, (QS.same (Eq.trans (AU.o p_14 (by decide) (by decide)) (AU.o p_9 (by decide) (by decide))) (Eq.trans (AU.o p_14 (by decide) (by decide)) (AU.o p_9 (by decide) (by decide))) hI_c135.2.1), (QS.of (s := (8 : Int32)) (t := (ai H_c135 (ρ a0 0) 290 : Int32)) (AU.s p_14 (by decide)) (Eq.trans (AU.o p_14 (by decide) (by decide)) (AU.o p_9 (by decide) (by decide))) (by have j := hI_c135.2.2.1; unfold QS at j; have : (ai H_c135 (ρ a0 0) 288).toInt = (r_10 : Int32).toInt := congrArg Int32.toInt t_10; have : (8 : Int32).toInt = 8 := (by decide); omega)), (PL.q (p_14.2 _ (th_ne (hW _ 12 2 ha0 (by decide) (by decide) (by decide)) (hW _ 12 0 ha0 (by decide) (by decide) (by decide)) (by decide))) (PL.q (p_9.2 _ (th_ne (hW _ 12 2 ha0 (by decide) (by decide) (by decide)) (hW _ 12 0 ha0 (by decide) (by decide) (by decide)) (by decide))) hI_c135.2.2.2.1)), (PL.q (p_14.2 _ (th_ne (hW _ 12 3 ha0 (by decide) (by decide) (by decide)) (hW _ 12 0 ha0 (by decide) (by decide) (by decide)) (by decide))) (PL.q (p_9.2 _ (th_ne (hW _ 12 3 ha0 (by decide) (by decide) (by decide)) (hW _ 12 0 ha0 (by decide) (by decide) (by decide)) (by decide))) hI_c135.2.2.2.2.1)), (IF.q (p_14.2 _ (th_ne ha0 (hW _ 12 0 ha0 (by decide) (by decide) (by decide)) (by decide))) (IF.q (p_9.2 _ (th_ne ha0 (hW _ 12 0 ha0 (by decide) (by decide) (by decide)) (by decide))) hI_c135.2.2.2.2.2))⟩, (by rw [(Eq.trans (AU.o p_14 (by decide) (by decide)) (AU.o p_9 (by decide) (by decide)))]; omega)⟩ dX12_keeps_231
          · have f_11 : r_10.toInt = 4 := r_eq rfl (by decide) c_11
            refine lv_bipush (v := 7) hx hb dX12_keeps_211 (by decide) ?_
            refine lv_goto (tgt := 228) hx hb dX12_keeps_213 (by decide) ?_
            refine th_Vv (As := [.int 1, .int 0, .int 7]) (rest := []) E hml hl.1 (y_set_v24 l D cI cS τ ρ hW H_9 hT_10 a0 ha0) lk_X12_95 yd_X12_set hT_10 ha0 rfl (by decide) hS_10 (fun q h => h) ⟨by decide, by decide⟩ (Nat.le_of_ble_eq_true rfl) ⟨by decide, by decide⟩ rfl dX12_keeps_228 (fun H_15 locs_15 p_15 hT_15 hk_15 hS_15 => ?_)
            have p_15 : (AU 985 H_9 H_15 (ρ a0 0) 288 (7)) := p_15
            have hW_15 : PW N H_15 (ρ a0 0) := PW.put hW_9 p_15 (by show (-2147483648 : Int) ≤ _; exact i_min _) (by show _ ≤ (2147483647 : Int); exact i_max _)
            exact th_vret E hr hlk hs hT_15 hS_15 ⟨⟨hW_15, (QS.same (Eq.trans (AU.o p_15 (by decide) (by decide)) (AU.o p_9 (by decide) (by decide))) (Eq.trans (AU.o p_15 (by decide) (by decide)) (AU.o p_9 (by decide) (by decide))) hI_c135.2.1), (QS.of (s := (7 : Int32)) (t := (ai H_c135 (ρ a0 0) 290 : Int32)) (AU.s p_15 (by decide)) (Eq.trans (AU.o p_15 (by decide) (by decide)) (AU.o p_9 (by decide) (by decide))) (by have j := hI_c135.2.2.1; unfold QS at j; have : (ai H_c135 (ρ a0 0) 288).toInt = (r_10 : Int32).toInt := congrArg Int32.toInt t_10; have : (7 : Int32).toInt = 7 := (by decide); omega)), (PL.q (p_15.2 _ (th_ne (hW _ 12 2 ha0 (by decide) (by decide) (by decide)) (hW _ 12 0 ha0 (by decide) (by decide) (by decide)) (by decide))) (PL.q (p_9.2 _ (th_ne (hW _ 12 2 ha0 (by decide) (by decide) (by decide)) (hW _ 12 0 ha0 (by decide) (by decide) (by decide)) (by decide))) hI_c135.2.2.2.1)), (PL.q (p_15.2 _ (th_ne (hW _ 12 3 ha0 (by decide) (by decide) (by decide)) (hW _ 12 0 ha0 (by decide) (by decide) (by decide)) (by decide))) (PL.q (p_9.2 _ (th_ne (hW _ 12 3 ha0 (by decide) (by decide) (by decide)) (hW _ 12 0 ha0 (by decide) (by decide) (by decide)) (by decide))) hI_c135.2.2.2.2.1)), (IF.q (p_15.2 _ (th_ne ha0 (hW _ 12 0 ha0 (by decide) (by decide) (by decide)) (by decide))) (IF.q (p_9.2 _ (th_ne ha0 (hW _ 12 0 ha0 (by decide) (by decide) (by decide)) (by decide))) hI_c135.2.2.2.2.2))⟩, (by rw [(Eq.trans (AU.o p_15 (by decide) (by decide)) (AU.o p_9 (by decide) (by decide)))]; omega)⟩ dX12_keeps_231
      · have f_3 : ¬ r_2.toInt = 0 := r_ne rfl (by decide) c_3
        have nz_r_2 : ¬ r_2 = 0 := c_3
        have w_3 : g135_0.toInt + 1 ≤ N + 33 := held_le (c := 288) (by decide) hI_c135.1 (by rcases p_2_1 with h | h; exact h.2; exfalso; omega) (by omega) (by omega)
        refine lv_aload_n hx hb dX12_keeps_149 rfl (lv_at hl 0 rfl) ?_
        refine lv_iload_n hx hb dX12_keeps_150 rfl (lv_at hl 1 rfl) ?_
        refine lv_iconst (v := 5) hx hb dX12_keeps_151 (by decide) ?_
        refine lv_aload_n hx hb dX12_keeps_152 rfl (lv_at hl 0 rfl) ?_
        refine lv_iload_n hx hb dX12_keeps_153 rfl (lv_at hl 1 rfl) ?_
        refine lv_iconst (v := 5) hx hb dX12_keeps_154 (by decide) ?_
        refine th_Vi (As := [.int 1, .int 5]) (rest := [.int 5, .int 1, .ref a0]) E hml hl.1 (y_get_v18 l D cI cS τ ρ hW H_c135 hT_2 a0 ha0) lk_X12_99 yd_X12_get hT_2 ha0 rfl (by decide) hS_2 (fun _ h => h.elim) ⟨by decide, by decide⟩ (Nat.le_of_ble_eq_true rfl) ⟨by decide, by decide⟩ rfl dX12_keeps_155 (fun r_16 H_16 locs_16 p_16 hT_16 hk_16 hS_16 => ?_)
        have p_16 : H_c135 = H_16 ∧ (ai H_c135 (ρ a0 0) 293 = r_16) := p_16
        obtain ⟨rfl, p_16_0⟩ := p_16
        have s_16 : r_16 = g135_0 := p_16_0.symm.trans hg135_0
        refine th_topi s_16 ?_
        refine lv_iconst (v := 1) hx hb dX12_keeps_158 (by decide) ?_
        refine lv_iadd hx hb dX12_keeps_159 ?_
        refine lv_topi (fun x_17 ex_17 => ?_)
        have q_17 : x_17.toInt = g135_0.toInt + 1 := i_pl rfl (by decide) ex_17 (by omega) (by omega)
        refine th_Vv (As := [.int 1, .int 5, .int x_17]) (rest := []) E hml hl.1 (y_set_v21 l D cI cS τ ρ hW H_c135 hT_16 a0 x_17 ha0) lk_X12_95 yd_X12_set hT_16 ha0 rfl (by decide) hS_16 (fun q h => h) ⟨by decide, by decide⟩ (Nat.le_of_ble_eq_true rfl) ⟨by decide, by decide⟩ rfl dX12_keeps_160 (fun H_18 locs_18 p_18 hT_18 hk_18 hS_18 => ?_)
        have p_18 : (AU 985 H_c135 H_18 (ρ a0 0) 293 x_17) := p_18
        have hW_18 : PW N H_18 (ρ a0 0) := PW.put hI_c135.1 p_18 (by show (0 : Int) ≤ x_17.toInt; omega) (by show x_17.toInt ≤ (N + 33 : Int); omega)
        refine lv_goto (tgt := 135) hx hb dX12_keeps_163 (by decide) ?_
        exact ih_135 H_18 locs_18 _ y135_3 x_17 hT_18 hS_18 hl (by omega) (by omega) (by omega) (AU.s p_18 (by decide)) ⟨hW_18, (QS.same (AU.o p_18 (by decide) (by decide)) (AU.o p_18 (by decide) (by decide)) hI_c135.2.1), (QS.same (AU.o p_18 (by decide) (by decide)) (AU.o p_18 (by decide) (by decide)) hI_c135.2.2.1), (PL.q (p_18.2 _ (th_ne (hW _ 12 2 ha0 (by decide) (by decide) (by decide)) (hW _ 12 0 ha0 (by decide) (by decide) (by decide)) (by decide))) hI_c135.2.2.2.1), (PL.q (p_18.2 _ (th_ne (hW _ 12 3 ha0 (by decide) (by decide) (by decide)) (hW _ 12 0 ha0 (by decide) (by decide) (by decide)) (by decide))) hI_c135.2.2.2.2.1), (IF.q (p_18.2 _ (th_ne ha0 (hW _ 12 0 ha0 (by decide) (by decide) (by decide)) (by decide))) hI_c135.2.2.2.2.2)⟩ (by rw [(AU.o p_18 (by decide) (by decide))]; omega) (by omega)
  have L_2 : ∀ (n : Nat) (H_c2 : Heap) (lc_c2 : List Loc) (ls : Array Slot) (y2_3 : Int32), TH D cI cS τ ρ H_c2 → SS (fun q => q = ρ a0 0) H H_c2 lc_c2 → lv_has ls 5 [(0, .ref a0), (1, .int 1), (2, .int x1), (3, .int y2_3)] → -128 ≤ x1.toInt → x1.toInt ≤ 827 → 0 ≤ y2_3.toInt → ai H_c2 (ρ a0 3) 5 = ai H (ρ a0 3) 5 → IM D ρ N H_c2 a0 → (ai H (ρ a0 0) 976).toInt ≤ (ai H_c2 (ρ a0 0) 976).toInt → ((ai H (ρ a0 3) 5).toInt - y2_3.toInt).toNat < n → W p l e (rmO 2 47) s m args below meth c H_c2 lc_c2 0 0 (MQ below (va_Qv (fun (u : Heap) => (IM D ρ N u a0) ∧ ((ai H (ρ a0 0) 976).toInt ≤ (ai u (ρ a0 0) 976).toInt)) (Bt D cI cS τ ρ H) (fun q => q = ρ a0 0)) args s 0 0 (fun q => q = ρ a0 0)) (F0 m 2 ls []) := by
    intro n
    induction n with
    | zero => intro H_c2 lc_c2 ls y2_3 hT_c2 hS_c2 hl ly2_2 uy2_2 ly2_3 hg2_0 hI_c2 hmn_c2 hm; exact absurd hm (Nat.not_lt_zero _)
    | succ n ih_2 =>
      intro H_c2 lc_c2 ls y2_3 hT_c2 hS_c2 hl ly2_2 uy2_2 ly2_3 hg2_0 hI_c2 hmn_c2 hm_2
      have bb_g2_0 : 0 ≤ (ai H (ρ a0 3) 5).toInt ∧ (ai H (ρ a0 3) 5).toInt ≤ 8 := by rw [← hg2_0]; exact hI_c2.2.2.2.2.1 5 (by decide)
      have cg_g2_0 := congrArg Int32.toInt hg2_0
      refine lv_iload_n hx hb dX12_keeps_2 rfl (lv_at hl 3 rfl) ?_
      refine lv_aload_n hx hb dX12_keeps_3 rfl (lv_at hl 0 rfl) ?_
      refine gf_X12_19 E hT_c2 hW ha0 dX12_keeps_4 (fun h_19 => ?_)
      refine lv_iconst (v := 5) hx hb dX12_keeps_7 (by decide) ?_
      refine th_iald E hT_c2 h_19 (by decide) (vp_in_iff.mpr ⟨by decide, by decide⟩) dX12_keeps_8 ?_
      refine th_topi (y := ai H_c2 (ρ a0 3) 5) rfl ?_
      refine th_topi (y := ai H (ρ a0 3) 5) hg2_0 ?_
      refine lv_topi (fun x_20 ex_20 => ?_)
      have c_x_20 := congrArg Int32.toInt ex_20.symm
      have b_x_20 : 0 ≤ x_20.toInt ∧ x_20.toInt ≤ 8 := by rw [← ex_20.symm]; exact hI.2.2.2.2.1 5 (by decide)
      refine lv_icmp_ge (tgt := 84) hx hb dX12_keeps_9 (by decide) (fun c_21 => ?_) (fun c_21 => ?_)
      · have f_21 : x_20.toInt ≤ y2_3.toInt := r_le rfl rfl c_21
        refine lv_aload_n hx hb dX12_keeps_84 rfl (lv_at hl 0 rfl) ?_
        refine lv_iconst (v := 2) hx hb dX12_keeps_85 (by decide) ?_
        refine th_Vi (As := [.int 2]) (rest := []) E hml hl.1 (y_has l D cI cS τ ρ hW H_c2 hT_c2 a0 ha0) lk_X12_202 yd_X12_has hT_c2 ha0 rfl (by decide) hS_c2 (fun _ h => h.elim) ⟨by decide, by decide⟩ (Nat.le_of_ble_eq_true rfl) ⟨by decide, by decide⟩ rfl dX12_keeps_86 (fun r_22 H_22 locs_22 p_22 hT_22 hk_22 hS_22 => ?_)
        have p_22 : H_c2 = H_22 ∧ (r_22 = 0 ∨ r_22 = 1) := p_22
        obtain ⟨rfl, p_22_0⟩ := p_22
        have z_22 := b_iv p_22_0
        refine lv_if_eq (tgt := 135) hx hb dX12_keeps_89 (by decide) (fun c_23 => ?_) (fun c_23 => ?_)
        · have f_23 : r_22.toInt = 0 := r_eq rfl (by decide) c_23
          exact L_135 _ H_c2 locs_22 _ y2_3 (ai H_c2 (ρ a0 0) 293) hT_22 hS_22 hl (by omega) (by omega) (by omega) rfl ⟨hI_c2.1, hI_c2.2.1, hI_c2.2.2.1, hI_c2.2.2.2.1, hI_c2.2.2.2.2.1, hI_c2.2.2.2.2.2⟩ (by omega) (Nat.lt_succ_self _)
        · have f_23 : ¬ r_22.toInt = 0 := r_ne rfl (by decide) c_23
          have nz_r_22 : ¬ r_22 = 0 := c_23
          refine lv_aload_n hx hb dX12_keeps_92 rfl (lv_at hl 0 rfl) ?_
          refine lv_iload_n hx hb dX12_keeps_93 rfl (lv_at hl 1 rfl) ?_
          refine lv_bipush (v := 17) hx hb dX12_keeps_94 (by decide) ?_
          refine th_Vi (As := [.int 1, .int 17]) (rest := []) E hml hl.1 (y_get_v17 l D cI cS τ ρ hW H_c2 hT_22 a0 ha0) lk_X12_99 yd_X12_get hT_22 ha0 rfl (by decide) hS_22 (fun _ h => h.elim) ⟨by decide, by decide⟩ (Nat.le_of_ble_eq_true rfl) ⟨by decide, by decide⟩ rfl dX12_keeps_96 (fun r_24 H_24 locs_24 p_24 hT_24 hk_24 hS_24 => ?_)
          have p_24 : H_c2 = H_24 ∧ (ai H_c2 (ρ a0 0) 305 = r_24) := p_24
          obtain ⟨rfl, p_24_0⟩ := p_24
          have b_r_24 : (-2147483648 : Int) ≤ r_24.toInt ∧ r_24.toInt ≤ N + 32 := by rw [← p_24_0]; exact hI_c2.1 305 (by decide)
          have c_r_24 := congrArg Int32.toInt p_24_0
          refine lv_bipush (v := (-4)) hx hb dX12_keeps_99 (by decide) ?_
          refine lv_icmp_ne (tgt := 135) hx hb dX12_keeps_101 (by decide) (fun c_25 => ?_) (fun c_25 => ?_)
          · have f_25 : ¬ r_24.toInt = -4 := r_ne rfl (by decide) c_25
            exact L_135 _ H_c2 locs_24 _ y2_3 (ai H_c2 (ρ a0 0) 293) hT_24 hS_24 hl (by omega) (by omega) (by omega) rfl ⟨hI_c2.1, hI_c2.2.1, hI_c2.2.2.1, hI_c2.2.2.2.1, hI_c2.2.2.2.2.1, hI_c2.2.2.2.2.2⟩ (by omega) (Nat.lt_succ_self _)
          · have f_25 : r_24.toInt = -4 := r_eq rfl (by decide) c_25
            refine lv_aload_n hx hb dX12_keeps_104 rfl (lv_at hl 0 rfl) ?_
            refine lv_iload_n hx hb dX12_keeps_105 rfl (lv_at hl 1 rfl) ?_
            refine lv_iload_n hx hb dX12_keeps_106 rfl (lv_at hl 2 rfl) ?_
            refine lv_aload_n hx hb dX12_keeps_107 rfl (lv_at hl 0 rfl) ?_
            refine gf_X12_19 E hT_24 hW ha0 dX12_keeps_108 (fun h_26 => ?_)
            refine lv_iconst (v := 5) hx hb dX12_keeps_111 (by decide) ?_
            refine th_iald E hT_24 h_26 (by decide) (vp_in_iff.mpr ⟨by decide, by decide⟩) dX12_keeps_112 ?_
            refine th_topi (y := ai H_c2 (ρ a0 3) 5) rfl ?_
            refine th_topi (y := x_20) (hg2_0.trans ex_20.symm) ?_
            refine lv_iadd hx hb dX12_keeps_113 ?_
            refine lv_topi (fun x_28 ex_28 => ?_)
            have q_28 : x_28.toInt = x1.toInt + x_20.toInt := i_pl rfl rfl ex_28 (by omega) (by omega)
            refine th_Vi (As := [.int 1, .int x_28]) (rest := []) E hml hl.1 (y_isWanted l D cI cS τ ρ hW H_c2 hT_24 a0 x_28 ha0 N hN0 hN1 ⟨hI_c2.1, hI_c2.2.1, hI_c2.2.2.1, hI_c2.2.2.2.1, hI_c2.2.2.2.2.1, hI_c2.2.2.2.2.2⟩) lk_X12_218 yd_X12_isWanted hT_24 ha0 rfl (by decide) hS_24 (fun _ h => h.elim) ⟨by decide, by decide⟩ (Nat.le_of_ble_eq_true rfl) ⟨by decide, by decide⟩ rfl dX12_keeps_114 (fun r_29 H_29 locs_29 p_29 hT_29 hk_29 hS_29 => ?_)
            have p_29 : H_c2 = H_29 ∧ (r_29 = 0 ∨ r_29 = 1) ∧ (r_29.toInt = 1 → (0 ≤ x_28.toInt ∧ (ai H_c2 (ρ a0 0) 293).toInt ≤ x_28.toInt ∧ x_28.toInt ≤ N + 32)) := p_29
            obtain ⟨rfl, p_29_0, p_29_1⟩ := p_29
            have z_29 := b_iv p_29_0
            refine lv_if_eq (tgt := 135) hx hb dX12_keeps_117 (by decide) (fun c_30 => ?_) (fun c_30 => ?_)
            · have f_30 : r_29.toInt = 0 := r_eq rfl (by decide) c_30
              exact L_135 _ H_c2 locs_29 _ y2_3 (ai H_c2 (ρ a0 0) 293) hT_29 hS_29 hl (by omega) (by omega) (by omega) rfl ⟨hI_c2.1, hI_c2.2.1, hI_c2.2.2.1, hI_c2.2.2.2.1, hI_c2.2.2.2.2.1, hI_c2.2.2.2.2.2⟩ (by omega) (Nat.lt_succ_self _)
            · have f_30 : ¬ r_29.toInt = 0 := r_ne rfl (by decide) c_30
              have nz_r_29 : ¬ r_29 = 0 := c_30
              refine lv_aload_n hx hb dX12_keeps_120 rfl (lv_at hl 0 rfl) ?_
              refine lv_iload_n hx hb dX12_keeps_121 rfl (lv_at hl 1 rfl) ?_
              refine lv_bipush (v := 17) hx hb dX12_keeps_122 (by decide) ?_
              refine lv_iload_n hx hb dX12_keeps_124 rfl (lv_at hl 2 rfl) ?_
              refine lv_aload_n hx hb dX12_keeps_125 rfl (lv_at hl 0 rfl) ?_
              refine gf_X12_19 E hT_29 hW ha0 dX12_keeps_126 (fun h_31 => ?_)
              refine lv_iconst (v := 5) hx hb dX12_keeps_129 (by decide) ?_
              refine th_iald E hT_29 h_31 (by decide) (vp_in_iff.mpr ⟨by decide, by decide⟩) dX12_keeps_130 ?_
              refine th_topi (y := ai H_c2 (ρ a0 3) 5) rfl ?_
              refine th_topi (y := x_20) (hg2_0.trans ex_20.symm) ?_
              refine lv_iadd hx hb dX12_keeps_131 ?_
              refine lv_topi (fun x_33 ex_33 => ?_)
              have q_33 : x_33.toInt = x1.toInt + x_20.toInt := i_pl rfl rfl ex_33 (by omega) (by omega)
              refine th_Vv (As := [.int 1, .int 17, .int x_33]) (rest := []) E hml hl.1 (y_set_v20 l D cI cS τ ρ hW H_c2 hT_29 a0 x_33 ha0) lk_X12_95 yd_X12_set hT_29 ha0 rfl (by decide) hS_29 (fun q h => h) ⟨by decide, by decide⟩ (Nat.le_of_ble_eq_true rfl) ⟨by decide, by decide⟩ rfl dX12_keeps_132 (fun H_34 locs_34 p_34 hT_34 hk_34 hS_34 => ?_)
              have p_34 : (AU 985 H_c2 H_34 (ρ a0 0) 305 x_33) := p_34
              have hW_34 : PW N H_34 (ρ a0 0) := PW.put hI_c2.1 p_34 (by show (-2147483648 : Int) ≤ _; exact i_min _) (by show x_33.toInt ≤ (N + 32 : Int); omega)
              exact L_135 _ H_34 locs_34 _ y2_3 (ai H_c2 (ρ a0 0) 293) hT_34 hS_34 hl (by omega) (by omega) (by omega) (AU.o p_34 (by decide) (by decide)) ⟨hW_34, (QS.same (AU.o p_34 (by decide) (by decide)) (AU.o p_34 (by decide) (by decide)) hI_c2.2.1), (QS.same (AU.o p_34 (by decide) (by decide)) (AU.o p_34 (by decide) (by decide)) hI_c2.2.2.1), (PL.q (p_34.2 _ (th_ne (hW _ 12 2 ha0 (by decide) (by decide) (by decide)) (hW _ 12 0 ha0 (by decide) (by decide) (by decide)) (by decide))) hI_c2.2.2.2.1), (PL.q (p_34.2 _ (th_ne (hW _ 12 3 ha0 (by decide) (by decide) (by decide)) (hW _ 12 0 ha0 (by decide) (by decide) (by decide)) (by decide))) hI_c2.2.2.2.2.1), (IF.q (p_34.2 _ (th_ne ha0 (hW _ 12 0 ha0 (by decide) (by decide) (by decide)) (by decide))) hI_c2.2.2.2.2.2)⟩ (by rw [(AU.o p_34 (by decide) (by decide))]; omega) (Nat.lt_succ_self _)
      · have f_21 : y2_3.toInt < x_20.toInt := r_nle rfl rfl c_21
        refine lv_iload_n hx hb dX12_keeps_12 rfl (lv_at hl 2 rfl) ?_
        refine lv_iload_n hx hb dX12_keeps_13 rfl (lv_at hl 3 rfl) ?_
        refine lv_iadd hx hb dX12_keeps_14 ?_
        refine lv_topi (fun x_35 ex_35 => ?_)
        have q_35 : x_35.toInt = x1.toInt + y2_3.toInt := i_pl rfl rfl ex_35 (by omega) (by omega)
        refine lv_istore (lv' := [(4, .int x_35), (0, .ref a0), (1, .int 1), (2, .int x1), (3, .int y2_3)]) hx hb dX12_keeps_15 hl (by decide) rfl (fun ls hl => ?_)
        refine lv_aload_n hx hb dX12_keeps_17 rfl (lv_at hl 1 rfl) ?_
        refine lv_iload_n hx hb dX12_keeps_18 rfl (lv_at hl 2 rfl) ?_
        refine lv_iload hx hb dX12_keeps_19 (lv_at hl 0 rfl) ?_
        refine th_Vi (As := [.int 1, .int x_35]) (rest := []) E hml hl.1 (y_isWanted l D cI cS τ ρ hW H_c2 hT_c2 a0 x_35 ha0 N hN0 hN1 ⟨hI_c2.1, hI_c2.2.1, hI_c2.2.2.1, hI_c2.2.2.2.1, hI_c2.2.2.2.2.1, hI_c2.2.2.2.2.2⟩) lk_X12_218 yd_X12_isWanted hT_c2 ha0 rfl (by decide) hS_c2 (fun _ h => h.elim) ⟨by decide, by decide⟩ (Nat.le_of_ble_eq_true rfl) ⟨by decide, by decide⟩ rfl dX12_keeps_21 (fun r_36 H_36 locs_36 p_36 hT_36 hk_36 hS_36 => ?_)
        have p_36 : H_c2 = H_36 ∧ (r_36 = 0 ∨ r_36 = 1) ∧ (r_36.toInt = 1 → (0 ≤ x_35.toInt ∧ (ai H_c2 (ρ a0 0) 293).toInt ≤ x_35.toInt ∧ x_35.toInt ≤ N + 32)) := p_36
        obtain ⟨rfl, p_36_0, p_36_1⟩ := p_36
        have z_36 := b_iv p_36_0
        refine lv_if_eq (tgt := 78) hx hb dX12_keeps_24 (by decide) (fun c_37 => ?_) (fun c_37 => ?_)
        · have f_37 : r_36.toInt = 0 := r_eq rfl (by decide) c_37
          obtain ⟨x_38, ex_38⟩ : ∃ y : Int32, y2_3 + 1 = y := ⟨_, rfl⟩
          have q_x_38 : x_38.toInt = y2_3.toInt + 1 := i_add (k := 1) (by decide) ex_38 (by have := i_min y2_3; omega) (by have := i_max y2_3; omega)
          refine lv_iinc (v := x_38) (lv' := [(3, .int x_38), (4, .int x_35), (0, .ref a0), (1, .int 1), (2, .int x1)]) hx hb dX12_keeps_78 hl (k := 4) rfl (by rw [← ex_38]; rfl) (by decide) rfl (fun ls hl => ?_)
          refine lv_goto (tgt := 2) hx hb dX12_keeps_81 (by decide) ?_
          exact ih_2 H_c2 locs_36 _ x_38 hT_36 hS_36 (lv_sub hl [2, 3, 4, 0] rfl) (by omega) (by omega) (by omega) ((hg2_0.trans ex_20.symm).trans ex_20.symm.symm) ⟨hI_c2.1, hI_c2.2.1, hI_c2.2.2.1, hI_c2.2.2.2.1, hI_c2.2.2.2.2.1, hI_c2.2.2.2.2.2⟩ (by omega) (by omega)
        · have f_37 : ¬ r_36.toInt = 0 := r_ne rfl (by decide) c_37
          have nz_r_36 : ¬ r_36 = 0 := c_37
          refine lv_aload_n hx hb dX12_keeps_27 rfl (lv_at hl 1 rfl) ?_
          refine lv_iload_n hx hb dX12_keeps_28 rfl (lv_at hl 2 rfl) ?_
          refine lv_iload hx hb dX12_keeps_29 (lv_at hl 0 rfl) ?_
          refine th_Vi (As := [.int 1, .int x_35]) (rest := []) E hml hl.1 (y_isHeld l D cI cS τ ρ hW H_c2 hT_36 a0 x_35 ha0 (by omega)) lk_X12_118 yd_X12_isHeld hT_36 ha0 rfl (by decide) hS_36 (fun _ h => h.elim) ⟨by decide, by decide⟩ (Nat.le_of_ble_eq_true rfl) ⟨by decide, by decide⟩ rfl dX12_keeps_31 (fun r_39 H_39 locs_39 p_39 hT_39 hk_39 hS_39 => ?_)
          have p_39 : H_c2 = H_39 ∧ (r_39 = 0 ∨ r_39 = 1) ∧ ((r_39.toInt = 1 ∧ heldP 288 H_c2 (ρ a0 0) x_35) ∨ (r_39.toInt = 0 ∧ ¬ heldP 288 H_c2 (ρ a0 0) x_35)) := p_39
          obtain ⟨rfl, p_39_0, p_39_1⟩ := p_39
          have z_39 := b_iv p_39_0
          refine lv_if_ne (tgt := 78) hx hb dX12_keeps_34 (by decide) (fun c_40 => ?_) (fun c_40 => ?_)
          · have f_40 : ¬ r_39.toInt = 0 := r_ne rfl (by decide) c_40
            have nz_r_39 : ¬ r_39 = 0 := c_40
            have w_40 : x_35.toInt + 1 ≤ N + 33 := held_le (c := 288) (by decide) hI_c2.1 (by rcases p_39_1 with h | h; exact h.2; exfalso; omega) (by omega) (by omega)
            obtain ⟨x_41, ex_41⟩ : ∃ y : Int32, y2_3 + 1 = y := ⟨_, rfl⟩
            have q_x_41 : x_41.toInt = y2_3.toInt + 1 := i_add (k := 1) (by decide) ex_41 (by have := i_min y2_3; omega) (by have := i_max y2_3; omega)
            refine lv_iinc (v := x_41) (lv' := [(3, .int x_41), (4, .int x_35), (0, .ref a0), (1, .int 1), (2, .int x1)]) hx hb dX12_keeps_78 hl (k := 4) rfl (by rw [← ex_41]; rfl) (by decide) rfl (fun ls hl => ?_)
            refine lv_goto (tgt := 2) hx hb dX12_keeps_81 (by decide) ?_
            exact ih_2 H_c2 locs_39 _ x_41 hT_39 hS_39 (lv_sub hl [2, 3, 4, 0] rfl) (by omega) (by omega) (by omega) ((hg2_0.trans ex_20.symm).trans ex_20.symm.symm) ⟨hI_c2.1, hI_c2.2.1, hI_c2.2.2.1, hI_c2.2.2.2.1, hI_c2.2.2.2.2.1, hI_c2.2.2.2.2.2⟩ (by omega) (by omega)
          · have f_40 : r_39.toInt = 0 := r_eq rfl (by decide) c_40
            refine lv_aload_n hx hb dX12_keeps_37 rfl (lv_at hl 1 rfl) ?_
            refine lv_iload_n hx hb dX12_keeps_38 rfl (lv_at hl 2 rfl) ?_
            refine lv_sipush (v := 160) hx hb dX12_keeps_39 (by decide) ?_
            refine lv_iload hx hb dX12_keeps_42 (lv_at hl 0 rfl) ?_
            refine lv_bipush (v := 64) hx hb dX12_keeps_44 (by decide) ?_
            refine lv_irem hx hb dX12_keeps_46 (by decide) ?_
            refine lv_topi (fun x_42 ex_42 => ?_)
            have q_42 := i_rem (k := 64) (x := x_35) (by decide) (by decide) ex_42
            refine lv_iadd hx hb dX12_keeps_47 ?_
            refine lv_topi (fun x_43 ex_43 => ?_)
            have q_43 : x_43.toInt = 160 + x_42.toInt := i_pl (by decide) rfl ex_43 (by omega) (by omega)
            refine lv_iload hx hb dX12_keeps_48 (lv_at hl 0 rfl) ?_
            refine lv_iconst (v := 1) hx hb dX12_keeps_50 (by decide) ?_
            refine lv_iadd hx hb dX12_keeps_51 ?_
            refine lv_topi (fun x_44 ex_44 => ?_)
            have q_44 : x_44.toInt = x_35.toInt + 1 := i_pl rfl (by decide) ex_44 (by omega) (by omega)
            refine th_Vv (As := [.int 1, .int x_43, .int x_44]) (rest := []) E hml hl.1 (y_set_v6 l D cI cS τ ρ hW H_c2 hT_39 a0 x_43 x_44 ha0 (by omega)) lk_X12_95 yd_X12_set hT_39 ha0 rfl (by decide) hS_39 (fun q h => h) ⟨by decide, by decide⟩ (Nat.le_of_ble_eq_true rfl) ⟨by decide, by decide⟩ rfl dX12_keeps_52 (fun H_45 locs_45 p_45 hT_45 hk_45 hS_45 => ?_)
            have p_45 : (AU 985 H_c2 H_45 (ρ a0 0) (288 + x_43.toInt).toNat x_44) := p_45
            have hW_45 : PW N H_45 (ρ a0 0) := PW.held hI_c2.1 p_45 (by omega) (by omega)
            refine lv_aload_n hx hb dX12_keeps_55 rfl (lv_at hl 1 rfl) ?_
            refine lv_iload_n hx hb dX12_keeps_56 rfl (lv_at hl 2 rfl) ?_
            refine lv_sipush (v := 224) hx hb dX12_keeps_57 (by decide) ?_
            refine lv_iload hx hb dX12_keeps_60 (lv_at hl 0 rfl) ?_
            refine lv_bipush (v := 64) hx hb dX12_keeps_62 (by decide) ?_
            refine lv_irem hx hb dX12_keeps_64 (by decide) ?_
            refine lv_topi (fun x_46 ex_46 => ?_)
            have q_46 := i_rem (k := 64) (x := x_35) (by decide) (by decide) ex_46
            refine lv_iadd hx hb dX12_keeps_65 ?_
            refine lv_topi (fun x_47 ex_47 => ?_)
            have q_47 : x_47.toInt = 224 + x_46.toInt := i_pl (by decide) rfl ex_47 (by omega) (by omega)
            refine lv_aload_n hx hb dX12_keeps_66 rfl (lv_at hl 1 rfl) ?_
            refine gf_X12_19 E hT_45 hW ha0 dX12_keeps_67 (fun h_48 => ?_)
            refine lv_bipush (v := 12) hx hb dX12_keeps_70 (by decide) ?_
            refine lv_iload_n hx hb dX12_keeps_72 rfl (lv_at hl 4 rfl) ?_
            refine lv_iadd hx hb dX12_keeps_73 ?_
            refine lv_topi (fun x_49 ex_49 => ?_)
            have q_49 : x_49.toInt = 12 + y2_3.toInt := i_pl (by decide) rfl ex_49 (by omega) (by omega)
            refine th_iald E hT_45 h_48 (by decide) (vp_in_iff.mpr ⟨by omega, by omega⟩) dX12_keeps_74 ?_
            refine th_topi (y := ai H_45 (ρ a0 3) x_49.toInt.toNat) rfl ?_
            refine lv_topi (fun x_50 ex_50 => ?_)
            have cl_50 : bL (x_49.toInt.toNat) ≤ x_50.toInt ∧ x_50.toInt ≤ uL (x_49.toInt.toNat) := by rw [ex_50]; exact (PL.q (p_45.2 _ (th_ne (hW _ 12 3 ha0 (by decide) (by decide) (by decide)) (hW _ 12 0 ha0 (by decide) (by decide) (by decide)) (by decide))) hI_c2.2.2.2.2.1) _ (by omega)
            refine th_Vv (As := [.int 1, .int x_47, .int x_50]) (rest := []) E hml hl.1 (y_set_v6 l D cI cS τ ρ hW H_45 hT_45 a0 x_47 x_50 ha0 (by omega)) lk_X12_95 yd_X12_set hT_45 ha0 rfl (by decide) hS_45 (fun q h => h) ⟨by decide, by decide⟩ (Nat.le_of_ble_eq_true rfl) ⟨by decide, by decide⟩ rfl dX12_keeps_75 (fun H_51 locs_51 p_51 hT_51 hk_51 hS_51 => ?_)
            have p_51 : (AU 985 H_45 H_51 (ρ a0 0) (288 + x_47.toInt).toNat x_50) := p_51
            have hW_51 : PW N H_51 (ρ a0 0) := PW.free hW_45 p_51 (by omega)
            obtain ⟨x_52, ex_52⟩ : ∃ y : Int32, y2_3 + 1 = y := ⟨_, rfl⟩
            have q_x_52 : x_52.toInt = y2_3.toInt + 1 := i_add (k := 1) (by decide) ex_52 (by have := i_min y2_3; omega) (by have := i_max y2_3; omega)
            refine lv_iinc (v := x_52) (lv' := [(3, .int x_52), (4, .int x_35), (0, .ref a0), (1, .int 1), (2, .int x1)]) hx hb dX12_keeps_78 hl (k := 4) rfl (by rw [← ex_52]; rfl) (by decide) rfl (fun ls hl => ?_)
            refine lv_goto (tgt := 2) hx hb dX12_keeps_81 (by decide) ?_
            exact ih_2 H_51 locs_51 _ x_52 hT_51 hS_51 (lv_sub hl [2, 3, 4, 0] rfl) (by omega) (by omega) (by omega) ((Eq.trans (ai_q (p_51.2 _ (th_ne (hW _ 12 3 ha0 (by decide) (by decide) (by decide)) (hW _ 12 0 ha0 (by decide) (by decide) (by decide)) (by decide)))) (Eq.trans (ai_q (p_45.2 _ (th_ne (hW _ 12 3 ha0 (by decide) (by decide) (by decide)) (hW _ 12 0 ha0 (by decide) (by decide) (by decide)) (by decide)))) (hg2_0.trans ex_20.symm))).trans ex_20.symm.symm) ⟨hW_51, (QS.same (Eq.trans (AU.o p_51 (by decide) (by omega)) (AU.o p_45 (by decide) (by omega))) (Eq.trans (AU.o p_51 (by decide) (by omega)) (AU.o p_45 (by decide) (by omega))) hI_c2.2.1), (QS.same (Eq.trans (AU.o p_51 (by decide) (by omega)) (AU.o p_45 (by decide) (by omega))) (Eq.trans (AU.o p_51 (by decide) (by omega)) (AU.o p_45 (by decide) (by omega))) hI_c2.2.2.1), (PL.q (p_51.2 _ (th_ne (hW _ 12 2 ha0 (by decide) (by decide) (by decide)) (hW _ 12 0 ha0 (by decide) (by decide) (by decide)) (by decide))) (PL.q (p_45.2 _ (th_ne (hW _ 12 2 ha0 (by decide) (by decide) (by decide)) (hW _ 12 0 ha0 (by decide) (by decide) (by decide)) (by decide))) hI_c2.2.2.2.1)), (PL.q (p_51.2 _ (th_ne (hW _ 12 3 ha0 (by decide) (by decide) (by decide)) (hW _ 12 0 ha0 (by decide) (by decide) (by decide)) (by decide))) (PL.q (p_45.2 _ (th_ne (hW _ 12 3 ha0 (by decide) (by decide) (by decide)) (hW _ 12 0 ha0 (by decide) (by decide) (by decide)) (by decide))) hI_c2.2.2.2.2.1)), (IF.q (p_51.2 _ (th_ne ha0 (hW _ 12 0 ha0 (by decide) (by decide) (by decide)) (by decide))) (IF.q (p_45.2 _ (th_ne ha0 (hW _ 12 0 ha0 (by decide) (by decide) (by decide)) (by decide))) hI_c2.2.2.2.2.2))⟩ (by rw [(Eq.trans (AU.o p_51 (by decide) (by omega)) (AU.o p_45 (by decide) (by omega)))]; omega) (by omega)
  refine lv_iconst (v := 0) hx hb dX12_keeps_0 (by decide) ?_
  refine lv_istore_n (lv' := [(3, .int 0), (0, .ref a0), (1, .int 1), (2, .int x1)]) hx hb dX12_keeps_1 rfl hl (by decide) rfl (fun ls hl => ?_)
  exact L_2 _ H [] _ 0 hT hS (lv_sub hl [1, 2, 3, 0] rfl) (by omega) (by omega) (by decide) rfl ⟨hI.1, hI.2.1, hI.2.2.1, hI.2.2.2.1, hI.2.2.2.2.1, hI.2.2.2.2.2⟩ (by omega) (Nat.lt_succ_self _)
set_option maxHeartbeats 4000000 in
set_option maxRecDepth 100000 in
/-- the reference: isKnown -/
theorem y_isKnown (l : Launch) (D : va_G) (cI cS : ClassId) (τ : Nat → Option Nat) (ρ : Nat → Nat → Nat) (hW : WF τ ρ) (H : Heap) (hT : TH D cI cS τ ρ H) (a0 : Nat) (x1 : Int32) (ha0 : τ a0 = some 12) (hp0 : 0 ≤ x1.toInt) : MI l D cI cS τ ρ yX12_isKnown cX12_isKnown 3 (some .boolean) 1 22 H [.ref a0, .int 0, .int x1] (fun (r : Int32) (u : Heap) => (H = u) ∧ (r = 0 ∨ r = 1)) (fun q => False) := by
  refine MI.of (by decide) (Nat.le_of_ble_eq_true rfl) ?_
  intro p e s m args below meth c E hml hr hlk hs ls hl
  have hx := E.1
  have hb := E.2.1
  have hown := E.2.2.1
  have hts := E.2.2.2.1
  have hS : SS (fun q => False) H H [] := SS.rf
  have hl : lv_has ls 3 [(0, .ref a0), (1, .int 0), (2, .int x1)] := hl
  refine lv_aload_n hx hb dX12_isKnown_0 rfl (lv_at hl 0 rfl) ?_
  refine lv_iload_n hx hb dX12_isKnown_1 rfl (lv_at hl 1 rfl) ?_
  refine lv_bipush (v := 96) hx hb dX12_isKnown_2 (by decide) ?_
  refine lv_iload_n hx hb dX12_isKnown_4 rfl (lv_at hl 2 rfl) ?_
  refine lv_bipush (v := 64) hx hb dX12_isKnown_5 (by decide) ?_
  refine lv_irem hx hb dX12_isKnown_7 (by decide) ?_
  refine lv_topi (fun x_1 ex_1 => ?_)
  have q_1 := i_rem (k := 64) (x := x1) (by decide) (by decide) ex_1
  have p_1 : 0 ≤ x_1.toInt := q_1.2.2 (by omega)
  refine lv_iadd hx hb dX12_isKnown_8 ?_
  refine lv_topi (fun x_2 ex_2 => ?_)
  have q_2 : x_2.toInt = 96 + x_1.toInt := i_pl (by decide) rfl ex_2 (by omega) (by omega)
  refine th_Vi (As := [.int 0, .int x_2]) (rest := []) E hml hl.1 (y_get_v14 l D cI cS τ ρ hW H hT a0 x_2 ha0 (by omega)) lk_X12_99 yd_X12_get hT ha0 rfl (by decide) hS (fun _ h => h.elim) ⟨by decide, by decide⟩ (Nat.le_of_ble_eq_true rfl) ⟨by decide, by decide⟩ rfl dX12_isKnown_9 (fun r_3 H_3 locs_3 p_3 hT_3 hk_3 hS_3 => ?_)
  have p_3 : H = H_3 ∧ (ai H (ρ a0 0) (0 + x_2.toInt).toNat = r_3) := p_3
  obtain ⟨rfl, p_3_0⟩ := p_3
  refine lv_iload_n hx hb dX12_isKnown_12 rfl (lv_at hl 2 rfl) ?_
  refine lv_iconst (v := 1) hx hb dX12_isKnown_13 (by decide) ?_
  refine lv_iadd hx hb dX12_isKnown_14 ?_
  refine lv_topi (fun x_4 ex_4 => ?_)
  refine lv_icmp_ne (tgt := 22) hx hb dX12_isKnown_15 (by decide) (fun c_5 => ?_) (fun c_5 => ?_)
  · have f_5 : ¬ r_3.toInt = x_4.toInt := r_ne rfl rfl c_5
    refine lv_iconst (v := 0) hx hb dX12_isKnown_22 (by decide) ?_
    exact th_zret E hr hlk hs (Or.inl rfl) hT_3 hS_3 ⟨rfl, (Or.inl rfl)⟩ dX12_isKnown_23
  · have f_5 : r_3.toInt = x_4.toInt := r_eq rfl rfl c_5
    refine lv_iconst (v := 1) hx hb dX12_isKnown_18 (by decide) ?_
    refine lv_goto (tgt := 23) hx hb dX12_isKnown_19 (by decide) ?_
    exact th_zret E hr hlk hs (Or.inr rfl) hT_3 hS_3 ⟨rfl, (Or.inr rfl)⟩ dX12_isKnown_23
set_option maxHeartbeats 4000000 in
set_option maxRecDepth 100000 in
/-- the reference: get -/
theorem y_get_v21 (l : Launch) (D : va_G) (cI cS : ClassId) (τ : Nat → Option Nat) (ρ : Nat → Nat → Nat) (hW : WF τ ρ) (H : Heap) (hT : TH D cI cS τ ρ H) (a0 : Nat) (ha0 : τ a0 = some 12) : MI l D cI cS τ ρ yX12_get cX12_get 3 (some .int) 0 0 H [.ref a0, .int 0, .int 0] (fun (r : Int32) (u : Heap) => (H = u) ∧ (ai H (ρ a0 0) 0 = r)) (fun q => False) := by
  refine MI.of (by decide) (Nat.le_of_ble_eq_true rfl) ?_
  intro p e s m args below meth c E hml hr hlk hs ls hl
  have hx := E.1
  have hb := E.2.1
  have hown := E.2.2.1
  have hts := E.2.2.2.1
  have hS : SS (fun q => False) H H [] := SS.rf
  have hl : lv_has ls 3 [(0, .ref a0), (1, .int 0), (2, .int 0)] := hl
  refine lv_aload_n hx hb dX12_get_0 rfl (lv_at hl 0 rfl) ?_
  refine gf_X12_7 E hT hW ha0 dX12_get_1 (fun h_1 => ?_)
  refine lv_sipush (v := 288) hx hb dX12_get_4 (by decide) ?_
  refine lv_iload_n hx hb dX12_get_7 rfl (lv_at hl 1 rfl) ?_
  refine lv_imul hx hb dX12_get_8 ?_
  refine th_topi (y := 0) (by decide) ?_
  refine lv_iload_n hx hb dX12_get_9 rfl (lv_at hl 2 rfl) ?_
  refine lv_iadd hx hb dX12_get_10 ?_
  refine th_topi (y := 0) (by decide) ?_
  refine th_iald E hT h_1 (by decide) (vp_in_iff.mpr ⟨by decide, by decide⟩) dX12_get_11 ?_
  refine th_topi (y := ai H (ρ a0 0) 0) rfl ?_
  refine lv_topi (fun x_2 ex_2 => ?_)
  have c_x_2 := congrArg Int32.toInt ex_2.symm
  exact th_iret E hr hlk hs hT hS ⟨rfl, ex_2.symm⟩ dX12_get_12
set_option maxHeartbeats 4000000 in
set_option maxRecDepth 100000 in
/-- the reference: number -/
theorem y_number (l : Launch) (D : va_G) (cI cS : ClassId) (τ : Nat → Option Nat) (ρ : Nat → Nat → Nat) (hW : WF τ ρ) (H : Heap) (hT : TH D cI cS τ ρ H) (a0 : Nat) (ha0 : τ a0 = some 12) : MI l D cI cS τ ρ yX12_number cX12_number 3 (some .int) 0 0 H [.ref a0, .int 0, .int 0] (fun (r : Int32) (u : Heap) => (H = u)) (fun q => False) := by
  refine MI.of (by decide) (Nat.le_of_ble_eq_true rfl) ?_
  intro p e s m args below meth c E hml hr hlk hs ls hl
  have hx := E.1
  have hb := E.2.1
  have hown := E.2.2.1
  have hts := E.2.2.2.1
  have hS : SS (fun q => False) H H [] := SS.rf
  have hl : lv_has ls 3 [(0, .ref a0), (1, .int 0), (2, .int 0)] := hl
  refine lv_aload_n hx hb dX12_number_0 rfl (lv_at hl 0 rfl) ?_
  refine gf_X12_35 E hT hW ha0 dX12_number_1 (fun h_1 => ?_)
  refine lv_iload_n hx hb dX12_number_4 rfl (lv_at hl 1 rfl) ?_
  refine th_iald E hT h_1 (by decide) (vp_in_iff.mpr ⟨by decide, by decide⟩) dX12_number_5 ?_
  refine th_topi (y := ai H (ρ a0 9) 0) rfl ?_
  refine lv_topi (fun x_2 ex_2 => ?_)
  have c_x_2 := congrArg Int32.toInt ex_2.symm
  refine lv_iload_n hx hb dX12_number_6 rfl (lv_at hl 2 rfl) ?_
  refine lv_iadd hx hb dX12_number_7 ?_
  refine lv_topi (fun x_3 ex_3 => ?_)
  have q_x_3 : x_3.toInt = x_2.toInt + 0 := i_add (k := 0) (by decide) ex_3.symm (by have := i_min x_2; omega) (by have := i_max x_2; omega)
  refine lv_sipush (v := 256) hx hb dX12_number_8 (by decide) ?_
  refine lv_irem hx hb dX12_number_11 (by decide) ?_
  refine lv_topi (fun x_4 ex_4 => ?_)
  have q_4 := i_rem (k := 256) (x := x_3) (by decide) (by decide) ex_4
  exact th_iret E hr hlk hs hT hS rfl dX12_number_12
set_option maxHeartbeats 4000000 in
set_option maxRecDepth 100000 in
/-- the reference: get -/
theorem y_get_v22 (l : Launch) (D : va_G) (cI cS : ClassId) (τ : Nat → Option Nat) (ρ : Nat → Nat → Nat) (hW : WF τ ρ) (H : Heap) (hT : TH D cI cS τ ρ H) (a0 : Nat) (ha0 : τ a0 = some 12) : MI l D cI cS τ ρ yX12_get cX12_get 3 (some .int) 0 0 H [.ref a0, .int 0, .int 5] (fun (r : Int32) (u : Heap) => (H = u) ∧ (ai H (ρ a0 0) 5 = r)) (fun q => False) := by
  refine MI.of (by decide) (Nat.le_of_ble_eq_true rfl) ?_
  intro p e s m args below meth c E hml hr hlk hs ls hl
  have hx := E.1
  have hb := E.2.1
  have hown := E.2.2.1
  have hts := E.2.2.2.1
  have hS : SS (fun q => False) H H [] := SS.rf
  have hl : lv_has ls 3 [(0, .ref a0), (1, .int 0), (2, .int 5)] := hl
  refine lv_aload_n hx hb dX12_get_0 rfl (lv_at hl 0 rfl) ?_
  refine gf_X12_7 E hT hW ha0 dX12_get_1 (fun h_1 => ?_)
  refine lv_sipush (v := 288) hx hb dX12_get_4 (by decide) ?_
  refine lv_iload_n hx hb dX12_get_7 rfl (lv_at hl 1 rfl) ?_
  refine lv_imul hx hb dX12_get_8 ?_
  refine th_topi (y := 0) (by decide) ?_
  refine lv_iload_n hx hb dX12_get_9 rfl (lv_at hl 2 rfl) ?_
  refine lv_iadd hx hb dX12_get_10 ?_
  refine th_topi (y := 5) (by decide) ?_
  refine th_iald E hT h_1 (by decide) (vp_in_iff.mpr ⟨by decide, by decide⟩) dX12_get_11 ?_
  refine th_topi (y := ai H (ρ a0 0) 5) rfl ?_
  refine lv_topi (fun x_2 ex_2 => ?_)
  have c_x_2 := congrArg Int32.toInt ex_2.symm
  exact th_iret E hr hlk hs hT hS ⟨rfl, ex_2.symm⟩ dX12_get_12
set_option maxHeartbeats 4000000 in
set_option maxRecDepth 100000 in
/-- the reference: number -/
theorem y_number_v2 (l : Launch) (D : va_G) (cI cS : ClassId) (τ : Nat → Option Nat) (ρ : Nat → Nat → Nat) (hW : WF τ ρ) (H : Heap) (hT : TH D cI cS τ ρ H) (a0 : Nat) (x1 : Int32) (ha0 : τ a0 = some 12) : MI l D cI cS τ ρ yX12_number cX12_number 3 (some .int) 0 0 H [.ref a0, .int 1, .int x1] (fun (r : Int32) (u : Heap) => (H = u)) (fun q => False) := by
  refine MI.of (by decide) (Nat.le_of_ble_eq_true rfl) ?_
  intro p e s m args below meth c E hml hr hlk hs ls hl
  have hx := E.1
  have hb := E.2.1
  have hown := E.2.2.1
  have hts := E.2.2.2.1
  have hS : SS (fun q => False) H H [] := SS.rf
  have hl : lv_has ls 3 [(0, .ref a0), (1, .int 1), (2, .int x1)] := hl
  refine lv_aload_n hx hb dX12_number_0 rfl (lv_at hl 0 rfl) ?_
  refine gf_X12_35 E hT hW ha0 dX12_number_1 (fun h_1 => ?_)
  refine lv_iload_n hx hb dX12_number_4 rfl (lv_at hl 1 rfl) ?_
  refine th_iald E hT h_1 (by decide) (vp_in_iff.mpr ⟨by decide, by decide⟩) dX12_number_5 ?_
  refine th_topi (y := ai H (ρ a0 9) 1) rfl ?_
  refine lv_topi (fun x_2 ex_2 => ?_)
  have c_x_2 := congrArg Int32.toInt ex_2.symm
  refine lv_iload_n hx hb dX12_number_6 rfl (lv_at hl 2 rfl) ?_
  refine lv_iadd hx hb dX12_number_7 ?_
  refine lv_topi (fun x_3 ex_3 => ?_)
  refine lv_sipush (v := 256) hx hb dX12_number_8 (by decide) ?_
  refine lv_irem hx hb dX12_number_11 (by decide) ?_
  refine lv_topi (fun x_4 ex_4 => ?_)
  have q_4 := i_rem (k := 256) (x := x_3) (by decide) (by decide) ex_4
  exact th_iret E hr hlk hs hT hS rfl dX12_number_12
set_option maxHeartbeats 4000000 in
set_option maxRecDepth 100000 in
/-- the reference: get -/
theorem y_get_v23 (l : Launch) (D : va_G) (cI cS : ClassId) (τ : Nat → Option Nat) (ρ : Nat → Nat → Nat) (hW : WF τ ρ) (H : Heap) (hT : TH D cI cS τ ρ H) (a0 : Nat) (ha0 : τ a0 = some 12) : MI l D cI cS τ ρ yX12_get cX12_get 3 (some .int) 0 0 H [.ref a0, .int 0, .int 7] (fun (r : Int32) (u : Heap) => (H = u) ∧ (ai H (ρ a0 0) 7 = r)) (fun q => False) := by
  refine MI.of (by decide) (Nat.le_of_ble_eq_true rfl) ?_
  intro p e s m args below meth c E hml hr hlk hs ls hl
  have hx := E.1
  have hb := E.2.1
  have hown := E.2.2.1
  have hts := E.2.2.2.1
  have hS : SS (fun q => False) H H [] := SS.rf
  have hl : lv_has ls 3 [(0, .ref a0), (1, .int 0), (2, .int 7)] := hl
  refine lv_aload_n hx hb dX12_get_0 rfl (lv_at hl 0 rfl) ?_
  refine gf_X12_7 E hT hW ha0 dX12_get_1 (fun h_1 => ?_)
  refine lv_sipush (v := 288) hx hb dX12_get_4 (by decide) ?_
  refine lv_iload_n hx hb dX12_get_7 rfl (lv_at hl 1 rfl) ?_
  refine lv_imul hx hb dX12_get_8 ?_
  refine th_topi (y := 0) (by decide) ?_
  refine lv_iload_n hx hb dX12_get_9 rfl (lv_at hl 2 rfl) ?_
  refine lv_iadd hx hb dX12_get_10 ?_
  refine th_topi (y := 7) (by decide) ?_
  refine th_iald E hT h_1 (by decide) (vp_in_iff.mpr ⟨by decide, by decide⟩) dX12_get_11 ?_
  refine th_topi (y := ai H (ρ a0 0) 7) rfl ?_
  refine lv_topi (fun x_2 ex_2 => ?_)
  have c_x_2 := congrArg Int32.toInt ex_2.symm
  exact th_iret E hr hlk hs hT hS ⟨rfl, ex_2.symm⟩ dX12_get_12
set_option maxHeartbeats 4000000 in
set_option maxRecDepth 100000 in
/-- the reference: isHeld -/
theorem y_isHeld_v2 (l : Launch) (D : va_G) (cI cS : ClassId) (τ : Nat → Option Nat) (ρ : Nat → Nat → Nat) (hW : WF τ ρ) (H : Heap) (hT : TH D cI cS τ ρ H) (a0 : Nat) (x1 : Int32) (ha0 : τ a0 = some 12) (hp0 : 0 ≤ x1.toInt ∧ x1.toInt ≤ 5000) : MI l D cI cS τ ρ yX12_isHeld cX12_isHeld 3 (some .boolean) 1 22 H [.ref a0, .int 0, .int x1] (fun (r : Int32) (u : Heap) => (H = u) ∧ (r = 0 ∨ r = 1) ∧ ((r.toInt = 1 ∧ heldP 0 H (ρ a0 0) x1) ∨ (r.toInt = 0 ∧ ¬ heldP 0 H (ρ a0 0) x1))) (fun q => False) := by
  refine MI.of (by decide) (Nat.le_of_ble_eq_true rfl) ?_
  intro p e s m args below meth c E hml hr hlk hs ls hl
  have hx := E.1
  have hb := E.2.1
  have hown := E.2.2.1
  have hts := E.2.2.2.1
  have hS : SS (fun q => False) H H [] := SS.rf
  have hl : lv_has ls 3 [(0, .ref a0), (1, .int 0), (2, .int x1)] := hl
  refine lv_aload_n hx hb dX12_isHeld_0 rfl (lv_at hl 0 rfl) ?_
  refine lv_iload_n hx hb dX12_isHeld_1 rfl (lv_at hl 1 rfl) ?_
  refine lv_sipush (v := 160) hx hb dX12_isHeld_2 (by decide) ?_
  refine lv_iload_n hx hb dX12_isHeld_5 rfl (lv_at hl 2 rfl) ?_
  refine lv_bipush (v := 64) hx hb dX12_isHeld_6 (by decide) ?_
  refine lv_irem hx hb dX12_isHeld_8 (by decide) ?_
  refine lv_topi (fun x_1 ex_1 => ?_)
  have q_1 := i_rem (k := 64) (x := x1) (by decide) (by decide) ex_1
  have p_1 : 0 ≤ x_1.toInt := q_1.2.2 (by omega)
  refine lv_iadd hx hb dX12_isHeld_9 ?_
  refine lv_topi (fun x_2 ex_2 => ?_)
  have q_2 : x_2.toInt = 160 + x_1.toInt := i_pl (by decide) rfl ex_2 (by omega) (by omega)
  refine th_Vi (As := [.int 0, .int x_2]) (rest := []) E hml hl.1 (y_get_v14 l D cI cS τ ρ hW H hT a0 x_2 ha0 (by omega)) lk_X12_99 yd_X12_get hT ha0 rfl (by decide) hS (fun _ h => h.elim) ⟨by decide, by decide⟩ (Nat.le_of_ble_eq_true rfl) ⟨by decide, by decide⟩ rfl dX12_isHeld_10 (fun r_3 H_3 locs_3 p_3 hT_3 hk_3 hS_3 => ?_)
  have p_3 : H = H_3 ∧ (ai H (ρ a0 0) (0 + x_2.toInt).toNat = r_3) := p_3
  obtain ⟨rfl, p_3_0⟩ := p_3
  refine lv_iload_n hx hb dX12_isHeld_13 rfl (lv_at hl 2 rfl) ?_
  refine lv_iconst (v := 1) hx hb dX12_isHeld_14 (by decide) ?_
  refine lv_iadd hx hb dX12_isHeld_15 ?_
  refine lv_topi (fun x_4 ex_4 => ?_)
  have q_4 : x_4.toInt = x1.toInt + 1 := i_pl rfl (by decide) ex_4 (by omega) (by omega)
  refine lv_icmp_ne (tgt := 23) hx hb dX12_isHeld_16 (by decide) (fun c_5 => ?_) (fun c_5 => ?_)
  · have f_5 : ¬ r_3.toInt = x_4.toInt := r_ne rfl rfl c_5
    refine lv_iconst (v := 0) hx hb dX12_isHeld_23 (by decide) ?_
    exact th_zret E hr hlk hs (Or.inl rfl) hT_3 hS_3 ⟨rfl, (Or.inl rfl), (Or.inr ⟨by decide, fun h => by unfold heldP at h; rw [← ex_1, ← ex_2, p_3_0, ← ex_4] at h; exact c_5 h⟩)⟩ dX12_isHeld_24
  · have f_5 : r_3.toInt = x_4.toInt := r_eq rfl rfl c_5
    refine lv_iconst (v := 1) hx hb dX12_isHeld_19 (by decide) ?_
    refine lv_goto (tgt := 24) hx hb dX12_isHeld_20 (by decide) ?_
    exact th_zret E hr hlk hs (Or.inr rfl) hT_3 hS_3 ⟨rfl, (Or.inr rfl), (Or.inl ⟨by decide, by unfold heldP; rw [← ex_1, ← ex_2, p_3_0, ← ex_4]; exact c_5⟩)⟩ dX12_isHeld_24
set_option maxHeartbeats 4000000 in
set_option maxRecDepth 100000 in
/-- the reference: nextHeld -/
theorem y_nextHeld (l : Launch) (D : va_G) (cI cS : ClassId) (τ : Nat → Option Nat) (ρ : Nat → Nat → Nat) (hW : WF τ ρ) (H : Heap) (hT : TH D cI cS τ ρ H) (a0 : Nat) (x1 : Int32) (ha0 : τ a0 = some 12) (N : Int) (hN0 : 0 ≤ N) (hN1 : N ≤ 600) (hI : IM D ρ N H a0) (hp0 : 0 ≤ x1.toInt ∧ x1.toInt ≤ 700) : MI l D cI cS τ ρ yX12_nextHeld cX12_nextHeld 5 (some .int) 2 44 H [.ref a0, .int 0, .int x1, .int 1] (fun (r : Int32) (u : Heap) => (H = u) ∧ (r.toInt = -4 ∨ (x1.toInt ≤ r.toInt ∧ r.toInt < (ai H (ρ a0 0) 7).toInt ∧ heldP 0 H (ρ a0 0) r)) ∧ (-4 ≤ r.toInt ∧ r.toInt ≤ 700)) (fun q => False) := by
  refine MI.of (by decide) (Nat.le_of_ble_eq_true rfl) ?_
  intro p e s m args below meth c E hml hr hlk hs ls hl
  have hx := E.1
  have hb := E.2.1
  have hown := E.2.2.1
  have hts := E.2.2.2.1
  have hS : SS (fun q => False) H H [] := SS.rf
  have hl : lv_has ls 5 [(0, .ref a0), (1, .int 0), (2, .int x1), (3, .int 1)] := hl
  have n01 := hI.2.2.2.2.2.1
  have n23 := hI.2.2.2.2.2.2.1
  have L_3 : ∀ (n : Nat) (lc_c3 : List Loc) (ls : Array Slot) (y3_4 : Int32), SS (fun q => False) H H lc_c3 → lv_has ls 5 [(0, .ref a0), (1, .int 0), (2, .int x1), (3, .int 1), (4, .int y3_4)] → 0 ≤ x1.toInt → x1.toInt ≤ 700 → 0 ≤ y3_4.toInt → y3_4.toInt ≤ 700 → x1.toInt ≤ y3_4.toInt → ((ai H (ρ a0 0) 7).toInt - y3_4.toInt).toNat < n → W p l e (rmO 2 44) s m args below meth c H lc_c3 0 0 (MQ below (va_Qi (fun (r : Int32) (u : Heap) => (H = u) ∧ (r.toInt = -4 ∨ (x1.toInt ≤ r.toInt ∧ r.toInt < (ai H (ρ a0 0) 7).toInt ∧ heldP 0 H (ρ a0 0) r)) ∧ (-4 ≤ r.toInt ∧ r.toInt ≤ 700)) (Bt D cI cS τ ρ H) (fun q => False)) args s 0 0 (fun q => False)) (F0 m 3 ls []) := by
    intro n
    induction n with
    | zero => intro lc_c3 ls y3_4 hS_c3 hl ly3_2 uy3_2 ly3_4 uy3_4 hx3_0 hm; exact absurd hm (Nat.not_lt_zero _)
    | succ n ih_3 =>
      intro lc_c3 ls y3_4 hS_c3 hl ly3_2 uy3_2 ly3_4 uy3_4 hx3_0 hm_3
      refine lv_iload hx hb dX12_nextHeld_3 (lv_at hl 4 rfl) ?_
      refine lv_aload_n hx hb dX12_nextHeld_5 rfl (lv_at hl 0 rfl) ?_
      refine lv_iload_n hx hb dX12_nextHeld_6 rfl (lv_at hl 1 rfl) ?_
      refine lv_bipush (v := 7) hx hb dX12_nextHeld_7 (by decide) ?_
      refine th_Vi (As := [.int 0, .int 7]) (rest := [.int y3_4]) E hml hl.1 (y_get_v23 l D cI cS τ ρ hW H hT a0 ha0) lk_X12_99 yd_X12_get hT ha0 rfl (by decide) hS_c3 (fun _ h => h.elim) ⟨by decide, by decide⟩ (Nat.le_of_ble_eq_true rfl) ⟨by decide, by decide⟩ rfl dX12_nextHeld_9 (fun r_1 H_1 locs_1 p_1 hT_1 hk_1 hS_1 => ?_)
      have p_1 : H = H_1 ∧ (ai H (ρ a0 0) 7 = r_1) := p_1
      obtain ⟨rfl, p_1_0⟩ := p_1
      have b_r_1 : 0 ≤ r_1.toInt ∧ r_1.toInt ≤ N + 33 := by rw [← p_1_0]; exact hI.1 7 (by decide)
      have c_r_1 := congrArg Int32.toInt p_1_0
      refine lv_icmp_ge (tgt := 32) hx hb dX12_nextHeld_12 (by decide) (fun c_2 => ?_) (fun c_2 => ?_)
      · have f_2 : r_1.toInt ≤ y3_4.toInt := r_le rfl rfl c_2
        refine lv_iload_n hx hb dX12_nextHeld_32 rfl (lv_at hl 3 rfl) ?_
        refine lv_if_eq (tgt := 53) hx hb dX12_nextHeld_33 (by decide) (fun c_3 => absurd c_3 (by decide)) (fun c_3 => ?_)
        refine lv_iload hx hb dX12_nextHeld_36 (lv_at hl 4 rfl) ?_
        refine lv_aload_n hx hb dX12_nextHeld_38 rfl (lv_at hl 0 rfl) ?_
        refine lv_iload_n hx hb dX12_nextHeld_39 rfl (lv_at hl 1 rfl) ?_
        refine lv_bipush (v := 7) hx hb dX12_nextHeld_40 (by decide) ?_
        refine th_Vi (As := [.int 0, .int 7]) (rest := [.int y3_4]) E hml hl.1 (y_get_v23 l D cI cS τ ρ hW H hT_1 a0 ha0) lk_X12_99 yd_X12_get hT_1 ha0 rfl (by decide) hS_1 (fun _ h => h.elim) ⟨by decide, by decide⟩ (Nat.le_of_ble_eq_true rfl) ⟨by decide, by decide⟩ rfl dX12_nextHeld_42 (fun r_4 H_4 locs_4 p_4 hT_4 hk_4 hS_4 => ?_)
        have p_4 : H = H_4 ∧ (ai H (ρ a0 0) 7 = r_4) := p_4
        obtain ⟨rfl, p_4_0⟩ := p_4
        have s_4 : r_4 = r_1 := p_4_0.symm.trans p_1_0
        refine th_topi s_4 ?_
        refine lv_icmp_lt (tgt := 53) hx hb dX12_nextHeld_45 (by decide) (fun c_5 => ?_) (fun c_5 => ?_)
        · have f_5 : y3_4.toInt < r_1.toInt := r_lt rfl rfl c_5
          refine lv_iload hx hb dX12_nextHeld_53 (lv_at hl 4 rfl) ?_
          exact th_iret E hr hlk hs hT_4 hS_4 ⟨rfl, (Or.inr ⟨by omega, by first | omega | (exfalso; omega), by first | (exfalso; omega) | (rcases trivial with h | h; exact h.2; exfalso; omega)⟩), (by omega)⟩ dX12_nextHeld_55
        · have f_5 : r_1.toInt ≤ y3_4.toInt := r_nlt rfl rfl c_5
          refine lv_bipush (v := (-4)) hx hb dX12_nextHeld_48 (by decide) ?_
          refine lv_goto (tgt := 55) hx hb dX12_nextHeld_50 (by decide) ?_
          exact th_iret E hr hlk hs hT_4 hS_4 ⟨rfl, (Or.inl (by decide)), (by have : ((-4) : Int32).toInt = -4 := (by decide); omega)⟩ dX12_nextHeld_55
      · have f_2 : y3_4.toInt < r_1.toInt := r_nle rfl rfl c_2
        refine lv_aload_n hx hb dX12_nextHeld_15 rfl (lv_at hl 0 rfl) ?_
        refine lv_iload_n hx hb dX12_nextHeld_16 rfl (lv_at hl 1 rfl) ?_
        refine lv_iload hx hb dX12_nextHeld_17 (lv_at hl 4 rfl) ?_
        refine th_Vi (As := [.int 0, .int y3_4]) (rest := []) E hml hl.1 (y_isHeld_v2 l D cI cS τ ρ hW H hT_1 a0 y3_4 ha0 (by omega)) lk_X12_118 yd_X12_isHeld hT_1 ha0 rfl (by decide) hS_1 (fun _ h => h.elim) ⟨by decide, by decide⟩ (Nat.le_of_ble_eq_true rfl) ⟨by decide, by decide⟩ rfl dX12_nextHeld_19 (fun r_6 H_6 locs_6 p_6 hT_6 hk_6 hS_6 => ?_)
        have p_6 : H = H_6 ∧ (r_6 = 0 ∨ r_6 = 1) ∧ ((r_6.toInt = 1 ∧ heldP 0 H (ρ a0 0) y3_4) ∨ (r_6.toInt = 0 ∧ ¬ heldP 0 H (ρ a0 0) y3_4)) := p_6
        obtain ⟨rfl, p_6_0, p_6_1⟩ := p_6
        have z_6 := b_iv p_6_0
        refine lv_iload_n hx hb dX12_nextHeld_22 rfl (lv_at hl 3 rfl) ?_
        refine lv_icmp_eq (tgt := 32) hx hb dX12_nextHeld_23 (by decide) (fun c_7 => ?_) (fun c_7 => ?_)
        · have f_7 : r_6.toInt = 1 := r_eq rfl (by decide) c_7
          refine lv_iload_n hx hb dX12_nextHeld_32 rfl (lv_at hl 3 rfl) ?_
          refine lv_if_eq (tgt := 53) hx hb dX12_nextHeld_33 (by decide) (fun c_8 => absurd c_8 (by decide)) (fun c_8 => ?_)
          refine lv_iload hx hb dX12_nextHeld_36 (lv_at hl 4 rfl) ?_
          refine lv_aload_n hx hb dX12_nextHeld_38 rfl (lv_at hl 0 rfl) ?_
          refine lv_iload_n hx hb dX12_nextHeld_39 rfl (lv_at hl 1 rfl) ?_
          refine lv_bipush (v := 7) hx hb dX12_nextHeld_40 (by decide) ?_
          refine th_Vi (As := [.int 0, .int 7]) (rest := [.int y3_4]) E hml hl.1 (y_get_v23 l D cI cS τ ρ hW H hT_6 a0 ha0) lk_X12_99 yd_X12_get hT_6 ha0 rfl (by decide) hS_6 (fun _ h => h.elim) ⟨by decide, by decide⟩ (Nat.le_of_ble_eq_true rfl) ⟨by decide, by decide⟩ rfl dX12_nextHeld_42 (fun r_9 H_9 locs_9 p_9 hT_9 hk_9 hS_9 => ?_)
          have p_9 : H = H_9 ∧ (ai H (ρ a0 0) 7 = r_9) := p_9
          obtain ⟨rfl, p_9_0⟩ := p_9
          have s_9 : r_9 = r_1 := p_9_0.symm.trans p_1_0
          refine th_topi s_9 ?_
          refine lv_icmp_lt (tgt := 53) hx hb dX12_nextHeld_45 (by decide) (fun c_10 => ?_) (fun c_10 => ?_)
          · have f_10 : y3_4.toInt < r_1.toInt := r_lt rfl rfl c_10
            refine lv_iload hx hb dX12_nextHeld_53 (lv_at hl 4 rfl) ?_
            exact th_iret E hr hlk hs hT_9 hS_9 ⟨rfl, (Or.inr ⟨by omega, by first | omega | (exfalso; omega), by first | (exfalso; omega) | (rcases p_6_1 with h | h; exact h.2; exfalso; omega)⟩), (by omega)⟩ dX12_nextHeld_55
          · have f_10 : r_1.toInt ≤ y3_4.toInt := r_nlt rfl rfl c_10
            refine lv_bipush (v := (-4)) hx hb dX12_nextHeld_48 (by decide) ?_
            refine lv_goto (tgt := 55) hx hb dX12_nextHeld_50 (by decide) ?_
            exact th_iret E hr hlk hs hT_9 hS_9 ⟨rfl, (Or.inl (by decide)), (by have : ((-4) : Int32).toInt = -4 := (by decide); omega)⟩ dX12_nextHeld_55
        · have f_7 : ¬ r_6.toInt = 1 := r_ne rfl (by decide) c_7
          obtain ⟨x_11, ex_11⟩ : ∃ y : Int32, y3_4 + 1 = y := ⟨_, rfl⟩
          have q_x_11 : x_11.toInt = y3_4.toInt + 1 := i_add (k := 1) (by decide) ex_11 (by have := i_min y3_4; omega) (by have := i_max y3_4; omega)
          refine lv_iinc (v := x_11) (lv' := [(4, .int x_11), (0, .ref a0), (1, .int 0), (2, .int x1), (3, .int 1)]) hx hb dX12_nextHeld_26 hl (k := 4) rfl (by rw [← ex_11]; rfl) (by decide) rfl (fun ls hl => ?_)
          refine lv_goto (tgt := 3) hx hb dX12_nextHeld_29 (by decide) ?_
          exact ih_3 locs_6 _ x_11 hS_6 (lv_sub hl [1, 2, 3, 4, 0] rfl) (by omega) (by omega) (by omega) (by omega) (by omega) (by omega)
  refine lv_iload_n hx hb dX12_nextHeld_0 rfl (lv_at hl 2 rfl) ?_
  refine lv_istore (lv' := [(4, .int x1), (0, .ref a0), (1, .int 0), (2, .int x1), (3, .int 1)]) hx hb dX12_nextHeld_1 hl (by decide) rfl (fun ls hl => ?_)
  exact L_3 _ [] _ x1 hS (lv_sub hl [1, 2, 3, 4, 0] rfl) (by omega) (by omega) (by omega) (by omega) (by omega) (Nat.lt_succ_self _)
set_option maxHeartbeats 4000000 in
set_option maxRecDepth 100000 in
/-- the reference: nextHeld -/
theorem y_nextHeld_v2 (l : Launch) (D : va_G) (cI cS : ClassId) (τ : Nat → Option Nat) (ρ : Nat → Nat → Nat) (hW : WF τ ρ) (H : Heap) (hT : TH D cI cS τ ρ H) (a0 : Nat) (x1 : Int32) (ha0 : τ a0 = some 12) (N : Int) (hN0 : 0 ≤ N) (hN1 : N ≤ 600) (hI : IM D ρ N H a0) (hp0 : 0 ≤ x1.toInt ∧ x1.toInt ≤ 700) : MI l D cI cS τ ρ yX12_nextHeld cX12_nextHeld 5 (some .int) 2 44 H [.ref a0, .int 0, .int x1, .int 0] (fun (r : Int32) (u : Heap) => (H = u) ∧ (x1.toInt ≤ r.toInt ∧ r.toInt ≤ 700) ∧ ((x1.toInt < (ai H (ρ a0 0) 7).toInt ∧ heldP 0 H (ρ a0 0) x1) → x1.toInt + 1 ≤ r.toInt)) (fun q => False) := by
  refine MI.of (by decide) (Nat.le_of_ble_eq_true rfl) ?_
  intro p e s m args below meth c E hml hr hlk hs ls hl
  have hx := E.1
  have hb := E.2.1
  have hown := E.2.2.1
  have hts := E.2.2.2.1
  have hS : SS (fun q => False) H H [] := SS.rf
  have hl : lv_has ls 5 [(0, .ref a0), (1, .int 0), (2, .int x1), (3, .int 0)] := hl
  have n01 := hI.2.2.2.2.2.1
  have n23 := hI.2.2.2.2.2.2.1
  have L_3 : ∀ (n : Nat) (lc_c3 : List Loc) (ls : Array Slot) (y3_4 : Int32), SS (fun q => False) H H lc_c3 → lv_has ls 5 [(0, .ref a0), (1, .int 0), (2, .int x1), (3, .int 0), (4, .int y3_4)] → 0 ≤ x1.toInt → x1.toInt ≤ 700 → 0 ≤ y3_4.toInt → y3_4.toInt ≤ 700 → x1.toInt ≤ y3_4.toInt → ((ai H (ρ a0 0) 7).toInt - y3_4.toInt).toNat < n → W p l e (rmO 2 44) s m args below meth c H lc_c3 0 0 (MQ below (va_Qi (fun (r : Int32) (u : Heap) => (H = u) ∧ (x1.toInt ≤ r.toInt ∧ r.toInt ≤ 700) ∧ ((x1.toInt < (ai H (ρ a0 0) 7).toInt ∧ heldP 0 H (ρ a0 0) x1) → x1.toInt + 1 ≤ r.toInt)) (Bt D cI cS τ ρ H) (fun q => False)) args s 0 0 (fun q => False)) (F0 m 3 ls []) := by
    intro n
    induction n with
    | zero => intro lc_c3 ls y3_4 hS_c3 hl ly3_2 uy3_2 ly3_4 uy3_4 hx3_0 hm; exact absurd hm (Nat.not_lt_zero _)
    | succ n ih_3 =>
      intro lc_c3 ls y3_4 hS_c3 hl ly3_2 uy3_2 ly3_4 uy3_4 hx3_0 hm_3
      refine lv_iload hx hb dX12_nextHeld_3 (lv_at hl 4 rfl) ?_
      refine lv_aload_n hx hb dX12_nextHeld_5 rfl (lv_at hl 0 rfl) ?_
      refine lv_iload_n hx hb dX12_nextHeld_6 rfl (lv_at hl 1 rfl) ?_
      refine lv_bipush (v := 7) hx hb dX12_nextHeld_7 (by decide) ?_
      refine th_Vi (As := [.int 0, .int 7]) (rest := [.int y3_4]) E hml hl.1 (y_get_v23 l D cI cS τ ρ hW H hT a0 ha0) lk_X12_99 yd_X12_get hT ha0 rfl (by decide) hS_c3 (fun _ h => h.elim) ⟨by decide, by decide⟩ (Nat.le_of_ble_eq_true rfl) ⟨by decide, by decide⟩ rfl dX12_nextHeld_9 (fun r_1 H_1 locs_1 p_1 hT_1 hk_1 hS_1 => ?_)
      have p_1 : H = H_1 ∧ (ai H (ρ a0 0) 7 = r_1) := p_1
      obtain ⟨rfl, p_1_0⟩ := p_1
      have b_r_1 : 0 ≤ r_1.toInt ∧ r_1.toInt ≤ N + 33 := by rw [← p_1_0]; exact hI.1 7 (by decide)
      have c_r_1 := congrArg Int32.toInt p_1_0
      refine lv_icmp_ge (tgt := 32) hx hb dX12_nextHeld_12 (by decide) (fun c_2 => ?_) (fun c_2 => ?_)
      · have f_2 : r_1.toInt ≤ y3_4.toInt := r_le rfl rfl c_2
        refine lv_iload_n hx hb dX12_nextHeld_32 rfl (lv_at hl 3 rfl) ?_
        refine lv_if_eq (tgt := 53) hx hb dX12_nextHeld_33 (by decide) (fun c_3 => ?_) (fun c_3 => absurd (by decide) c_3)
        refine lv_iload hx hb dX12_nextHeld_53 (lv_at hl 4 rfl) ?_
        exact th_iret E hr hlk hs hT_1 hS_1 ⟨rfl, (by omega), (fun h => by first | omega | (exfalso; omega) | (by_cases q : y3_4.toInt = x1.toInt; exfalso; have e9 := Int32.toInt_inj.mp q; rw [e9] at trivial; rcases trivial with g | g; omega; exact g.2 h.2; omega))⟩ dX12_nextHeld_55
      · have f_2 : y3_4.toInt < r_1.toInt := r_nle rfl rfl c_2
        refine lv_aload_n hx hb dX12_nextHeld_15 rfl (lv_at hl 0 rfl) ?_
        refine lv_iload_n hx hb dX12_nextHeld_16 rfl (lv_at hl 1 rfl) ?_
        refine lv_iload hx hb dX12_nextHeld_17 (lv_at hl 4 rfl) ?_
        refine th_Vi (As := [.int 0, .int y3_4]) (rest := []) E hml hl.1 (y_isHeld_v2 l D cI cS τ ρ hW H hT_1 a0 y3_4 ha0 (by omega)) lk_X12_118 yd_X12_isHeld hT_1 ha0 rfl (by decide) hS_1 (fun _ h => h.elim) ⟨by decide, by decide⟩ (Nat.le_of_ble_eq_true rfl) ⟨by decide, by decide⟩ rfl dX12_nextHeld_19 (fun r_4 H_4 locs_4 p_4 hT_4 hk_4 hS_4 => ?_)
        have p_4 : H = H_4 ∧ (r_4 = 0 ∨ r_4 = 1) ∧ ((r_4.toInt = 1 ∧ heldP 0 H (ρ a0 0) y3_4) ∨ (r_4.toInt = 0 ∧ ¬ heldP 0 H (ρ a0 0) y3_4)) := p_4
        obtain ⟨rfl, p_4_0, p_4_1⟩ := p_4
        have z_4 := b_iv p_4_0
        refine lv_iload_n hx hb dX12_nextHeld_22 rfl (lv_at hl 3 rfl) ?_
        refine lv_icmp_eq (tgt := 32) hx hb dX12_nextHeld_23 (by decide) (fun c_5 => ?_) (fun c_5 => ?_)
        · have f_5 : r_4.toInt = 0 := r_eq rfl (by decide) c_5
          refine lv_iload_n hx hb dX12_nextHeld_32 rfl (lv_at hl 3 rfl) ?_
          refine lv_if_eq (tgt := 53) hx hb dX12_nextHeld_33 (by decide) (fun c_6 => ?_) (fun c_6 => absurd (by decide) c_6)
          refine lv_iload hx hb dX12_nextHeld_53 (lv_at hl 4 rfl) ?_
          exact th_iret E hr hlk hs hT_4 hS_4 ⟨rfl, (by omega), (fun h => by first | omega | (exfalso; omega) | (by_cases q : y3_4.toInt = x1.toInt; exfalso; have e9 := Int32.toInt_inj.mp q; rw [e9] at p_4_1; rcases p_4_1 with g | g; omega; exact g.2 h.2; omega))⟩ dX12_nextHeld_55
        · have f_5 : ¬ r_4.toInt = 0 := r_ne rfl (by decide) c_5
          have nz_r_4 : ¬ r_4 = 0 := c_5
          obtain ⟨x_7, ex_7⟩ : ∃ y : Int32, y3_4 + 1 = y := ⟨_, rfl⟩
          have q_x_7 : x_7.toInt = y3_4.toInt + 1 := i_add (k := 1) (by decide) ex_7 (by have := i_min y3_4; omega) (by have := i_max y3_4; omega)
          refine lv_iinc (v := x_7) (lv' := [(4, .int x_7), (0, .ref a0), (1, .int 0), (2, .int x1), (3, .int 0)]) hx hb dX12_nextHeld_26 hl (k := 4) rfl (by rw [← ex_7]; rfl) (by decide) rfl (fun ls hl => ?_)
          refine lv_goto (tgt := 3) hx hb dX12_nextHeld_29 (by decide) ?_
          exact ih_3 locs_4 _ x_7 hS_4 (lv_sub hl [1, 2, 3, 4, 0] rfl) (by omega) (by omega) (by omega) (by omega) (by omega) (by omega)
  refine lv_iload_n hx hb dX12_nextHeld_0 rfl (lv_at hl 2 rfl) ?_
  refine lv_istore (lv' := [(4, .int x1), (0, .ref a0), (1, .int 0), (2, .int x1), (3, .int 0)]) hx hb dX12_nextHeld_1 hl (by decide) rfl (fun ls hl => ?_)
  exact L_3 _ [] _ x1 hS (lv_sub hl [1, 2, 3, 4, 0] rfl) (by omega) (by omega) (by omega) (by omega) (by omega) (Nat.lt_succ_self _)
set_option maxHeartbeats 4000000 in
set_option maxRecDepth 100000 in
/-- the reference: spans -/
theorem y_spans (l : Launch) (D : va_G) (cI cS : ClassId) (τ : Nat → Option Nat) (ρ : Nat → Nat → Nat) (hW : WF τ ρ) (H : Heap) (hT : TH D cI cS τ ρ H) (a0 : Nat) (ha0 : τ a0 = some 12) (N : Int) (hN0 : 0 ≤ N) (hN1 : N ≤ 600) (hI : IM D ρ N H a0) : MV l D cI cS τ ρ yX12_spans cX12_spans 4 none 3 68 H [.ref a0, .int 0] (fun (u : Heap) => (IM D ρ N u a0) ∧ ((ai H (ρ a0 0) 976).toInt ≤ (ai u (ρ a0 0) 976).toInt)) (fun q => q = ρ a0 2) := by
  refine MV.of (by decide) (Nat.le_of_ble_eq_true rfl) ?_
  intro p e s m args below meth c E hml hr hlk hs ls hl
  have hx := E.1
  have hb := E.2.1
  have hown := E.2.2.1
  have hts := E.2.2.2.1
  have hS : SS (fun q => q = ρ a0 2) H H [] := SS.rf
  have hl : lv_has ls 4 [(0, .ref a0), (1, .int 0)] := hl
  have n01 := hI.2.2.2.2.2.1
  have n23 := hI.2.2.2.2.2.2.1
  have L_13 : ∀ (n : Nat) (H_c13 : Heap) (lc_c13 : List Loc) (ls : Array Slot) (y13_2 : Int32) (g13_0 : Int32), TH D cI cS τ ρ H_c13 → SS (fun q => q = ρ a0 2) H H_c13 lc_c13 → lv_has ls 4 [(0, .ref a0), (1, .int 0), (2, .int y13_2)] → -4 ≤ y13_2.toInt → y13_2.toInt ≤ 700 → ai H_c13 (ρ a0 2) 6 = g13_0 → IM D ρ N H_c13 a0 → (ai H (ρ a0 0) 976).toInt ≤ (ai H_c13 (ρ a0 0) 976).toInt → y13_2.toInt = -4 ∨ 0 ≤ y13_2.toInt → (2 - g13_0.toInt).toNat < n → W p l e (rmO 3 68) s m args below meth c H_c13 lc_c13 0 0 (MQ below (va_Qv (fun (u : Heap) => (IM D ρ N u a0) ∧ ((ai H (ρ a0 0) 976).toInt ≤ (ai u (ρ a0 0) 976).toInt)) (Bt D cI cS τ ρ H) (fun q => q = ρ a0 2)) args s 0 0 (fun q => q = ρ a0 2)) (F0 m 13 ls []) := by
    intro n
    induction n with
    | zero => intro H_c13 lc_c13 ls y13_2 g13_0 hT_c13 hS_c13 hl ly13_2 uy13_2 hg13_0 hI_c13 hmn_c13 hx13_0 hm; exact absurd hm (Nat.not_lt_zero _)
    | succ n ih_13 =>
      intro H_c13 lc_c13 ls y13_2 g13_0 hT_c13 hS_c13 hl ly13_2 uy13_2 hg13_0 hI_c13 hmn_c13 hx13_0 hm_13
      have bb_g13_0 : 0 ≤ g13_0.toInt ∧ g13_0.toInt ≤ 2 := by rw [← hg13_0]; exact hI_c13.2.2.2.1 6 (by decide)
      have cg_g13_0 := congrArg Int32.toInt hg13_0
      refine lv_iload_n hx hb dX12_spans_13 rfl (lv_at hl 2 rfl) ?_
      refine lv_bipush (v := (-4)) hx hb dX12_spans_14 (by decide) ?_
      refine lv_icmp_eq (tgt := 112) hx hb dX12_spans_16 (by decide) (fun c_1 => ?_) (fun c_1 => ?_)
      · have f_1 : y13_2.toInt = -4 := r_eq rfl (by decide) c_1
        exact th_vret E hr hlk hs hT_c13 hS_c13 ⟨⟨hI_c13.1, hI_c13.2.1, hI_c13.2.2.1, hI_c13.2.2.2.1, hI_c13.2.2.2.2.1, hI_c13.2.2.2.2.2⟩, (by omega)⟩ dX12_spans_112
      · have f_1 : ¬ y13_2.toInt = -4 := r_ne rfl (by decide) c_1
        refine lv_aload_n hx hb dX12_spans_19 rfl (lv_at hl 0 rfl) ?_
        refine gf_X12_16 E hT_c13 hW ha0 dX12_spans_20 (fun h_2 => ?_)
        refine lv_bipush (v := 6) hx hb dX12_spans_23 (by decide) ?_
        refine th_iald E hT_c13 h_2 (by decide) (vp_in_iff.mpr ⟨by decide, by decide⟩) dX12_spans_25 ?_
        refine th_topi (y := ai H_c13 (ρ a0 2) 6) rfl ?_
        refine th_topi (y := g13_0) hg13_0 ?_
        refine lv_iconst (v := 2) hx hb dX12_spans_26 (by decide) ?_
        refine lv_icmp_ge (tgt := 112) hx hb dX12_spans_27 (by decide) (fun c_4 => ?_) (fun c_4 => ?_)
        · have f_4 : 2 ≤ g13_0.toInt := r_le (by decide) rfl c_4
          exact th_vret E hr hlk hs hT_c13 hS_c13 ⟨⟨hI_c13.1, hI_c13.2.1, hI_c13.2.2.1, hI_c13.2.2.2.1, hI_c13.2.2.2.2.1, hI_c13.2.2.2.2.2⟩, (by omega)⟩ dX12_spans_112
        · have f_4 : g13_0.toInt < 2 := r_nle (by decide) rfl c_4
          refine lv_aload_n hx hb dX12_spans_30 rfl (lv_at hl 0 rfl) ?_
          refine lv_iload_n hx hb dX12_spans_31 rfl (lv_at hl 1 rfl) ?_
          refine lv_iload_n hx hb dX12_spans_32 rfl (lv_at hl 2 rfl) ?_
          refine lv_iconst (v := 0) hx hb dX12_spans_33 (by decide) ?_
          refine th_Vi (As := [.int 0, .int y13_2, .int 0]) (rest := []) E hml hl.1 (y_nextHeld_v2 l D cI cS τ ρ hW H_c13 hT_c13 a0 y13_2 ha0 N hN0 hN1 ⟨hI_c13.1, hI_c13.2.1, hI_c13.2.2.1, hI_c13.2.2.2.1, hI_c13.2.2.2.2.1, hI_c13.2.2.2.2.2⟩ (by omega)) lk_X12_122 yd_X12_nextHeld hT_c13 ha0 rfl (by decide) hS_c13 (fun _ h => h.elim) ⟨by decide, by decide⟩ (Nat.le_of_ble_eq_true rfl) ⟨by decide, by decide⟩ rfl dX12_spans_34 (fun r_5 H_5 locs_5 p_5 hT_5 hk_5 hS_5 => ?_)
          have p_5 : H_c13 = H_5 ∧ (y13_2.toInt ≤ r_5.toInt ∧ r_5.toInt ≤ 700) ∧ ((y13_2.toInt < (ai H_c13 (ρ a0 0) 7).toInt ∧ heldP 0 H_c13 (ρ a0 0) y13_2) → y13_2.toInt + 1 ≤ r_5.toInt) := p_5
          obtain ⟨rfl, p_5_0, p_5_1⟩ := p_5
          refine lv_istore_n (lv' := [(3, .int r_5), (0, .ref a0), (1, .int 0), (2, .int y13_2)]) hx hb dX12_spans_37 rfl hl (by decide) rfl (fun ls hl => ?_)
          refine lv_aload_n hx hb dX12_spans_38 rfl (lv_at hl 1 rfl) ?_
          refine gf_X12_16 E hT_5 hW ha0 dX12_spans_39 (fun h_6 => ?_)
          refine lv_bipush (v := 8) hx hb dX12_spans_42 (by decide) ?_
          refine lv_iconst (v := 2) hx hb dX12_spans_44 (by decide) ?_
          refine lv_aload_n hx hb dX12_spans_45 rfl (lv_at hl 1 rfl) ?_
          refine gf_X12_16 E hT_5 hW ha0 dX12_spans_46 (fun h_7 => ?_)
          refine lv_bipush (v := 6) hx hb dX12_spans_49 (by decide) ?_
          refine th_iald E hT_5 h_7 (by decide) (vp_in_iff.mpr ⟨by decide, by decide⟩) dX12_spans_51 ?_
          refine th_topi (y := ai H_c13 (ρ a0 2) 6) rfl ?_
          refine th_topi (y := g13_0) hg13_0 ?_
          refine lv_imul hx hb dX12_spans_52 ?_
          refine lv_topi (fun x_9 ex_9 => ?_)
          have q_9 : x_9.toInt = 2 * g13_0.toInt := i_ml (by decide) rfl ex_9 (by omega) (by omega)
          refine lv_iadd hx hb dX12_spans_53 ?_
          refine lv_topi (fun x_10 ex_10 => ?_)
          have q_10 : x_10.toInt = 8 + x_9.toInt := i_pl (by decide) rfl ex_10 (by omega) (by omega)
          refine lv_aload_n hx hb dX12_spans_54 rfl (lv_at hl 1 rfl) ?_
          refine lv_iconst (v := 1) hx hb dX12_spans_55 (by decide) ?_
          refine lv_iload_n hx hb dX12_spans_56 rfl (lv_at hl 2 rfl) ?_
          refine lv_isub hx hb dX12_spans_57 ?_
          refine th_topi (y := 1) (by decide) ?_
          refine lv_iload_n hx hb dX12_spans_58 rfl (lv_at hl 3 rfl) ?_
          refine th_Vi (As := [.int 1, .int y13_2]) (rest := [.int x_10, .ref (ρ a0 2)]) E hml hl.1 (y_number_v2 l D cI cS τ ρ hW H_c13 hT_5 a0 y13_2 ha0) lk_X12_112 yd_X12_number hT_5 ha0 rfl (by decide) hS_5 (fun _ h => h.elim) ⟨by decide, by decide⟩ (Nat.le_of_ble_eq_true rfl) ⟨by decide, by decide⟩ rfl dX12_spans_59 (fun r_11 H_11 locs_11 p_11 hT_11 hk_11 hS_11 => ?_)
          have p_11 : H_c13 = H_11 := p_11
          obtain rfl := p_11
          refine th_iast E hT_11 hS_11 h_6 rfl (by decide) (vp_in_iff.mpr ⟨by omega, by omega⟩) dX12_spans_62 (fun H_12 locs_12 hT_12 hU_12 hS_12 => ?_)
          have hU_12 : AU 20 H_c13 H_12 (ρ a0 2) x_10.toInt.toNat r_11 := hU_12
          have hL_12 : PL H_12 (ρ a0 2) := PL.free hI_c13.2.2.2.1 hU_12 (by omega)
          refine lv_aload_n hx hb dX12_spans_63 rfl (lv_at hl 1 rfl) ?_
          refine gf_X12_16 E hT_12 hW ha0 dX12_spans_64 (fun h_13 => ?_)
          refine lv_bipush (v := 8) hx hb dX12_spans_67 (by decide) ?_
          refine lv_iconst (v := 2) hx hb dX12_spans_69 (by decide) ?_
          refine lv_aload_n hx hb dX12_spans_70 rfl (lv_at hl 1 rfl) ?_
          refine gf_X12_16 E hT_12 hW ha0 dX12_spans_71 (fun h_14 => ?_)
          refine lv_bipush (v := 6) hx hb dX12_spans_74 (by decide) ?_
          refine th_iald E hT_12 h_14 (by decide) (vp_in_iff.mpr ⟨by decide, by decide⟩) dX12_spans_76 ?_
          refine th_topi (y := ai H_12 (ρ a0 2) 6) rfl ?_
          refine th_topi (y := g13_0) (Eq.trans (AU.o hU_12 (by decide) (by omega)) hg13_0) ?_
          refine lv_imul hx hb dX12_spans_77 ?_
          refine lv_topi (fun x_16 ex_16 => ?_)
          have q_16 : x_16.toInt = 2 * g13_0.toInt := i_ml (by decide) rfl ex_16 (by omega) (by omega)
          refine lv_iadd hx hb dX12_spans_78 ?_
          refine lv_topi (fun x_17 ex_17 => ?_)
          have q_17 : x_17.toInt = 8 + x_16.toInt := i_pl (by decide) rfl ex_17 (by omega) (by omega)
          refine lv_iconst (v := 1) hx hb dX12_spans_79 (by decide) ?_
          refine lv_iadd hx hb dX12_spans_80 ?_
          refine lv_topi (fun x_18 ex_18 => ?_)
          have q_18 : x_18.toInt = x_17.toInt + 1 := i_pl rfl (by decide) ex_18 (by omega) (by omega)
          refine lv_aload_n hx hb dX12_spans_81 rfl (lv_at hl 1 rfl) ?_
          refine lv_iconst (v := 1) hx hb dX12_spans_82 (by decide) ?_
          refine lv_iload_n hx hb dX12_spans_83 rfl (lv_at hl 2 rfl) ?_
          refine lv_isub hx hb dX12_spans_84 ?_
          refine th_topi (y := 1) (by decide) ?_
          refine lv_iload_n hx hb dX12_spans_85 rfl (lv_at hl 0 rfl) ?_
          refine th_Vi (As := [.int 1, .int r_5]) (rest := [.int x_18, .ref (ρ a0 2)]) E hml hl.1 (y_number_v2 l D cI cS τ ρ hW H_12 hT_12 a0 r_5 ha0) lk_X12_112 yd_X12_number hT_12 ha0 rfl (by decide) hS_12 (fun _ h => h.elim) ⟨by decide, by decide⟩ (Nat.le_of_ble_eq_true rfl) ⟨by decide, by decide⟩ rfl dX12_spans_86 (fun r_19 H_19 locs_19 p_19 hT_19 hk_19 hS_19 => ?_)
          have p_19 : H_12 = H_19 := p_19
          obtain rfl := p_19
          refine th_iast E hT_19 hS_19 h_13 rfl (by decide) (vp_in_iff.mpr ⟨by omega, by omega⟩) dX12_spans_89 (fun H_20 locs_20 hT_20 hU_20 hS_20 => ?_)
          have hU_20 : AU 20 H_12 H_20 (ρ a0 2) x_18.toInt.toNat r_19 := hU_20
          have hL_20 : PL H_20 (ρ a0 2) := PL.free hL_12 hU_20 (by omega)
          refine lv_aload_n hx hb dX12_spans_90 rfl (lv_at hl 1 rfl) ?_
          refine gf_X12_16 E hT_20 hW ha0 dX12_spans_91 (fun h_21 => ?_)
          refine lv_bipush (v := 6) hx hb dX12_spans_94 (by decide) ?_
          refine lv_dup2_11 hx hb dX12_spans_96 rfl rfl ?_
          refine th_iald E hT_20 h_21 (by decide) (vp_in_iff.mpr ⟨by decide, by decide⟩) dX12_spans_97 ?_
          refine th_topi (y := ai H_20 (ρ a0 2) 6) rfl ?_
          refine th_topi (y := g13_0) (Eq.trans (AU.o hU_20 (by decide) (by omega)) (Eq.trans (AU.o hU_12 (by decide) (by omega)) hg13_0)) ?_
          refine lv_iconst (v := 1) hx hb dX12_spans_98 (by decide) ?_
          refine lv_iadd hx hb dX12_spans_99 ?_
          refine lv_topi (fun x_23 ex_23 => ?_)
          have q_23 : x_23.toInt = g13_0.toInt + 1 := i_pl rfl (by decide) ex_23 (by omega) (by omega)
          refine th_iast E hT_20 hS_20 h_21 rfl (by decide) (vp_in_iff.mpr ⟨by decide, by decide⟩) dX12_spans_100 (fun H_24 locs_24 hT_24 hU_24 hS_24 => ?_)
          have hU_24 : AU 20 H_20 H_24 (ρ a0 2) 6 x_23 := hU_24
          have hL_24 : PL H_24 (ρ a0 2) := PL.put hL_20 hU_24 (by show (0 : Int) ≤ x_23.toInt; omega) (by show x_23.toInt ≤ (2 : Int); omega)
          refine lv_aload_n hx hb dX12_spans_101 rfl (lv_at hl 1 rfl) ?_
          refine lv_iload_n hx hb dX12_spans_102 rfl (lv_at hl 2 rfl) ?_
          refine lv_iload_n hx hb dX12_spans_103 rfl (lv_at hl 0 rfl) ?_
          refine lv_iconst (v := 1) hx hb dX12_spans_104 (by decide) ?_
          refine th_Vi (As := [.int 0, .int r_5, .int 1]) (rest := []) E hml hl.1 (y_nextHeld l D cI cS τ ρ hW H_24 hT_24 a0 r_5 ha0 N hN0 hN1 ⟨(PW.q (hU_24.2 _ (th_ne (hW _ 12 0 ha0 (by decide) (by decide) (by decide)) (hW _ 12 2 ha0 (by decide) (by decide) (by decide)) (by decide))) (PW.q (hU_20.2 _ (th_ne (hW _ 12 0 ha0 (by decide) (by decide) (by decide)) (hW _ 12 2 ha0 (by decide) (by decide) (by decide)) (by decide))) (PW.q (hU_12.2 _ (th_ne (hW _ 12 0 ha0 (by decide) (by decide) (by decide)) (hW _ 12 2 ha0 (by decide) (by decide) (by decide)) (by decide))) hI_c13.1))), (QS.same (Eq.trans (ai_q (hU_24.2 _ (th_ne (hW _ 12 0 ha0 (by decide) (by decide) (by decide)) (hW _ 12 2 ha0 (by decide) (by decide) (by decide)) (by decide)))) (Eq.trans (ai_q (hU_20.2 _ (th_ne (hW _ 12 0 ha0 (by decide) (by decide) (by decide)) (hW _ 12 2 ha0 (by decide) (by decide) (by decide)) (by decide)))) (ai_q (hU_12.2 _ (th_ne (hW _ 12 0 ha0 (by decide) (by decide) (by decide)) (hW _ 12 2 ha0 (by decide) (by decide) (by decide)) (by decide)))))) (Eq.trans (ai_q (hU_24.2 _ (th_ne (hW _ 12 0 ha0 (by decide) (by decide) (by decide)) (hW _ 12 2 ha0 (by decide) (by decide) (by decide)) (by decide)))) (Eq.trans (ai_q (hU_20.2 _ (th_ne (hW _ 12 0 ha0 (by decide) (by decide) (by decide)) (hW _ 12 2 ha0 (by decide) (by decide) (by decide)) (by decide)))) (ai_q (hU_12.2 _ (th_ne (hW _ 12 0 ha0 (by decide) (by decide) (by decide)) (hW _ 12 2 ha0 (by decide) (by decide) (by decide)) (by decide)))))) hI_c13.2.1), (QS.same (Eq.trans (ai_q (hU_24.2 _ (th_ne (hW _ 12 0 ha0 (by decide) (by decide) (by decide)) (hW _ 12 2 ha0 (by decide) (by decide) (by decide)) (by decide)))) (Eq.trans (ai_q (hU_20.2 _ (th_ne (hW _ 12 0 ha0 (by decide) (by decide) (by decide)) (hW _ 12 2 ha0 (by decide) (by decide) (by decide)) (by decide)))) (ai_q (hU_12.2 _ (th_ne (hW _ 12 0 ha0 (by decide) (by decide) (by decide)) (hW _ 12 2 ha0 (by decide) (by decide) (by decide)) (by decide)))))) (Eq.trans (ai_q (hU_24.2 _ (th_ne (hW _ 12 0 ha0 (by decide) (by decide) (by decide)) (hW _ 12 2 ha0 (by decide) (by decide) (by decide)) (by decide)))) (Eq.trans (ai_q (hU_20.2 _ (th_ne (hW _ 12 0 ha0 (by decide) (by decide) (by decide)) (hW _ 12 2 ha0 (by decide) (by decide) (by decide)) (by decide)))) (ai_q (hU_12.2 _ (th_ne (hW _ 12 0 ha0 (by decide) (by decide) (by decide)) (hW _ 12 2 ha0 (by decide) (by decide) (by decide)) (by decide)))))) hI_c13.2.2.1), hL_24, (PL.q (hU_24.2 _ (Ne.symm n23)) (PL.q (hU_20.2 _ (Ne.symm n23)) (PL.q (hU_12.2 _ (Ne.symm n23)) hI_c13.2.2.2.2.1))), (IF.q (hU_24.2 _ (th_ne ha0 (hW _ 12 2 ha0 (by decide) (by decide) (by decide)) (by decide))) (IF.q (hU_20.2 _ (th_ne ha0 (hW _ 12 2 ha0 (by decide) (by decide) (by decide)) (by decide))) (IF.q (hU_12.2 _ (th_ne ha0 (hW _ 12 2 ha0 (by decide) (by decide) (by decide)) (by decide))) hI_c13.2.2.2.2.2)))⟩ (by omega)) lk_X12_122 yd_X12_nextHeld hT_24 ha0 rfl (by decide) hS_24 (fun _ h => h.elim) ⟨by decide, by decide⟩ (Nat.le_of_ble_eq_true rfl) ⟨by decide, by decide⟩ rfl dX12_spans_105 (fun r_25 H_25 locs_25 p_25 hT_25 hk_25 hS_25 => ?_)
          have p_25 : H_24 = H_25 ∧ (r_25.toInt = -4 ∨ (r_5.toInt ≤ r_25.toInt ∧ r_25.toInt < (ai H_24 (ρ a0 0) 7).toInt ∧ heldP 0 H_24 (ρ a0 0) r_25)) ∧ (-4 ≤ r_25.toInt ∧ r_25.toInt ≤ 700) := p_25
          obtain ⟨rfl, p_25_0, p_25_1⟩ := p_25
          refine lv_istore_n (lv' := [(2, .int r_25), (3, .int r_5), (0, .ref a0), (1, .int 0)]) hx hb dX12_spans_108 rfl hl (by decide) rfl (fun ls hl => ?_)
          refine lv_goto (tgt := 13) hx hb dX12_spans_109 (by decide) ?_
          exact ih_13 H_24 locs_25 _ r_25 x_23 hT_25 hS_25 (lv_sub hl [2, 3, 0] rfl) (by omega) (by omega) (AU.s hU_24 (by decide)) ⟨(PW.q (hU_24.2 _ (th_ne (hW _ 12 0 ha0 (by decide) (by decide) (by decide)) (hW _ 12 2 ha0 (by decide) (by decide) (by decide)) (by decide))) (PW.q (hU_20.2 _ (th_ne (hW _ 12 0 ha0 (by decide) (by decide) (by decide)) (hW _ 12 2 ha0 (by decide) (by decide) (by decide)) (by decide))) (PW.q (hU_12.2 _ (th_ne (hW _ 12 0 ha0 (by decide) (by decide) (by decide)) (hW _ 12 2 ha0 (by decide) (by decide) (by decide)) (by decide))) hI_c13.1))), (QS.same (Eq.trans (ai_q (hU_24.2 _ (th_ne (hW _ 12 0 ha0 (by decide) (by decide) (by decide)) (hW _ 12 2 ha0 (by decide) (by decide) (by decide)) (by decide)))) (Eq.trans (ai_q (hU_20.2 _ (th_ne (hW _ 12 0 ha0 (by decide) (by decide) (by decide)) (hW _ 12 2 ha0 (by decide) (by decide) (by decide)) (by decide)))) (ai_q (hU_12.2 _ (th_ne (hW _ 12 0 ha0 (by decide) (by decide) (by decide)) (hW _ 12 2 ha0 (by decide) (by decide) (by decide)) (by decide)))))) (Eq.trans (ai_q (hU_24.2 _ (th_ne (hW _ 12 0 ha0 (by decide) (by decide) (by decide)) (hW _ 12 2 ha0 (by decide) (by decide) (by decide)) (by decide)))) (Eq.trans (ai_q (hU_20.2 _ (th_ne (hW _ 12 0 ha0 (by decide) (by decide) (by decide)) (hW _ 12 2 ha0 (by decide) (by decide) (by decide)) (by decide)))) (ai_q (hU_12.2 _ (th_ne (hW _ 12 0 ha0 (by decide) (by decide) (by decide)) (hW _ 12 2 ha0 (by decide) (by decide) (by decide)) (by decide)))))) hI_c13.2.1), (QS.same (Eq.trans (ai_q (hU_24.2 _ (th_ne (hW _ 12 0 ha0 (by decide) (by decide) (by decide)) (hW _ 12 2 ha0 (by decide) (by decide) (by decide)) (by decide)))) (Eq.trans (ai_q (hU_20.2 _ (th_ne (hW _ 12 0 ha0 (by decide) (by decide) (by decide)) (hW _ 12 2 ha0 (by decide) (by decide) (by decide)) (by decide)))) (ai_q (hU_12.2 _ (th_ne (hW _ 12 0 ha0 (by decide) (by decide) (by decide)) (hW _ 12 2 ha0 (by decide) (by decide) (by decide)) (by decide)))))) (Eq.trans (ai_q (hU_24.2 _ (th_ne (hW _ 12 0 ha0 (by decide) (by decide) (by decide)) (hW _ 12 2 ha0 (by decide) (by decide) (by decide)) (by decide)))) (Eq.trans (ai_q (hU_20.2 _ (th_ne (hW _ 12 0 ha0 (by decide) (by decide) (by decide)) (hW _ 12 2 ha0 (by decide) (by decide) (by decide)) (by decide)))) (ai_q (hU_12.2 _ (th_ne (hW _ 12 0 ha0 (by decide) (by decide) (by decide)) (hW _ 12 2 ha0 (by decide) (by decide) (by decide)) (by decide)))))) hI_c13.2.2.1), hL_24, (PL.q (hU_24.2 _ (Ne.symm n23)) (PL.q (hU_20.2 _ (Ne.symm n23)) (PL.q (hU_12.2 _ (Ne.symm n23)) hI_c13.2.2.2.2.1))), (IF.q (hU_24.2 _ (th_ne ha0 (hW _ 12 2 ha0 (by decide) (by decide) (by decide)) (by decide))) (IF.q (hU_20.2 _ (th_ne ha0 (hW _ 12 2 ha0 (by decide) (by decide) (by decide)) (by decide))) (IF.q (hU_12.2 _ (th_ne ha0 (hW _ 12 2 ha0 (by decide) (by decide) (by decide)) (by decide))) hI_c13.2.2.2.2.2)))⟩ (by rw [(Eq.trans (ai_q (hU_24.2 _ (th_ne (hW _ 12 0 ha0 (by decide) (by decide) (by decide)) (hW _ 12 2 ha0 (by decide) (by decide) (by decide)) (by decide)))) (Eq.trans (ai_q (hU_20.2 _ (th_ne (hW _ 12 0 ha0 (by decide) (by decide) (by decide)) (hW _ 12 2 ha0 (by decide) (by decide) (by decide)) (by decide)))) (ai_q (hU_12.2 _ (th_ne (hW _ 12 0 ha0 (by decide) (by decide) (by decide)) (hW _ 12 2 ha0 (by decide) (by decide) (by decide)) (by decide))))))]; omega) (by omega) (by omega)
  refine lv_aload_n hx hb dX12_spans_0 rfl (lv_at hl 0 rfl) ?_
  refine lv_iload_n hx hb dX12_spans_1 rfl (lv_at hl 1 rfl) ?_
  refine lv_aload_n hx hb dX12_spans_2 rfl (lv_at hl 0 rfl) ?_
  refine lv_iload_n hx hb dX12_spans_3 rfl (lv_at hl 1 rfl) ?_
  refine lv_iconst (v := 5) hx hb dX12_spans_4 (by decide) ?_
  refine th_Vi (As := [.int 0, .int 5]) (rest := [.int 0, .ref a0]) E hml hl.1 (y_get_v22 l D cI cS τ ρ hW H hT a0 ha0) lk_X12_99 yd_X12_get hT ha0 rfl (by decide) hS (fun _ h => h.elim) ⟨by decide, by decide⟩ (Nat.le_of_ble_eq_true rfl) ⟨by decide, by decide⟩ rfl dX12_spans_5 (fun r_26 H_26 locs_26 p_26 hT_26 hk_26 hS_26 => ?_)
  have p_26 : H = H_26 ∧ (ai H (ρ a0 0) 5 = r_26) := p_26
  obtain ⟨rfl, p_26_0⟩ := p_26
  have b_r_26 : 0 ≤ r_26.toInt ∧ r_26.toInt ≤ N + 33 := by rw [← p_26_0]; exact hI.1 5 (by decide)
  have c_r_26 := congrArg Int32.toInt p_26_0
  refine lv_iconst (v := 1) hx hb dX12_spans_8 (by decide) ?_
  refine th_Vi (As := [.int 0, .int r_26, .int 1]) (rest := []) E hml hl.1 (y_nextHeld l D cI cS τ ρ hW H hT_26 a0 r_26 ha0 N hN0 hN1 ⟨hI.1, hI.2.1, hI.2.2.1, hI.2.2.2.1, hI.2.2.2.2.1, hI.2.2.2.2.2⟩ (by omega)) lk_X12_122 yd_X12_nextHeld hT_26 ha0 rfl (by decide) hS_26 (fun _ h => h.elim) ⟨by decide, by decide⟩ (Nat.le_of_ble_eq_true rfl) ⟨by decide, by decide⟩ rfl dX12_spans_9 (fun r_27 H_27 locs_27 p_27 hT_27 hk_27 hS_27 => ?_)
  have p_27 : H = H_27 ∧ (r_27.toInt = -4 ∨ (r_26.toInt ≤ r_27.toInt ∧ r_27.toInt < (ai H (ρ a0 0) 7).toInt ∧ heldP 0 H (ρ a0 0) r_27)) ∧ (-4 ≤ r_27.toInt ∧ r_27.toInt ≤ 700) := p_27
  obtain ⟨rfl, p_27_0, p_27_1⟩ := p_27
  refine lv_istore_n (lv' := [(2, .int r_27), (0, .ref a0), (1, .int 0)]) hx hb dX12_spans_12 rfl hl (by decide) rfl (fun ls hl => ?_)
  exact L_13 _ H locs_27 _ r_27 (ai H (ρ a0 2) 6) hT_27 hS_27 (lv_sub hl [1, 2, 0] rfl) (by omega) (by omega) rfl ⟨hI.1, hI.2.1, hI.2.2.1, hI.2.2.2.1, hI.2.2.2.2.1, hI.2.2.2.2.2⟩ (by omega) (by omega) (Nat.lt_succ_self _)
set_option maxHeartbeats 4000000 in
set_option maxRecDepth 100000 in
/-- the reference: makes -/
theorem y_makes (l : Launch) (D : va_G) (cI cS : ClassId) (τ : Nat → Option Nat) (ρ : Nat → Nat → Nat) (hW : WF τ ρ) (H : Heap) (hT : TH D cI cS τ ρ H) (a0 : Nat) (x1 : Int32) (x2 : Int32) (ha0 : τ a0 = some 12) (N : Int) (hN0 : 0 ≤ N) (hN1 : N ≤ 600) (hI : IM D ρ N H a0) : MV l D cI cS τ ρ yX12_makes cX12_makes 5 none 4 91 H [.ref a0, .int 0, .int x1, .int x2] (fun (u : Heap) => (IM D ρ N u a0) ∧ ((ai H (ρ a0 0) 976).toInt ≤ (ai u (ρ a0 0) 976).toInt)) (fun q => q = ρ a0 2) := by
  refine MV.of (by decide) (Nat.le_of_ble_eq_true rfl) ?_
  intro p e s m args below meth c E hml hr hlk hs ls hl
  have hx := E.1
  have hb := E.2.1
  have hown := E.2.2.1
  have hts := E.2.2.2.1
  have hS : SS (fun q => q = ρ a0 2) H H [] := SS.rf
  have hl : lv_has ls 5 [(0, .ref a0), (1, .int 0), (2, .int x1), (3, .int x2)] := hl
  have n01 := hI.2.2.2.2.2.1
  have n23 := hI.2.2.2.2.2.2.1
  have L_3 : ∀ (n : Nat) (H_c3 : Heap) (lc_c3 : List Loc) (ls : Array Slot) (y3_4 : Int32), TH D cI cS τ ρ H_c3 → SS (fun q => q = ρ a0 2) H H_c3 lc_c3 → lv_has ls 5 [(0, .ref a0), (1, .int 0), (2, .int x1), (3, .int x2), (4, .int y3_4)] → 0 ≤ y3_4.toInt → IM D ρ N H_c3 a0 → (ai H (ρ a0 0) 976).toInt ≤ (ai H_c3 (ρ a0 0) 976).toInt → (20 - y3_4.toInt).toNat < n → W p l e (rmO 4 91) s m args below meth c H_c3 lc_c3 0 0 (MQ below (va_Qv (fun (u : Heap) => (IM D ρ N u a0) ∧ ((ai H (ρ a0 0) 976).toInt ≤ (ai u (ρ a0 0) 976).toInt)) (Bt D cI cS τ ρ H) (fun q => q = ρ a0 2)) args s 0 0 (fun q => q = ρ a0 2)) (F0 m 3 ls []) := by
    intro n
    induction n with
    | zero => intro H_c3 lc_c3 ls y3_4 hT_c3 hS_c3 hl ly3_4 hI_c3 hmn_c3 hm; exact absurd hm (Nat.not_lt_zero _)
    | succ n ih_3 =>
      intro H_c3 lc_c3 ls y3_4 hT_c3 hS_c3 hl ly3_4 hI_c3 hmn_c3 hm_3
      refine lv_iload hx hb dX12_makes_3 (lv_at hl 4 rfl) ?_
      refine lv_bipush (v := 20) hx hb dX12_makes_5 (by decide) ?_
      refine lv_icmp_ge (tgt := 55) hx hb dX12_makes_7 (by decide) (fun c_1 => ?_) (fun c_1 => ?_)
      · have f_1 : 20 ≤ y3_4.toInt := r_le (by decide) rfl c_1
        refine lv_aload_n hx hb dX12_makes_55 rfl (lv_at hl 0 rfl) ?_
        refine gf_X12_16 E hT_c3 hW ha0 dX12_makes_56 (fun h_2 => ?_)
        refine lv_iconst (v := 0) hx hb dX12_makes_59 (by decide) ?_
        refine lv_iload_n hx hb dX12_makes_60 rfl (lv_at hl 1 rfl) ?_
        refine th_iast E hT_c3 hS_c3 h_2 rfl (by decide) (vp_in_iff.mpr ⟨by decide, by decide⟩) dX12_makes_61 (fun H_3 locs_3 hT_3 hU_3 hS_3 => ?_)
        have hU_3 : AU 20 H_c3 H_3 (ρ a0 2) 0 (0) := hU_3
        have hL_3 : PL H_3 (ρ a0 2) := PL.put hI_c3.2.2.2.1 hU_3 (by show (0 : Int) ≤ (0 : Int32).toInt; have : (0 : Int32).toInt = 0 := (by decide); omega) (by show (0 : Int32).toInt ≤ (1 : Int); have : (0 : Int32).toInt = 0 := (by decide); omega)
        refine lv_aload_n hx hb dX12_makes_62 rfl (lv_at hl 0 rfl) ?_
        refine gf_X12_16 E hT_3 hW ha0 dX12_makes_63 (fun h_4 => ?_)
        refine lv_iconst (v := 1) hx hb dX12_makes_66 (by decide) ?_
        refine lv_iload_n hx hb dX12_makes_67 rfl (lv_at hl 2 rfl) ?_
        refine th_iast E hT_3 hS_3 h_4 rfl (by decide) (vp_in_iff.mpr ⟨by decide, by decide⟩) dX12_makes_68 (fun H_5 locs_5 hT_5 hU_5 hS_5 => ?_)
        have hU_5 : AU 20 H_3 H_5 (ρ a0 2) 1 x1 := hU_5
        have hL_5 : PL H_5 (ρ a0 2) := PL.put hL_3 hU_5 (by show (-2147483648 : Int) ≤ _; exact i_min _) (by show _ ≤ (2147483647 : Int); exact i_max _)
        refine lv_aload_n hx hb dX12_makes_69 rfl (lv_at hl 0 rfl) ?_
        refine gf_X12_16 E hT_5 hW ha0 dX12_makes_70 (fun h_6 => ?_)
        refine lv_iconst (v := 2) hx hb dX12_makes_73 (by decide) ?_
        refine lv_iload_n hx hb dX12_makes_74 rfl (lv_at hl 3 rfl) ?_
        refine th_iast E hT_5 hS_5 h_6 rfl (by decide) (vp_in_iff.mpr ⟨by decide, by decide⟩) dX12_makes_75 (fun H_7 locs_7 hT_7 hU_7 hS_7 => ?_)
        have hU_7 : AU 20 H_5 H_7 (ρ a0 2) 2 x2 := hU_7
        have hL_7 : PL H_7 (ρ a0 2) := PL.put hL_5 hU_7 (by show (-2147483648 : Int) ≤ _; exact i_min _) (by show _ ≤ (2147483647 : Int); exact i_max _)
        refine lv_iload_n hx hb dX12_makes_76 rfl (lv_at hl 2 rfl) ?_
        refine lv_iconst (v := 4) hx hb dX12_makes_77 (by decide) ?_
        refine lv_iand hx hb dX12_makes_78 ?_
        refine lv_topi (fun x_8 ex_8 => ?_)
        have q_8 := i_msk (k := 4) (x := x1) (by decide) (by decide) ex_8
        refine lv_if_le (tgt := 133) hx hb dX12_makes_79 (by decide) (fun c_9 => ?_) (fun c_9 => ?_)
        · have f_9 : x_8.toInt ≤ 0 := r_le rfl (by decide) c_9
          exact th_vret E hr hlk hs hT_7 hS_7 ⟨⟨(PW.q (hU_7.2 _ (th_ne (hW _ 12 0 ha0 (by decide) (by decide) (by decide)) (hW _ 12 2 ha0 (by decide) (by decide) (by decide)) (by decide))) (PW.q (hU_5.2 _ (th_ne (hW _ 12 0 ha0 (by decide) (by decide) (by decide)) (hW _ 12 2 ha0 (by decide) (by decide) (by decide)) (by decide))) (PW.q (hU_3.2 _ (th_ne (hW _ 12 0 ha0 (by decide) (by decide) (by decide)) (hW _ 12 2 ha0 (by decide) (by decide) (by decide)) (by decide))) hI_c3.1))), (QS.same (Eq.trans (ai_q (hU_7.2 _ (th_ne (hW _ 12 0 ha0 (by decide) (by decide) (by decide)) (hW _ 12 2 ha0 (by decide) (by decide) (by decide)) (by decide)))) (Eq.trans (ai_q (hU_5.2 _ (th_ne (hW _ 12 0 ha0 (by decide) (by decide) (by decide)) (hW _ 12 2 ha0 (by decide) (by decide) (by decide)) (by decide)))) (ai_q (hU_3.2 _ (th_ne (hW _ 12 0 ha0 (by decide) (by decide) (by decide)) (hW _ 12 2 ha0 (by decide) (by decide) (by decide)) (by decide)))))) (Eq.trans (ai_q (hU_7.2 _ (th_ne (hW _ 12 0 ha0 (by decide) (by decide) (by decide)) (hW _ 12 2 ha0 (by decide) (by decide) (by decide)) (by decide)))) (Eq.trans (ai_q (hU_5.2 _ (th_ne (hW _ 12 0 ha0 (by decide) (by decide) (by decide)) (hW _ 12 2 ha0 (by decide) (by decide) (by decide)) (by decide)))) (ai_q (hU_3.2 _ (th_ne (hW _ 12 0 ha0 (by decide) (by decide) (by decide)) (hW _ 12 2 ha0 (by decide) (by decide) (by decide)) (by decide)))))) hI_c3.2.1), (QS.same (Eq.trans (ai_q (hU_7.2 _ (th_ne (hW _ 12 0 ha0 (by decide) (by decide) (by decide)) (hW _ 12 2 ha0 (by decide) (by decide) (by decide)) (by decide)))) (Eq.trans (ai_q (hU_5.2 _ (th_ne (hW _ 12 0 ha0 (by decide) (by decide) (by decide)) (hW _ 12 2 ha0 (by decide) (by decide) (by decide)) (by decide)))) (ai_q (hU_3.2 _ (th_ne (hW _ 12 0 ha0 (by decide) (by decide) (by decide)) (hW _ 12 2 ha0 (by decide) (by decide) (by decide)) (by decide)))))) (Eq.trans (ai_q (hU_7.2 _ (th_ne (hW _ 12 0 ha0 (by decide) (by decide) (by decide)) (hW _ 12 2 ha0 (by decide) (by decide) (by decide)) (by decide)))) (Eq.trans (ai_q (hU_5.2 _ (th_ne (hW _ 12 0 ha0 (by decide) (by decide) (by decide)) (hW _ 12 2 ha0 (by decide) (by decide) (by decide)) (by decide)))) (ai_q (hU_3.2 _ (th_ne (hW _ 12 0 ha0 (by decide) (by decide) (by decide)) (hW _ 12 2 ha0 (by decide) (by decide) (by decide)) (by decide)))))) hI_c3.2.2.1), hL_7, (PL.q (hU_7.2 _ (Ne.symm n23)) (PL.q (hU_5.2 _ (Ne.symm n23)) (PL.q (hU_3.2 _ (Ne.symm n23)) hI_c3.2.2.2.2.1))), (IF.q (hU_7.2 _ (th_ne ha0 (hW _ 12 2 ha0 (by decide) (by decide) (by decide)) (by decide))) (IF.q (hU_5.2 _ (th_ne ha0 (hW _ 12 2 ha0 (by decide) (by decide) (by decide)) (by decide))) (IF.q (hU_3.2 _ (th_ne ha0 (hW _ 12 2 ha0 (by decide) (by decide) (by decide)) (by decide))) hI_c3.2.2.2.2.2)))⟩, (by rw [(Eq.trans (ai_q (hU_7.2 _ (th_ne (hW _ 12 0 ha0 (by decide) (by decide) (by decide)) (hW _ 12 2 ha0 (by decide) (by decide) (by decide)) (by decide)))) (Eq.trans (ai_q (hU_5.2 _ (th_ne (hW _ 12 0 ha0 (by decide) (by decide) (by decide)) (hW _ 12 2 ha0 (by decide) (by decide) (by decide)) (by decide)))) (ai_q (hU_3.2 _ (th_ne (hW _ 12 0 ha0 (by decide) (by decide) (by decide)) (hW _ 12 2 ha0 (by decide) (by decide) (by decide)) (by decide))))))]; omega)⟩ dX12_makes_133
        · have f_9 : 0 < x_8.toInt := r_nle rfl (by decide) c_9
          refine lv_iload_n hx hb dX12_makes_82 rfl (lv_at hl 2 rfl) ?_
          refine lv_bipush (v := 8) hx hb dX12_makes_83 (by decide) ?_
          refine lv_iand hx hb dX12_makes_85 ?_
          refine lv_topi (fun x_10 ex_10 => ?_)
          have q_10 := i_msk (k := 8) (x := x1) (by decide) (by decide) ex_10
          refine lv_if_ne (tgt := 133) hx hb dX12_makes_86 (by decide) (fun c_11 => ?_) (fun c_11 => ?_)
          · have f_11 : ¬ x_10.toInt = 0 := r_ne rfl (by decide) c_11
            have nz_x_10 : ¬ x_10 = 0 := c_11
            exact th_vret E hr hlk hs hT_7 hS_7 ⟨⟨(PW.q (hU_7.2 _ (th_ne (hW _ 12 0 ha0 (by decide) (by decide) (by decide)) (hW _ 12 2 ha0 (by decide) (by decide) (by decide)) (by decide))) (PW.q (hU_5.2 _ (th_ne (hW _ 12 0 ha0 (by decide) (by decide) (by decide)) (hW _ 12 2 ha0 (by decide) (by decide) (by decide)) (by decide))) (PW.q (hU_3.2 _ (th_ne (hW _ 12 0 ha0 (by decide) (by decide) (by decide)) (hW _ 12 2 ha0 (by decide) (by decide) (by decide)) (by decide))) hI_c3.1))), (QS.same (Eq.trans (ai_q (hU_7.2 _ (th_ne (hW _ 12 0 ha0 (by decide) (by decide) (by decide)) (hW _ 12 2 ha0 (by decide) (by decide) (by decide)) (by decide)))) (Eq.trans (ai_q (hU_5.2 _ (th_ne (hW _ 12 0 ha0 (by decide) (by decide) (by decide)) (hW _ 12 2 ha0 (by decide) (by decide) (by decide)) (by decide)))) (ai_q (hU_3.2 _ (th_ne (hW _ 12 0 ha0 (by decide) (by decide) (by decide)) (hW _ 12 2 ha0 (by decide) (by decide) (by decide)) (by decide)))))) (Eq.trans (ai_q (hU_7.2 _ (th_ne (hW _ 12 0 ha0 (by decide) (by decide) (by decide)) (hW _ 12 2 ha0 (by decide) (by decide) (by decide)) (by decide)))) (Eq.trans (ai_q (hU_5.2 _ (th_ne (hW _ 12 0 ha0 (by decide) (by decide) (by decide)) (hW _ 12 2 ha0 (by decide) (by decide) (by decide)) (by decide)))) (ai_q (hU_3.2 _ (th_ne (hW _ 12 0 ha0 (by decide) (by decide) (by decide)) (hW _ 12 2 ha0 (by decide) (by decide) (by decide)) (by decide)))))) hI_c3.2.1), (QS.same (Eq.trans (ai_q (hU_7.2 _ (th_ne (hW _ 12 0 ha0 (by decide) (by decide) (by decide)) (hW _ 12 2 ha0 (by decide) (by decide) (by decide)) (by decide)))) (Eq.trans (ai_q (hU_5.2 _ (th_ne (hW _ 12 0 ha0 (by decide) (by decide) (by decide)) (hW _ 12 2 ha0 (by decide) (by decide) (by decide)) (by decide)))) (ai_q (hU_3.2 _ (th_ne (hW _ 12 0 ha0 (by decide) (by decide) (by decide)) (hW _ 12 2 ha0 (by decide) (by decide) (by decide)) (by decide)))))) (Eq.trans (ai_q (hU_7.2 _ (th_ne (hW _ 12 0 ha0 (by decide) (by decide) (by decide)) (hW _ 12 2 ha0 (by decide) (by decide) (by decide)) (by decide)))) (Eq.trans (ai_q (hU_5.2 _ (th_ne (hW _ 12 0 ha0 (by decide) (by decide) (by decide)) (hW _ 12 2 ha0 (by decide) (by decide) (by decide)) (by decide)))) (ai_q (hU_3.2 _ (th_ne (hW _ 12 0 ha0 (by decide) (by decide) (by decide)) (hW _ 12 2 ha0 (by decide) (by decide) (by decide)) (by decide)))))) hI_c3.2.2.1), hL_7, (PL.q (hU_7.2 _ (Ne.symm n23)) (PL.q (hU_5.2 _ (Ne.symm n23)) (PL.q (hU_3.2 _ (Ne.symm n23)) hI_c3.2.2.2.2.1))), (IF.q (hU_7.2 _ (th_ne ha0 (hW _ 12 2 ha0 (by decide) (by decide) (by decide)) (by decide))) (IF.q (hU_5.2 _ (th_ne ha0 (hW _ 12 2 ha0 (by decide) (by decide) (by decide)) (by decide))) (IF.q (hU_3.2 _ (th_ne ha0 (hW _ 12 2 ha0 (by decide) (by decide) (by decide)) (by decide))) hI_c3.2.2.2.2.2)))⟩, (by rw [(Eq.trans (ai_q (hU_7.2 _ (th_ne (hW _ 12 0 ha0 (by decide) (by decide) (by decide)) (hW _ 12 2 ha0 (by decide) (by decide) (by decide)) (by decide)))) (Eq.trans (ai_q (hU_5.2 _ (th_ne (hW _ 12 0 ha0 (by decide) (by decide) (by decide)) (hW _ 12 2 ha0 (by decide) (by decide) (by decide)) (by decide)))) (ai_q (hU_3.2 _ (th_ne (hW _ 12 0 ha0 (by decide) (by decide) (by decide)) (hW _ 12 2 ha0 (by decide) (by decide) (by decide)) (by decide))))))]; omega)⟩ dX12_makes_133
          · have f_11 : x_10.toInt = 0 := r_eq rfl (by decide) c_11
            refine lv_aload_n hx hb dX12_makes_89 rfl (lv_at hl 0 rfl) ?_
            refine gf_X12_16 E hT_7 hW ha0 dX12_makes_90 (fun h_12 => ?_)
            refine lv_iconst (v := 3) hx hb dX12_makes_93 (by decide) ?_
            refine lv_aload_n hx hb dX12_makes_94 rfl (lv_at hl 0 rfl) ?_
            refine lv_iconst (v := 1) hx hb dX12_makes_95 (by decide) ?_
            refine lv_iload_n hx hb dX12_makes_96 rfl (lv_at hl 1 rfl) ?_
            refine lv_isub hx hb dX12_makes_97 ?_
            refine th_topi (y := 1) (by decide) ?_
            refine lv_aload_n hx hb dX12_makes_98 rfl (lv_at hl 0 rfl) ?_
            refine lv_iload_n hx hb dX12_makes_99 rfl (lv_at hl 1 rfl) ?_
            refine lv_iconst (v := 5) hx hb dX12_makes_100 (by decide) ?_
            refine th_Vi (As := [.int 0, .int 5]) (rest := [.int 1, .ref a0, .int 3, .ref (ρ a0 2)]) E hml hl.1 (y_get_v22 l D cI cS τ ρ hW H_7 hT_7 a0 ha0) lk_X12_99 yd_X12_get hT_7 ha0 rfl (by decide) hS_7 (fun _ h => h.elim) ⟨by decide, by decide⟩ (Nat.le_of_ble_eq_true rfl) ⟨by decide, by decide⟩ rfl dX12_makes_101 (fun r_13 H_13 locs_13 p_13 hT_13 hk_13 hS_13 => ?_)
            have p_13 : H_7 = H_13 ∧ (ai H_7 (ρ a0 0) 5 = r_13) := p_13
            obtain ⟨rfl, p_13_0⟩ := p_13
            have t_13 : ai H_c3 (ρ a0 0) 5 = r_13 := (Eq.trans (ai_q (hU_7.2 _ (th_ne (hW _ 12 0 ha0 (by decide) (by decide) (by decide)) (hW _ 12 2 ha0 (by decide) (by decide) (by decide)) (by decide)))) (Eq.trans (ai_q (hU_5.2 _ (th_ne (hW _ 12 0 ha0 (by decide) (by decide) (by decide)) (hW _ 12 2 ha0 (by decide) (by decide) (by decide)) (by decide)))) (ai_q (hU_3.2 _ (th_ne (hW _ 12 0 ha0 (by decide) (by decide) (by decide)) (hW _ 12 2 ha0 (by decide) (by decide) (by decide)) (by decide)))))).symm.trans p_13_0
            have b_r_13 : 0 ≤ r_13.toInt ∧ r_13.toInt ≤ N + 33 := by rw [← t_13]; exact hI_c3.1 5 (by decide)
            have c_r_13 := congrArg Int32.toInt t_13
            refine th_Vi (As := [.int 1, .int r_13]) (rest := [.int 3, .ref (ρ a0 2)]) E hml hl.1 (y_number_v2 l D cI cS τ ρ hW H_7 hT_13 a0 r_13 ha0) lk_X12_112 yd_X12_number hT_13 ha0 rfl (by decide) hS_13 (fun _ h => h.elim) ⟨by decide, by decide⟩ (Nat.le_of_ble_eq_true rfl) ⟨by decide, by decide⟩ rfl dX12_makes_104 (fun r_14 H_14 locs_14 p_14 hT_14 hk_14 hS_14 => ?_)
            have p_14 : H_7 = H_14 := p_14
            obtain rfl := p_14
            refine th_iast E hT_14 hS_14 h_12 rfl (by decide) (vp_in_iff.mpr ⟨by decide, by decide⟩) dX12_makes_107 (fun H_15 locs_15 hT_15 hU_15 hS_15 => ?_)
            have hU_15 : AU 20 H_7 H_15 (ρ a0 2) 3 r_14 := hU_15
            have hL_15 : PL H_15 (ρ a0 2) := PL.put hL_7 hU_15 (by show (-2147483648 : Int) ≤ _; exact i_min _) (by show _ ≤ (2147483647 : Int); exact i_max _)
            refine lv_aload_n hx hb dX12_makes_108 rfl (lv_at hl 0 rfl) ?_
            refine gf_X12_16 E hT_15 hW ha0 dX12_makes_109 (fun h_16 => ?_)
            refine lv_iconst (v := 4) hx hb dX12_makes_112 (by decide) ?_
            refine lv_aload_n hx hb dX12_makes_113 rfl (lv_at hl 0 rfl) ?_
            refine lv_iload_n hx hb dX12_makes_114 rfl (lv_at hl 1 rfl) ?_
            refine lv_bipush (v := 7) hx hb dX12_makes_115 (by decide) ?_
            refine th_Vi (As := [.int 0, .int 7]) (rest := [.int 4, .ref (ρ a0 2)]) E hml hl.1 (y_get_v23 l D cI cS τ ρ hW H_15 hT_15 a0 ha0) lk_X12_99 yd_X12_get hT_15 ha0 rfl (by decide) hS_15 (fun _ h => h.elim) ⟨by decide, by decide⟩ (Nat.le_of_ble_eq_true rfl) ⟨by decide, by decide⟩ rfl dX12_makes_117 (fun r_17 H_17 locs_17 p_17 hT_17 hk_17 hS_17 => ?_)
            have p_17 : H_15 = H_17 ∧ (ai H_15 (ρ a0 0) 7 = r_17) := p_17
            obtain ⟨rfl, p_17_0⟩ := p_17
            have t_17 : ai H_c3 (ρ a0 0) 7 = r_17 := (Eq.trans (ai_q (hU_15.2 _ (th_ne (hW _ 12 0 ha0 (by decide) (by decide) (by decide)) (hW _ 12 2 ha0 (by decide) (by decide) (by decide)) (by decide)))) (Eq.trans (ai_q (hU_7.2 _ (th_ne (hW _ 12 0 ha0 (by decide) (by decide) (by decide)) (hW _ 12 2 ha0 (by decide) (by decide) (by decide)) (by decide)))) (Eq.trans (ai_q (hU_5.2 _ (th_ne (hW _ 12 0 ha0 (by decide) (by decide) (by decide)) (hW _ 12 2 ha0 (by decide) (by decide) (by decide)) (by decide)))) (ai_q (hU_3.2 _ (th_ne (hW _ 12 0 ha0 (by decide) (by decide) (by decide)) (hW _ 12 2 ha0 (by decide) (by decide) (by decide)) (by decide))))))).symm.trans p_17_0
            have b_r_17 : 0 ≤ r_17.toInt ∧ r_17.toInt ≤ N + 33 := by rw [← t_17]; exact hI_c3.1 7 (by decide)
            have c_r_17 := congrArg Int32.toInt t_17
            refine lv_aload_n hx hb dX12_makes_120 rfl (lv_at hl 0 rfl) ?_
            refine lv_iload_n hx hb dX12_makes_121 rfl (lv_at hl 1 rfl) ?_
            refine lv_iconst (v := 5) hx hb dX12_makes_122 (by decide) ?_
            refine th_Vi (As := [.int 0, .int 5]) (rest := [.int r_17, .int 4, .ref (ρ a0 2)]) E hml hl.1 (y_get_v22 l D cI cS τ ρ hW H_15 hT_17 a0 ha0) lk_X12_99 yd_X12_get hT_17 ha0 rfl (by decide) hS_17 (fun _ h => h.elim) ⟨by decide, by decide⟩ (Nat.le_of_ble_eq_true rfl) ⟨by decide, by decide⟩ rfl dX12_makes_123 (fun r_18 H_18 locs_18 p_18 hT_18 hk_18 hS_18 => ?_)
            have p_18 : H_15 = H_18 ∧ (ai H_15 (ρ a0 0) 5 = r_18) := p_18
            obtain ⟨rfl, p_18_0⟩ := p_18
            have s_18 : r_18 = r_13 := p_18_0.symm.trans (Eq.trans (ai_q (hU_15.2 _ (th_ne (hW _ 12 0 ha0 (by decide) (by decide) (by decide)) (hW _ 12 2 ha0 (by decide) (by decide) (by decide)) (by decide)))) ((Eq.trans (ai_q (hU_7.2 _ (th_ne (hW _ 12 0 ha0 (by decide) (by decide) (by decide)) (hW _ 12 2 ha0 (by decide) (by decide) (by decide)) (by decide)))) (Eq.trans (ai_q (hU_5.2 _ (th_ne (hW _ 12 0 ha0 (by decide) (by decide) (by decide)) (hW _ 12 2 ha0 (by decide) (by decide) (by decide)) (by decide)))) (ai_q (hU_3.2 _ (th_ne (hW _ 12 0 ha0 (by decide) (by decide) (by decide)) (hW _ 12 2 ha0 (by decide) (by decide) (by decide)) (by decide)))))).trans t_13))
            refine th_topi s_18 ?_
            refine lv_isub hx hb dX12_makes_126 ?_
            refine lv_topi (fun x_19 ex_19 => ?_)
            have q_19 : x_19.toInt = r_17.toInt - r_13.toInt := i_mi rfl rfl ex_19 (by omega) (by omega)
            refine th_iast E hT_18 hS_18 h_16 rfl (by decide) (vp_in_iff.mpr ⟨by decide, by decide⟩) dX12_makes_127 (fun H_20 locs_20 hT_20 hU_20 hS_20 => ?_)
            have hU_20 : AU 20 H_15 H_20 (ρ a0 2) 4 x_19 := hU_20
            have hL_20 : PL H_20 (ρ a0 2) := PL.put hL_15 hU_20 (by show (-2147483648 : Int) ≤ _; exact i_min _) (by show _ ≤ (2147483647 : Int); exact i_max _)
            refine lv_aload_n hx hb dX12_makes_128 rfl (lv_at hl 0 rfl) ?_
            refine lv_iload_n hx hb dX12_makes_129 rfl (lv_at hl 1 rfl) ?_
            refine th_Vv (As := [.int 0]) (rest := []) E hml hl.1 (y_spans l D cI cS τ ρ hW H_20 hT_20 a0 ha0 N hN0 hN1 ⟨(PW.q (hU_20.2 _ (th_ne (hW _ 12 0 ha0 (by decide) (by decide) (by decide)) (hW _ 12 2 ha0 (by decide) (by decide) (by decide)) (by decide))) (PW.q (hU_15.2 _ (th_ne (hW _ 12 0 ha0 (by decide) (by decide) (by decide)) (hW _ 12 2 ha0 (by decide) (by decide) (by decide)) (by decide))) (PW.q (hU_7.2 _ (th_ne (hW _ 12 0 ha0 (by decide) (by decide) (by decide)) (hW _ 12 2 ha0 (by decide) (by decide) (by decide)) (by decide))) (PW.q (hU_5.2 _ (th_ne (hW _ 12 0 ha0 (by decide) (by decide) (by decide)) (hW _ 12 2 ha0 (by decide) (by decide) (by decide)) (by decide))) (PW.q (hU_3.2 _ (th_ne (hW _ 12 0 ha0 (by decide) (by decide) (by decide)) (hW _ 12 2 ha0 (by decide) (by decide) (by decide)) (by decide))) hI_c3.1))))), (QS.same (Eq.trans (ai_q (hU_20.2 _ (th_ne (hW _ 12 0 ha0 (by decide) (by decide) (by decide)) (hW _ 12 2 ha0 (by decide) (by decide) (by decide)) (by decide)))) (Eq.trans (ai_q (hU_15.2 _ (th_ne (hW _ 12 0 ha0 (by decide) (by decide) (by decide)) (hW _ 12 2 ha0 (by decide) (by decide) (by decide)) (by decide)))) (Eq.trans (ai_q (hU_7.2 _ (th_ne (hW _ 12 0 ha0 (by decide) (by decide) (by decide)) (hW _ 12 2 ha0 (by decide) (by decide) (by decide)) (by decide)))) (Eq.trans (ai_q (hU_5.2 _ (th_ne (hW _ 12 0 ha0 (by decide) (by decide) (by decide)) (hW _ 12 2 ha0 (by decide) (by decide) (by decide)) (by decide)))) (ai_q (hU_3.2 _ (th_ne (hW _ 12 0 ha0 (by decide) (by decide) (by decide)) (hW _ 12 2 ha0 (by decide) (by decide) (by decide)) (by decide)))))))) (Eq.trans (ai_q (hU_20.2 _ (th_ne (hW _ 12 0 ha0 (by decide) (by decide) (by decide)) (hW _ 12 2 ha0 (by decide) (by decide) (by decide)) (by decide)))) (Eq.trans (ai_q (hU_15.2 _ (th_ne (hW _ 12 0 ha0 (by decide) (by decide) (by decide)) (hW _ 12 2 ha0 (by decide) (by decide) (by decide)) (by decide)))) (Eq.trans (ai_q (hU_7.2 _ (th_ne (hW _ 12 0 ha0 (by decide) (by decide) (by decide)) (hW _ 12 2 ha0 (by decide) (by decide) (by decide)) (by decide)))) (Eq.trans (ai_q (hU_5.2 _ (th_ne (hW _ 12 0 ha0 (by decide) (by decide) (by decide)) (hW _ 12 2 ha0 (by decide) (by decide) (by decide)) (by decide)))) (ai_q (hU_3.2 _ (th_ne (hW _ 12 0 ha0 (by decide) (by decide) (by decide)) (hW _ 12 2 ha0 (by decide) (by decide) (by decide)) (by decide)))))))) hI_c3.2.1), (QS.same (Eq.trans (ai_q (hU_20.2 _ (th_ne (hW _ 12 0 ha0 (by decide) (by decide) (by decide)) (hW _ 12 2 ha0 (by decide) (by decide) (by decide)) (by decide)))) (Eq.trans (ai_q (hU_15.2 _ (th_ne (hW _ 12 0 ha0 (by decide) (by decide) (by decide)) (hW _ 12 2 ha0 (by decide) (by decide) (by decide)) (by decide)))) (Eq.trans (ai_q (hU_7.2 _ (th_ne (hW _ 12 0 ha0 (by decide) (by decide) (by decide)) (hW _ 12 2 ha0 (by decide) (by decide) (by decide)) (by decide)))) (Eq.trans (ai_q (hU_5.2 _ (th_ne (hW _ 12 0 ha0 (by decide) (by decide) (by decide)) (hW _ 12 2 ha0 (by decide) (by decide) (by decide)) (by decide)))) (ai_q (hU_3.2 _ (th_ne (hW _ 12 0 ha0 (by decide) (by decide) (by decide)) (hW _ 12 2 ha0 (by decide) (by decide) (by decide)) (by decide)))))))) (Eq.trans (ai_q (hU_20.2 _ (th_ne (hW _ 12 0 ha0 (by decide) (by decide) (by decide)) (hW _ 12 2 ha0 (by decide) (by decide) (by decide)) (by decide)))) (Eq.trans (ai_q (hU_15.2 _ (th_ne (hW _ 12 0 ha0 (by decide) (by decide) (by decide)) (hW _ 12 2 ha0 (by decide) (by decide) (by decide)) (by decide)))) (Eq.trans (ai_q (hU_7.2 _ (th_ne (hW _ 12 0 ha0 (by decide) (by decide) (by decide)) (hW _ 12 2 ha0 (by decide) (by decide) (by decide)) (by decide)))) (Eq.trans (ai_q (hU_5.2 _ (th_ne (hW _ 12 0 ha0 (by decide) (by decide) (by decide)) (hW _ 12 2 ha0 (by decide) (by decide) (by decide)) (by decide)))) (ai_q (hU_3.2 _ (th_ne (hW _ 12 0 ha0 (by decide) (by decide) (by decide)) (hW _ 12 2 ha0 (by decide) (by decide) (by decide)) (by decide)))))))) hI_c3.2.2.1), hL_20, (PL.q (hU_20.2 _ (Ne.symm n23)) (PL.q (hU_15.2 _ (Ne.symm n23)) (PL.q (hU_7.2 _ (Ne.symm n23)) (PL.q (hU_5.2 _ (Ne.symm n23)) (PL.q (hU_3.2 _ (Ne.symm n23)) hI_c3.2.2.2.2.1))))), (IF.q (hU_20.2 _ (th_ne ha0 (hW _ 12 2 ha0 (by decide) (by decide) (by decide)) (by decide))) (IF.q (hU_15.2 _ (th_ne ha0 (hW _ 12 2 ha0 (by decide) (by decide) (by decide)) (by decide))) (IF.q (hU_7.2 _ (th_ne ha0 (hW _ 12 2 ha0 (by decide) (by decide) (by decide)) (by decide))) (IF.q (hU_5.2 _ (th_ne ha0 (hW _ 12 2 ha0 (by decide) (by decide) (by decide)) (by decide))) (IF.q (hU_3.2 _ (th_ne ha0 (hW _ 12 2 ha0 (by decide) (by decide) (by decide)) (by decide))) hI_c3.2.2.2.2.2)))))⟩) lk_X12_115 yd_X12_spans hT_20 ha0 rfl (by decide) hS_20 (fun q h => h) ⟨by decide, by decide⟩ (Nat.le_of_ble_eq_true rfl) ⟨by decide, by decide⟩ rfl dX12_makes_130 (fun H_21 locs_21 p_21 hT_21 hk_21 hS_21 => ?_)
            have p_21 : (IM D ρ N H_21 a0) ∧ ((ai H_20 (ρ a0 0) 976).toInt ≤ (ai H_21 (ρ a0 0) 976).toInt) := p_21
            obtain ⟨p_21_0, p_21_1⟩ := p_21
            have mn_21 : (ai H_c3 (ρ a0 0) 976).toInt ≤ (ai H_21 (ρ a0 0) 976).toInt := by have h := p_21_1; rw [(Eq.trans (ai_q (hU_20.2 _ (th_ne (hW _ 12 0 ha0 (by decide) (by decide) (by decide)) (hW _ 12 2 ha0 (by decide) (by decide) (by decide)) (by decide)))) (Eq.trans (ai_q (hU_15.2 _ (th_ne (hW _ 12 0 ha0 (by decide) (by decide) (by decide)) (hW _ 12 2 ha0 (by decide) (by decide) (by decide)) (by decide)))) (Eq.trans (ai_q (hU_7.2 _ (th_ne (hW _ 12 0 ha0 (by decide) (by decide) (by decide)) (hW _ 12 2 ha0 (by decide) (by decide) (by decide)) (by decide)))) (Eq.trans (ai_q (hU_5.2 _ (th_ne (hW _ 12 0 ha0 (by decide) (by decide) (by decide)) (hW _ 12 2 ha0 (by decide) (by decide) (by decide)) (by decide)))) (ai_q (hU_3.2 _ (th_ne (hW _ 12 0 ha0 (by decide) (by decide) (by decide)) (hW _ 12 2 ha0 (by decide) (by decide) (by decide)) (by decide))))))))] at h; exact h
            exact th_vret E hr hlk hs hT_21 hS_21 ⟨⟨p_21_0.1, p_21_0.2.1, p_21_0.2.2.1, p_21_0.2.2.2.1, p_21_0.2.2.2.2.1, p_21_0.2.2.2.2.2⟩, (by rw [(Eq.trans (ai_q (hk_21 _ (th_ne (hW _ 12 0 ha0 (by decide) (by decide) (by decide)) (hW _ 12 2 ha0 (by decide) (by decide) (by decide)) (by decide)))) (Eq.trans (ai_q (hU_20.2 _ (th_ne (hW _ 12 0 ha0 (by decide) (by decide) (by decide)) (hW _ 12 2 ha0 (by decide) (by decide) (by decide)) (by decide)))) (Eq.trans (ai_q (hU_15.2 _ (th_ne (hW _ 12 0 ha0 (by decide) (by decide) (by decide)) (hW _ 12 2 ha0 (by decide) (by decide) (by decide)) (by decide)))) (Eq.trans (ai_q (hU_7.2 _ (th_ne (hW _ 12 0 ha0 (by decide) (by decide) (by decide)) (hW _ 12 2 ha0 (by decide) (by decide) (by decide)) (by decide)))) (Eq.trans (ai_q (hU_5.2 _ (th_ne (hW _ 12 0 ha0 (by decide) (by decide) (by decide)) (hW _ 12 2 ha0 (by decide) (by decide) (by decide)) (by decide)))) (ai_q (hU_3.2 _ (th_ne (hW _ 12 0 ha0 (by decide) (by decide) (by decide)) (hW _ 12 2 ha0 (by decide) (by decide) (by decide)) (by decide)))))))))]; omega)⟩ dX12_makes_133
      · have f_1 : y3_4.toInt < 20 := r_nle (by decide) rfl c_1
        refine lv_aload_n hx hb dX12_makes_10 rfl (lv_at hl 0 rfl) ?_
        refine gf_X12_16 E hT_c3 hW ha0 dX12_makes_11 (fun h_22 => ?_)
        refine lv_iload hx hb dX12_makes_14 (lv_at hl 4 rfl) ?_
        refine lv_iload hx hb dX12_makes_16 (lv_at hl 4 rfl) ?_
        refine lv_iconst (v := 3) hx hb dX12_makes_18 (by decide) ?_
        refine lv_icmp_lt (tgt := 42) hx hb dX12_makes_19 (by decide) (fun c_23 => ?_) (fun c_23 => ?_)
        · have f_23 : y3_4.toInt < 3 := r_lt rfl (by decide) c_23
          refine lv_iconst (v := 0) hx hb dX12_makes_42 (by decide) ?_
          refine lv_goto (tgt := 48) hx hb dX12_makes_43 (by decide) ?_
          refine th_iast E hT_c3 hS_c3 h_22 rfl (by decide) (vp_in_iff.mpr ⟨by omega, by omega⟩) dX12_makes_48 (fun H_24 locs_24 hT_24 hU_24 hS_24 => ?_)
          have hU_24 : AU 20 H_c3 H_24 (ρ a0 2) y3_4.toInt.toNat (0) := hU_24
          have hL_24 : PL H_24 (ρ a0 2) := PL.zero hI_c3.2.2.2.1 hU_24
          obtain ⟨x_25, ex_25⟩ : ∃ y : Int32, y3_4 + 1 = y := ⟨_, rfl⟩
          have q_x_25 : x_25.toInt = y3_4.toInt + 1 := i_add (k := 1) (by decide) ex_25 (by have := i_min y3_4; omega) (by have := i_max y3_4; omega)
          refine lv_iinc (v := x_25) (lv' := [(4, .int x_25), (0, .ref a0), (1, .int 0), (2, .int x1), (3, .int x2)]) hx hb dX12_makes_49 hl (k := 4) rfl (by rw [← ex_25]; rfl) (by decide) rfl (fun ls hl => ?_)
          refine lv_goto (tgt := 3) hx hb dX12_makes_52 (by decide) ?_
          exact ih_3 H_24 locs_24 _ x_25 hT_24 hS_24 (lv_sub hl [1, 2, 3, 4, 0] rfl) (by omega) ⟨(PW.q (hU_24.2 _ (th_ne (hW _ 12 0 ha0 (by decide) (by decide) (by decide)) (hW _ 12 2 ha0 (by decide) (by decide) (by decide)) (by decide))) hI_c3.1), (QS.same (ai_q (hU_24.2 _ (th_ne (hW _ 12 0 ha0 (by decide) (by decide) (by decide)) (hW _ 12 2 ha0 (by decide) (by decide) (by decide)) (by decide)))) (ai_q (hU_24.2 _ (th_ne (hW _ 12 0 ha0 (by decide) (by decide) (by decide)) (hW _ 12 2 ha0 (by decide) (by decide) (by decide)) (by decide)))) hI_c3.2.1), (QS.same (ai_q (hU_24.2 _ (th_ne (hW _ 12 0 ha0 (by decide) (by decide) (by decide)) (hW _ 12 2 ha0 (by decide) (by decide) (by decide)) (by decide)))) (ai_q (hU_24.2 _ (th_ne (hW _ 12 0 ha0 (by decide) (by decide) (by decide)) (hW _ 12 2 ha0 (by decide) (by decide) (by decide)) (by decide)))) hI_c3.2.2.1), hL_24, (PL.q (hU_24.2 _ (Ne.symm n23)) hI_c3.2.2.2.2.1), (IF.q (hU_24.2 _ (th_ne ha0 (hW _ 12 2 ha0 (by decide) (by decide) (by decide)) (by decide))) hI_c3.2.2.2.2.2)⟩ (by rw [(ai_q (hU_24.2 _ (th_ne (hW _ 12 0 ha0 (by decide) (by decide) (by decide)) (hW _ 12 2 ha0 (by decide) (by decide) (by decide)) (by decide))))]; omega) (by omega)
        · have f_23 : 3 ≤ y3_4.toInt := r_nlt rfl (by decide) c_23
          refine lv_iload hx hb dX12_makes_22 (lv_at hl 4 rfl) ?_
          refine lv_iconst (v := 5) hx hb dX12_makes_24 (by decide) ?_
          refine lv_icmp_eq (tgt := 42) hx hb dX12_makes_25 (by decide) (fun c_26 => ?_) (fun c_26 => ?_)
          · have f_26 : y3_4.toInt = 5 := r_eq rfl (by decide) c_26
            refine lv_iconst (v := 0) hx hb dX12_makes_42 (by decide) ?_
            refine lv_goto (tgt := 48) hx hb dX12_makes_43 (by decide) ?_
            refine th_iast E hT_c3 hS_c3 h_22 rfl (by decide) (vp_in_iff.mpr ⟨by omega, by omega⟩) dX12_makes_48 (fun H_27 locs_27 hT_27 hU_27 hS_27 => ?_)
            have hU_27 : AU 20 H_c3 H_27 (ρ a0 2) y3_4.toInt.toNat (0) := hU_27
            have hL_27 : PL H_27 (ρ a0 2) := PL.zero hI_c3.2.2.2.1 hU_27
            obtain ⟨x_28, ex_28⟩ : ∃ y : Int32, y3_4 + 1 = y := ⟨_, rfl⟩
            have q_x_28 : x_28.toInt = y3_4.toInt + 1 := i_add (k := 1) (by decide) ex_28 (by have := i_min y3_4; omega) (by have := i_max y3_4; omega)
            refine lv_iinc (v := x_28) (lv' := [(4, .int x_28), (0, .ref a0), (1, .int 0), (2, .int x1), (3, .int x2)]) hx hb dX12_makes_49 hl (k := 4) rfl (by rw [← ex_28]; rfl) (by decide) rfl (fun ls hl => ?_)
            refine lv_goto (tgt := 3) hx hb dX12_makes_52 (by decide) ?_
            exact ih_3 H_27 locs_27 _ x_28 hT_27 hS_27 (lv_sub hl [1, 2, 3, 4, 0] rfl) (by omega) ⟨(PW.q (hU_27.2 _ (th_ne (hW _ 12 0 ha0 (by decide) (by decide) (by decide)) (hW _ 12 2 ha0 (by decide) (by decide) (by decide)) (by decide))) hI_c3.1), (QS.same (ai_q (hU_27.2 _ (th_ne (hW _ 12 0 ha0 (by decide) (by decide) (by decide)) (hW _ 12 2 ha0 (by decide) (by decide) (by decide)) (by decide)))) (ai_q (hU_27.2 _ (th_ne (hW _ 12 0 ha0 (by decide) (by decide) (by decide)) (hW _ 12 2 ha0 (by decide) (by decide) (by decide)) (by decide)))) hI_c3.2.1), (QS.same (ai_q (hU_27.2 _ (th_ne (hW _ 12 0 ha0 (by decide) (by decide) (by decide)) (hW _ 12 2 ha0 (by decide) (by decide) (by decide)) (by decide)))) (ai_q (hU_27.2 _ (th_ne (hW _ 12 0 ha0 (by decide) (by decide) (by decide)) (hW _ 12 2 ha0 (by decide) (by decide) (by decide)) (by decide)))) hI_c3.2.2.1), hL_27, (PL.q (hU_27.2 _ (Ne.symm n23)) hI_c3.2.2.2.2.1), (IF.q (hU_27.2 _ (th_ne ha0 (hW _ 12 2 ha0 (by decide) (by decide) (by decide)) (by decide))) hI_c3.2.2.2.2.2)⟩ (by rw [(ai_q (hU_27.2 _ (th_ne (hW _ 12 0 ha0 (by decide) (by decide) (by decide)) (hW _ 12 2 ha0 (by decide) (by decide) (by decide)) (by decide))))]; omega) (by omega)
          · have f_26 : ¬ y3_4.toInt = 5 := r_ne rfl (by decide) c_26
            refine lv_iload hx hb dX12_makes_28 (lv_at hl 4 rfl) ?_
            refine lv_bipush (v := 6) hx hb dX12_makes_30 (by decide) ?_
            refine lv_icmp_eq (tgt := 42) hx hb dX12_makes_32 (by decide) (fun c_29 => ?_) (fun c_29 => ?_)
            · have f_29 : y3_4.toInt = 6 := r_eq rfl (by decide) c_29
              refine lv_iconst (v := 0) hx hb dX12_makes_42 (by decide) ?_
              refine lv_goto (tgt := 48) hx hb dX12_makes_43 (by decide) ?_
              refine th_iast E hT_c3 hS_c3 h_22 rfl (by decide) (vp_in_iff.mpr ⟨by omega, by omega⟩) dX12_makes_48 (fun H_30 locs_30 hT_30 hU_30 hS_30 => ?_)
              have hU_30 : AU 20 H_c3 H_30 (ρ a0 2) y3_4.toInt.toNat (0) := hU_30
              have hL_30 : PL H_30 (ρ a0 2) := PL.zero hI_c3.2.2.2.1 hU_30
              obtain ⟨x_31, ex_31⟩ : ∃ y : Int32, y3_4 + 1 = y := ⟨_, rfl⟩
              have q_x_31 : x_31.toInt = y3_4.toInt + 1 := i_add (k := 1) (by decide) ex_31 (by have := i_min y3_4; omega) (by have := i_max y3_4; omega)
              refine lv_iinc (v := x_31) (lv' := [(4, .int x_31), (0, .ref a0), (1, .int 0), (2, .int x1), (3, .int x2)]) hx hb dX12_makes_49 hl (k := 4) rfl (by rw [← ex_31]; rfl) (by decide) rfl (fun ls hl => ?_)
              refine lv_goto (tgt := 3) hx hb dX12_makes_52 (by decide) ?_
              exact ih_3 H_30 locs_30 _ x_31 hT_30 hS_30 (lv_sub hl [1, 2, 3, 4, 0] rfl) (by omega) ⟨(PW.q (hU_30.2 _ (th_ne (hW _ 12 0 ha0 (by decide) (by decide) (by decide)) (hW _ 12 2 ha0 (by decide) (by decide) (by decide)) (by decide))) hI_c3.1), (QS.same (ai_q (hU_30.2 _ (th_ne (hW _ 12 0 ha0 (by decide) (by decide) (by decide)) (hW _ 12 2 ha0 (by decide) (by decide) (by decide)) (by decide)))) (ai_q (hU_30.2 _ (th_ne (hW _ 12 0 ha0 (by decide) (by decide) (by decide)) (hW _ 12 2 ha0 (by decide) (by decide) (by decide)) (by decide)))) hI_c3.2.1), (QS.same (ai_q (hU_30.2 _ (th_ne (hW _ 12 0 ha0 (by decide) (by decide) (by decide)) (hW _ 12 2 ha0 (by decide) (by decide) (by decide)) (by decide)))) (ai_q (hU_30.2 _ (th_ne (hW _ 12 0 ha0 (by decide) (by decide) (by decide)) (hW _ 12 2 ha0 (by decide) (by decide) (by decide)) (by decide)))) hI_c3.2.2.1), hL_30, (PL.q (hU_30.2 _ (Ne.symm n23)) hI_c3.2.2.2.2.1), (IF.q (hU_30.2 _ (th_ne ha0 (hW _ 12 2 ha0 (by decide) (by decide) (by decide)) (by decide))) hI_c3.2.2.2.2.2)⟩ (by rw [(ai_q (hU_30.2 _ (th_ne (hW _ 12 0 ha0 (by decide) (by decide) (by decide)) (hW _ 12 2 ha0 (by decide) (by decide) (by decide)) (by decide))))]; omega) (by omega)
            · have f_29 : ¬ y3_4.toInt = 6 := r_ne rfl (by decide) c_29
              refine lv_iload hx hb dX12_makes_35 (lv_at hl 4 rfl) ?_
              refine lv_bipush (v := 12) hx hb dX12_makes_37 (by decide) ?_
              refine lv_icmp_lt (tgt := 46) hx hb dX12_makes_39 (by decide) (fun c_32 => ?_) (fun c_32 => ?_)
              · have f_32 : y3_4.toInt < 12 := r_lt rfl (by decide) c_32
                refine lv_bipush (v := (-4)) hx hb dX12_makes_46 (by decide) ?_
                refine th_iast E hT_c3 hS_c3 h_22 rfl (by decide) (vp_in_iff.mpr ⟨by omega, by omega⟩) dX12_makes_48 (fun H_33 locs_33 hT_33 hU_33 hS_33 => ?_)
                have hU_33 : AU 20 H_c3 H_33 (ρ a0 2) y3_4.toInt.toNat ((-4)) := hU_33
                have hL_33 : PL H_33 (ρ a0 2) := PL.free hI_c3.2.2.2.1 hU_33 (by omega)
                obtain ⟨x_34, ex_34⟩ : ∃ y : Int32, y3_4 + 1 = y := ⟨_, rfl⟩
                have q_x_34 : x_34.toInt = y3_4.toInt + 1 := i_add (k := 1) (by decide) ex_34 (by have := i_min y3_4; omega) (by have := i_max y3_4; omega)
                refine lv_iinc (v := x_34) (lv' := [(4, .int x_34), (0, .ref a0), (1, .int 0), (2, .int x1), (3, .int x2)]) hx hb dX12_makes_49 hl (k := 4) rfl (by rw [← ex_34]; rfl) (by decide) rfl (fun ls hl => ?_)
                refine lv_goto (tgt := 3) hx hb dX12_makes_52 (by decide) ?_
                exact ih_3 H_33 locs_33 _ x_34 hT_33 hS_33 (lv_sub hl [1, 2, 3, 4, 0] rfl) (by omega) ⟨(PW.q (hU_33.2 _ (th_ne (hW _ 12 0 ha0 (by decide) (by decide) (by decide)) (hW _ 12 2 ha0 (by decide) (by decide) (by decide)) (by decide))) hI_c3.1), (QS.same (ai_q (hU_33.2 _ (th_ne (hW _ 12 0 ha0 (by decide) (by decide) (by decide)) (hW _ 12 2 ha0 (by decide) (by decide) (by decide)) (by decide)))) (ai_q (hU_33.2 _ (th_ne (hW _ 12 0 ha0 (by decide) (by decide) (by decide)) (hW _ 12 2 ha0 (by decide) (by decide) (by decide)) (by decide)))) hI_c3.2.1), (QS.same (ai_q (hU_33.2 _ (th_ne (hW _ 12 0 ha0 (by decide) (by decide) (by decide)) (hW _ 12 2 ha0 (by decide) (by decide) (by decide)) (by decide)))) (ai_q (hU_33.2 _ (th_ne (hW _ 12 0 ha0 (by decide) (by decide) (by decide)) (hW _ 12 2 ha0 (by decide) (by decide) (by decide)) (by decide)))) hI_c3.2.2.1), hL_33, (PL.q (hU_33.2 _ (Ne.symm n23)) hI_c3.2.2.2.2.1), (IF.q (hU_33.2 _ (th_ne ha0 (hW _ 12 2 ha0 (by decide) (by decide) (by decide)) (by decide))) hI_c3.2.2.2.2.2)⟩ (by rw [(ai_q (hU_33.2 _ (th_ne (hW _ 12 0 ha0 (by decide) (by decide) (by decide)) (hW _ 12 2 ha0 (by decide) (by decide) (by decide)) (by decide))))]; omega) (by omega)
              · have f_32 : 12 ≤ y3_4.toInt := r_nlt rfl (by decide) c_32
                refine lv_iconst (v := 0) hx hb dX12_makes_42 (by decide) ?_
                refine lv_goto (tgt := 48) hx hb dX12_makes_43 (by decide) ?_
                refine th_iast E hT_c3 hS_c3 h_22 rfl (by decide) (vp_in_iff.mpr ⟨by omega, by omega⟩) dX12_makes_48 (fun H_35 locs_35 hT_35 hU_35 hS_35 => ?_)
                have hU_35 : AU 20 H_c3 H_35 (ρ a0 2) y3_4.toInt.toNat (0) := hU_35
                have hL_35 : PL H_35 (ρ a0 2) := PL.zero hI_c3.2.2.2.1 hU_35
                obtain ⟨x_36, ex_36⟩ : ∃ y : Int32, y3_4 + 1 = y := ⟨_, rfl⟩
                have q_x_36 : x_36.toInt = y3_4.toInt + 1 := i_add (k := 1) (by decide) ex_36 (by have := i_min y3_4; omega) (by have := i_max y3_4; omega)
                refine lv_iinc (v := x_36) (lv' := [(4, .int x_36), (0, .ref a0), (1, .int 0), (2, .int x1), (3, .int x2)]) hx hb dX12_makes_49 hl (k := 4) rfl (by rw [← ex_36]; rfl) (by decide) rfl (fun ls hl => ?_)
                refine lv_goto (tgt := 3) hx hb dX12_makes_52 (by decide) ?_
                exact ih_3 H_35 locs_35 _ x_36 hT_35 hS_35 (lv_sub hl [1, 2, 3, 4, 0] rfl) (by omega) ⟨(PW.q (hU_35.2 _ (th_ne (hW _ 12 0 ha0 (by decide) (by decide) (by decide)) (hW _ 12 2 ha0 (by decide) (by decide) (by decide)) (by decide))) hI_c3.1), (QS.same (ai_q (hU_35.2 _ (th_ne (hW _ 12 0 ha0 (by decide) (by decide) (by decide)) (hW _ 12 2 ha0 (by decide) (by decide) (by decide)) (by decide)))) (ai_q (hU_35.2 _ (th_ne (hW _ 12 0 ha0 (by decide) (by decide) (by decide)) (hW _ 12 2 ha0 (by decide) (by decide) (by decide)) (by decide)))) hI_c3.2.1), (QS.same (ai_q (hU_35.2 _ (th_ne (hW _ 12 0 ha0 (by decide) (by decide) (by decide)) (hW _ 12 2 ha0 (by decide) (by decide) (by decide)) (by decide)))) (ai_q (hU_35.2 _ (th_ne (hW _ 12 0 ha0 (by decide) (by decide) (by decide)) (hW _ 12 2 ha0 (by decide) (by decide) (by decide)) (by decide)))) hI_c3.2.2.1), hL_35, (PL.q (hU_35.2 _ (Ne.symm n23)) hI_c3.2.2.2.2.1), (IF.q (hU_35.2 _ (th_ne ha0 (hW _ 12 2 ha0 (by decide) (by decide) (by decide)) (by decide))) hI_c3.2.2.2.2.2)⟩ (by rw [(ai_q (hU_35.2 _ (th_ne (hW _ 12 0 ha0 (by decide) (by decide) (by decide)) (hW _ 12 2 ha0 (by decide) (by decide) (by decide)) (by decide))))]; omega) (by omega)
  refine lv_iconst (v := 0) hx hb dX12_makes_0 (by decide) ?_
  refine lv_istore (lv' := [(4, .int 0), (0, .ref a0), (1, .int 0), (2, .int x1), (3, .int x2)]) hx hb dX12_makes_1 hl (by decide) rfl (fun ls hl => ?_)
  exact L_3 _ H [] _ 0 hT hS (lv_sub hl [1, 2, 3, 4, 0] rfl) (by decide) ⟨hI.1, hI.2.1, hI.2.2.1, hI.2.2.2.1, hI.2.2.2.2.1, hI.2.2.2.2.2⟩ (by omega) (Nat.lt_succ_self _)
set_option maxHeartbeats 4000000 in
set_option maxRecDepth 100000 in
/-- the reference: hello -/
theorem y_hello (l : Launch) (D : va_G) (cI cS : ClassId) (τ : Nat → Option Nat) (ρ : Nat → Nat → Nat) (hW : WF τ ρ) (H : Heap) (hT : TH D cI cS τ ρ H) (a0 : Nat) (ha0 : τ a0 = some 12) (N : Int) (hN0 : 0 ≤ N) (hN1 : N ≤ 600) (hI : IM D ρ N H a0) : MV l D cI cS τ ρ yX12_hello cX12_hello 2 none 5 115 H [.ref a0, .int 0] (fun (u : Heap) => (IM D ρ N u a0) ∧ ((ai H (ρ a0 0) 976).toInt ≤ (ai u (ρ a0 0) 976).toInt)) (fun q => q = ρ a0 2 ∨ q = ρ a0 0) := by
  refine MV.of (by decide) (Nat.le_of_ble_eq_true rfl) ?_
  intro p e s m args below meth c E hml hr hlk hs ls hl
  have hx := E.1
  have hb := E.2.1
  have hown := E.2.2.1
  have hts := E.2.2.2.1
  have hS : SS (fun q => q = ρ a0 2 ∨ q = ρ a0 0) H H [] := SS.rf
  have hl : lv_has ls 2 [(0, .ref a0), (1, .int 0)] := hl
  have n01 := hI.2.2.2.2.2.1
  have n23 := hI.2.2.2.2.2.2.1
  have J_17 : ∀ (H_c17 : Heap) (lc_c17 : List Loc) (ls : Array Slot) (z17_2 : Int32), TH D cI cS τ ρ H_c17 → SS (fun q => q = ρ a0 2 ∨ q = ρ a0 0) H H_c17 lc_c17 → lv_has ls 2 [(0, .ref a0), (1, .int 0)] → 1 ≤ z17_2.toInt → z17_2.toInt ≤ 5 → IM D ρ N H_c17 a0 → (ai H (ρ a0 0) 976).toInt ≤ (ai H_c17 (ρ a0 0) 976).toInt → W p l e (rmO 5 115) s m args below meth c H_c17 lc_c17 0 0 (MQ below (va_Qv (fun (u : Heap) => (IM D ρ N u a0) ∧ ((ai H (ρ a0 0) 976).toInt ≤ (ai u (ρ a0 0) 976).toInt)) (Bt D cI cS τ ρ H) (fun q => q = ρ a0 2 ∨ q = ρ a0 0)) args s 0 0 (fun q => q = ρ a0 2 ∨ q = ρ a0 0)) (F0 m 17 ls [.int z17_2, .int 0, .ref a0]) := by
    intro H_c17 lc_c17 ls z17_2 hT_c17 hS_c17 hl lz17_2 uz17_2 hI_c17 hmn_c17
    refine lv_aload_n hx hb dX12_hello_17 rfl (lv_at hl 0 rfl) ?_
    refine lv_iload_n hx hb dX12_hello_18 rfl (lv_at hl 1 rfl) ?_
    refine lv_iconst (v := 0) hx hb dX12_hello_19 (by decide) ?_
    refine th_Vi (As := [.int 0, .int 0]) (rest := [.int z17_2, .int 0, .ref a0]) E hml hl.1 (y_number l D cI cS τ ρ hW H_c17 hT_c17 a0 ha0) lk_X12_112 yd_X12_number hT_c17 ha0 rfl (by decide) hS_c17 (fun _ h => h.elim) ⟨by decide, by decide⟩ (Nat.le_of_ble_eq_true rfl) ⟨by decide, by decide⟩ rfl dX12_hello_20 (fun r_1 H_1 locs_1 p_1 hT_1 hk_1 hS_1 => ?_)
    have p_1 : H_c17 = H_1 := p_1
    obtain rfl := p_1
    refine th_Vv (As := [.int 0, .int z17_2, .int r_1]) (rest := []) E hml hl.1 (y_makes l D cI cS τ ρ hW H_c17 hT_1 a0 z17_2 r_1 ha0 N hN0 hN1 ⟨hI_c17.1, hI_c17.2.1, hI_c17.2.2.1, hI_c17.2.2.2.1, hI_c17.2.2.2.2.1, hI_c17.2.2.2.2.2⟩) lk_X12_126 yd_X12_makes hT_1 ha0 rfl (by decide) hS_1 (fun q h => (Or.inl h)) ⟨by decide, by decide⟩ (Nat.le_of_ble_eq_true rfl) ⟨by decide, by decide⟩ rfl dX12_hello_23 (fun H_2 locs_2 p_2 hT_2 hk_2 hS_2 => ?_)
    have p_2 : (IM D ρ N H_2 a0) ∧ ((ai H_c17 (ρ a0 0) 976).toInt ≤ (ai H_2 (ρ a0 0) 976).toInt) := p_2
    obtain ⟨p_2_0, p_2_1⟩ := p_2
    have mn_2 : (ai H_c17 (ρ a0 0) 976).toInt ≤ (ai H_2 (ρ a0 0) 976).toInt := by exact p_2_1
    refine lv_aload_n hx hb dX12_hello_26 rfl (lv_at hl 0 rfl) ?_
    refine th_Vv (As := []) (rest := []) E hml hl.1 (y_posts l D cI cS τ ρ hW H_2 hT_2 a0 ha0 N hN0 hN1 ⟨p_2_0.1, p_2_0.2.1, p_2_0.2.2.1, p_2_0.2.2.2.1, p_2_0.2.2.2.2.1, p_2_0.2.2.2.2.2⟩) lk_X12_129 yd_X12_posts hT_2 ha0 rfl (by decide) hS_2 (fun q h => (Or.inr h)) ⟨by decide, by decide⟩ (Nat.le_of_ble_eq_true rfl) ⟨by decide, by decide⟩ rfl dX12_hello_27 (fun H_3 locs_3 p_3 hT_3 hk_3 hS_3 => ?_)
    have p_3 : (IM D ρ N H_3 a0) ∧ ((ai H_2 (ρ a0 0) 976).toInt ≤ (ai H_3 (ρ a0 0) 976).toInt) := p_3
    obtain ⟨p_3_0, p_3_1⟩ := p_3
    have mn_3 : (ai H_c17 (ρ a0 0) 976).toInt ≤ (ai H_3 (ρ a0 0) 976).toInt := by have h := p_3_1; rw [(ai_q (hk_2 _ (th_ne (hW _ 12 0 ha0 (by decide) (by decide) (by decide)) (hW _ 12 2 ha0 (by decide) (by decide) (by decide)) (by decide))))] at h; exact h
    exact th_vret E hr hlk hs hT_3 hS_3 ⟨⟨p_3_0.1, p_3_0.2.1, p_3_0.2.2.1, p_3_0.2.2.2.1, p_3_0.2.2.2.2.1, p_3_0.2.2.2.2.2⟩, (by omega)⟩ dX12_hello_30
  refine lv_aload_n hx hb dX12_hello_0 rfl (lv_at hl 0 rfl) ?_
  refine lv_iload_n hx hb dX12_hello_1 rfl (lv_at hl 1 rfl) ?_
  refine lv_aload_n hx hb dX12_hello_2 rfl (lv_at hl 0 rfl) ?_
  refine lv_iload_n hx hb dX12_hello_3 rfl (lv_at hl 1 rfl) ?_
  refine lv_iconst (v := 0) hx hb dX12_hello_4 (by decide) ?_
  refine th_Vi (As := [.int 0, .int 0]) (rest := [.int 0, .ref a0]) E hml hl.1 (y_get_v21 l D cI cS τ ρ hW H hT a0 ha0) lk_X12_99 yd_X12_get hT ha0 rfl (by decide) hS (fun _ h => h.elim) ⟨by decide, by decide⟩ (Nat.le_of_ble_eq_true rfl) ⟨by decide, by decide⟩ rfl dX12_hello_5 (fun r_4 H_4 locs_4 p_4 hT_4 hk_4 hS_4 => ?_)
  have p_4 : H = H_4 ∧ (ai H (ρ a0 0) 0 = r_4) := p_4
  obtain ⟨rfl, p_4_0⟩ := p_4
  have c_r_4 := congrArg Int32.toInt p_4_0
  refine lv_iconst (v := 2) hx hb dX12_hello_8 (by decide) ?_
  refine lv_icmp_ne (tgt := 16) hx hb dX12_hello_9 (by decide) (fun c_5 => ?_) (fun c_5 => ?_)
  · have f_5 : ¬ r_4.toInt = 2 := r_ne rfl (by decide) c_5
    refine lv_iconst (v := 5) hx hb dX12_hello_16 (by decide) ?_
    exact J_17 H locs_4 _ 5 hT_4 hS_4 hl (by decide) (by decide) ⟨hI.1, hI.2.1, hI.2.2.1, hI.2.2.2.1, hI.2.2.2.2.1, hI.2.2.2.2.2⟩ (by omega)
  · have f_5 : r_4.toInt = 2 := r_eq rfl (by decide) c_5
    refine lv_iconst (v := 1) hx hb dX12_hello_12 (by decide) ?_
    refine lv_goto (tgt := 17) hx hb dX12_hello_13 (by decide) ?_
    exact J_17 H locs_4 _ 1 hT_4 hS_4 hl (by decide) (by decide) ⟨hI.1, hI.2.1, hI.2.2.1, hI.2.2.2.1, hI.2.2.2.2.1, hI.2.2.2.2.2⟩ (by omega)
set_option maxHeartbeats 4000000 in
set_option maxRecDepth 100000 in
/-- the reference: get -/
theorem y_get_v24 (l : Launch) (D : va_G) (cI cS : ClassId) (τ : Nat → Option Nat) (ρ : Nat → Nat → Nat) (hW : WF τ ρ) (H : Heap) (hT : TH D cI cS τ ρ H) (a0 : Nat) (ha0 : τ a0 = some 12) : MI l D cI cS τ ρ yX12_get cX12_get 3 (some .int) 0 0 H [.ref a0, .int 0, .int 4] (fun (r : Int32) (u : Heap) => (H = u) ∧ (ai H (ρ a0 0) 4 = r)) (fun q => False) := by
  refine MI.of (by decide) (Nat.le_of_ble_eq_true rfl) ?_
  intro p e s m args below meth c E hml hr hlk hs ls hl
  have hx := E.1
  have hb := E.2.1
  have hown := E.2.2.1
  have hts := E.2.2.2.1
  have hS : SS (fun q => False) H H [] := SS.rf
  have hl : lv_has ls 3 [(0, .ref a0), (1, .int 0), (2, .int 4)] := hl
  refine lv_aload_n hx hb dX12_get_0 rfl (lv_at hl 0 rfl) ?_
  refine gf_X12_7 E hT hW ha0 dX12_get_1 (fun h_1 => ?_)
  refine lv_sipush (v := 288) hx hb dX12_get_4 (by decide) ?_
  refine lv_iload_n hx hb dX12_get_7 rfl (lv_at hl 1 rfl) ?_
  refine lv_imul hx hb dX12_get_8 ?_
  refine th_topi (y := 0) (by decide) ?_
  refine lv_iload_n hx hb dX12_get_9 rfl (lv_at hl 2 rfl) ?_
  refine lv_iadd hx hb dX12_get_10 ?_
  refine th_topi (y := 4) (by decide) ?_
  refine th_iald E hT h_1 (by decide) (vp_in_iff.mpr ⟨by decide, by decide⟩) dX12_get_11 ?_
  refine th_topi (y := ai H (ρ a0 0) 4) rfl ?_
  refine lv_topi (fun x_2 ex_2 => ?_)
  have c_x_2 := congrArg Int32.toInt ex_2.symm
  exact th_iret E hr hlk hs hT hS ⟨rfl, ex_2.symm⟩ dX12_get_12
set_option maxHeartbeats 4000000 in
set_option maxRecDepth 100000 in
/-- the reference: number -/
theorem y_number_v3 (l : Launch) (D : va_G) (cI cS : ClassId) (τ : Nat → Option Nat) (ρ : Nat → Nat → Nat) (hW : WF τ ρ) (H : Heap) (hT : TH D cI cS τ ρ H) (a0 : Nat) (x1 : Int32) (ha0 : τ a0 = some 12) : MI l D cI cS τ ρ yX12_number cX12_number 3 (some .int) 0 0 H [.ref a0, .int 0, .int x1] (fun (r : Int32) (u : Heap) => (H = u)) (fun q => False) := by
  refine MI.of (by decide) (Nat.le_of_ble_eq_true rfl) ?_
  intro p e s m args below meth c E hml hr hlk hs ls hl
  have hx := E.1
  have hb := E.2.1
  have hown := E.2.2.1
  have hts := E.2.2.2.1
  have hS : SS (fun q => False) H H [] := SS.rf
  have hl : lv_has ls 3 [(0, .ref a0), (1, .int 0), (2, .int x1)] := hl
  refine lv_aload_n hx hb dX12_number_0 rfl (lv_at hl 0 rfl) ?_
  refine gf_X12_35 E hT hW ha0 dX12_number_1 (fun h_1 => ?_)
  refine lv_iload_n hx hb dX12_number_4 rfl (lv_at hl 1 rfl) ?_
  refine th_iald E hT h_1 (by decide) (vp_in_iff.mpr ⟨by decide, by decide⟩) dX12_number_5 ?_
  refine th_topi (y := ai H (ρ a0 9) 0) rfl ?_
  refine lv_topi (fun x_2 ex_2 => ?_)
  have c_x_2 := congrArg Int32.toInt ex_2.symm
  refine lv_iload_n hx hb dX12_number_6 rfl (lv_at hl 2 rfl) ?_
  refine lv_iadd hx hb dX12_number_7 ?_
  refine lv_topi (fun x_3 ex_3 => ?_)
  refine lv_sipush (v := 256) hx hb dX12_number_8 (by decide) ?_
  refine lv_irem hx hb dX12_number_11 (by decide) ?_
  refine lv_topi (fun x_4 ex_4 => ?_)
  have q_4 := i_rem (k := 256) (x := x_3) (by decide) (by decide) ex_4
  exact th_iret E hr hlk hs hT hS rfl dX12_number_12
set_option maxHeartbeats 4000000 in
set_option maxRecDepth 100000 in
/-- the reference: makes -/
theorem y_makes_v2 (l : Launch) (D : va_G) (cI cS : ClassId) (τ : Nat → Option Nat) (ρ : Nat → Nat → Nat) (hW : WF τ ρ) (H : Heap) (hT : TH D cI cS τ ρ H) (a0 : Nat) (x2 : Int32) (ha0 : τ a0 = some 12) (N : Int) (hN0 : 0 ≤ N) (hN1 : N ≤ 600) (hI : IM D ρ N H a0) : MV l D cI cS τ ρ yX12_makes cX12_makes 5 none 4 91 H [.ref a0, .int 0, .int 6, .int x2] (fun (u : Heap) => (IM D ρ N u a0) ∧ ((ai H (ρ a0 0) 976).toInt ≤ (ai u (ρ a0 0) 976).toInt)) (fun q => q = ρ a0 2) := by
  refine MV.of (by decide) (Nat.le_of_ble_eq_true rfl) ?_
  intro p e s m args below meth c E hml hr hlk hs ls hl
  have hx := E.1
  have hb := E.2.1
  have hown := E.2.2.1
  have hts := E.2.2.2.1
  have hS : SS (fun q => q = ρ a0 2) H H [] := SS.rf
  have hl : lv_has ls 5 [(0, .ref a0), (1, .int 0), (2, .int 6), (3, .int x2)] := hl
  have n01 := hI.2.2.2.2.2.1
  have n23 := hI.2.2.2.2.2.2.1
  have L_3 : ∀ (n : Nat) (H_c3 : Heap) (lc_c3 : List Loc) (ls : Array Slot) (y3_4 : Int32), TH D cI cS τ ρ H_c3 → SS (fun q => q = ρ a0 2) H H_c3 lc_c3 → lv_has ls 5 [(0, .ref a0), (1, .int 0), (2, .int 6), (3, .int x2), (4, .int y3_4)] → 0 ≤ y3_4.toInt → IM D ρ N H_c3 a0 → (ai H (ρ a0 0) 976).toInt ≤ (ai H_c3 (ρ a0 0) 976).toInt → (20 - y3_4.toInt).toNat < n → W p l e (rmO 4 91) s m args below meth c H_c3 lc_c3 0 0 (MQ below (va_Qv (fun (u : Heap) => (IM D ρ N u a0) ∧ ((ai H (ρ a0 0) 976).toInt ≤ (ai u (ρ a0 0) 976).toInt)) (Bt D cI cS τ ρ H) (fun q => q = ρ a0 2)) args s 0 0 (fun q => q = ρ a0 2)) (F0 m 3 ls []) := by
    intro n
    induction n with
    | zero => intro H_c3 lc_c3 ls y3_4 hT_c3 hS_c3 hl ly3_4 hI_c3 hmn_c3 hm; exact absurd hm (Nat.not_lt_zero _)
    | succ n ih_3 =>
      intro H_c3 lc_c3 ls y3_4 hT_c3 hS_c3 hl ly3_4 hI_c3 hmn_c3 hm_3
      refine lv_iload hx hb dX12_makes_3 (lv_at hl 4 rfl) ?_
      refine lv_bipush (v := 20) hx hb dX12_makes_5 (by decide) ?_
      refine lv_icmp_ge (tgt := 55) hx hb dX12_makes_7 (by decide) (fun c_1 => ?_) (fun c_1 => ?_)
      · have f_1 : 20 ≤ y3_4.toInt := r_le (by decide) rfl c_1
        refine lv_aload_n hx hb dX12_makes_55 rfl (lv_at hl 0 rfl) ?_
        refine gf_X12_16 E hT_c3 hW ha0 dX12_makes_56 (fun h_2 => ?_)
        refine lv_iconst (v := 0) hx hb dX12_makes_59 (by decide) ?_
        refine lv_iload_n hx hb dX12_makes_60 rfl (lv_at hl 1 rfl) ?_
        refine th_iast E hT_c3 hS_c3 h_2 rfl (by decide) (vp_in_iff.mpr ⟨by decide, by decide⟩) dX12_makes_61 (fun H_3 locs_3 hT_3 hU_3 hS_3 => ?_)
        have hU_3 : AU 20 H_c3 H_3 (ρ a0 2) 0 (0) := hU_3
        have hL_3 : PL H_3 (ρ a0 2) := PL.put hI_c3.2.2.2.1 hU_3 (by show (0 : Int) ≤ (0 : Int32).toInt; have : (0 : Int32).toInt = 0 := (by decide); omega) (by show (0 : Int32).toInt ≤ (1 : Int); have : (0 : Int32).toInt = 0 := (by decide); omega)
        refine lv_aload_n hx hb dX12_makes_62 rfl (lv_at hl 0 rfl) ?_
        refine gf_X12_16 E hT_3 hW ha0 dX12_makes_63 (fun h_4 => ?_)
        refine lv_iconst (v := 1) hx hb dX12_makes_66 (by decide) ?_
        refine lv_iload_n hx hb dX12_makes_67 rfl (lv_at hl 2 rfl) ?_
        refine th_iast E hT_3 hS_3 h_4 rfl (by decide) (vp_in_iff.mpr ⟨by decide, by decide⟩) dX12_makes_68 (fun H_5 locs_5 hT_5 hU_5 hS_5 => ?_)
        have hU_5 : AU 20 H_3 H_5 (ρ a0 2) 1 (6) := hU_5
        have hL_5 : PL H_5 (ρ a0 2) := PL.put hL_3 hU_5 (by show (-2147483648 : Int) ≤ _; exact i_min _) (by show _ ≤ (2147483647 : Int); exact i_max _)
        refine lv_aload_n hx hb dX12_makes_69 rfl (lv_at hl 0 rfl) ?_
        refine gf_X12_16 E hT_5 hW ha0 dX12_makes_70 (fun h_6 => ?_)
        refine lv_iconst (v := 2) hx hb dX12_makes_73 (by decide) ?_
        refine lv_iload_n hx hb dX12_makes_74 rfl (lv_at hl 3 rfl) ?_
        refine th_iast E hT_5 hS_5 h_6 rfl (by decide) (vp_in_iff.mpr ⟨by decide, by decide⟩) dX12_makes_75 (fun H_7 locs_7 hT_7 hU_7 hS_7 => ?_)
        have hU_7 : AU 20 H_5 H_7 (ρ a0 2) 2 x2 := hU_7
        have hL_7 : PL H_7 (ρ a0 2) := PL.put hL_5 hU_7 (by show (-2147483648 : Int) ≤ _; exact i_min _) (by show _ ≤ (2147483647 : Int); exact i_max _)
        refine lv_iload_n hx hb dX12_makes_76 rfl (lv_at hl 2 rfl) ?_
        refine lv_iconst (v := 4) hx hb dX12_makes_77 (by decide) ?_
        refine lv_iand hx hb dX12_makes_78 ?_
        refine th_topi (y := 4) (by decide) ?_
        refine lv_if_le (tgt := 133) hx hb dX12_makes_79 (by decide) (fun c_8 => absurd c_8 (by decide)) (fun c_8 => ?_)
        refine lv_iload_n hx hb dX12_makes_82 rfl (lv_at hl 2 rfl) ?_
        refine lv_bipush (v := 8) hx hb dX12_makes_83 (by decide) ?_
        refine lv_iand hx hb dX12_makes_85 ?_
        refine th_topi (y := 0) (by decide) ?_
        refine lv_if_ne (tgt := 133) hx hb dX12_makes_86 (by decide) (fun c_9 => absurd (by decide) c_9) (fun c_9 => ?_)
        refine lv_aload_n hx hb dX12_makes_89 rfl (lv_at hl 0 rfl) ?_
        refine gf_X12_16 E hT_7 hW ha0 dX12_makes_90 (fun h_10 => ?_)
        refine lv_iconst (v := 3) hx hb dX12_makes_93 (by decide) ?_
        refine lv_aload_n hx hb dX12_makes_94 rfl (lv_at hl 0 rfl) ?_
        refine lv_iconst (v := 1) hx hb dX12_makes_95 (by decide) ?_
        refine lv_iload_n hx hb dX12_makes_96 rfl (lv_at hl 1 rfl) ?_
        refine lv_isub hx hb dX12_makes_97 ?_
        refine th_topi (y := 1) (by decide) ?_
        refine lv_aload_n hx hb dX12_makes_98 rfl (lv_at hl 0 rfl) ?_
        refine lv_iload_n hx hb dX12_makes_99 rfl (lv_at hl 1 rfl) ?_
        refine lv_iconst (v := 5) hx hb dX12_makes_100 (by decide) ?_
        refine th_Vi (As := [.int 0, .int 5]) (rest := [.int 1, .ref a0, .int 3, .ref (ρ a0 2)]) E hml hl.1 (y_get_v22 l D cI cS τ ρ hW H_7 hT_7 a0 ha0) lk_X12_99 yd_X12_get hT_7 ha0 rfl (by decide) hS_7 (fun _ h => h.elim) ⟨by decide, by decide⟩ (Nat.le_of_ble_eq_true rfl) ⟨by decide, by decide⟩ rfl dX12_makes_101 (fun r_11 H_11 locs_11 p_11 hT_11 hk_11 hS_11 => ?_)
        have p_11 : H_7 = H_11 ∧ (ai H_7 (ρ a0 0) 5 = r_11) := p_11
        obtain ⟨rfl, p_11_0⟩ := p_11
        have t_11 : ai H_c3 (ρ a0 0) 5 = r_11 := (Eq.trans (ai_q (hU_7.2 _ (th_ne (hW _ 12 0 ha0 (by decide) (by decide) (by decide)) (hW _ 12 2 ha0 (by decide) (by decide) (by decide)) (by decide)))) (Eq.trans (ai_q (hU_5.2 _ (th_ne (hW _ 12 0 ha0 (by decide) (by decide) (by decide)) (hW _ 12 2 ha0 (by decide) (by decide) (by decide)) (by decide)))) (ai_q (hU_3.2 _ (th_ne (hW _ 12 0 ha0 (by decide) (by decide) (by decide)) (hW _ 12 2 ha0 (by decide) (by decide) (by decide)) (by decide)))))).symm.trans p_11_0
        have b_r_11 : 0 ≤ r_11.toInt ∧ r_11.toInt ≤ N + 33 := by rw [← t_11]; exact hI_c3.1 5 (by decide)
        have c_r_11 := congrArg Int32.toInt t_11
        refine th_Vi (As := [.int 1, .int r_11]) (rest := [.int 3, .ref (ρ a0 2)]) E hml hl.1 (y_number_v2 l D cI cS τ ρ hW H_7 hT_11 a0 r_11 ha0) lk_X12_112 yd_X12_number hT_11 ha0 rfl (by decide) hS_11 (fun _ h => h.elim) ⟨by decide, by decide⟩ (Nat.le_of_ble_eq_true rfl) ⟨by decide, by decide⟩ rfl dX12_makes_104 (fun r_12 H_12 locs_12 p_12 hT_12 hk_12 hS_12 => ?_)
        have p_12 : H_7 = H_12 := p_12
        obtain rfl := p_12
        refine th_iast E hT_12 hS_12 h_10 rfl (by decide) (vp_in_iff.mpr ⟨by decide, by decide⟩) dX12_makes_107 (fun H_13 locs_13 hT_13 hU_13 hS_13 => ?_)
        have hU_13 : AU 20 H_7 H_13 (ρ a0 2) 3 r_12 := hU_13
        have hL_13 : PL H_13 (ρ a0 2) := PL.put hL_7 hU_13 (by show (-2147483648 : Int) ≤ _; exact i_min _) (by show _ ≤ (2147483647 : Int); exact i_max _)
        refine lv_aload_n hx hb dX12_makes_108 rfl (lv_at hl 0 rfl) ?_
        refine gf_X12_16 E hT_13 hW ha0 dX12_makes_109 (fun h_14 => ?_)
        refine lv_iconst (v := 4) hx hb dX12_makes_112 (by decide) ?_
        refine lv_aload_n hx hb dX12_makes_113 rfl (lv_at hl 0 rfl) ?_
        refine lv_iload_n hx hb dX12_makes_114 rfl (lv_at hl 1 rfl) ?_
        refine lv_bipush (v := 7) hx hb dX12_makes_115 (by decide) ?_
        refine th_Vi (As := [.int 0, .int 7]) (rest := [.int 4, .ref (ρ a0 2)]) E hml hl.1 (y_get_v23 l D cI cS τ ρ hW H_13 hT_13 a0 ha0) lk_X12_99 yd_X12_get hT_13 ha0 rfl (by decide) hS_13 (fun _ h => h.elim) ⟨by decide, by decide⟩ (Nat.le_of_ble_eq_true rfl) ⟨by decide, by decide⟩ rfl dX12_makes_117 (fun r_15 H_15 locs_15 p_15 hT_15 hk_15 hS_15 => ?_)
        have p_15 : H_13 = H_15 ∧ (ai H_13 (ρ a0 0) 7 = r_15) := p_15
        obtain ⟨rfl, p_15_0⟩ := p_15
        have t_15 : ai H_c3 (ρ a0 0) 7 = r_15 := (Eq.trans (ai_q (hU_13.2 _ (th_ne (hW _ 12 0 ha0 (by decide) (by decide) (by decide)) (hW _ 12 2 ha0 (by decide) (by decide) (by decide)) (by decide)))) (Eq.trans (ai_q (hU_7.2 _ (th_ne (hW _ 12 0 ha0 (by decide) (by decide) (by decide)) (hW _ 12 2 ha0 (by decide) (by decide) (by decide)) (by decide)))) (Eq.trans (ai_q (hU_5.2 _ (th_ne (hW _ 12 0 ha0 (by decide) (by decide) (by decide)) (hW _ 12 2 ha0 (by decide) (by decide) (by decide)) (by decide)))) (ai_q (hU_3.2 _ (th_ne (hW _ 12 0 ha0 (by decide) (by decide) (by decide)) (hW _ 12 2 ha0 (by decide) (by decide) (by decide)) (by decide))))))).symm.trans p_15_0
        have b_r_15 : 0 ≤ r_15.toInt ∧ r_15.toInt ≤ N + 33 := by rw [← t_15]; exact hI_c3.1 7 (by decide)
        have c_r_15 := congrArg Int32.toInt t_15
        refine lv_aload_n hx hb dX12_makes_120 rfl (lv_at hl 0 rfl) ?_
        refine lv_iload_n hx hb dX12_makes_121 rfl (lv_at hl 1 rfl) ?_
        refine lv_iconst (v := 5) hx hb dX12_makes_122 (by decide) ?_
        refine th_Vi (As := [.int 0, .int 5]) (rest := [.int r_15, .int 4, .ref (ρ a0 2)]) E hml hl.1 (y_get_v22 l D cI cS τ ρ hW H_13 hT_15 a0 ha0) lk_X12_99 yd_X12_get hT_15 ha0 rfl (by decide) hS_15 (fun _ h => h.elim) ⟨by decide, by decide⟩ (Nat.le_of_ble_eq_true rfl) ⟨by decide, by decide⟩ rfl dX12_makes_123 (fun r_16 H_16 locs_16 p_16 hT_16 hk_16 hS_16 => ?_)
        have p_16 : H_13 = H_16 ∧ (ai H_13 (ρ a0 0) 5 = r_16) := p_16
        obtain ⟨rfl, p_16_0⟩ := p_16
        have s_16 : r_16 = r_11 := p_16_0.symm.trans (Eq.trans (ai_q (hU_13.2 _ (th_ne (hW _ 12 0 ha0 (by decide) (by decide) (by decide)) (hW _ 12 2 ha0 (by decide) (by decide) (by decide)) (by decide)))) ((Eq.trans (ai_q (hU_7.2 _ (th_ne (hW _ 12 0 ha0 (by decide) (by decide) (by decide)) (hW _ 12 2 ha0 (by decide) (by decide) (by decide)) (by decide)))) (Eq.trans (ai_q (hU_5.2 _ (th_ne (hW _ 12 0 ha0 (by decide) (by decide) (by decide)) (hW _ 12 2 ha0 (by decide) (by decide) (by decide)) (by decide)))) (ai_q (hU_3.2 _ (th_ne (hW _ 12 0 ha0 (by decide) (by decide) (by decide)) (hW _ 12 2 ha0 (by decide) (by decide) (by decide)) (by decide)))))).trans t_11))
        refine th_topi s_16 ?_
        refine lv_isub hx hb dX12_makes_126 ?_
        refine lv_topi (fun x_17 ex_17 => ?_)
        have q_17 : x_17.toInt = r_15.toInt - r_11.toInt := i_mi rfl rfl ex_17 (by omega) (by omega)
        refine th_iast E hT_16 hS_16 h_14 rfl (by decide) (vp_in_iff.mpr ⟨by decide, by decide⟩) dX12_makes_127 (fun H_18 locs_18 hT_18 hU_18 hS_18 => ?_)
        have hU_18 : AU 20 H_13 H_18 (ρ a0 2) 4 x_17 := hU_18
        have hL_18 : PL H_18 (ρ a0 2) := PL.put hL_13 hU_18 (by show (-2147483648 : Int) ≤ _; exact i_min _) (by show _ ≤ (2147483647 : Int); exact i_max _)
        refine lv_aload_n hx hb dX12_makes_128 rfl (lv_at hl 0 rfl) ?_
        refine lv_iload_n hx hb dX12_makes_129 rfl (lv_at hl 1 rfl) ?_
        refine th_Vv (As := [.int 0]) (rest := []) E hml hl.1 (y_spans l D cI cS τ ρ hW H_18 hT_18 a0 ha0 N hN0 hN1 ⟨(PW.q (hU_18.2 _ (th_ne (hW _ 12 0 ha0 (by decide) (by decide) (by decide)) (hW _ 12 2 ha0 (by decide) (by decide) (by decide)) (by decide))) (PW.q (hU_13.2 _ (th_ne (hW _ 12 0 ha0 (by decide) (by decide) (by decide)) (hW _ 12 2 ha0 (by decide) (by decide) (by decide)) (by decide))) (PW.q (hU_7.2 _ (th_ne (hW _ 12 0 ha0 (by decide) (by decide) (by decide)) (hW _ 12 2 ha0 (by decide) (by decide) (by decide)) (by decide))) (PW.q (hU_5.2 _ (th_ne (hW _ 12 0 ha0 (by decide) (by decide) (by decide)) (hW _ 12 2 ha0 (by decide) (by decide) (by decide)) (by decide))) (PW.q (hU_3.2 _ (th_ne (hW _ 12 0 ha0 (by decide) (by decide) (by decide)) (hW _ 12 2 ha0 (by decide) (by decide) (by decide)) (by decide))) hI_c3.1))))), (QS.same (Eq.trans (ai_q (hU_18.2 _ (th_ne (hW _ 12 0 ha0 (by decide) (by decide) (by decide)) (hW _ 12 2 ha0 (by decide) (by decide) (by decide)) (by decide)))) (Eq.trans (ai_q (hU_13.2 _ (th_ne (hW _ 12 0 ha0 (by decide) (by decide) (by decide)) (hW _ 12 2 ha0 (by decide) (by decide) (by decide)) (by decide)))) (Eq.trans (ai_q (hU_7.2 _ (th_ne (hW _ 12 0 ha0 (by decide) (by decide) (by decide)) (hW _ 12 2 ha0 (by decide) (by decide) (by decide)) (by decide)))) (Eq.trans (ai_q (hU_5.2 _ (th_ne (hW _ 12 0 ha0 (by decide) (by decide) (by decide)) (hW _ 12 2 ha0 (by decide) (by decide) (by decide)) (by decide)))) (ai_q (hU_3.2 _ (th_ne (hW _ 12 0 ha0 (by decide) (by decide) (by decide)) (hW _ 12 2 ha0 (by decide) (by decide) (by decide)) (by decide)))))))) (Eq.trans (ai_q (hU_18.2 _ (th_ne (hW _ 12 0 ha0 (by decide) (by decide) (by decide)) (hW _ 12 2 ha0 (by decide) (by decide) (by decide)) (by decide)))) (Eq.trans (ai_q (hU_13.2 _ (th_ne (hW _ 12 0 ha0 (by decide) (by decide) (by decide)) (hW _ 12 2 ha0 (by decide) (by decide) (by decide)) (by decide)))) (Eq.trans (ai_q (hU_7.2 _ (th_ne (hW _ 12 0 ha0 (by decide) (by decide) (by decide)) (hW _ 12 2 ha0 (by decide) (by decide) (by decide)) (by decide)))) (Eq.trans (ai_q (hU_5.2 _ (th_ne (hW _ 12 0 ha0 (by decide) (by decide) (by decide)) (hW _ 12 2 ha0 (by decide) (by decide) (by decide)) (by decide)))) (ai_q (hU_3.2 _ (th_ne (hW _ 12 0 ha0 (by decide) (by decide) (by decide)) (hW _ 12 2 ha0 (by decide) (by decide) (by decide)) (by decide)))))))) hI_c3.2.1), (QS.same (Eq.trans (ai_q (hU_18.2 _ (th_ne (hW _ 12 0 ha0 (by decide) (by decide) (by decide)) (hW _ 12 2 ha0 (by decide) (by decide) (by decide)) (by decide)))) (Eq.trans (ai_q (hU_13.2 _ (th_ne (hW _ 12 0 ha0 (by decide) (by decide) (by decide)) (hW _ 12 2 ha0 (by decide) (by decide) (by decide)) (by decide)))) (Eq.trans (ai_q (hU_7.2 _ (th_ne (hW _ 12 0 ha0 (by decide) (by decide) (by decide)) (hW _ 12 2 ha0 (by decide) (by decide) (by decide)) (by decide)))) (Eq.trans (ai_q (hU_5.2 _ (th_ne (hW _ 12 0 ha0 (by decide) (by decide) (by decide)) (hW _ 12 2 ha0 (by decide) (by decide) (by decide)) (by decide)))) (ai_q (hU_3.2 _ (th_ne (hW _ 12 0 ha0 (by decide) (by decide) (by decide)) (hW _ 12 2 ha0 (by decide) (by decide) (by decide)) (by decide)))))))) (Eq.trans (ai_q (hU_18.2 _ (th_ne (hW _ 12 0 ha0 (by decide) (by decide) (by decide)) (hW _ 12 2 ha0 (by decide) (by decide) (by decide)) (by decide)))) (Eq.trans (ai_q (hU_13.2 _ (th_ne (hW _ 12 0 ha0 (by decide) (by decide) (by decide)) (hW _ 12 2 ha0 (by decide) (by decide) (by decide)) (by decide)))) (Eq.trans (ai_q (hU_7.2 _ (th_ne (hW _ 12 0 ha0 (by decide) (by decide) (by decide)) (hW _ 12 2 ha0 (by decide) (by decide) (by decide)) (by decide)))) (Eq.trans (ai_q (hU_5.2 _ (th_ne (hW _ 12 0 ha0 (by decide) (by decide) (by decide)) (hW _ 12 2 ha0 (by decide) (by decide) (by decide)) (by decide)))) (ai_q (hU_3.2 _ (th_ne (hW _ 12 0 ha0 (by decide) (by decide) (by decide)) (hW _ 12 2 ha0 (by decide) (by decide) (by decide)) (by decide)))))))) hI_c3.2.2.1), hL_18, (PL.q (hU_18.2 _ (Ne.symm n23)) (PL.q (hU_13.2 _ (Ne.symm n23)) (PL.q (hU_7.2 _ (Ne.symm n23)) (PL.q (hU_5.2 _ (Ne.symm n23)) (PL.q (hU_3.2 _ (Ne.symm n23)) hI_c3.2.2.2.2.1))))), (IF.q (hU_18.2 _ (th_ne ha0 (hW _ 12 2 ha0 (by decide) (by decide) (by decide)) (by decide))) (IF.q (hU_13.2 _ (th_ne ha0 (hW _ 12 2 ha0 (by decide) (by decide) (by decide)) (by decide))) (IF.q (hU_7.2 _ (th_ne ha0 (hW _ 12 2 ha0 (by decide) (by decide) (by decide)) (by decide))) (IF.q (hU_5.2 _ (th_ne ha0 (hW _ 12 2 ha0 (by decide) (by decide) (by decide)) (by decide))) (IF.q (hU_3.2 _ (th_ne ha0 (hW _ 12 2 ha0 (by decide) (by decide) (by decide)) (by decide))) hI_c3.2.2.2.2.2)))))⟩) lk_X12_115 yd_X12_spans hT_18 ha0 rfl (by decide) hS_18 (fun q h => h) ⟨by decide, by decide⟩ (Nat.le_of_ble_eq_true rfl) ⟨by decide, by decide⟩ rfl dX12_makes_130 (fun H_19 locs_19 p_19 hT_19 hk_19 hS_19 => ?_)
        have p_19 : (IM D ρ N H_19 a0) ∧ ((ai H_18 (ρ a0 0) 976).toInt ≤ (ai H_19 (ρ a0 0) 976).toInt) := p_19
        obtain ⟨p_19_0, p_19_1⟩ := p_19
        have mn_19 : (ai H_c3 (ρ a0 0) 976).toInt ≤ (ai H_19 (ρ a0 0) 976).toInt := by have h := p_19_1; rw [(Eq.trans (ai_q (hU_18.2 _ (th_ne (hW _ 12 0 ha0 (by decide) (by decide) (by decide)) (hW _ 12 2 ha0 (by decide) (by decide) (by decide)) (by decide)))) (Eq.trans (ai_q (hU_13.2 _ (th_ne (hW _ 12 0 ha0 (by decide) (by decide) (by decide)) (hW _ 12 2 ha0 (by decide) (by decide) (by decide)) (by decide)))) (Eq.trans (ai_q (hU_7.2 _ (th_ne (hW _ 12 0 ha0 (by decide) (by decide) (by decide)) (hW _ 12 2 ha0 (by decide) (by decide) (by decide)) (by decide)))) (Eq.trans (ai_q (hU_5.2 _ (th_ne (hW _ 12 0 ha0 (by decide) (by decide) (by decide)) (hW _ 12 2 ha0 (by decide) (by decide) (by decide)) (by decide)))) (ai_q (hU_3.2 _ (th_ne (hW _ 12 0 ha0 (by decide) (by decide) (by decide)) (hW _ 12 2 ha0 (by decide) (by decide) (by decide)) (by decide))))))))] at h; exact h
        exact th_vret E hr hlk hs hT_19 hS_19 ⟨⟨p_19_0.1, p_19_0.2.1, p_19_0.2.2.1, p_19_0.2.2.2.1, p_19_0.2.2.2.2.1, p_19_0.2.2.2.2.2⟩, (by rw [(Eq.trans (ai_q (hk_19 _ (th_ne (hW _ 12 0 ha0 (by decide) (by decide) (by decide)) (hW _ 12 2 ha0 (by decide) (by decide) (by decide)) (by decide)))) (Eq.trans (ai_q (hU_18.2 _ (th_ne (hW _ 12 0 ha0 (by decide) (by decide) (by decide)) (hW _ 12 2 ha0 (by decide) (by decide) (by decide)) (by decide)))) (Eq.trans (ai_q (hU_13.2 _ (th_ne (hW _ 12 0 ha0 (by decide) (by decide) (by decide)) (hW _ 12 2 ha0 (by decide) (by decide) (by decide)) (by decide)))) (Eq.trans (ai_q (hU_7.2 _ (th_ne (hW _ 12 0 ha0 (by decide) (by decide) (by decide)) (hW _ 12 2 ha0 (by decide) (by decide) (by decide)) (by decide)))) (Eq.trans (ai_q (hU_5.2 _ (th_ne (hW _ 12 0 ha0 (by decide) (by decide) (by decide)) (hW _ 12 2 ha0 (by decide) (by decide) (by decide)) (by decide)))) (ai_q (hU_3.2 _ (th_ne (hW _ 12 0 ha0 (by decide) (by decide) (by decide)) (hW _ 12 2 ha0 (by decide) (by decide) (by decide)) (by decide)))))))))]; omega)⟩ dX12_makes_133
      · have f_1 : y3_4.toInt < 20 := r_nle (by decide) rfl c_1
        refine lv_aload_n hx hb dX12_makes_10 rfl (lv_at hl 0 rfl) ?_
        refine gf_X12_16 E hT_c3 hW ha0 dX12_makes_11 (fun h_20 => ?_)
        refine lv_iload hx hb dX12_makes_14 (lv_at hl 4 rfl) ?_
        refine lv_iload hx hb dX12_makes_16 (lv_at hl 4 rfl) ?_
        refine lv_iconst (v := 3) hx hb dX12_makes_18 (by decide) ?_
        refine lv_icmp_lt (tgt := 42) hx hb dX12_makes_19 (by decide) (fun c_21 => ?_) (fun c_21 => ?_)
        · have f_21 : y3_4.toInt < 3 := r_lt rfl (by decide) c_21
          refine lv_iconst (v := 0) hx hb dX12_makes_42 (by decide) ?_
          refine lv_goto (tgt := 48) hx hb dX12_makes_43 (by decide) ?_
          refine th_iast E hT_c3 hS_c3 h_20 rfl (by decide) (vp_in_iff.mpr ⟨by omega, by omega⟩) dX12_makes_48 (fun H_22 locs_22 hT_22 hU_22 hS_22 => ?_)
          have hU_22 : AU 20 H_c3 H_22 (ρ a0 2) y3_4.toInt.toNat (0) := hU_22
          have hL_22 : PL H_22 (ρ a0 2) := PL.zero hI_c3.2.2.2.1 hU_22
          obtain ⟨x_23, ex_23⟩ : ∃ y : Int32, y3_4 + 1 = y := ⟨_, rfl⟩
          have q_x_23 : x_23.toInt = y3_4.toInt + 1 := i_add (k := 1) (by decide) ex_23 (by have := i_min y3_4; omega) (by have := i_max y3_4; omega)
          refine lv_iinc (v := x_23) (lv' := [(4, .int x_23), (0, .ref a0), (1, .int 0), (2, .int 6), (3, .int x2)]) hx hb dX12_makes_49 hl (k := 4) rfl (by rw [← ex_23]; rfl) (by decide) rfl (fun ls hl => ?_)
          refine lv_goto (tgt := 3) hx hb dX12_makes_52 (by decide) ?_
          exact ih_3 H_22 locs_22 _ x_23 hT_22 hS_22 (lv_sub hl [1, 2, 3, 4, 0] rfl) (by omega) ⟨(PW.q (hU_22.2 _ (th_ne (hW _ 12 0 ha0 (by decide) (by decide) (by decide)) (hW _ 12 2 ha0 (by decide) (by decide) (by decide)) (by decide))) hI_c3.1), (QS.same (ai_q (hU_22.2 _ (th_ne (hW _ 12 0 ha0 (by decide) (by decide) (by decide)) (hW _ 12 2 ha0 (by decide) (by decide) (by decide)) (by decide)))) (ai_q (hU_22.2 _ (th_ne (hW _ 12 0 ha0 (by decide) (by decide) (by decide)) (hW _ 12 2 ha0 (by decide) (by decide) (by decide)) (by decide)))) hI_c3.2.1), (QS.same (ai_q (hU_22.2 _ (th_ne (hW _ 12 0 ha0 (by decide) (by decide) (by decide)) (hW _ 12 2 ha0 (by decide) (by decide) (by decide)) (by decide)))) (ai_q (hU_22.2 _ (th_ne (hW _ 12 0 ha0 (by decide) (by decide) (by decide)) (hW _ 12 2 ha0 (by decide) (by decide) (by decide)) (by decide)))) hI_c3.2.2.1), hL_22, (PL.q (hU_22.2 _ (Ne.symm n23)) hI_c3.2.2.2.2.1), (IF.q (hU_22.2 _ (th_ne ha0 (hW _ 12 2 ha0 (by decide) (by decide) (by decide)) (by decide))) hI_c3.2.2.2.2.2)⟩ (by rw [(ai_q (hU_22.2 _ (th_ne (hW _ 12 0 ha0 (by decide) (by decide) (by decide)) (hW _ 12 2 ha0 (by decide) (by decide) (by decide)) (by decide))))]; omega) (by omega)
        · have f_21 : 3 ≤ y3_4.toInt := r_nlt rfl (by decide) c_21
          refine lv_iload hx hb dX12_makes_22 (lv_at hl 4 rfl) ?_
          refine lv_iconst (v := 5) hx hb dX12_makes_24 (by decide) ?_
          refine lv_icmp_eq (tgt := 42) hx hb dX12_makes_25 (by decide) (fun c_24 => ?_) (fun c_24 => ?_)
          · have f_24 : y3_4.toInt = 5 := r_eq rfl (by decide) c_24
            refine lv_iconst (v := 0) hx hb dX12_makes_42 (by decide) ?_
            refine lv_goto (tgt := 48) hx hb dX12_makes_43 (by decide) ?_
            refine th_iast E hT_c3 hS_c3 h_20 rfl (by decide) (vp_in_iff.mpr ⟨by omega, by omega⟩) dX12_makes_48 (fun H_25 locs_25 hT_25 hU_25 hS_25 => ?_)
            have hU_25 : AU 20 H_c3 H_25 (ρ a0 2) y3_4.toInt.toNat (0) := hU_25
            have hL_25 : PL H_25 (ρ a0 2) := PL.zero hI_c3.2.2.2.1 hU_25
            obtain ⟨x_26, ex_26⟩ : ∃ y : Int32, y3_4 + 1 = y := ⟨_, rfl⟩
            have q_x_26 : x_26.toInt = y3_4.toInt + 1 := i_add (k := 1) (by decide) ex_26 (by have := i_min y3_4; omega) (by have := i_max y3_4; omega)
            refine lv_iinc (v := x_26) (lv' := [(4, .int x_26), (0, .ref a0), (1, .int 0), (2, .int 6), (3, .int x2)]) hx hb dX12_makes_49 hl (k := 4) rfl (by rw [← ex_26]; rfl) (by decide) rfl (fun ls hl => ?_)
            refine lv_goto (tgt := 3) hx hb dX12_makes_52 (by decide) ?_
            exact ih_3 H_25 locs_25 _ x_26 hT_25 hS_25 (lv_sub hl [1, 2, 3, 4, 0] rfl) (by omega) ⟨(PW.q (hU_25.2 _ (th_ne (hW _ 12 0 ha0 (by decide) (by decide) (by decide)) (hW _ 12 2 ha0 (by decide) (by decide) (by decide)) (by decide))) hI_c3.1), (QS.same (ai_q (hU_25.2 _ (th_ne (hW _ 12 0 ha0 (by decide) (by decide) (by decide)) (hW _ 12 2 ha0 (by decide) (by decide) (by decide)) (by decide)))) (ai_q (hU_25.2 _ (th_ne (hW _ 12 0 ha0 (by decide) (by decide) (by decide)) (hW _ 12 2 ha0 (by decide) (by decide) (by decide)) (by decide)))) hI_c3.2.1), (QS.same (ai_q (hU_25.2 _ (th_ne (hW _ 12 0 ha0 (by decide) (by decide) (by decide)) (hW _ 12 2 ha0 (by decide) (by decide) (by decide)) (by decide)))) (ai_q (hU_25.2 _ (th_ne (hW _ 12 0 ha0 (by decide) (by decide) (by decide)) (hW _ 12 2 ha0 (by decide) (by decide) (by decide)) (by decide)))) hI_c3.2.2.1), hL_25, (PL.q (hU_25.2 _ (Ne.symm n23)) hI_c3.2.2.2.2.1), (IF.q (hU_25.2 _ (th_ne ha0 (hW _ 12 2 ha0 (by decide) (by decide) (by decide)) (by decide))) hI_c3.2.2.2.2.2)⟩ (by rw [(ai_q (hU_25.2 _ (th_ne (hW _ 12 0 ha0 (by decide) (by decide) (by decide)) (hW _ 12 2 ha0 (by decide) (by decide) (by decide)) (by decide))))]; omega) (by omega)
          · have f_24 : ¬ y3_4.toInt = 5 := r_ne rfl (by decide) c_24
            refine lv_iload hx hb dX12_makes_28 (lv_at hl 4 rfl) ?_
            refine lv_bipush (v := 6) hx hb dX12_makes_30 (by decide) ?_
            refine lv_icmp_eq (tgt := 42) hx hb dX12_makes_32 (by decide) (fun c_27 => ?_) (fun c_27 => ?_)
            · have f_27 : y3_4.toInt = 6 := r_eq rfl (by decide) c_27
              refine lv_iconst (v := 0) hx hb dX12_makes_42 (by decide) ?_
              refine lv_goto (tgt := 48) hx hb dX12_makes_43 (by decide) ?_
              refine th_iast E hT_c3 hS_c3 h_20 rfl (by decide) (vp_in_iff.mpr ⟨by omega, by omega⟩) dX12_makes_48 (fun H_28 locs_28 hT_28 hU_28 hS_28 => ?_)
              have hU_28 : AU 20 H_c3 H_28 (ρ a0 2) y3_4.toInt.toNat (0) := hU_28
              have hL_28 : PL H_28 (ρ a0 2) := PL.zero hI_c3.2.2.2.1 hU_28
              obtain ⟨x_29, ex_29⟩ : ∃ y : Int32, y3_4 + 1 = y := ⟨_, rfl⟩
              have q_x_29 : x_29.toInt = y3_4.toInt + 1 := i_add (k := 1) (by decide) ex_29 (by have := i_min y3_4; omega) (by have := i_max y3_4; omega)
              refine lv_iinc (v := x_29) (lv' := [(4, .int x_29), (0, .ref a0), (1, .int 0), (2, .int 6), (3, .int x2)]) hx hb dX12_makes_49 hl (k := 4) rfl (by rw [← ex_29]; rfl) (by decide) rfl (fun ls hl => ?_)
              refine lv_goto (tgt := 3) hx hb dX12_makes_52 (by decide) ?_
              exact ih_3 H_28 locs_28 _ x_29 hT_28 hS_28 (lv_sub hl [1, 2, 3, 4, 0] rfl) (by omega) ⟨(PW.q (hU_28.2 _ (th_ne (hW _ 12 0 ha0 (by decide) (by decide) (by decide)) (hW _ 12 2 ha0 (by decide) (by decide) (by decide)) (by decide))) hI_c3.1), (QS.same (ai_q (hU_28.2 _ (th_ne (hW _ 12 0 ha0 (by decide) (by decide) (by decide)) (hW _ 12 2 ha0 (by decide) (by decide) (by decide)) (by decide)))) (ai_q (hU_28.2 _ (th_ne (hW _ 12 0 ha0 (by decide) (by decide) (by decide)) (hW _ 12 2 ha0 (by decide) (by decide) (by decide)) (by decide)))) hI_c3.2.1), (QS.same (ai_q (hU_28.2 _ (th_ne (hW _ 12 0 ha0 (by decide) (by decide) (by decide)) (hW _ 12 2 ha0 (by decide) (by decide) (by decide)) (by decide)))) (ai_q (hU_28.2 _ (th_ne (hW _ 12 0 ha0 (by decide) (by decide) (by decide)) (hW _ 12 2 ha0 (by decide) (by decide) (by decide)) (by decide)))) hI_c3.2.2.1), hL_28, (PL.q (hU_28.2 _ (Ne.symm n23)) hI_c3.2.2.2.2.1), (IF.q (hU_28.2 _ (th_ne ha0 (hW _ 12 2 ha0 (by decide) (by decide) (by decide)) (by decide))) hI_c3.2.2.2.2.2)⟩ (by rw [(ai_q (hU_28.2 _ (th_ne (hW _ 12 0 ha0 (by decide) (by decide) (by decide)) (hW _ 12 2 ha0 (by decide) (by decide) (by decide)) (by decide))))]; omega) (by omega)
            · have f_27 : ¬ y3_4.toInt = 6 := r_ne rfl (by decide) c_27
              refine lv_iload hx hb dX12_makes_35 (lv_at hl 4 rfl) ?_
              refine lv_bipush (v := 12) hx hb dX12_makes_37 (by decide) ?_
              refine lv_icmp_lt (tgt := 46) hx hb dX12_makes_39 (by decide) (fun c_30 => ?_) (fun c_30 => ?_)
              · have f_30 : y3_4.toInt < 12 := r_lt rfl (by decide) c_30
                refine lv_bipush (v := (-4)) hx hb dX12_makes_46 (by decide) ?_
                refine th_iast E hT_c3 hS_c3 h_20 rfl (by decide) (vp_in_iff.mpr ⟨by omega, by omega⟩) dX12_makes_48 (fun H_31 locs_31 hT_31 hU_31 hS_31 => ?_)
                have hU_31 : AU 20 H_c3 H_31 (ρ a0 2) y3_4.toInt.toNat ((-4)) := hU_31
                have hL_31 : PL H_31 (ρ a0 2) := PL.free hI_c3.2.2.2.1 hU_31 (by omega)
                obtain ⟨x_32, ex_32⟩ : ∃ y : Int32, y3_4 + 1 = y := ⟨_, rfl⟩
                have q_x_32 : x_32.toInt = y3_4.toInt + 1 := i_add (k := 1) (by decide) ex_32 (by have := i_min y3_4; omega) (by have := i_max y3_4; omega)
                refine lv_iinc (v := x_32) (lv' := [(4, .int x_32), (0, .ref a0), (1, .int 0), (2, .int 6), (3, .int x2)]) hx hb dX12_makes_49 hl (k := 4) rfl (by rw [← ex_32]; rfl) (by decide) rfl (fun ls hl => ?_)
                refine lv_goto (tgt := 3) hx hb dX12_makes_52 (by decide) ?_
                exact ih_3 H_31 locs_31 _ x_32 hT_31 hS_31 (lv_sub hl [1, 2, 3, 4, 0] rfl) (by omega) ⟨(PW.q (hU_31.2 _ (th_ne (hW _ 12 0 ha0 (by decide) (by decide) (by decide)) (hW _ 12 2 ha0 (by decide) (by decide) (by decide)) (by decide))) hI_c3.1), (QS.same (ai_q (hU_31.2 _ (th_ne (hW _ 12 0 ha0 (by decide) (by decide) (by decide)) (hW _ 12 2 ha0 (by decide) (by decide) (by decide)) (by decide)))) (ai_q (hU_31.2 _ (th_ne (hW _ 12 0 ha0 (by decide) (by decide) (by decide)) (hW _ 12 2 ha0 (by decide) (by decide) (by decide)) (by decide)))) hI_c3.2.1), (QS.same (ai_q (hU_31.2 _ (th_ne (hW _ 12 0 ha0 (by decide) (by decide) (by decide)) (hW _ 12 2 ha0 (by decide) (by decide) (by decide)) (by decide)))) (ai_q (hU_31.2 _ (th_ne (hW _ 12 0 ha0 (by decide) (by decide) (by decide)) (hW _ 12 2 ha0 (by decide) (by decide) (by decide)) (by decide)))) hI_c3.2.2.1), hL_31, (PL.q (hU_31.2 _ (Ne.symm n23)) hI_c3.2.2.2.2.1), (IF.q (hU_31.2 _ (th_ne ha0 (hW _ 12 2 ha0 (by decide) (by decide) (by decide)) (by decide))) hI_c3.2.2.2.2.2)⟩ (by rw [(ai_q (hU_31.2 _ (th_ne (hW _ 12 0 ha0 (by decide) (by decide) (by decide)) (hW _ 12 2 ha0 (by decide) (by decide) (by decide)) (by decide))))]; omega) (by omega)
              · have f_30 : 12 ≤ y3_4.toInt := r_nlt rfl (by decide) c_30
                refine lv_iconst (v := 0) hx hb dX12_makes_42 (by decide) ?_
                refine lv_goto (tgt := 48) hx hb dX12_makes_43 (by decide) ?_
                refine th_iast E hT_c3 hS_c3 h_20 rfl (by decide) (vp_in_iff.mpr ⟨by omega, by omega⟩) dX12_makes_48 (fun H_33 locs_33 hT_33 hU_33 hS_33 => ?_)
                have hU_33 : AU 20 H_c3 H_33 (ρ a0 2) y3_4.toInt.toNat (0) := hU_33
                have hL_33 : PL H_33 (ρ a0 2) := PL.zero hI_c3.2.2.2.1 hU_33
                obtain ⟨x_34, ex_34⟩ : ∃ y : Int32, y3_4 + 1 = y := ⟨_, rfl⟩
                have q_x_34 : x_34.toInt = y3_4.toInt + 1 := i_add (k := 1) (by decide) ex_34 (by have := i_min y3_4; omega) (by have := i_max y3_4; omega)
                refine lv_iinc (v := x_34) (lv' := [(4, .int x_34), (0, .ref a0), (1, .int 0), (2, .int 6), (3, .int x2)]) hx hb dX12_makes_49 hl (k := 4) rfl (by rw [← ex_34]; rfl) (by decide) rfl (fun ls hl => ?_)
                refine lv_goto (tgt := 3) hx hb dX12_makes_52 (by decide) ?_
                exact ih_3 H_33 locs_33 _ x_34 hT_33 hS_33 (lv_sub hl [1, 2, 3, 4, 0] rfl) (by omega) ⟨(PW.q (hU_33.2 _ (th_ne (hW _ 12 0 ha0 (by decide) (by decide) (by decide)) (hW _ 12 2 ha0 (by decide) (by decide) (by decide)) (by decide))) hI_c3.1), (QS.same (ai_q (hU_33.2 _ (th_ne (hW _ 12 0 ha0 (by decide) (by decide) (by decide)) (hW _ 12 2 ha0 (by decide) (by decide) (by decide)) (by decide)))) (ai_q (hU_33.2 _ (th_ne (hW _ 12 0 ha0 (by decide) (by decide) (by decide)) (hW _ 12 2 ha0 (by decide) (by decide) (by decide)) (by decide)))) hI_c3.2.1), (QS.same (ai_q (hU_33.2 _ (th_ne (hW _ 12 0 ha0 (by decide) (by decide) (by decide)) (hW _ 12 2 ha0 (by decide) (by decide) (by decide)) (by decide)))) (ai_q (hU_33.2 _ (th_ne (hW _ 12 0 ha0 (by decide) (by decide) (by decide)) (hW _ 12 2 ha0 (by decide) (by decide) (by decide)) (by decide)))) hI_c3.2.2.1), hL_33, (PL.q (hU_33.2 _ (Ne.symm n23)) hI_c3.2.2.2.2.1), (IF.q (hU_33.2 _ (th_ne ha0 (hW _ 12 2 ha0 (by decide) (by decide) (by decide)) (by decide))) hI_c3.2.2.2.2.2)⟩ (by rw [(ai_q (hU_33.2 _ (th_ne (hW _ 12 0 ha0 (by decide) (by decide) (by decide)) (hW _ 12 2 ha0 (by decide) (by decide) (by decide)) (by decide))))]; omega) (by omega)
  refine lv_iconst (v := 0) hx hb dX12_makes_0 (by decide) ?_
  refine lv_istore (lv' := [(4, .int 0), (0, .ref a0), (1, .int 0), (2, .int 6), (3, .int x2)]) hx hb dX12_makes_1 hl (by decide) rfl (fun ls hl => ?_)
  exact L_3 _ H [] _ 0 hT hS (lv_sub hl [1, 2, 3, 4, 0] rfl) (by decide) ⟨hI.1, hI.2.1, hI.2.2.1, hI.2.2.2.1, hI.2.2.2.2.1, hI.2.2.2.2.2⟩ (by omega) (Nat.lt_succ_self _)
set_option maxHeartbeats 4000000 in
set_option maxRecDepth 100000 in
/-- the reference: get -/
theorem y_get_v25 (l : Launch) (D : va_G) (cI cS : ClassId) (τ : Nat → Option Nat) (ρ : Nat → Nat → Nat) (hW : WF τ ρ) (H : Heap) (hT : TH D cI cS τ ρ H) (a0 : Nat) (ha0 : τ a0 = some 12) : MI l D cI cS τ ρ yX12_get cX12_get 3 (some .int) 0 0 H [.ref a0, .int 0, .int 14] (fun (r : Int32) (u : Heap) => (H = u) ∧ (ai H (ρ a0 0) 14 = r)) (fun q => False) := by
  refine MI.of (by decide) (Nat.le_of_ble_eq_true rfl) ?_
  intro p e s m args below meth c E hml hr hlk hs ls hl
  have hx := E.1
  have hb := E.2.1
  have hown := E.2.2.1
  have hts := E.2.2.2.1
  have hS : SS (fun q => False) H H [] := SS.rf
  have hl : lv_has ls 3 [(0, .ref a0), (1, .int 0), (2, .int 14)] := hl
  refine lv_aload_n hx hb dX12_get_0 rfl (lv_at hl 0 rfl) ?_
  refine gf_X12_7 E hT hW ha0 dX12_get_1 (fun h_1 => ?_)
  refine lv_sipush (v := 288) hx hb dX12_get_4 (by decide) ?_
  refine lv_iload_n hx hb dX12_get_7 rfl (lv_at hl 1 rfl) ?_
  refine lv_imul hx hb dX12_get_8 ?_
  refine th_topi (y := 0) (by decide) ?_
  refine lv_iload_n hx hb dX12_get_9 rfl (lv_at hl 2 rfl) ?_
  refine lv_iadd hx hb dX12_get_10 ?_
  refine th_topi (y := 14) (by decide) ?_
  refine th_iald E hT h_1 (by decide) (vp_in_iff.mpr ⟨by decide, by decide⟩) dX12_get_11 ?_
  refine th_topi (y := ai H (ρ a0 0) 14) rfl ?_
  refine lv_topi (fun x_2 ex_2 => ?_)
  have c_x_2 := congrArg Int32.toInt ex_2.symm
  exact th_iret E hr hlk hs hT hS ⟨rfl, ex_2.symm⟩ dX12_get_12
set_option maxHeartbeats 4000000 in
set_option maxRecDepth 100000 in
/-- the reference: data -/
theorem y_data (l : Launch) (D : va_G) (cI cS : ClassId) (τ : Nat → Option Nat) (ρ : Nat → Nat → Nat) (hW : WF τ ρ) (H : Heap) (hT : TH D cI cS τ ρ H) (a0 : Nat) (x1 : Int32) (x2 : Int32) (ha0 : τ a0 = some 12) (N : Int) (hN0 : 0 ≤ N) (hN1 : N ≤ 600) (hI : IM D ρ N H a0) (hp0 : 0 ≤ x1.toInt ∧ x1.toInt ≤ 700) (hp1 : 0 ≤ x2.toInt ∧ x2.toInt ≤ 8) : MV l D cI cS τ ρ yX12_data cX12_data 6 none 5 115 H [.ref a0, .int 0, .int x1, .int x2, .int 1] (fun (u : Heap) => (IM D ρ N u a0) ∧ ((ai H (ρ a0 0) 976).toInt ≤ (ai u (ρ a0 0) 976).toInt)) (fun q => q = ρ a0 2 ∨ q = ρ a0 0) := by
  refine MV.of (by decide) (Nat.le_of_ble_eq_true rfl) ?_
  intro p e s m args below meth c E hml hr hlk hs ls hl
  have hx := E.1
  have hb := E.2.1
  have hown := E.2.2.1
  have hts := E.2.2.2.1
  have hS : SS (fun q => q = ρ a0 2 ∨ q = ρ a0 0) H H [] := SS.rf
  have hl : lv_has ls 6 [(0, .ref a0), (1, .int 0), (2, .int x1), (3, .int x2), (4, .int 1)] := hl
  have n01 := hI.2.2.2.2.2.1
  have n23 := hI.2.2.2.2.2.2.1
  have J_103 : ∀ (H_c103 : Heap) (lc_c103 : List Loc) (ls : Array Slot) (y103_5 : Int32) (z103_2 : Int32), TH D cI cS τ ρ H_c103 → SS (fun q => q = ρ a0 2 ∨ q = ρ a0 0) H H_c103 lc_c103 → lv_has ls 6 [(0, .ref a0), (1, .int 0), (2, .int x1), (3, .int x2), (4, .int 1), (5, .int y103_5)] → 0 ≤ x1.toInt → x1.toInt ≤ 700 → 0 ≤ x2.toInt → x2.toInt ≤ 8 → 0 ≤ y103_5.toInt → y103_5.toInt ≤ 8 → IM D ρ N H_c103 a0 → (ai H (ρ a0 0) 976).toInt ≤ (ai H_c103 (ρ a0 0) 976).toInt → W p l e (rmO 5 115) s m args below meth c H_c103 lc_c103 0 0 (MQ below (va_Qv (fun (u : Heap) => (IM D ρ N u a0) ∧ ((ai H (ρ a0 0) 976).toInt ≤ (ai u (ρ a0 0) 976).toInt)) (Bt D cI cS τ ρ H) (fun q => q = ρ a0 2 ∨ q = ρ a0 0)) args s 0 0 (fun q => q = ρ a0 2 ∨ q = ρ a0 0)) (F0 m 103 ls [.int z103_2, .int 7, .ref (ρ a0 2)]) := by
    intro H_c103 lc_c103 ls y103_5 z103_2 hT_c103 hS_c103 hl ly103_2 uy103_2 ly103_3 uy103_3 ly103_5 uy103_5 hI_c103 hmn_c103
    refine th_iast E hT_c103 hS_c103 (hW _ 12 2 ha0 (by decide) (by decide) (by decide)) (Or.inl rfl) (by decide) (vp_in_iff.mpr ⟨by decide, by decide⟩) dX12_data_103 (fun H_1 locs_1 hT_1 hU_1 hS_1 => ?_)
    have hU_1 : AU 20 H_c103 H_1 (ρ a0 2) 7 z103_2 := hU_1
    have hL_1 : PL H_1 (ρ a0 2) := PL.put hI_c103.2.2.2.1 hU_1 (by show (-2147483648 : Int) ≤ _; exact i_min _) (by show _ ≤ (2147483647 : Int); exact i_max _)
    refine lv_aload_n hx hb dX12_data_104 rfl (lv_at hl 0 rfl) ?_
    refine th_Vv (As := []) (rest := []) E hml hl.1 (y_posts l D cI cS τ ρ hW H_1 hT_1 a0 ha0 N hN0 hN1 ⟨(PW.q (hU_1.2 _ (th_ne (hW _ 12 0 ha0 (by decide) (by decide) (by decide)) (hW _ 12 2 ha0 (by decide) (by decide) (by decide)) (by decide))) hI_c103.1), (QS.same (ai_q (hU_1.2 _ (th_ne (hW _ 12 0 ha0 (by decide) (by decide) (by decide)) (hW _ 12 2 ha0 (by decide) (by decide) (by decide)) (by decide)))) (ai_q (hU_1.2 _ (th_ne (hW _ 12 0 ha0 (by decide) (by decide) (by decide)) (hW _ 12 2 ha0 (by decide) (by decide) (by decide)) (by decide)))) hI_c103.2.1), (QS.same (ai_q (hU_1.2 _ (th_ne (hW _ 12 0 ha0 (by decide) (by decide) (by decide)) (hW _ 12 2 ha0 (by decide) (by decide) (by decide)) (by decide)))) (ai_q (hU_1.2 _ (th_ne (hW _ 12 0 ha0 (by decide) (by decide) (by decide)) (hW _ 12 2 ha0 (by decide) (by decide) (by decide)) (by decide)))) hI_c103.2.2.1), hL_1, (PL.q (hU_1.2 _ (Ne.symm n23)) hI_c103.2.2.2.2.1), (IF.q (hU_1.2 _ (th_ne ha0 (hW _ 12 2 ha0 (by decide) (by decide) (by decide)) (by decide))) hI_c103.2.2.2.2.2)⟩) lk_X12_129 yd_X12_posts hT_1 ha0 rfl (by decide) hS_1 (fun q h => (Or.inr h)) ⟨by decide, by decide⟩ (Nat.le_of_ble_eq_true rfl) ⟨by decide, by decide⟩ rfl dX12_data_105 (fun H_2 locs_2 p_2 hT_2 hk_2 hS_2 => ?_)
    have p_2 : (IM D ρ N H_2 a0) ∧ ((ai H_1 (ρ a0 0) 976).toInt ≤ (ai H_2 (ρ a0 0) 976).toInt) := p_2
    obtain ⟨p_2_0, p_2_1⟩ := p_2
    have mn_2 : (ai H_c103 (ρ a0 0) 976).toInt ≤ (ai H_2 (ρ a0 0) 976).toInt := by have h := p_2_1; rw [(ai_q (hU_1.2 _ (th_ne (hW _ 12 0 ha0 (by decide) (by decide) (by decide)) (hW _ 12 2 ha0 (by decide) (by decide) (by decide)) (by decide))))] at h; exact h
    exact th_vret E hr hlk hs hT_2 hS_2 ⟨⟨p_2_0.1, p_2_0.2.1, p_2_0.2.2.1, p_2_0.2.2.2.1, p_2_0.2.2.2.2.1, p_2_0.2.2.2.2.2⟩, (by omega)⟩ dX12_data_108
  have L_32 : ∀ (n : Nat) (H_c32 : Heap) (lc_c32 : List Loc) (ls : Array Slot) (y32_5 : Int32), TH D cI cS τ ρ H_c32 → SS (fun q => q = ρ a0 2 ∨ q = ρ a0 0) H H_c32 lc_c32 → lv_has ls 6 [(0, .ref a0), (1, .int 0), (2, .int x1), (3, .int x2), (4, .int 1), (5, .int y32_5)] → 0 ≤ x1.toInt → x1.toInt ≤ 700 → 0 ≤ x2.toInt → x2.toInt ≤ 8 → 0 ≤ y32_5.toInt → y32_5.toInt ≤ 8 → IM D ρ N H_c32 a0 → (ai H (ρ a0 0) 976).toInt ≤ (ai H_c32 (ρ a0 0) 976).toInt → (x2.toInt - y32_5.toInt).toNat < n → W p l e (rmO 5 115) s m args below meth c H_c32 lc_c32 0 0 (MQ below (va_Qv (fun (u : Heap) => (IM D ρ N u a0) ∧ ((ai H (ρ a0 0) 976).toInt ≤ (ai u (ρ a0 0) 976).toInt)) (Bt D cI cS τ ρ H) (fun q => q = ρ a0 2 ∨ q = ρ a0 0)) args s 0 0 (fun q => q = ρ a0 2 ∨ q = ρ a0 0)) (F0 m 32 ls []) := by
    intro n
    induction n with
    | zero => intro H_c32 lc_c32 ls y32_5 hT_c32 hS_c32 hl ly32_2 uy32_2 ly32_3 uy32_3 ly32_5 uy32_5 hI_c32 hmn_c32 hm; exact absurd hm (Nat.not_lt_zero _)
    | succ n ih_32 =>
      intro H_c32 lc_c32 ls y32_5 hT_c32 hS_c32 hl ly32_2 uy32_2 ly32_3 uy32_3 ly32_5 uy32_5 hI_c32 hmn_c32 hm_32
      refine lv_iload hx hb dX12_data_32 (lv_at hl 5 rfl) ?_
      refine lv_iload_n hx hb dX12_data_34 rfl (lv_at hl 3 rfl) ?_
      refine lv_icmp_ge (tgt := 69) hx hb dX12_data_35 (by decide) (fun c_3 => ?_) (fun c_3 => ?_)
      · have f_3 : x2.toInt ≤ y32_5.toInt := r_le rfl rfl c_3
        refine lv_aload_n hx hb dX12_data_69 rfl (lv_at hl 0 rfl) ?_
        refine gf_X12_16 E hT_c32 hW ha0 dX12_data_70 (fun h_4 => ?_)
        refine lv_bipush (v := 7) hx hb dX12_data_73 (by decide) ?_
        refine lv_iload_n hx hb dX12_data_75 rfl (lv_at hl 2 rfl) ?_
        refine lv_aload_n hx hb dX12_data_76 rfl (lv_at hl 0 rfl) ?_
        refine lv_iload_n hx hb dX12_data_77 rfl (lv_at hl 1 rfl) ?_
        refine lv_bipush (v := 14) hx hb dX12_data_78 (by decide) ?_
        refine th_Vi (As := [.int 0, .int 14]) (rest := [.int x1, .int 7, .ref (ρ a0 2)]) E hml hl.1 (y_get_v25 l D cI cS τ ρ hW H_c32 hT_c32 a0 ha0) lk_X12_99 yd_X12_get hT_c32 ha0 rfl (by decide) hS_c32 (fun _ h => h.elim) ⟨by decide, by decide⟩ (Nat.le_of_ble_eq_true rfl) ⟨by decide, by decide⟩ rfl dX12_data_80 (fun r_5 H_5 locs_5 p_5 hT_5 hk_5 hS_5 => ?_)
        have p_5 : H_c32 = H_5 ∧ (ai H_c32 (ρ a0 0) 14 = r_5) := p_5
        obtain ⟨rfl, p_5_0⟩ := p_5
        have c_r_5 := congrArg Int32.toInt p_5_0
        refine lv_icmp_ge (tgt := 101) hx hb dX12_data_83 (by decide) (fun c_6 => ?_) (fun c_6 => ?_)
        · have f_6 : r_5.toInt ≤ x1.toInt := r_le rfl rfl c_6
          refine lv_bipush (v := (-4)) hx hb dX12_data_101 (by decide) ?_
          exact J_103 H_c32 locs_5 _ y32_5 (-4) hT_5 hS_5 hl (by omega) (by omega) (by omega) (by omega) (by omega) (by omega) ⟨hI_c32.1, hI_c32.2.1, hI_c32.2.2.1, hI_c32.2.2.2.1, hI_c32.2.2.2.2.1, hI_c32.2.2.2.2.2⟩ (by omega)
        · have f_6 : x1.toInt < r_5.toInt := r_nle rfl rfl c_6
          refine lv_aload_n hx hb dX12_data_86 rfl (lv_at hl 0 rfl) ?_
          refine lv_iload_n hx hb dX12_data_87 rfl (lv_at hl 1 rfl) ?_
          refine lv_aload_n hx hb dX12_data_88 rfl (lv_at hl 0 rfl) ?_
          refine lv_iload_n hx hb dX12_data_89 rfl (lv_at hl 1 rfl) ?_
          refine lv_bipush (v := 14) hx hb dX12_data_90 (by decide) ?_
          refine th_Vi (As := [.int 0, .int 14]) (rest := [.int 0, .ref a0, .int 7, .ref (ρ a0 2)]) E hml hl.1 (y_get_v25 l D cI cS τ ρ hW H_c32 hT_5 a0 ha0) lk_X12_99 yd_X12_get hT_5 ha0 rfl (by decide) hS_5 (fun _ h => h.elim) ⟨by decide, by decide⟩ (Nat.le_of_ble_eq_true rfl) ⟨by decide, by decide⟩ rfl dX12_data_92 (fun r_7 H_7 locs_7 p_7 hT_7 hk_7 hS_7 => ?_)
          have p_7 : H_c32 = H_7 ∧ (ai H_c32 (ρ a0 0) 14 = r_7) := p_7
          obtain ⟨rfl, p_7_0⟩ := p_7
          have s_7 : r_7 = r_5 := p_7_0.symm.trans p_5_0
          refine th_topi s_7 ?_
          refine th_Vi (As := [.int 0, .int r_5]) (rest := [.int 7, .ref (ρ a0 2)]) E hml hl.1 (y_number_v3 l D cI cS τ ρ hW H_c32 hT_7 a0 r_5 ha0) lk_X12_112 yd_X12_number hT_7 ha0 rfl (by decide) hS_7 (fun _ h => h.elim) ⟨by decide, by decide⟩ (Nat.le_of_ble_eq_true rfl) ⟨by decide, by decide⟩ rfl dX12_data_95 (fun r_8 H_8 locs_8 p_8 hT_8 hk_8 hS_8 => ?_)
          have p_8 : H_c32 = H_8 := p_8
          obtain rfl := p_8
          refine lv_goto (tgt := 103) hx hb dX12_data_98 (by decide) ?_
          exact J_103 H_c32 locs_8 _ y32_5 r_8 hT_8 hS_8 hl (by omega) (by omega) (by omega) (by omega) (by omega) (by omega) ⟨hI_c32.1, hI_c32.2.1, hI_c32.2.2.1, hI_c32.2.2.2.1, hI_c32.2.2.2.2.1, hI_c32.2.2.2.2.2⟩ (by omega)
      · have f_3 : y32_5.toInt < x2.toInt := r_nle rfl rfl c_3
        refine lv_aload_n hx hb dX12_data_38 rfl (lv_at hl 0 rfl) ?_
        refine gf_X12_16 E hT_c32 hW ha0 dX12_data_39 (fun h_9 => ?_)
        refine lv_bipush (v := 12) hx hb dX12_data_42 (by decide) ?_
        refine lv_iload hx hb dX12_data_44 (lv_at hl 5 rfl) ?_
        refine lv_iadd hx hb dX12_data_46 ?_
        refine lv_topi (fun x_10 ex_10 => ?_)
        have q_10 : x_10.toInt = 12 + y32_5.toInt := i_pl (by decide) rfl ex_10 (by omega) (by omega)
        refine lv_aload_n hx hb dX12_data_47 rfl (lv_at hl 0 rfl) ?_
        refine lv_iload_n hx hb dX12_data_48 rfl (lv_at hl 1 rfl) ?_
        refine lv_bipush (v := 32) hx hb dX12_data_49 (by decide) ?_
        refine lv_iload_n hx hb dX12_data_51 rfl (lv_at hl 2 rfl) ?_
        refine lv_iload hx hb dX12_data_52 (lv_at hl 5 rfl) ?_
        refine lv_iadd hx hb dX12_data_54 ?_
        refine lv_topi (fun x_11 ex_11 => ?_)
        have q_11 : x_11.toInt = x1.toInt + y32_5.toInt := i_pl rfl rfl ex_11 (by omega) (by omega)
        refine lv_bipush (v := 64) hx hb dX12_data_55 (by decide) ?_
        refine lv_irem hx hb dX12_data_57 (by decide) ?_
        refine lv_topi (fun x_12 ex_12 => ?_)
        have q_12 := i_rem (k := 64) (x := x_11) (by decide) (by decide) ex_12
        have p_12 : 0 ≤ x_12.toInt := q_12.2.2 (by omega)
        refine lv_iadd hx hb dX12_data_58 ?_
        refine lv_topi (fun x_13 ex_13 => ?_)
        have q_13 : x_13.toInt = 32 + x_12.toInt := i_pl (by decide) rfl ex_13 (by omega) (by omega)
        refine th_Vi (As := [.int 0, .int x_13]) (rest := [.int x_10, .ref (ρ a0 2)]) E hml hl.1 (y_get_v14 l D cI cS τ ρ hW H_c32 hT_c32 a0 x_13 ha0 (by omega)) lk_X12_99 yd_X12_get hT_c32 ha0 rfl (by decide) hS_c32 (fun _ h => h.elim) ⟨by decide, by decide⟩ (Nat.le_of_ble_eq_true rfl) ⟨by decide, by decide⟩ rfl dX12_data_59 (fun r_14 H_14 locs_14 p_14 hT_14 hk_14 hS_14 => ?_)
        have p_14 : H_c32 = H_14 ∧ (ai H_c32 (ρ a0 0) (0 + x_13.toInt).toNat = r_14) := p_14
        obtain ⟨rfl, p_14_0⟩ := p_14
        refine th_iast E hT_14 hS_14 h_9 (Or.inl rfl) (by decide) (vp_in_iff.mpr ⟨by omega, by omega⟩) dX12_data_62 (fun H_15 locs_15 hT_15 hU_15 hS_15 => ?_)
        have hU_15 : AU 20 H_c32 H_15 (ρ a0 2) x_10.toInt.toNat r_14 := hU_15
        have hL_15 : PL H_15 (ρ a0 2) := PL.free hI_c32.2.2.2.1 hU_15 (by omega)
        obtain ⟨x_16, ex_16⟩ : ∃ y : Int32, y32_5 + 1 = y := ⟨_, rfl⟩
        have q_x_16 : x_16.toInt = y32_5.toInt + 1 := i_add (k := 1) (by decide) ex_16 (by have := i_min y32_5; omega) (by have := i_max y32_5; omega)
        refine lv_iinc (v := x_16) (lv' := [(5, .int x_16), (0, .ref a0), (1, .int 0), (2, .int x1), (3, .int x2), (4, .int 1)]) hx hb dX12_data_63 hl (k := 5) rfl (by rw [← ex_16]; rfl) (by decide) rfl (fun ls hl => ?_)
        refine lv_goto (tgt := 32) hx hb dX12_data_66 (by decide) ?_
        exact ih_32 H_15 locs_15 _ x_16 hT_15 hS_15 (lv_sub hl [1, 2, 3, 4, 5, 0] rfl) (by omega) (by omega) (by omega) (by omega) (by omega) (by omega) ⟨(PW.q (hU_15.2 _ (th_ne (hW _ 12 0 ha0 (by decide) (by decide) (by decide)) (hW _ 12 2 ha0 (by decide) (by decide) (by decide)) (by decide))) hI_c32.1), (QS.same (ai_q (hU_15.2 _ (th_ne (hW _ 12 0 ha0 (by decide) (by decide) (by decide)) (hW _ 12 2 ha0 (by decide) (by decide) (by decide)) (by decide)))) (ai_q (hU_15.2 _ (th_ne (hW _ 12 0 ha0 (by decide) (by decide) (by decide)) (hW _ 12 2 ha0 (by decide) (by decide) (by decide)) (by decide)))) hI_c32.2.1), (QS.same (ai_q (hU_15.2 _ (th_ne (hW _ 12 0 ha0 (by decide) (by decide) (by decide)) (hW _ 12 2 ha0 (by decide) (by decide) (by decide)) (by decide)))) (ai_q (hU_15.2 _ (th_ne (hW _ 12 0 ha0 (by decide) (by decide) (by decide)) (hW _ 12 2 ha0 (by decide) (by decide) (by decide)) (by decide)))) hI_c32.2.2.1), hL_15, (PL.q (hU_15.2 _ (Ne.symm n23)) hI_c32.2.2.2.2.1), (IF.q (hU_15.2 _ (th_ne ha0 (hW _ 12 2 ha0 (by decide) (by decide) (by decide)) (by decide))) hI_c32.2.2.2.2.2)⟩ (by rw [(ai_q (hU_15.2 _ (th_ne (hW _ 12 0 ha0 (by decide) (by decide) (by decide)) (hW _ 12 2 ha0 (by decide) (by decide) (by decide)) (by decide))))]; omega) (by omega)
  have J_13 : ∀ (H_c13 : Heap) (lc_c13 : List Loc) (ls : Array Slot), TH D cI cS τ ρ H_c13 → SS (fun q => q = ρ a0 2 ∨ q = ρ a0 0) H H_c13 lc_c13 → lv_has ls 6 [(0, .ref a0), (1, .int 0), (2, .int x1), (3, .int x2), (4, .int 1)] → 0 ≤ x1.toInt → x1.toInt ≤ 700 → 0 ≤ x2.toInt → x2.toInt ≤ 8 → IM D ρ N H_c13 a0 → (ai H (ρ a0 0) 976).toInt ≤ (ai H_c13 (ρ a0 0) 976).toInt → W p l e (rmO 5 115) s m args below meth c H_c13 lc_c13 0 0 (MQ below (va_Qv (fun (u : Heap) => (IM D ρ N u a0) ∧ ((ai H (ρ a0 0) 976).toInt ≤ (ai u (ρ a0 0) 976).toInt)) (Bt D cI cS τ ρ H) (fun q => q = ρ a0 2 ∨ q = ρ a0 0)) args s 0 0 (fun q => q = ρ a0 2 ∨ q = ρ a0 0)) (F0 m 13 ls [.int 6, .int 0, .ref a0]) := by
    intro H_c13 lc_c13 ls hT_c13 hS_c13 hl ly13_2 uy13_2 ly13_3 uy13_3 hI_c13 hmn_c13
    refine lv_aload_n hx hb dX12_data_13 rfl (lv_at hl 0 rfl) ?_
    refine lv_iload_n hx hb dX12_data_14 rfl (lv_at hl 1 rfl) ?_
    refine lv_iload_n hx hb dX12_data_15 rfl (lv_at hl 2 rfl) ?_
    refine th_Vi (As := [.int 0, .int x1]) (rest := [.int 6, .int 0, .ref a0]) E hml hl.1 (y_number_v3 l D cI cS τ ρ hW H_c13 hT_c13 a0 x1 ha0) lk_X12_112 yd_X12_number hT_c13 ha0 rfl (by decide) hS_c13 (fun _ h => h.elim) ⟨by decide, by decide⟩ (Nat.le_of_ble_eq_true rfl) ⟨by decide, by decide⟩ rfl dX12_data_16 (fun r_17 H_17 locs_17 p_17 hT_17 hk_17 hS_17 => ?_)
    have p_17 : H_c13 = H_17 := p_17
    obtain rfl := p_17
    refine th_Vv (As := [.int 0, .int 6, .int r_17]) (rest := []) E hml hl.1 (y_makes_v2 l D cI cS τ ρ hW H_c13 hT_17 a0 r_17 ha0 N hN0 hN1 ⟨hI_c13.1, hI_c13.2.1, hI_c13.2.2.1, hI_c13.2.2.2.1, hI_c13.2.2.2.2.1, hI_c13.2.2.2.2.2⟩) lk_X12_126 yd_X12_makes hT_17 ha0 rfl (by decide) hS_17 (fun q h => (Or.inl h)) ⟨by decide, by decide⟩ (Nat.le_of_ble_eq_true rfl) ⟨by decide, by decide⟩ rfl dX12_data_19 (fun H_18 locs_18 p_18 hT_18 hk_18 hS_18 => ?_)
    have p_18 : (IM D ρ N H_18 a0) ∧ ((ai H_c13 (ρ a0 0) 976).toInt ≤ (ai H_18 (ρ a0 0) 976).toInt) := p_18
    obtain ⟨p_18_0, p_18_1⟩ := p_18
    have mn_18 : (ai H_c13 (ρ a0 0) 976).toInt ≤ (ai H_18 (ρ a0 0) 976).toInt := by exact p_18_1
    refine lv_aload_n hx hb dX12_data_22 rfl (lv_at hl 0 rfl) ?_
    refine gf_X12_16 E hT_18 hW ha0 dX12_data_23 (fun h_19 => ?_)
    refine lv_iconst (v := 5) hx hb dX12_data_26 (by decide) ?_
    refine lv_iload_n hx hb dX12_data_27 rfl (lv_at hl 3 rfl) ?_
    refine th_iast E hT_18 hS_18 h_19 (Or.inl rfl) (by decide) (vp_in_iff.mpr ⟨by decide, by decide⟩) dX12_data_28 (fun H_20 locs_20 hT_20 hU_20 hS_20 => ?_)
    have hU_20 : AU 20 H_18 H_20 (ρ a0 2) 5 x2 := hU_20
    have hL_20 : PL H_20 (ρ a0 2) := PL.put p_18_0.2.2.2.1 hU_20 (by show (0 : Int) ≤ x2.toInt; omega) (by show x2.toInt ≤ (8 : Int); omega)
    refine lv_iconst (v := 0) hx hb dX12_data_29 (by decide) ?_
    refine lv_istore (lv' := [(5, .int 0), (0, .ref a0), (1, .int 0), (2, .int x1), (3, .int x2), (4, .int 1)]) hx hb dX12_data_30 hl (by decide) rfl (fun ls hl => ?_)
    exact L_32 _ H_20 locs_20 _ 0 hT_20 hS_20 (lv_sub hl [1, 2, 3, 4, 5, 0] rfl) (by omega) (by omega) (by omega) (by omega) (by decide) (by decide) ⟨(PW.q (hU_20.2 _ (th_ne (hW _ 12 0 ha0 (by decide) (by decide) (by decide)) (hW _ 12 2 ha0 (by decide) (by decide) (by decide)) (by decide))) p_18_0.1), (QS.same ((Eq.trans (ai_q (hU_20.2 _ (th_ne (hW _ 12 0 ha0 (by decide) (by decide) (by decide)) (hW _ 12 2 ha0 (by decide) (by decide) (by decide)) (by decide)))) (ai_q (hk_18 _ (th_ne (hW _ 12 0 ha0 (by decide) (by decide) (by decide)) (hW _ 12 2 ha0 (by decide) (by decide) (by decide)) (by decide))))).trans (ai_q (hk_18 _ (th_ne (hW _ 12 0 ha0 (by decide) (by decide) (by decide)) (hW _ 12 2 ha0 (by decide) (by decide) (by decide)) (by decide)))).symm) ((Eq.trans (ai_q (hU_20.2 _ (th_ne (hW _ 12 0 ha0 (by decide) (by decide) (by decide)) (hW _ 12 2 ha0 (by decide) (by decide) (by decide)) (by decide)))) (ai_q (hk_18 _ (th_ne (hW _ 12 0 ha0 (by decide) (by decide) (by decide)) (hW _ 12 2 ha0 (by decide) (by decide) (by decide)) (by decide))))).trans (ai_q (hk_18 _ (th_ne (hW _ 12 0 ha0 (by decide) (by decide) (by decide)) (hW _ 12 2 ha0 (by decide) (by decide) (by decide)) (by decide)))).symm) p_18_0.2.1), (QS.same ((Eq.trans (ai_q (hU_20.2 _ (th_ne (hW _ 12 0 ha0 (by decide) (by decide) (by decide)) (hW _ 12 2 ha0 (by decide) (by decide) (by decide)) (by decide)))) (ai_q (hk_18 _ (th_ne (hW _ 12 0 ha0 (by decide) (by decide) (by decide)) (hW _ 12 2 ha0 (by decide) (by decide) (by decide)) (by decide))))).trans (ai_q (hk_18 _ (th_ne (hW _ 12 0 ha0 (by decide) (by decide) (by decide)) (hW _ 12 2 ha0 (by decide) (by decide) (by decide)) (by decide)))).symm) ((Eq.trans (ai_q (hU_20.2 _ (th_ne (hW _ 12 0 ha0 (by decide) (by decide) (by decide)) (hW _ 12 2 ha0 (by decide) (by decide) (by decide)) (by decide)))) (ai_q (hk_18 _ (th_ne (hW _ 12 0 ha0 (by decide) (by decide) (by decide)) (hW _ 12 2 ha0 (by decide) (by decide) (by decide)) (by decide))))).trans (ai_q (hk_18 _ (th_ne (hW _ 12 0 ha0 (by decide) (by decide) (by decide)) (hW _ 12 2 ha0 (by decide) (by decide) (by decide)) (by decide)))).symm) p_18_0.2.2.1), hL_20, (PL.q (hU_20.2 _ (Ne.symm n23)) p_18_0.2.2.2.2.1), (IF.q (hU_20.2 _ (th_ne ha0 (hW _ 12 2 ha0 (by decide) (by decide) (by decide)) (by decide))) p_18_0.2.2.2.2.2)⟩ (by rw [(Eq.trans (ai_q (hU_20.2 _ (th_ne (hW _ 12 0 ha0 (by decide) (by decide) (by decide)) (hW _ 12 2 ha0 (by decide) (by decide) (by decide)) (by decide)))) (ai_q (hk_18 _ (th_ne (hW _ 12 0 ha0 (by decide) (by decide) (by decide)) (hW _ 12 2 ha0 (by decide) (by decide) (by decide)) (by decide)))))]; omega) (Nat.lt_succ_self _)
  refine lv_aload_n hx hb dX12_data_0 rfl (lv_at hl 0 rfl) ?_
  refine lv_iload_n hx hb dX12_data_1 rfl (lv_at hl 1 rfl) ?_
  refine lv_iload hx hb dX12_data_2 (lv_at hl 4 rfl) ?_
  refine lv_if_eq (tgt := 12) hx hb dX12_data_4 (by decide) (fun c_21 => absurd c_21 (by decide)) (fun c_21 => ?_)
  refine lv_bipush (v := 6) hx hb dX12_data_7 (by decide) ?_
  refine lv_goto (tgt := 13) hx hb dX12_data_9 (by decide) ?_
  exact J_13 H [] _ hT hS hl (by omega) (by omega) (by omega) (by omega) ⟨hI.1, hI.2.1, hI.2.2.1, hI.2.2.2.1, hI.2.2.2.2.1, hI.2.2.2.2.2⟩ (by omega)
set_option maxHeartbeats 4000000 in
set_option maxRecDepth 100000 in
/-- the reference: data -/
theorem y_data_v2 (l : Launch) (D : va_G) (cI cS : ClassId) (τ : Nat → Option Nat) (ρ : Nat → Nat → Nat) (hW : WF τ ρ) (H : Heap) (hT : TH D cI cS τ ρ H) (a0 : Nat) (x1 : Int32) (x2 : Int32) (x3 : Int32) (ha0 : τ a0 = some 12) (bb_x3 : x3 = 0 ∨ x3 = 1) (N : Int) (hN0 : 0 ≤ N) (hN1 : N ≤ 600) (hI : IM D ρ N H a0) (hp0 : 0 ≤ x1.toInt ∧ x1.toInt ≤ 700) (hp1 : 0 ≤ x2.toInt ∧ x2.toInt ≤ 8) : MV l D cI cS τ ρ yX12_data cX12_data 6 none 5 115 H [.ref a0, .int 0, .int x1, .int x2, .int x3] (fun (u : Heap) => (IM D ρ N u a0) ∧ ((ai H (ρ a0 0) 976).toInt ≤ (ai u (ρ a0 0) 976).toInt)) (fun q => q = ρ a0 2 ∨ q = ρ a0 0) := by
  refine MV.of (by decide) (Nat.le_of_ble_eq_true rfl) ?_
  intro p e s m args below meth c E hml hr hlk hs ls hl
  have hx := E.1
  have hb := E.2.1
  have hown := E.2.2.1
  have hts := E.2.2.2.1
  have hS : SS (fun q => q = ρ a0 2 ∨ q = ρ a0 0) H H [] := SS.rf
  have hl : lv_has ls 6 [(0, .ref a0), (1, .int 0), (2, .int x1), (3, .int x2), (4, .int x3)] := hl
  have n01 := hI.2.2.2.2.2.1
  have n23 := hI.2.2.2.2.2.2.1
  have z_x3 := b_iv bb_x3
  have J_103 : ∀ (H_c103 : Heap) (lc_c103 : List Loc) (ls : Array Slot) (y103_5 : Int32) (z103_2 : Int32), TH D cI cS τ ρ H_c103 → SS (fun q => q = ρ a0 2 ∨ q = ρ a0 0) H H_c103 lc_c103 → lv_has ls 6 [(0, .ref a0), (1, .int 0), (2, .int x1), (3, .int x2), (4, .int x3), (5, .int y103_5)] → 0 ≤ x1.toInt → x1.toInt ≤ 700 → 0 ≤ x2.toInt → x2.toInt ≤ 8 → x3 = 0 ∨ x3 = 1 → 0 ≤ y103_5.toInt → y103_5.toInt ≤ 8 → IM D ρ N H_c103 a0 → (ai H (ρ a0 0) 976).toInt ≤ (ai H_c103 (ρ a0 0) 976).toInt → W p l e (rmO 5 115) s m args below meth c H_c103 lc_c103 0 0 (MQ below (va_Qv (fun (u : Heap) => (IM D ρ N u a0) ∧ ((ai H (ρ a0 0) 976).toInt ≤ (ai u (ρ a0 0) 976).toInt)) (Bt D cI cS τ ρ H) (fun q => q = ρ a0 2 ∨ q = ρ a0 0)) args s 0 0 (fun q => q = ρ a0 2 ∨ q = ρ a0 0)) (F0 m 103 ls [.int z103_2, .int 7, .ref (ρ a0 2)]) := by
    intro H_c103 lc_c103 ls y103_5 z103_2 hT_c103 hS_c103 hl ly103_2 uy103_2 ly103_3 uy103_3 by103_4 ly103_5 uy103_5 hI_c103 hmn_c103
    have z_y103_4 := b_iv by103_4
    refine th_iast E hT_c103 hS_c103 (hW _ 12 2 ha0 (by decide) (by decide) (by decide)) (Or.inl rfl) (by decide) (vp_in_iff.mpr ⟨by decide, by decide⟩) dX12_data_103 (fun H_1 locs_1 hT_1 hU_1 hS_1 => ?_)
    have hU_1 : AU 20 H_c103 H_1 (ρ a0 2) 7 z103_2 := hU_1
    have hL_1 : PL H_1 (ρ a0 2) := PL.put hI_c103.2.2.2.1 hU_1 (by show (-2147483648 : Int) ≤ _; exact i_min _) (by show _ ≤ (2147483647 : Int); exact i_max _)
    refine lv_aload_n hx hb dX12_data_104 rfl (lv_at hl 0 rfl) ?_
    refine th_Vv (As := []) (rest := []) E hml hl.1 (y_posts l D cI cS τ ρ hW H_1 hT_1 a0 ha0 N hN0 hN1 ⟨(PW.q (hU_1.2 _ (th_ne (hW _ 12 0 ha0 (by decide) (by decide) (by decide)) (hW _ 12 2 ha0 (by decide) (by decide) (by decide)) (by decide))) hI_c103.1), (QS.same (ai_q (hU_1.2 _ (th_ne (hW _ 12 0 ha0 (by decide) (by decide) (by decide)) (hW _ 12 2 ha0 (by decide) (by decide) (by decide)) (by decide)))) (ai_q (hU_1.2 _ (th_ne (hW _ 12 0 ha0 (by decide) (by decide) (by decide)) (hW _ 12 2 ha0 (by decide) (by decide) (by decide)) (by decide)))) hI_c103.2.1), (QS.same (ai_q (hU_1.2 _ (th_ne (hW _ 12 0 ha0 (by decide) (by decide) (by decide)) (hW _ 12 2 ha0 (by decide) (by decide) (by decide)) (by decide)))) (ai_q (hU_1.2 _ (th_ne (hW _ 12 0 ha0 (by decide) (by decide) (by decide)) (hW _ 12 2 ha0 (by decide) (by decide) (by decide)) (by decide)))) hI_c103.2.2.1), hL_1, (PL.q (hU_1.2 _ (Ne.symm n23)) hI_c103.2.2.2.2.1), (IF.q (hU_1.2 _ (th_ne ha0 (hW _ 12 2 ha0 (by decide) (by decide) (by decide)) (by decide))) hI_c103.2.2.2.2.2)⟩) lk_X12_129 yd_X12_posts hT_1 ha0 rfl (by decide) hS_1 (fun q h => (Or.inr h)) ⟨by decide, by decide⟩ (Nat.le_of_ble_eq_true rfl) ⟨by decide, by decide⟩ rfl dX12_data_105 (fun H_2 locs_2 p_2 hT_2 hk_2 hS_2 => ?_)
    have p_2 : (IM D ρ N H_2 a0) ∧ ((ai H_1 (ρ a0 0) 976).toInt ≤ (ai H_2 (ρ a0 0) 976).toInt) := p_2
    obtain ⟨p_2_0, p_2_1⟩ := p_2
    have mn_2 : (ai H_c103 (ρ a0 0) 976).toInt ≤ (ai H_2 (ρ a0 0) 976).toInt := by have h := p_2_1; rw [(ai_q (hU_1.2 _ (th_ne (hW _ 12 0 ha0 (by decide) (by decide) (by decide)) (hW _ 12 2 ha0 (by decide) (by decide) (by decide)) (by decide))))] at h; exact h
    exact th_vret E hr hlk hs hT_2 hS_2 ⟨⟨p_2_0.1, p_2_0.2.1, p_2_0.2.2.1, p_2_0.2.2.2.1, p_2_0.2.2.2.2.1, p_2_0.2.2.2.2.2⟩, (by omega)⟩ dX12_data_108
  have L_32 : ∀ (n : Nat) (H_c32 : Heap) (lc_c32 : List Loc) (ls : Array Slot) (y32_5 : Int32), TH D cI cS τ ρ H_c32 → SS (fun q => q = ρ a0 2 ∨ q = ρ a0 0) H H_c32 lc_c32 → lv_has ls 6 [(0, .ref a0), (1, .int 0), (2, .int x1), (3, .int x2), (4, .int x3), (5, .int y32_5)] → 0 ≤ x1.toInt → x1.toInt ≤ 700 → 0 ≤ x2.toInt → x2.toInt ≤ 8 → x3 = 0 ∨ x3 = 1 → 0 ≤ y32_5.toInt → y32_5.toInt ≤ 8 → IM D ρ N H_c32 a0 → (ai H (ρ a0 0) 976).toInt ≤ (ai H_c32 (ρ a0 0) 976).toInt → (x2.toInt - y32_5.toInt).toNat < n → W p l e (rmO 5 115) s m args below meth c H_c32 lc_c32 0 0 (MQ below (va_Qv (fun (u : Heap) => (IM D ρ N u a0) ∧ ((ai H (ρ a0 0) 976).toInt ≤ (ai u (ρ a0 0) 976).toInt)) (Bt D cI cS τ ρ H) (fun q => q = ρ a0 2 ∨ q = ρ a0 0)) args s 0 0 (fun q => q = ρ a0 2 ∨ q = ρ a0 0)) (F0 m 32 ls []) := by
    intro n
    induction n with
    | zero => intro H_c32 lc_c32 ls y32_5 hT_c32 hS_c32 hl ly32_2 uy32_2 ly32_3 uy32_3 by32_4 ly32_5 uy32_5 hI_c32 hmn_c32 hm; exact absurd hm (Nat.not_lt_zero _)
    | succ n ih_32 =>
      intro H_c32 lc_c32 ls y32_5 hT_c32 hS_c32 hl ly32_2 uy32_2 ly32_3 uy32_3 by32_4 ly32_5 uy32_5 hI_c32 hmn_c32 hm_32
      have z_y32_4 := b_iv by32_4
      refine lv_iload hx hb dX12_data_32 (lv_at hl 5 rfl) ?_
      refine lv_iload_n hx hb dX12_data_34 rfl (lv_at hl 3 rfl) ?_
      refine lv_icmp_ge (tgt := 69) hx hb dX12_data_35 (by decide) (fun c_3 => ?_) (fun c_3 => ?_)
      · have f_3 : x2.toInt ≤ y32_5.toInt := r_le rfl rfl c_3
        refine lv_aload_n hx hb dX12_data_69 rfl (lv_at hl 0 rfl) ?_
        refine gf_X12_16 E hT_c32 hW ha0 dX12_data_70 (fun h_4 => ?_)
        refine lv_bipush (v := 7) hx hb dX12_data_73 (by decide) ?_
        refine lv_iload_n hx hb dX12_data_75 rfl (lv_at hl 2 rfl) ?_
        refine lv_aload_n hx hb dX12_data_76 rfl (lv_at hl 0 rfl) ?_
        refine lv_iload_n hx hb dX12_data_77 rfl (lv_at hl 1 rfl) ?_
        refine lv_bipush (v := 14) hx hb dX12_data_78 (by decide) ?_
        refine th_Vi (As := [.int 0, .int 14]) (rest := [.int x1, .int 7, .ref (ρ a0 2)]) E hml hl.1 (y_get_v25 l D cI cS τ ρ hW H_c32 hT_c32 a0 ha0) lk_X12_99 yd_X12_get hT_c32 ha0 rfl (by decide) hS_c32 (fun _ h => h.elim) ⟨by decide, by decide⟩ (Nat.le_of_ble_eq_true rfl) ⟨by decide, by decide⟩ rfl dX12_data_80 (fun r_5 H_5 locs_5 p_5 hT_5 hk_5 hS_5 => ?_)
        have p_5 : H_c32 = H_5 ∧ (ai H_c32 (ρ a0 0) 14 = r_5) := p_5
        obtain ⟨rfl, p_5_0⟩ := p_5
        have c_r_5 := congrArg Int32.toInt p_5_0
        refine lv_icmp_ge (tgt := 101) hx hb dX12_data_83 (by decide) (fun c_6 => ?_) (fun c_6 => ?_)
        · have f_6 : r_5.toInt ≤ x1.toInt := r_le rfl rfl c_6
          refine lv_bipush (v := (-4)) hx hb dX12_data_101 (by decide) ?_
          exact J_103 H_c32 locs_5 _ y32_5 (-4) hT_5 hS_5 hl (by omega) (by omega) (by omega) (by omega) by32_4 (by omega) (by omega) ⟨hI_c32.1, hI_c32.2.1, hI_c32.2.2.1, hI_c32.2.2.2.1, hI_c32.2.2.2.2.1, hI_c32.2.2.2.2.2⟩ (by omega)
        · have f_6 : x1.toInt < r_5.toInt := r_nle rfl rfl c_6
          refine lv_aload_n hx hb dX12_data_86 rfl (lv_at hl 0 rfl) ?_
          refine lv_iload_n hx hb dX12_data_87 rfl (lv_at hl 1 rfl) ?_
          refine lv_aload_n hx hb dX12_data_88 rfl (lv_at hl 0 rfl) ?_
          refine lv_iload_n hx hb dX12_data_89 rfl (lv_at hl 1 rfl) ?_
          refine lv_bipush (v := 14) hx hb dX12_data_90 (by decide) ?_
          refine th_Vi (As := [.int 0, .int 14]) (rest := [.int 0, .ref a0, .int 7, .ref (ρ a0 2)]) E hml hl.1 (y_get_v25 l D cI cS τ ρ hW H_c32 hT_5 a0 ha0) lk_X12_99 yd_X12_get hT_5 ha0 rfl (by decide) hS_5 (fun _ h => h.elim) ⟨by decide, by decide⟩ (Nat.le_of_ble_eq_true rfl) ⟨by decide, by decide⟩ rfl dX12_data_92 (fun r_7 H_7 locs_7 p_7 hT_7 hk_7 hS_7 => ?_)
          have p_7 : H_c32 = H_7 ∧ (ai H_c32 (ρ a0 0) 14 = r_7) := p_7
          obtain ⟨rfl, p_7_0⟩ := p_7
          have s_7 : r_7 = r_5 := p_7_0.symm.trans p_5_0
          refine th_topi s_7 ?_
          refine th_Vi (As := [.int 0, .int r_5]) (rest := [.int 7, .ref (ρ a0 2)]) E hml hl.1 (y_number_v3 l D cI cS τ ρ hW H_c32 hT_7 a0 r_5 ha0) lk_X12_112 yd_X12_number hT_7 ha0 rfl (by decide) hS_7 (fun _ h => h.elim) ⟨by decide, by decide⟩ (Nat.le_of_ble_eq_true rfl) ⟨by decide, by decide⟩ rfl dX12_data_95 (fun r_8 H_8 locs_8 p_8 hT_8 hk_8 hS_8 => ?_)
          have p_8 : H_c32 = H_8 := p_8
          obtain rfl := p_8
          refine lv_goto (tgt := 103) hx hb dX12_data_98 (by decide) ?_
          exact J_103 H_c32 locs_8 _ y32_5 r_8 hT_8 hS_8 hl (by omega) (by omega) (by omega) (by omega) by32_4 (by omega) (by omega) ⟨hI_c32.1, hI_c32.2.1, hI_c32.2.2.1, hI_c32.2.2.2.1, hI_c32.2.2.2.2.1, hI_c32.2.2.2.2.2⟩ (by omega)
      · have f_3 : y32_5.toInt < x2.toInt := r_nle rfl rfl c_3
        refine lv_aload_n hx hb dX12_data_38 rfl (lv_at hl 0 rfl) ?_
        refine gf_X12_16 E hT_c32 hW ha0 dX12_data_39 (fun h_9 => ?_)
        refine lv_bipush (v := 12) hx hb dX12_data_42 (by decide) ?_
        refine lv_iload hx hb dX12_data_44 (lv_at hl 5 rfl) ?_
        refine lv_iadd hx hb dX12_data_46 ?_
        refine lv_topi (fun x_10 ex_10 => ?_)
        have q_10 : x_10.toInt = 12 + y32_5.toInt := i_pl (by decide) rfl ex_10 (by omega) (by omega)
        refine lv_aload_n hx hb dX12_data_47 rfl (lv_at hl 0 rfl) ?_
        refine lv_iload_n hx hb dX12_data_48 rfl (lv_at hl 1 rfl) ?_
        refine lv_bipush (v := 32) hx hb dX12_data_49 (by decide) ?_
        refine lv_iload_n hx hb dX12_data_51 rfl (lv_at hl 2 rfl) ?_
        refine lv_iload hx hb dX12_data_52 (lv_at hl 5 rfl) ?_
        refine lv_iadd hx hb dX12_data_54 ?_
        refine lv_topi (fun x_11 ex_11 => ?_)
        have q_11 : x_11.toInt = x1.toInt + y32_5.toInt := i_pl rfl rfl ex_11 (by omega) (by omega)
        refine lv_bipush (v := 64) hx hb dX12_data_55 (by decide) ?_
        refine lv_irem hx hb dX12_data_57 (by decide) ?_
        refine lv_topi (fun x_12 ex_12 => ?_)
        have q_12 := i_rem (k := 64) (x := x_11) (by decide) (by decide) ex_12
        have p_12 : 0 ≤ x_12.toInt := q_12.2.2 (by omega)
        refine lv_iadd hx hb dX12_data_58 ?_
        refine lv_topi (fun x_13 ex_13 => ?_)
        have q_13 : x_13.toInt = 32 + x_12.toInt := i_pl (by decide) rfl ex_13 (by omega) (by omega)
        refine th_Vi (As := [.int 0, .int x_13]) (rest := [.int x_10, .ref (ρ a0 2)]) E hml hl.1 (y_get_v14 l D cI cS τ ρ hW H_c32 hT_c32 a0 x_13 ha0 (by omega)) lk_X12_99 yd_X12_get hT_c32 ha0 rfl (by decide) hS_c32 (fun _ h => h.elim) ⟨by decide, by decide⟩ (Nat.le_of_ble_eq_true rfl) ⟨by decide, by decide⟩ rfl dX12_data_59 (fun r_14 H_14 locs_14 p_14 hT_14 hk_14 hS_14 => ?_)
        have p_14 : H_c32 = H_14 ∧ (ai H_c32 (ρ a0 0) (0 + x_13.toInt).toNat = r_14) := p_14
        obtain ⟨rfl, p_14_0⟩ := p_14
        refine th_iast E hT_14 hS_14 h_9 (Or.inl rfl) (by decide) (vp_in_iff.mpr ⟨by omega, by omega⟩) dX12_data_62 (fun H_15 locs_15 hT_15 hU_15 hS_15 => ?_)
        have hU_15 : AU 20 H_c32 H_15 (ρ a0 2) x_10.toInt.toNat r_14 := hU_15
        have hL_15 : PL H_15 (ρ a0 2) := PL.free hI_c32.2.2.2.1 hU_15 (by omega)
        obtain ⟨x_16, ex_16⟩ : ∃ y : Int32, y32_5 + 1 = y := ⟨_, rfl⟩
        have q_x_16 : x_16.toInt = y32_5.toInt + 1 := i_add (k := 1) (by decide) ex_16 (by have := i_min y32_5; omega) (by have := i_max y32_5; omega)
        refine lv_iinc (v := x_16) (lv' := [(5, .int x_16), (0, .ref a0), (1, .int 0), (2, .int x1), (3, .int x2), (4, .int x3)]) hx hb dX12_data_63 hl (k := 5) rfl (by rw [← ex_16]; rfl) (by decide) rfl (fun ls hl => ?_)
        refine lv_goto (tgt := 32) hx hb dX12_data_66 (by decide) ?_
        exact ih_32 H_15 locs_15 _ x_16 hT_15 hS_15 (lv_sub hl [1, 2, 3, 4, 5, 0] rfl) (by omega) (by omega) (by omega) (by omega) by32_4 (by omega) (by omega) ⟨(PW.q (hU_15.2 _ (th_ne (hW _ 12 0 ha0 (by decide) (by decide) (by decide)) (hW _ 12 2 ha0 (by decide) (by decide) (by decide)) (by decide))) hI_c32.1), (QS.same (ai_q (hU_15.2 _ (th_ne (hW _ 12 0 ha0 (by decide) (by decide) (by decide)) (hW _ 12 2 ha0 (by decide) (by decide) (by decide)) (by decide)))) (ai_q (hU_15.2 _ (th_ne (hW _ 12 0 ha0 (by decide) (by decide) (by decide)) (hW _ 12 2 ha0 (by decide) (by decide) (by decide)) (by decide)))) hI_c32.2.1), (QS.same (ai_q (hU_15.2 _ (th_ne (hW _ 12 0 ha0 (by decide) (by decide) (by decide)) (hW _ 12 2 ha0 (by decide) (by decide) (by decide)) (by decide)))) (ai_q (hU_15.2 _ (th_ne (hW _ 12 0 ha0 (by decide) (by decide) (by decide)) (hW _ 12 2 ha0 (by decide) (by decide) (by decide)) (by decide)))) hI_c32.2.2.1), hL_15, (PL.q (hU_15.2 _ (Ne.symm n23)) hI_c32.2.2.2.2.1), (IF.q (hU_15.2 _ (th_ne ha0 (hW _ 12 2 ha0 (by decide) (by decide) (by decide)) (by decide))) hI_c32.2.2.2.2.2)⟩ (by rw [(ai_q (hU_15.2 _ (th_ne (hW _ 12 0 ha0 (by decide) (by decide) (by decide)) (hW _ 12 2 ha0 (by decide) (by decide) (by decide)) (by decide))))]; omega) (by omega)
  have J_13 : ∀ (H_c13 : Heap) (lc_c13 : List Loc) (ls : Array Slot) (z13_2 : Int32), TH D cI cS τ ρ H_c13 → SS (fun q => q = ρ a0 2 ∨ q = ρ a0 0) H H_c13 lc_c13 → lv_has ls 6 [(0, .ref a0), (1, .int 0), (2, .int x1), (3, .int x2), (4, .int x3)] → 0 ≤ x1.toInt → x1.toInt ≤ 700 → 0 ≤ x2.toInt → x2.toInt ≤ 8 → x3 = 0 ∨ x3 = 1 → 4 ≤ z13_2.toInt → z13_2.toInt ≤ 6 → IM D ρ N H_c13 a0 → (ai H (ρ a0 0) 976).toInt ≤ (ai H_c13 (ρ a0 0) 976).toInt → W p l e (rmO 5 115) s m args below meth c H_c13 lc_c13 0 0 (MQ below (va_Qv (fun (u : Heap) => (IM D ρ N u a0) ∧ ((ai H (ρ a0 0) 976).toInt ≤ (ai u (ρ a0 0) 976).toInt)) (Bt D cI cS τ ρ H) (fun q => q = ρ a0 2 ∨ q = ρ a0 0)) args s 0 0 (fun q => q = ρ a0 2 ∨ q = ρ a0 0)) (F0 m 13 ls [.int z13_2, .int 0, .ref a0]) := by
    intro H_c13 lc_c13 ls z13_2 hT_c13 hS_c13 hl ly13_2 uy13_2 ly13_3 uy13_3 by13_4 lz13_2 uz13_2 hI_c13 hmn_c13
    have z_y13_4 := b_iv by13_4
    refine lv_aload_n hx hb dX12_data_13 rfl (lv_at hl 0 rfl) ?_
    refine lv_iload_n hx hb dX12_data_14 rfl (lv_at hl 1 rfl) ?_
    refine lv_iload_n hx hb dX12_data_15 rfl (lv_at hl 2 rfl) ?_
    refine th_Vi (As := [.int 0, .int x1]) (rest := [.int z13_2, .int 0, .ref a0]) E hml hl.1 (y_number_v3 l D cI cS τ ρ hW H_c13 hT_c13 a0 x1 ha0) lk_X12_112 yd_X12_number hT_c13 ha0 rfl (by decide) hS_c13 (fun _ h => h.elim) ⟨by decide, by decide⟩ (Nat.le_of_ble_eq_true rfl) ⟨by decide, by decide⟩ rfl dX12_data_16 (fun r_17 H_17 locs_17 p_17 hT_17 hk_17 hS_17 => ?_)
    have p_17 : H_c13 = H_17 := p_17
    obtain rfl := p_17
    refine th_Vv (As := [.int 0, .int z13_2, .int r_17]) (rest := []) E hml hl.1 (y_makes l D cI cS τ ρ hW H_c13 hT_17 a0 z13_2 r_17 ha0 N hN0 hN1 ⟨hI_c13.1, hI_c13.2.1, hI_c13.2.2.1, hI_c13.2.2.2.1, hI_c13.2.2.2.2.1, hI_c13.2.2.2.2.2⟩) lk_X12_126 yd_X12_makes hT_17 ha0 rfl (by decide) hS_17 (fun q h => (Or.inl h)) ⟨by decide, by decide⟩ (Nat.le_of_ble_eq_true rfl) ⟨by decide, by decide⟩ rfl dX12_data_19 (fun H_18 locs_18 p_18 hT_18 hk_18 hS_18 => ?_)
    have p_18 : (IM D ρ N H_18 a0) ∧ ((ai H_c13 (ρ a0 0) 976).toInt ≤ (ai H_18 (ρ a0 0) 976).toInt) := p_18
    obtain ⟨p_18_0, p_18_1⟩ := p_18
    have mn_18 : (ai H_c13 (ρ a0 0) 976).toInt ≤ (ai H_18 (ρ a0 0) 976).toInt := by exact p_18_1
    refine lv_aload_n hx hb dX12_data_22 rfl (lv_at hl 0 rfl) ?_
    refine gf_X12_16 E hT_18 hW ha0 dX12_data_23 (fun h_19 => ?_)
    refine lv_iconst (v := 5) hx hb dX12_data_26 (by decide) ?_
    refine lv_iload_n hx hb dX12_data_27 rfl (lv_at hl 3 rfl) ?_
    refine th_iast E hT_18 hS_18 h_19 (Or.inl rfl) (by decide) (vp_in_iff.mpr ⟨by decide, by decide⟩) dX12_data_28 (fun H_20 locs_20 hT_20 hU_20 hS_20 => ?_)
    have hU_20 : AU 20 H_18 H_20 (ρ a0 2) 5 x2 := hU_20
    have hL_20 : PL H_20 (ρ a0 2) := PL.put p_18_0.2.2.2.1 hU_20 (by show (0 : Int) ≤ x2.toInt; omega) (by show x2.toInt ≤ (8 : Int); omega)
    refine lv_iconst (v := 0) hx hb dX12_data_29 (by decide) ?_
    refine lv_istore (lv' := [(5, .int 0), (0, .ref a0), (1, .int 0), (2, .int x1), (3, .int x2), (4, .int x3)]) hx hb dX12_data_30 hl (by decide) rfl (fun ls hl => ?_)
    exact L_32 _ H_20 locs_20 _ 0 hT_20 hS_20 (lv_sub hl [1, 2, 3, 4, 5, 0] rfl) (by omega) (by omega) (by omega) (by omega) by13_4 (by decide) (by decide) ⟨(PW.q (hU_20.2 _ (th_ne (hW _ 12 0 ha0 (by decide) (by decide) (by decide)) (hW _ 12 2 ha0 (by decide) (by decide) (by decide)) (by decide))) p_18_0.1), (QS.same ((Eq.trans (ai_q (hU_20.2 _ (th_ne (hW _ 12 0 ha0 (by decide) (by decide) (by decide)) (hW _ 12 2 ha0 (by decide) (by decide) (by decide)) (by decide)))) (ai_q (hk_18 _ (th_ne (hW _ 12 0 ha0 (by decide) (by decide) (by decide)) (hW _ 12 2 ha0 (by decide) (by decide) (by decide)) (by decide))))).trans (ai_q (hk_18 _ (th_ne (hW _ 12 0 ha0 (by decide) (by decide) (by decide)) (hW _ 12 2 ha0 (by decide) (by decide) (by decide)) (by decide)))).symm) ((Eq.trans (ai_q (hU_20.2 _ (th_ne (hW _ 12 0 ha0 (by decide) (by decide) (by decide)) (hW _ 12 2 ha0 (by decide) (by decide) (by decide)) (by decide)))) (ai_q (hk_18 _ (th_ne (hW _ 12 0 ha0 (by decide) (by decide) (by decide)) (hW _ 12 2 ha0 (by decide) (by decide) (by decide)) (by decide))))).trans (ai_q (hk_18 _ (th_ne (hW _ 12 0 ha0 (by decide) (by decide) (by decide)) (hW _ 12 2 ha0 (by decide) (by decide) (by decide)) (by decide)))).symm) p_18_0.2.1), (QS.same ((Eq.trans (ai_q (hU_20.2 _ (th_ne (hW _ 12 0 ha0 (by decide) (by decide) (by decide)) (hW _ 12 2 ha0 (by decide) (by decide) (by decide)) (by decide)))) (ai_q (hk_18 _ (th_ne (hW _ 12 0 ha0 (by decide) (by decide) (by decide)) (hW _ 12 2 ha0 (by decide) (by decide) (by decide)) (by decide))))).trans (ai_q (hk_18 _ (th_ne (hW _ 12 0 ha0 (by decide) (by decide) (by decide)) (hW _ 12 2 ha0 (by decide) (by decide) (by decide)) (by decide)))).symm) ((Eq.trans (ai_q (hU_20.2 _ (th_ne (hW _ 12 0 ha0 (by decide) (by decide) (by decide)) (hW _ 12 2 ha0 (by decide) (by decide) (by decide)) (by decide)))) (ai_q (hk_18 _ (th_ne (hW _ 12 0 ha0 (by decide) (by decide) (by decide)) (hW _ 12 2 ha0 (by decide) (by decide) (by decide)) (by decide))))).trans (ai_q (hk_18 _ (th_ne (hW _ 12 0 ha0 (by decide) (by decide) (by decide)) (hW _ 12 2 ha0 (by decide) (by decide) (by decide)) (by decide)))).symm) p_18_0.2.2.1), hL_20, (PL.q (hU_20.2 _ (Ne.symm n23)) p_18_0.2.2.2.2.1), (IF.q (hU_20.2 _ (th_ne ha0 (hW _ 12 2 ha0 (by decide) (by decide) (by decide)) (by decide))) p_18_0.2.2.2.2.2)⟩ (by rw [(Eq.trans (ai_q (hU_20.2 _ (th_ne (hW _ 12 0 ha0 (by decide) (by decide) (by decide)) (hW _ 12 2 ha0 (by decide) (by decide) (by decide)) (by decide)))) (ai_q (hk_18 _ (th_ne (hW _ 12 0 ha0 (by decide) (by decide) (by decide)) (hW _ 12 2 ha0 (by decide) (by decide) (by decide)) (by decide)))))]; omega) (Nat.lt_succ_self _)
  refine lv_aload_n hx hb dX12_data_0 rfl (lv_at hl 0 rfl) ?_
  refine lv_iload_n hx hb dX12_data_1 rfl (lv_at hl 1 rfl) ?_
  refine lv_iload hx hb dX12_data_2 (lv_at hl 4 rfl) ?_
  refine lv_if_eq (tgt := 12) hx hb dX12_data_4 (by decide) (fun c_21 => ?_) (fun c_21 => ?_)
  · have f_21 : x3.toInt = 0 := r_eq rfl (by decide) c_21
    refine lv_iconst (v := 4) hx hb dX12_data_12 (by decide) ?_
    exact J_13 H [] _ 4 hT hS hl (by omega) (by omega) (by omega) (by omega) bb_x3 (by decide) (by decide) ⟨hI.1, hI.2.1, hI.2.2.1, hI.2.2.2.1, hI.2.2.2.2.1, hI.2.2.2.2.2⟩ (by omega)
  · have f_21 : ¬ x3.toInt = 0 := r_ne rfl (by decide) c_21
    have nz_x3 : ¬ x3 = 0 := c_21
    refine lv_bipush (v := 6) hx hb dX12_data_7 (by decide) ?_
    refine lv_goto (tgt := 13) hx hb dX12_data_9 (by decide) ?_
    exact J_13 H [] _ 6 hT hS hl (by omega) (by omega) (by omega) (by omega) bb_x3 (by decide) (by decide) ⟨hI.1, hI.2.1, hI.2.2.1, hI.2.2.2.1, hI.2.2.2.2.1, hI.2.2.2.2.2⟩ (by omega)
set_option maxHeartbeats 4000000 in
set_option maxRecDepth 100000 in
/-- the reference: sendsAgain -/
theorem y_sendsAgain (l : Launch) (D : va_G) (cI cS : ClassId) (τ : Nat → Option Nat) (ρ : Nat → Nat → Nat) (hW : WF τ ρ) (H : Heap) (hT : TH D cI cS τ ρ H) (a0 : Nat) (ha0 : τ a0 = some 12) (N : Int) (hN0 : 0 ≤ N) (hN1 : N ≤ 600) (hI : IM D ρ N H a0) : MV l D cI cS τ ρ yX12_sendsAgain cX12_sendsAgain 5 none 6 140 H [.ref a0, .int 0] (fun (u : Heap) => (IM D ρ N u a0) ∧ ((ai H (ρ a0 0) 976).toInt ≤ (ai u (ρ a0 0) 976).toInt)) (fun q => q = ρ a0 2 ∨ q = ρ a0 0) := by
  refine MV.of (by decide) (Nat.le_of_ble_eq_true rfl) ?_
  intro p e s m args below meth c E hml hr hlk hs ls hl
  have hx := E.1
  have hb := E.2.1
  have hown := E.2.2.1
  have hts := E.2.2.2.1
  have hS : SS (fun q => q = ρ a0 2 ∨ q = ρ a0 0) H H [] := SS.rf
  have hl : lv_has ls 5 [(0, .ref a0), (1, .int 0)] := hl
  have n01 := hI.2.2.2.2.2.1
  have n23 := hI.2.2.2.2.2.2.1
  have J_157 : ∀ (H_c157 : Heap) (lc_c157 : List Loc) (ls : Array Slot) (y157_2 : Int32), TH D cI cS τ ρ H_c157 → SS (fun q => q = ρ a0 2 ∨ q = ρ a0 0) H H_c157 lc_c157 → lv_has ls 5 [(0, .ref a0), (1, .int 0), (2, .int y157_2)] → 0 ≤ y157_2.toInt → y157_2.toInt ≤ 602 → IM D ρ N H_c157 a0 → (ai H (ρ a0 0) 976).toInt ≤ (ai H_c157 (ρ a0 0) 976).toInt → W p l e (rmO 6 140) s m args below meth c H_c157 lc_c157 0 0 (MQ below (va_Qv (fun (u : Heap) => (IM D ρ N u a0) ∧ ((ai H (ρ a0 0) 976).toInt ≤ (ai u (ρ a0 0) 976).toInt)) (Bt D cI cS τ ρ H) (fun q => q = ρ a0 2 ∨ q = ρ a0 0)) args s 0 0 (fun q => q = ρ a0 2 ∨ q = ρ a0 0)) (F0 m 157 ls []) := by
    intro H_c157 lc_c157 ls y157_2 hT_c157 hS_c157 hl ly157_2 uy157_2 hI_c157 hmn_c157
    refine lv_aload_n hx hb dX12_sendsAgain_157 rfl (lv_at hl 0 rfl) ?_
    refine gf_X12_7 E hT_c157 hW ha0 dX12_sendsAgain_158 (fun h_1 => ?_)
    refine lv_sipush (v := 980) hx hb dX12_sendsAgain_161 (by decide) ?_
    refine lv_dup2_11 hx hb dX12_sendsAgain_164 rfl rfl ?_
    refine th_iald E hT_c157 h_1 (by decide) (vp_in_iff.mpr ⟨by decide, by decide⟩) dX12_sendsAgain_165 ?_
    refine th_topi (y := ai H_c157 (ρ a0 0) 980) rfl ?_
    refine lv_topi (fun x_2 ex_2 => ?_)
    have c_x_2 := congrArg Int32.toInt ex_2.symm
    refine lv_iconst (v := 1) hx hb dX12_sendsAgain_166 (by decide) ?_
    refine lv_iadd hx hb dX12_sendsAgain_167 ?_
    refine lv_topi (fun x_3 ex_3 => ?_)
    refine th_iast E hT_c157 hS_c157 h_1 (Or.inr rfl) (by decide) (vp_in_iff.mpr ⟨by decide, by decide⟩) dX12_sendsAgain_168 (fun H_4 locs_4 hT_4 hU_4 hS_4 => ?_)
    have hU_4 : AU 985 H_c157 H_4 (ρ a0 0) 980 x_3 := hU_4
    have hW_4 : PW N H_4 (ρ a0 0) := PW.put hI_c157.1 hU_4 (by show (-2147483648 : Int) ≤ _; exact i_min _) (by show _ ≤ (2147483647 : Int); exact i_max _)
    refine lv_aload_n hx hb dX12_sendsAgain_169 rfl (lv_at hl 0 rfl) ?_
    refine lv_iload_n hx hb dX12_sendsAgain_170 rfl (lv_at hl 1 rfl) ?_
    refine lv_bipush (v := 16) hx hb dX12_sendsAgain_171 (by decide) ?_
    refine lv_bipush (v := (-4)) hx hb dX12_sendsAgain_173 (by decide) ?_
    refine th_Vv (As := [.int 0, .int 16, .int (-4)]) (rest := []) E hml hl.1 (y_set_v11 l D cI cS τ ρ hW H_4 hT_4 a0 ha0) lk_X12_95 yd_X12_set hT_4 ha0 rfl (by decide) hS_4 (fun q h => (Or.inr h)) ⟨by decide, by decide⟩ (Nat.le_of_ble_eq_true rfl) ⟨by decide, by decide⟩ rfl dX12_sendsAgain_175 (fun H_5 locs_5 p_5 hT_5 hk_5 hS_5 => ?_)
    have p_5 : (AU 985 H_4 H_5 (ρ a0 0) 16 ((-4))) := p_5
    have hW_5 : PW N H_5 (ρ a0 0) := PW.put hW_4 p_5 (by show (-2147483648 : Int) ≤ _; exact i_min _) (by show _ ≤ (2147483647 : Int); exact i_max _)
    exact th_vret E hr hlk hs hT_5 hS_5 ⟨⟨hW_5, (QS.same (Eq.trans (AU.o p_5 (by decide) (by decide)) (AU.o hU_4 (by decide) (by decide))) (Eq.trans (AU.o p_5 (by decide) (by decide)) (AU.o hU_4 (by decide) (by decide))) hI_c157.2.1), (QS.same (Eq.trans (AU.o p_5 (by decide) (by decide)) (AU.o hU_4 (by decide) (by decide))) (Eq.trans (AU.o p_5 (by decide) (by decide)) (AU.o hU_4 (by decide) (by decide))) hI_c157.2.2.1), (PL.q (p_5.2 _ (th_ne (hW _ 12 2 ha0 (by decide) (by decide) (by decide)) (hW _ 12 0 ha0 (by decide) (by decide) (by decide)) (by decide))) (PL.q (hU_4.2 _ (th_ne (hW _ 12 2 ha0 (by decide) (by decide) (by decide)) (hW _ 12 0 ha0 (by decide) (by decide) (by decide)) (by decide))) hI_c157.2.2.2.1)), (PL.q (p_5.2 _ (th_ne (hW _ 12 3 ha0 (by decide) (by decide) (by decide)) (hW _ 12 0 ha0 (by decide) (by decide) (by decide)) (by decide))) (PL.q (hU_4.2 _ (th_ne (hW _ 12 3 ha0 (by decide) (by decide) (by decide)) (hW _ 12 0 ha0 (by decide) (by decide) (by decide)) (by decide))) hI_c157.2.2.2.2.1)), (IF.q (p_5.2 _ (th_ne ha0 (hW _ 12 0 ha0 (by decide) (by decide) (by decide)) (by decide))) (IF.q (hU_4.2 _ (th_ne ha0 (hW _ 12 0 ha0 (by decide) (by decide) (by decide)) (by decide))) hI_c157.2.2.2.2.2))⟩, (by rw [(Eq.trans (AU.o p_5 (by decide) (by decide)) (AU.o hU_4 (by decide) (by decide)))]; omega)⟩ dX12_sendsAgain_178
  have J_154 : ∀ (H_c154 : Heap) (lc_c154 : List Loc) (ls : Array Slot) (y154_2 : Int32) (y154_3 : Int32) (y154_4 : Int32) (z154_2 : Int32) (z154_3 : Int32) (z154_4 : Int32), TH D cI cS τ ρ H_c154 → SS (fun q => q = ρ a0 2 ∨ q = ρ a0 0) H H_c154 lc_c154 → lv_has ls 5 [(0, .ref a0), (1, .int 0), (2, .int y154_2), (3, .int y154_3), (4, .int y154_4)] → 1 ≤ y154_2.toInt → y154_2.toInt ≤ 602 → 0 ≤ y154_3.toInt → y154_3.toInt ≤ 8 → 1 ≤ y154_4.toInt → y154_4.toInt ≤ 610 → 1 ≤ z154_2.toInt → z154_2.toInt ≤ 602 → 0 ≤ z154_3.toInt → z154_3.toInt ≤ 8 → z154_4 = 0 ∨ z154_4 = 1 → IM D ρ N H_c154 a0 → (ai H (ρ a0 0) 976).toInt ≤ (ai H_c154 (ρ a0 0) 976).toInt → W p l e (rmO 6 140) s m args below meth c H_c154 lc_c154 0 0 (MQ below (va_Qv (fun (u : Heap) => (IM D ρ N u a0) ∧ ((ai H (ρ a0 0) 976).toInt ≤ (ai u (ρ a0 0) 976).toInt)) (Bt D cI cS τ ρ H) (fun q => q = ρ a0 2 ∨ q = ρ a0 0)) args s 0 0 (fun q => q = ρ a0 2 ∨ q = ρ a0 0)) (F0 m 154 ls [.int z154_4, .int z154_3, .int z154_2, .int 0, .ref a0]) := by
    intro H_c154 lc_c154 ls y154_2 y154_3 y154_4 z154_2 z154_3 z154_4 hT_c154 hS_c154 hl ly154_2 uy154_2 ly154_3 uy154_3 ly154_4 uy154_4 lz154_2 uz154_2 lz154_3 uz154_3 bz154_4 hI_c154 hmn_c154
    have z_z154_4 := b_iv bz154_4
    refine th_Vv (As := [.int 0, .int z154_2, .int z154_3, .int z154_4]) (rest := []) E hml hl.1 (y_data_v2 l D cI cS τ ρ hW H_c154 hT_c154 a0 z154_2 z154_3 z154_4 ha0 bz154_4 N hN0 hN1 ⟨hI_c154.1, hI_c154.2.1, hI_c154.2.2.1, hI_c154.2.2.2.1, hI_c154.2.2.2.2.1, hI_c154.2.2.2.2.2⟩ (by omega) (by omega)) lk_X12_139 yd_X12_data hT_c154 ha0 rfl (by decide) hS_c154 (fun q => (fun h => h.elim (fun h => (Or.inl h)) (fun h => (Or.inr h)))) ⟨by decide, by decide⟩ (Nat.le_of_ble_eq_true rfl) ⟨by decide, by decide⟩ rfl dX12_sendsAgain_154 (fun H_6 locs_6 p_6 hT_6 hk_6 hS_6 => ?_)
    have p_6 : (IM D ρ N H_6 a0) ∧ ((ai H_c154 (ρ a0 0) 976).toInt ≤ (ai H_6 (ρ a0 0) 976).toInt) := p_6
    obtain ⟨p_6_0, p_6_1⟩ := p_6
    have mn_6 : (ai H_c154 (ρ a0 0) 976).toInt ≤ (ai H_6 (ρ a0 0) 976).toInt := by exact p_6_1
    exact J_157 H_6 locs_6 _ y154_2 hT_6 hS_6 (lv_sub hl [0, 1, 2] rfl) (by omega) (by omega) ⟨p_6_0.1, p_6_0.2.1, p_6_0.2.2.1, p_6_0.2.2.2.1, p_6_0.2.2.2.2.1, p_6_0.2.2.2.2.2⟩ (by omega)
  have J_153 : ∀ (H_c153 : Heap) (lc_c153 : List Loc) (ls : Array Slot) (y153_2 : Int32) (y153_3 : Int32) (y153_4 : Int32) (z153_2 : Int32) (z153_3 : Int32), TH D cI cS τ ρ H_c153 → SS (fun q => q = ρ a0 2 ∨ q = ρ a0 0) H H_c153 lc_c153 → lv_has ls 5 [(0, .ref a0), (1, .int 0), (2, .int y153_2), (3, .int y153_3), (4, .int y153_4)] → 1 ≤ y153_2.toInt → y153_2.toInt ≤ 602 → 0 ≤ y153_3.toInt → y153_3.toInt ≤ 8 → 1 ≤ y153_4.toInt → y153_4.toInt ≤ 610 → 1 ≤ z153_2.toInt → z153_2.toInt ≤ 602 → 0 ≤ z153_3.toInt → z153_3.toInt ≤ 8 → IM D ρ N H_c153 a0 → (ai H (ρ a0 0) 976).toInt ≤ (ai H_c153 (ρ a0 0) 976).toInt → W p l e (rmO 6 140) s m args below meth c H_c153 lc_c153 0 0 (MQ below (va_Qv (fun (u : Heap) => (IM D ρ N u a0) ∧ ((ai H (ρ a0 0) 976).toInt ≤ (ai u (ρ a0 0) 976).toInt)) (Bt D cI cS τ ρ H) (fun q => q = ρ a0 2 ∨ q = ρ a0 0)) args s 0 0 (fun q => q = ρ a0 2 ∨ q = ρ a0 0)) (F0 m 153 ls [.int z153_3, .int z153_2, .int 0, .ref a0]) := by
    intro H_c153 lc_c153 ls y153_2 y153_3 y153_4 z153_2 z153_3 hT_c153 hS_c153 hl ly153_2 uy153_2 ly153_3 uy153_3 ly153_4 uy153_4 lz153_2 uz153_2 lz153_3 uz153_3 hI_c153 hmn_c153
    refine lv_iconst (v := 0) hx hb dX12_sendsAgain_153 (by decide) ?_
    exact J_154 H_c153 lc_c153 _ y153_2 y153_3 y153_4 z153_2 z153_3 0 hT_c153 hS_c153 hl (by omega) (by omega) (by omega) (by omega) (by omega) (by omega) (by omega) (by omega) (by omega) (by omega) (Or.inl rfl) ⟨hI_c153.1, hI_c153.2.1, hI_c153.2.2.1, hI_c153.2.2.2.1, hI_c153.2.2.2.2.1, hI_c153.2.2.2.2.2⟩ (by omega)
  have J_106 : ∀ (H_c106 : Heap) (lc_c106 : List Loc) (ls : Array Slot) (y106_2 : Int32) (y106_3 : Int32), TH D cI cS τ ρ H_c106 → SS (fun q => q = ρ a0 2 ∨ q = ρ a0 0) H H_c106 lc_c106 → lv_has ls 5 [(0, .ref a0), (1, .int 0), (2, .int y106_2), (3, .int y106_3)] → 1 ≤ y106_2.toInt → y106_2.toInt ≤ 602 → 0 ≤ y106_3.toInt → y106_3.toInt ≤ 8 → IM D ρ N H_c106 a0 → (ai H (ρ a0 0) 976).toInt ≤ (ai H_c106 (ρ a0 0) 976).toInt → W p l e (rmO 6 140) s m args below meth c H_c106 lc_c106 0 0 (MQ below (va_Qv (fun (u : Heap) => (IM D ρ N u a0) ∧ ((ai H (ρ a0 0) 976).toInt ≤ (ai u (ρ a0 0) 976).toInt)) (Bt D cI cS τ ρ H) (fun q => q = ρ a0 2 ∨ q = ρ a0 0)) args s 0 0 (fun q => q = ρ a0 2 ∨ q = ρ a0 0)) (F0 m 106 ls []) := by
    intro H_c106 lc_c106 ls y106_2 y106_3 hT_c106 hS_c106 hl ly106_2 uy106_2 ly106_3 uy106_3 hI_c106 hmn_c106
    refine lv_iload_n hx hb dX12_sendsAgain_106 rfl (lv_at hl 2 rfl) ?_
    refine lv_iload_n hx hb dX12_sendsAgain_107 rfl (lv_at hl 3 rfl) ?_
    refine lv_iadd hx hb dX12_sendsAgain_108 ?_
    refine lv_topi (fun x_7 ex_7 => ?_)
    have q_7 : x_7.toInt = y106_2.toInt + y106_3.toInt := i_pl rfl rfl ex_7 (by omega) (by omega)
    refine lv_istore (lv' := [(4, .int x_7), (0, .ref a0), (1, .int 0), (2, .int y106_2), (3, .int y106_3)]) hx hb dX12_sendsAgain_109 hl (by decide) rfl (fun ls hl => ?_)
    refine lv_aload_n hx hb dX12_sendsAgain_111 rfl (lv_at hl 1 rfl) ?_
    refine lv_iload_n hx hb dX12_sendsAgain_112 rfl (lv_at hl 2 rfl) ?_
    refine lv_iload_n hx hb dX12_sendsAgain_113 rfl (lv_at hl 3 rfl) ?_
    refine lv_iload_n hx hb dX12_sendsAgain_114 rfl (lv_at hl 4 rfl) ?_
    refine lv_iload hx hb dX12_sendsAgain_115 (lv_at hl 0 rfl) ?_
    refine lv_aload_n hx hb dX12_sendsAgain_117 rfl (lv_at hl 1 rfl) ?_
    refine lv_iload_n hx hb dX12_sendsAgain_118 rfl (lv_at hl 2 rfl) ?_
    refine lv_iconst (v := 4) hx hb dX12_sendsAgain_119 (by decide) ?_
    refine th_Vi (As := [.int 0, .int 4]) (rest := [.int x_7, .int y106_3, .int y106_2, .int 0, .ref a0]) E hml hl.1 (y_get_v24 l D cI cS τ ρ hW H_c106 hT_c106 a0 ha0) lk_X12_99 yd_X12_get hT_c106 ha0 rfl (by decide) hS_c106 (fun _ h => h.elim) ⟨by decide, by decide⟩ (Nat.le_of_ble_eq_true rfl) ⟨by decide, by decide⟩ rfl dX12_sendsAgain_120 (fun r_8 H_8 locs_8 p_8 hT_8 hk_8 hS_8 => ?_)
    have p_8 : H_c106 = H_8 ∧ (ai H_c106 (ρ a0 0) 4 = r_8) := p_8
    obtain ⟨rfl, p_8_0⟩ := p_8
    have b_r_8 : 0 ≤ r_8.toInt ∧ r_8.toInt ≤ N := by rw [← p_8_0]; exact hI_c106.1 4 (by decide)
    have c_r_8 := congrArg Int32.toInt p_8_0
    refine lv_iconst (v := 1) hx hb dX12_sendsAgain_123 (by decide) ?_
    refine lv_iadd hx hb dX12_sendsAgain_124 ?_
    refine lv_topi (fun x_9 ex_9 => ?_)
    have q_9 : x_9.toInt = r_8.toInt + 1 := i_pl rfl (by decide) ex_9 (by omega) (by omega)
    refine lv_icmp_ne (tgt := 153) hx hb dX12_sendsAgain_125 (by decide) (fun c_10 => ?_) (fun c_10 => ?_)
    · have f_10 : ¬ x_7.toInt = x_9.toInt := r_ne rfl rfl c_10
      exact J_153 H_c106 locs_8 _ y106_2 y106_3 x_7 y106_2 y106_3 hT_8 hS_8 (lv_sub hl [1, 2, 3, 4, 0] rfl) (by omega) (by omega) (by omega) (by omega) (by omega) (by omega) (by omega) (by omega) (by omega) (by omega) ⟨hI_c106.1, hI_c106.2.1, hI_c106.2.2.1, hI_c106.2.2.2.1, hI_c106.2.2.2.2.1, hI_c106.2.2.2.2.2⟩ (by omega)
    · have f_10 : x_7.toInt = x_9.toInt := r_eq rfl rfl c_10
      refine lv_iload hx hb dX12_sendsAgain_128 (lv_at hl 0 rfl) ?_
      refine lv_aload_n hx hb dX12_sendsAgain_130 rfl (lv_at hl 1 rfl) ?_
      refine lv_iload_n hx hb dX12_sendsAgain_131 rfl (lv_at hl 2 rfl) ?_
      refine lv_iconst (v := 2) hx hb dX12_sendsAgain_132 (by decide) ?_
      refine th_Vi (As := [.int 0, .int 2]) (rest := [.int x_7, .int y106_3, .int y106_2, .int 0, .ref a0]) E hml hl.1 (y_get_v16 l D cI cS τ ρ hW H_c106 hT_8 a0 ha0) lk_X12_99 yd_X12_get hT_8 ha0 rfl (by decide) hS_8 (fun _ h => h.elim) ⟨by decide, by decide⟩ (Nat.le_of_ble_eq_true rfl) ⟨by decide, by decide⟩ rfl dX12_sendsAgain_133 (fun r_11 H_11 locs_11 p_11 hT_11 hk_11 hS_11 => ?_)
      have p_11 : H_c106 = H_11 ∧ (ai H_c106 (ρ a0 0) 2 = r_11) := p_11
      obtain ⟨rfl, p_11_0⟩ := p_11
      have b_r_11 : 0 ≤ r_11.toInt ∧ r_11.toInt ≤ N + 2 := by rw [← p_11_0]; exact hI_c106.1 2 (by decide)
      have c_r_11 := congrArg Int32.toInt p_11_0
      refine lv_icmp_ge (tgt := 153) hx hb dX12_sendsAgain_136 (by decide) (fun c_12 => ?_) (fun c_12 => ?_)
      · have f_12 : r_11.toInt ≤ x_7.toInt := r_le rfl rfl c_12
        exact J_153 H_c106 locs_11 _ y106_2 y106_3 x_7 y106_2 y106_3 hT_11 hS_11 (lv_sub hl [1, 2, 3, 4, 0] rfl) (by omega) (by omega) (by omega) (by omega) (by omega) (by omega) (by omega) (by omega) (by omega) (by omega) ⟨hI_c106.1, hI_c106.2.1, hI_c106.2.2.1, hI_c106.2.2.2.1, hI_c106.2.2.2.2.1, hI_c106.2.2.2.2.2⟩ (by omega)
      · have f_12 : x_7.toInt < r_11.toInt := r_nle rfl rfl c_12
        refine lv_aload_n hx hb dX12_sendsAgain_139 rfl (lv_at hl 1 rfl) ?_
        refine lv_iload_n hx hb dX12_sendsAgain_140 rfl (lv_at hl 2 rfl) ?_
        refine lv_iload hx hb dX12_sendsAgain_141 (lv_at hl 0 rfl) ?_
        refine th_Vi (As := [.int 0, .int x_7]) (rest := [.int y106_3, .int y106_2, .int 0, .ref a0]) E hml hl.1 (y_isKnown l D cI cS τ ρ hW H_c106 hT_11 a0 x_7 ha0 (by omega)) lk_X12_260 yd_X12_isKnown hT_11 ha0 rfl (by decide) hS_11 (fun _ h => h.elim) ⟨by decide, by decide⟩ (Nat.le_of_ble_eq_true rfl) ⟨by decide, by decide⟩ rfl dX12_sendsAgain_143 (fun r_13 H_13 locs_13 p_13 hT_13 hk_13 hS_13 => ?_)
        have p_13 : H_c106 = H_13 ∧ (r_13 = 0 ∨ r_13 = 1) := p_13
        obtain ⟨rfl, p_13_0⟩ := p_13
        have z_13 := b_iv p_13_0
        refine lv_if_ne (tgt := 153) hx hb dX12_sendsAgain_146 (by decide) (fun c_14 => ?_) (fun c_14 => ?_)
        · have f_14 : ¬ r_13.toInt = 0 := r_ne rfl (by decide) c_14
          have nz_r_13 : ¬ r_13 = 0 := c_14
          exact J_153 H_c106 locs_13 _ y106_2 y106_3 x_7 y106_2 y106_3 hT_13 hS_13 (lv_sub hl [1, 2, 3, 4, 0] rfl) (by omega) (by omega) (by omega) (by omega) (by omega) (by omega) (by omega) (by omega) (by omega) (by omega) ⟨hI_c106.1, hI_c106.2.1, hI_c106.2.2.1, hI_c106.2.2.2.1, hI_c106.2.2.2.2.1, hI_c106.2.2.2.2.2⟩ (by omega)
        · have f_14 : r_13.toInt = 0 := r_eq rfl (by decide) c_14
          refine lv_iconst (v := 1) hx hb dX12_sendsAgain_149 (by decide) ?_
          refine lv_goto (tgt := 154) hx hb dX12_sendsAgain_150 (by decide) ?_
          exact J_154 H_c106 locs_13 _ y106_2 y106_3 x_7 y106_2 y106_3 1 hT_13 hS_13 (lv_sub hl [1, 2, 3, 4, 0] rfl) (by omega) (by omega) (by omega) (by omega) (by omega) (by omega) (by omega) (by omega) (by omega) (by omega) (Or.inr rfl) ⟨hI_c106.1, hI_c106.2.1, hI_c106.2.2.1, hI_c106.2.2.2.1, hI_c106.2.2.2.2.1, hI_c106.2.2.2.2.2⟩ (by omega)
  have L_57 : ∀ (n : Nat) (H_c57 : Heap) (lc_c57 : List Loc) (ls : Array Slot) (y57_2 : Int32) (y57_3 : Int32), TH D cI cS τ ρ H_c57 → SS (fun q => q = ρ a0 2 ∨ q = ρ a0 0) H H_c57 lc_c57 → lv_has ls 5 [(0, .ref a0), (1, .int 0), (2, .int y57_2), (3, .int y57_3)] → 1 ≤ y57_2.toInt → y57_2.toInt ≤ 602 → 0 ≤ y57_3.toInt → y57_3.toInt ≤ 8 → IM D ρ N H_c57 a0 → (ai H (ρ a0 0) 976).toInt ≤ (ai H_c57 (ρ a0 0) 976).toInt → (8 - y57_3.toInt).toNat < n → W p l e (rmO 6 140) s m args below meth c H_c57 lc_c57 0 0 (MQ below (va_Qv (fun (u : Heap) => (IM D ρ N u a0) ∧ ((ai H (ρ a0 0) 976).toInt ≤ (ai u (ρ a0 0) 976).toInt)) (Bt D cI cS τ ρ H) (fun q => q = ρ a0 2 ∨ q = ρ a0 0)) args s 0 0 (fun q => q = ρ a0 2 ∨ q = ρ a0 0)) (F0 m 57 ls []) := by
    intro n
    induction n with
    | zero => intro H_c57 lc_c57 ls y57_2 y57_3 hT_c57 hS_c57 hl ly57_2 uy57_2 ly57_3 uy57_3 hI_c57 hmn_c57 hm; exact absurd hm (Nat.not_lt_zero _)
    | succ n ih_57 =>
      intro H_c57 lc_c57 ls y57_2 y57_3 hT_c57 hS_c57 hl ly57_2 uy57_2 ly57_3 uy57_3 hI_c57 hmn_c57 hm_57
      refine lv_iload_n hx hb dX12_sendsAgain_57 rfl (lv_at hl 3 rfl) ?_
      refine lv_aload_n hx hb dX12_sendsAgain_58 rfl (lv_at hl 0 rfl) ?_
      refine gf_X12_25 E hT_c57 ha0 dX12_sendsAgain_59 ?_
      refine lv_topi (fun x_15 ex_15 => ?_)
      have b_15 : 1 ≤ x_15.toInt ∧ x_15.toInt ≤ 8 := by rw [ex_15]; exact IF.f6 hI_c57.2.2.2.2.2
      refine lv_icmp_ge (tgt := 106) hx hb dX12_sendsAgain_62 (by decide) (fun c_16 => ?_) (fun c_16 => ?_)
      · have f_16 : x_15.toInt ≤ y57_3.toInt := r_le rfl rfl c_16
        exact J_106 H_c57 lc_c57 _ y57_2 y57_3 hT_c57 hS_c57 hl (by omega) (by omega) (by omega) (by omega) ⟨hI_c57.1, hI_c57.2.1, hI_c57.2.2.1, hI_c57.2.2.2.1, hI_c57.2.2.2.2.1, hI_c57.2.2.2.2.2⟩ (by omega)
      · have f_16 : y57_3.toInt < x_15.toInt := r_nle rfl rfl c_16
        refine lv_iload_n hx hb dX12_sendsAgain_65 rfl (lv_at hl 2 rfl) ?_
        refine lv_iload_n hx hb dX12_sendsAgain_66 rfl (lv_at hl 3 rfl) ?_
        refine lv_iadd hx hb dX12_sendsAgain_67 ?_
        refine lv_topi (fun x_17 ex_17 => ?_)
        have q_17 : x_17.toInt = y57_2.toInt + y57_3.toInt := i_pl rfl rfl ex_17 (by omega) (by omega)
        refine lv_aload_n hx hb dX12_sendsAgain_68 rfl (lv_at hl 0 rfl) ?_
        refine lv_iload_n hx hb dX12_sendsAgain_69 rfl (lv_at hl 1 rfl) ?_
        refine lv_iconst (v := 2) hx hb dX12_sendsAgain_70 (by decide) ?_
        refine th_Vi (As := [.int 0, .int 2]) (rest := [.int x_17]) E hml hl.1 (y_get_v16 l D cI cS τ ρ hW H_c57 hT_c57 a0 ha0) lk_X12_99 yd_X12_get hT_c57 ha0 rfl (by decide) hS_c57 (fun _ h => h.elim) ⟨by decide, by decide⟩ (Nat.le_of_ble_eq_true rfl) ⟨by decide, by decide⟩ rfl dX12_sendsAgain_71 (fun r_18 H_18 locs_18 p_18 hT_18 hk_18 hS_18 => ?_)
        have p_18 : H_c57 = H_18 ∧ (ai H_c57 (ρ a0 0) 2 = r_18) := p_18
        obtain ⟨rfl, p_18_0⟩ := p_18
        have b_r_18 : 0 ≤ r_18.toInt ∧ r_18.toInt ≤ N + 2 := by rw [← p_18_0]; exact hI_c57.1 2 (by decide)
        have c_r_18 := congrArg Int32.toInt p_18_0
        refine lv_icmp_ge (tgt := 106) hx hb dX12_sendsAgain_74 (by decide) (fun c_19 => ?_) (fun c_19 => ?_)
        · have f_19 : r_18.toInt ≤ x_17.toInt := r_le rfl rfl c_19
          exact J_106 H_c57 locs_18 _ y57_2 y57_3 hT_18 hS_18 hl (by omega) (by omega) (by omega) (by omega) ⟨hI_c57.1, hI_c57.2.1, hI_c57.2.2.1, hI_c57.2.2.2.1, hI_c57.2.2.2.2.1, hI_c57.2.2.2.2.2⟩ (by omega)
        · have f_19 : x_17.toInt < r_18.toInt := r_nle rfl rfl c_19
          refine lv_iload_n hx hb dX12_sendsAgain_77 rfl (lv_at hl 2 rfl) ?_
          refine lv_iload_n hx hb dX12_sendsAgain_78 rfl (lv_at hl 3 rfl) ?_
          refine lv_iadd hx hb dX12_sendsAgain_79 ?_
          refine lv_topi (fun x_20 ex_20 => ?_)
          have q_20 : x_20.toInt = y57_2.toInt + y57_3.toInt := i_pl rfl rfl ex_20 (by omega) (by omega)
          refine lv_aload_n hx hb dX12_sendsAgain_80 rfl (lv_at hl 0 rfl) ?_
          refine lv_iload_n hx hb dX12_sendsAgain_81 rfl (lv_at hl 1 rfl) ?_
          refine lv_iconst (v := 4) hx hb dX12_sendsAgain_82 (by decide) ?_
          refine th_Vi (As := [.int 0, .int 4]) (rest := [.int x_20]) E hml hl.1 (y_get_v24 l D cI cS τ ρ hW H_c57 hT_18 a0 ha0) lk_X12_99 yd_X12_get hT_18 ha0 rfl (by decide) hS_18 (fun _ h => h.elim) ⟨by decide, by decide⟩ (Nat.le_of_ble_eq_true rfl) ⟨by decide, by decide⟩ rfl dX12_sendsAgain_83 (fun r_21 H_21 locs_21 p_21 hT_21 hk_21 hS_21 => ?_)
          have p_21 : H_c57 = H_21 ∧ (ai H_c57 (ρ a0 0) 4 = r_21) := p_21
          obtain ⟨rfl, p_21_0⟩ := p_21
          have b_r_21 : 0 ≤ r_21.toInt ∧ r_21.toInt ≤ N := by rw [← p_21_0]; exact hI_c57.1 4 (by decide)
          have c_r_21 := congrArg Int32.toInt p_21_0
          refine lv_icmp_gt (tgt := 106) hx hb dX12_sendsAgain_86 (by decide) (fun c_22 => ?_) (fun c_22 => ?_)
          · have f_22 : r_21.toInt < x_20.toInt := r_lt rfl rfl c_22
            exact J_106 H_c57 locs_21 _ y57_2 y57_3 hT_21 hS_21 hl (by omega) (by omega) (by omega) (by omega) ⟨hI_c57.1, hI_c57.2.1, hI_c57.2.2.1, hI_c57.2.2.2.1, hI_c57.2.2.2.2.1, hI_c57.2.2.2.2.2⟩ (by omega)
          · have f_22 : x_20.toInt ≤ r_21.toInt := r_nlt rfl rfl c_22
            refine lv_aload_n hx hb dX12_sendsAgain_89 rfl (lv_at hl 0 rfl) ?_
            refine lv_iload_n hx hb dX12_sendsAgain_90 rfl (lv_at hl 1 rfl) ?_
            refine lv_iload_n hx hb dX12_sendsAgain_91 rfl (lv_at hl 2 rfl) ?_
            refine lv_iload_n hx hb dX12_sendsAgain_92 rfl (lv_at hl 3 rfl) ?_
            refine lv_iadd hx hb dX12_sendsAgain_93 ?_
            refine lv_topi (fun x_23 ex_23 => ?_)
            have q_23 : x_23.toInt = y57_2.toInt + y57_3.toInt := i_pl rfl rfl ex_23 (by omega) (by omega)
            refine th_Vi (As := [.int 0, .int x_23]) (rest := []) E hml hl.1 (y_isKnown l D cI cS τ ρ hW H_c57 hT_21 a0 x_23 ha0 (by omega)) lk_X12_260 yd_X12_isKnown hT_21 ha0 rfl (by decide) hS_21 (fun _ h => h.elim) ⟨by decide, by decide⟩ (Nat.le_of_ble_eq_true rfl) ⟨by decide, by decide⟩ rfl dX12_sendsAgain_94 (fun r_24 H_24 locs_24 p_24 hT_24 hk_24 hS_24 => ?_)
            have p_24 : H_c57 = H_24 ∧ (r_24 = 0 ∨ r_24 = 1) := p_24
            obtain ⟨rfl, p_24_0⟩ := p_24
            have z_24 := b_iv p_24_0
            refine lv_if_ne (tgt := 106) hx hb dX12_sendsAgain_97 (by decide) (fun c_25 => ?_) (fun c_25 => ?_)
            · have f_25 : ¬ r_24.toInt = 0 := r_ne rfl (by decide) c_25
              have nz_r_24 : ¬ r_24 = 0 := c_25
              exact J_106 H_c57 locs_24 _ y57_2 y57_3 hT_24 hS_24 hl (by omega) (by omega) (by omega) (by omega) ⟨hI_c57.1, hI_c57.2.1, hI_c57.2.2.1, hI_c57.2.2.2.1, hI_c57.2.2.2.2.1, hI_c57.2.2.2.2.2⟩ (by omega)
            · have f_25 : r_24.toInt = 0 := r_eq rfl (by decide) c_25
              obtain ⟨x_26, ex_26⟩ : ∃ y : Int32, y57_3 + 1 = y := ⟨_, rfl⟩
              have q_x_26 : x_26.toInt = y57_3.toInt + 1 := i_add (k := 1) (by decide) ex_26 (by have := i_min y57_3; omega) (by have := i_max y57_3; omega)
              refine lv_iinc (v := x_26) (lv' := [(3, .int x_26), (0, .ref a0), (1, .int 0), (2, .int y57_2)]) hx hb dX12_sendsAgain_100 hl (k := 3) rfl (by rw [← ex_26]; rfl) (by decide) rfl (fun ls hl => ?_)
              refine lv_goto (tgt := 57) hx hb dX12_sendsAgain_103 (by decide) ?_
              exact ih_57 H_c57 locs_24 _ y57_2 x_26 hT_24 hS_24 (lv_sub hl [1, 2, 3, 0] rfl) (by omega) (by omega) (by omega) (by omega) ⟨hI_c57.1, hI_c57.2.1, hI_c57.2.2.1, hI_c57.2.2.2.1, hI_c57.2.2.2.2.1, hI_c57.2.2.2.2.2⟩ (by omega) (by omega)
  have J_32 : ∀ (H_c32 : Heap) (lc_c32 : List Loc) (ls : Array Slot) (y32_2 : Int32), TH D cI cS τ ρ H_c32 → SS (fun q => q = ρ a0 2 ∨ q = ρ a0 0) H H_c32 lc_c32 → lv_has ls 5 [(0, .ref a0), (1, .int 0), (2, .int y32_2)] → 0 ≤ y32_2.toInt → y32_2.toInt ≤ 602 → IM D ρ N H_c32 a0 → (ai H (ρ a0 0) 976).toInt ≤ (ai H_c32 (ρ a0 0) 976).toInt → W p l e (rmO 6 140) s m args below meth c H_c32 lc_c32 0 0 (MQ below (va_Qv (fun (u : Heap) => (IM D ρ N u a0) ∧ ((ai H (ρ a0 0) 976).toInt ≤ (ai u (ρ a0 0) 976).toInt)) (Bt D cI cS τ ρ H) (fun q => q = ρ a0 2 ∨ q = ρ a0 0)) args s 0 0 (fun q => q = ρ a0 2 ∨ q = ρ a0 0)) (F0 m 32 ls []) := by
    intro H_c32 lc_c32 ls y32_2 hT_c32 hS_c32 hl ly32_2 uy32_2 hI_c32 hmn_c32
    refine lv_iload_n hx hb dX12_sendsAgain_32 rfl (lv_at hl 2 rfl) ?_
    refine lv_aload_n hx hb dX12_sendsAgain_33 rfl (lv_at hl 0 rfl) ?_
    refine lv_iload_n hx hb dX12_sendsAgain_34 rfl (lv_at hl 1 rfl) ?_
    refine lv_iconst (v := 2) hx hb dX12_sendsAgain_35 (by decide) ?_
    refine th_Vi (As := [.int 0, .int 2]) (rest := [.int y32_2]) E hml hl.1 (y_get_v16 l D cI cS τ ρ hW H_c32 hT_c32 a0 ha0) lk_X12_99 yd_X12_get hT_c32 ha0 rfl (by decide) hS_c32 (fun _ h => h.elim) ⟨by decide, by decide⟩ (Nat.le_of_ble_eq_true rfl) ⟨by decide, by decide⟩ rfl dX12_sendsAgain_36 (fun r_27 H_27 locs_27 p_27 hT_27 hk_27 hS_27 => ?_)
    have p_27 : H_c32 = H_27 ∧ (ai H_c32 (ρ a0 0) 2 = r_27) := p_27
    obtain ⟨rfl, p_27_0⟩ := p_27
    have b_r_27 : 0 ≤ r_27.toInt ∧ r_27.toInt ≤ N + 2 := by rw [← p_27_0]; exact hI_c32.1 2 (by decide)
    have c_r_27 := congrArg Int32.toInt p_27_0
    refine lv_icmp_ne (tgt := 43) hx hb dX12_sendsAgain_39 (by decide) (fun c_28 => ?_) (fun c_28 => ?_)
    · have f_28 : ¬ y32_2.toInt = r_27.toInt := r_ne rfl rfl c_28
      refine lv_iload_n hx hb dX12_sendsAgain_43 rfl (lv_at hl 2 rfl) ?_
      refine lv_if_ne (tgt := 55) hx hb dX12_sendsAgain_44 (by decide) (fun c_29 => ?_) (fun c_29 => ?_)
      · have f_29 : ¬ y32_2.toInt = 0 := r_ne rfl (by decide) c_29
        have nz_y32_2 : ¬ y32_2 = 0 := c_29
        refine lv_iconst (v := 0) hx hb dX12_sendsAgain_55 (by decide) ?_
        refine lv_istore_n (lv' := [(3, .int 0), (0, .ref a0), (1, .int 0), (2, .int y32_2)]) hx hb dX12_sendsAgain_56 rfl hl (by decide) rfl (fun ls hl => ?_)
        exact L_57 _ H_c32 locs_27 _ y32_2 0 hT_27 hS_27 (lv_sub hl [1, 2, 3, 0] rfl) (by omega) (by omega) (by decide) (by decide) ⟨hI_c32.1, hI_c32.2.1, hI_c32.2.2.1, hI_c32.2.2.2.1, hI_c32.2.2.2.2.1, hI_c32.2.2.2.2.2⟩ (by omega) (Nat.lt_succ_self _)
      · have f_29 : y32_2.toInt = 0 := r_eq rfl (by decide) c_29
        refine lv_aload_n hx hb dX12_sendsAgain_47 rfl (lv_at hl 0 rfl) ?_
        refine lv_iload_n hx hb dX12_sendsAgain_48 rfl (lv_at hl 1 rfl) ?_
        refine th_Vv (As := [.int 0]) (rest := []) E hml hl.1 (y_hello l D cI cS τ ρ hW H_c32 hT_27 a0 ha0 N hN0 hN1 ⟨hI_c32.1, hI_c32.2.1, hI_c32.2.2.1, hI_c32.2.2.2.1, hI_c32.2.2.2.2.1, hI_c32.2.2.2.2.2⟩) lk_X12_169 yd_X12_hello hT_27 ha0 rfl (by decide) hS_27 (fun q => (fun h => h.elim (fun h => (Or.inl h)) (fun h => (Or.inr h)))) ⟨by decide, by decide⟩ (Nat.le_of_ble_eq_true rfl) ⟨by decide, by decide⟩ rfl dX12_sendsAgain_49 (fun H_30 locs_30 p_30 hT_30 hk_30 hS_30 => ?_)
        have p_30 : (IM D ρ N H_30 a0) ∧ ((ai H_c32 (ρ a0 0) 976).toInt ≤ (ai H_30 (ρ a0 0) 976).toInt) := p_30
        obtain ⟨p_30_0, p_30_1⟩ := p_30
        have mn_30 : (ai H_c32 (ρ a0 0) 976).toInt ≤ (ai H_30 (ρ a0 0) 976).toInt := by exact p_30_1
        refine lv_goto (tgt := 157) hx hb dX12_sendsAgain_52 (by decide) ?_
        exact J_157 H_30 locs_30 _ y32_2 hT_30 hS_30 hl (by omega) (by omega) ⟨p_30_0.1, p_30_0.2.1, p_30_0.2.2.1, p_30_0.2.2.2.1, p_30_0.2.2.2.2.1, p_30_0.2.2.2.2.2⟩ (by omega)
    · have f_28 : y32_2.toInt = r_27.toInt := r_eq rfl rfl c_28
      exact th_vret E hr hlk hs hT_27 hS_27 ⟨⟨hI_c32.1, hI_c32.2.1, hI_c32.2.2.1, hI_c32.2.2.2.1, hI_c32.2.2.2.2.1, hI_c32.2.2.2.2.2⟩, (by omega)⟩ dX12_sendsAgain_42
  have L_7 : ∀ (n : Nat) (H_c7 : Heap) (lc_c7 : List Loc) (ls : Array Slot) (y7_2 : Int32), TH D cI cS τ ρ H_c7 → SS (fun q => q = ρ a0 2 ∨ q = ρ a0 0) H H_c7 lc_c7 → lv_has ls 5 [(0, .ref a0), (1, .int 0), (2, .int y7_2)] → 0 ≤ y7_2.toInt → y7_2.toInt ≤ 602 → ai H_c7 (ρ a0 0) 2 = ai H (ρ a0 0) 2 → IM D ρ N H_c7 a0 → (ai H (ρ a0 0) 976).toInt ≤ (ai H_c7 (ρ a0 0) 976).toInt → ((ai H (ρ a0 0) 2).toInt - y7_2.toInt).toNat < n → W p l e (rmO 6 140) s m args below meth c H_c7 lc_c7 0 0 (MQ below (va_Qv (fun (u : Heap) => (IM D ρ N u a0) ∧ ((ai H (ρ a0 0) 976).toInt ≤ (ai u (ρ a0 0) 976).toInt)) (Bt D cI cS τ ρ H) (fun q => q = ρ a0 2 ∨ q = ρ a0 0)) args s 0 0 (fun q => q = ρ a0 2 ∨ q = ρ a0 0)) (F0 m 7 ls []) := by
    intro n
    induction n with
    | zero => intro H_c7 lc_c7 ls y7_2 hT_c7 hS_c7 hl ly7_2 uy7_2 hg7_0 hI_c7 hmn_c7 hm; exact absurd hm (Nat.not_lt_zero _)
    | succ n ih_7 =>
      intro H_c7 lc_c7 ls y7_2 hT_c7 hS_c7 hl ly7_2 uy7_2 hg7_0 hI_c7 hmn_c7 hm_7
      have bb_g7_0 : 0 ≤ (ai H (ρ a0 0) 2).toInt ∧ (ai H (ρ a0 0) 2).toInt ≤ N + 2 := by rw [← hg7_0]; exact hI_c7.1 2 (by decide)
      have cg_g7_0 := congrArg Int32.toInt hg7_0
      refine lv_iload_n hx hb dX12_sendsAgain_7 rfl (lv_at hl 2 rfl) ?_
      refine lv_aload_n hx hb dX12_sendsAgain_8 rfl (lv_at hl 0 rfl) ?_
      refine lv_iload_n hx hb dX12_sendsAgain_9 rfl (lv_at hl 1 rfl) ?_
      refine lv_iconst (v := 2) hx hb dX12_sendsAgain_10 (by decide) ?_
      refine th_Vi (As := [.int 0, .int 2]) (rest := [.int y7_2]) E hml hl.1 (y_get_v16 l D cI cS τ ρ hW H_c7 hT_c7 a0 ha0) lk_X12_99 yd_X12_get hT_c7 ha0 rfl (by decide) hS_c7 (fun _ h => h.elim) ⟨by decide, by decide⟩ (Nat.le_of_ble_eq_true rfl) ⟨by decide, by decide⟩ rfl dX12_sendsAgain_11 (fun r_31 H_31 locs_31 p_31 hT_31 hk_31 hS_31 => ?_)
      have p_31 : H_c7 = H_31 ∧ (ai H_c7 (ρ a0 0) 2 = r_31) := p_31
      obtain ⟨rfl, p_31_0⟩ := p_31
      have t_31 : ai H (ρ a0 0) 2 = r_31 := hg7_0.symm.trans p_31_0
      have b_r_31 : 0 ≤ r_31.toInt ∧ r_31.toInt ≤ N + 2 := by rw [← t_31]; exact hI.1 2 (by decide)
      have c_r_31 := congrArg Int32.toInt t_31
      refine lv_icmp_ge (tgt := 32) hx hb dX12_sendsAgain_14 (by decide) (fun c_32 => ?_) (fun c_32 => ?_)
      · have f_32 : r_31.toInt ≤ y7_2.toInt := r_le rfl rfl c_32
        exact J_32 H_c7 locs_31 _ y7_2 hT_31 hS_31 hl (by omega) (by omega) ⟨hI_c7.1, hI_c7.2.1, hI_c7.2.2.1, hI_c7.2.2.2.1, hI_c7.2.2.2.2.1, hI_c7.2.2.2.2.2⟩ (by omega)
      · have f_32 : y7_2.toInt < r_31.toInt := r_nle rfl rfl c_32
        refine lv_aload_n hx hb dX12_sendsAgain_17 rfl (lv_at hl 0 rfl) ?_
        refine lv_iload_n hx hb dX12_sendsAgain_18 rfl (lv_at hl 1 rfl) ?_
        refine lv_iload_n hx hb dX12_sendsAgain_19 rfl (lv_at hl 2 rfl) ?_
        refine th_Vi (As := [.int 0, .int y7_2]) (rest := []) E hml hl.1 (y_isKnown l D cI cS τ ρ hW H_c7 hT_31 a0 y7_2 ha0 (by omega)) lk_X12_260 yd_X12_isKnown hT_31 ha0 rfl (by decide) hS_31 (fun _ h => h.elim) ⟨by decide, by decide⟩ (Nat.le_of_ble_eq_true rfl) ⟨by decide, by decide⟩ rfl dX12_sendsAgain_20 (fun r_33 H_33 locs_33 p_33 hT_33 hk_33 hS_33 => ?_)
        have p_33 : H_c7 = H_33 ∧ (r_33 = 0 ∨ r_33 = 1) := p_33
        obtain ⟨rfl, p_33_0⟩ := p_33
        have z_33 := b_iv p_33_0
        refine lv_if_eq (tgt := 32) hx hb dX12_sendsAgain_23 (by decide) (fun c_34 => ?_) (fun c_34 => ?_)
        · have f_34 : r_33.toInt = 0 := r_eq rfl (by decide) c_34
          exact J_32 H_c7 locs_33 _ y7_2 hT_33 hS_33 hl (by omega) (by omega) ⟨hI_c7.1, hI_c7.2.1, hI_c7.2.2.1, hI_c7.2.2.2.1, hI_c7.2.2.2.2.1, hI_c7.2.2.2.2.2⟩ (by omega)
        · have f_34 : ¬ r_33.toInt = 0 := r_ne rfl (by decide) c_34
          have nz_r_33 : ¬ r_33 = 0 := c_34
          obtain ⟨x_35, ex_35⟩ : ∃ y : Int32, y7_2 + 1 = y := ⟨_, rfl⟩
          have q_x_35 : x_35.toInt = y7_2.toInt + 1 := i_add (k := 1) (by decide) ex_35 (by have := i_min y7_2; omega) (by have := i_max y7_2; omega)
          refine lv_iinc (v := x_35) (lv' := [(2, .int x_35), (0, .ref a0), (1, .int 0)]) hx hb dX12_sendsAgain_26 hl (k := 2) rfl (by rw [← ex_35]; rfl) (by decide) rfl (fun ls hl => ?_)
          refine lv_goto (tgt := 7) hx hb dX12_sendsAgain_29 (by decide) ?_
          exact ih_7 H_c7 locs_33 _ x_35 hT_33 hS_33 (lv_sub hl [1, 2, 0] rfl) (by omega) (by omega) ((hg7_0.trans t_31).trans t_31.symm) ⟨hI_c7.1, hI_c7.2.1, hI_c7.2.2.1, hI_c7.2.2.2.1, hI_c7.2.2.2.2.1, hI_c7.2.2.2.2.2⟩ (by omega) (by omega)
  refine lv_aload_n hx hb dX12_sendsAgain_0 rfl (lv_at hl 0 rfl) ?_
  refine lv_iload_n hx hb dX12_sendsAgain_1 rfl (lv_at hl 1 rfl) ?_
  refine lv_iconst (v := 1) hx hb dX12_sendsAgain_2 (by decide) ?_
  refine th_Vi (As := [.int 0, .int 1]) (rest := []) E hml hl.1 (y_get_v7 l D cI cS τ ρ hW H hT a0 ha0) lk_X12_99 yd_X12_get hT ha0 rfl (by decide) hS (fun _ h => h.elim) ⟨by decide, by decide⟩ (Nat.le_of_ble_eq_true rfl) ⟨by decide, by decide⟩ rfl dX12_sendsAgain_3 (fun r_36 H_36 locs_36 p_36 hT_36 hk_36 hS_36 => ?_)
  have p_36 : H = H_36 ∧ (ai H (ρ a0 0) 1 = r_36) := p_36
  obtain ⟨rfl, p_36_0⟩ := p_36
  have b_r_36 : 0 ≤ r_36.toInt ∧ r_36.toInt ≤ N + 2 := by rw [← p_36_0]; exact hI.1 1 (by decide)
  have c_r_36 := congrArg Int32.toInt p_36_0
  refine lv_istore_n (lv' := [(2, .int r_36), (0, .ref a0), (1, .int 0)]) hx hb dX12_sendsAgain_6 rfl hl (by decide) rfl (fun ls hl => ?_)
  exact L_7 _ H locs_36 _ r_36 hT_36 hS_36 (lv_sub hl [1, 2, 0] rfl) (by omega) (by omega) rfl ⟨hI.1, hI.2.1, hI.2.2.1, hI.2.2.2.1, hI.2.2.2.2.1, hI.2.2.2.2.2⟩ (by omega) (Nat.lt_succ_self _)
set_option maxHeartbeats 4000000 in
set_option maxRecDepth 100000 in
/-- the reference: set -/
theorem y_set_v25 (l : Launch) (D : va_G) (cI cS : ClassId) (τ : Nat → Option Nat) (ρ : Nat → Nat → Nat) (hW : WF τ ρ) (H : Heap) (hT : TH D cI cS τ ρ H) (a0 : Nat) (x2 : Int32) (ha0 : τ a0 = some 12) : MV l D cI cS τ ρ yX12_set cX12_set 4 none 0 0 H [.ref a0, .int 0, .int 0, .int x2] (fun (u : Heap) => (AU 985 H u (ρ a0 0) 0 x2)) (fun q => q = ρ a0 0) := by
  refine MV.of (by decide) (Nat.le_of_ble_eq_true rfl) ?_
  intro p e s m args below meth c E hml hr hlk hs ls hl
  have hx := E.1
  have hb := E.2.1
  have hown := E.2.2.1
  have hts := E.2.2.2.1
  have hS : SS (fun q => q = ρ a0 0) H H [] := SS.rf
  have hl : lv_has ls 4 [(0, .ref a0), (1, .int 0), (2, .int 0), (3, .int x2)] := hl
  refine lv_aload_n hx hb dX12_set_0 rfl (lv_at hl 0 rfl) ?_
  refine gf_X12_7 E hT hW ha0 dX12_set_1 (fun h_1 => ?_)
  refine lv_sipush (v := 288) hx hb dX12_set_4 (by decide) ?_
  refine lv_iload_n hx hb dX12_set_7 rfl (lv_at hl 1 rfl) ?_
  refine lv_imul hx hb dX12_set_8 ?_
  refine th_topi (y := 0) (by decide) ?_
  refine lv_iload_n hx hb dX12_set_9 rfl (lv_at hl 2 rfl) ?_
  refine lv_iadd hx hb dX12_set_10 ?_
  refine th_topi (y := 0) (by decide) ?_
  refine lv_iload_n hx hb dX12_set_11 rfl (lv_at hl 3 rfl) ?_
  refine th_iast E hT hS h_1 rfl (by decide) (vp_in_iff.mpr ⟨by decide, by decide⟩) dX12_set_12 (fun H_2 locs_2 hT_2 hU_2 hS_2 => ?_)
  have hU_2 : AU 985 H H_2 (ρ a0 0) 0 x2 := hU_2
  exact th_vret E hr hlk hs hT_2 hS_2 hU_2 dX12_set_13
set_option maxHeartbeats 4000000 in
set_option maxRecDepth 100000 in
/-- the reference: set -/
theorem y_set_v26 (l : Launch) (D : va_G) (cI cS : ClassId) (τ : Nat → Option Nat) (ρ : Nat → Nat → Nat) (hW : WF τ ρ) (H : Heap) (hT : TH D cI cS τ ρ H) (a0 : Nat) (ha0 : τ a0 = some 12) : MV l D cI cS τ ρ yX12_set cX12_set 4 none 0 0 H [.ref a0, .int 0, .int 0, .int 4] (fun (u : Heap) => (AU 985 H u (ρ a0 0) 0 (4))) (fun q => q = ρ a0 0) := by
  refine MV.of (by decide) (Nat.le_of_ble_eq_true rfl) ?_
  intro p e s m args below meth c E hml hr hlk hs ls hl
  have hx := E.1
  have hb := E.2.1
  have hown := E.2.2.1
  have hts := E.2.2.2.1
  have hS : SS (fun q => q = ρ a0 0) H H [] := SS.rf
  have hl : lv_has ls 4 [(0, .ref a0), (1, .int 0), (2, .int 0), (3, .int 4)] := hl
  refine lv_aload_n hx hb dX12_set_0 rfl (lv_at hl 0 rfl) ?_
  refine gf_X12_7 E hT hW ha0 dX12_set_1 (fun h_1 => ?_)
  refine lv_sipush (v := 288) hx hb dX12_set_4 (by decide) ?_
  refine lv_iload_n hx hb dX12_set_7 rfl (lv_at hl 1 rfl) ?_
  refine lv_imul hx hb dX12_set_8 ?_
  refine th_topi (y := 0) (by decide) ?_
  refine lv_iload_n hx hb dX12_set_9 rfl (lv_at hl 2 rfl) ?_
  refine lv_iadd hx hb dX12_set_10 ?_
  refine th_topi (y := 0) (by decide) ?_
  refine lv_iload_n hx hb dX12_set_11 rfl (lv_at hl 3 rfl) ?_
  refine th_iast E hT hS h_1 rfl (by decide) (vp_in_iff.mpr ⟨by decide, by decide⟩) dX12_set_12 (fun H_2 locs_2 hT_2 hU_2 hS_2 => ?_)
  have hU_2 : AU 985 H H_2 (ρ a0 0) 0 (4) := hU_2
  exact th_vret E hr hlk hs hT_2 hS_2 hU_2 dX12_set_13
set_option maxHeartbeats 4000000 in
set_option maxRecDepth 100000 in
/-- the reference: get -/
theorem y_get_v26 (l : Launch) (D : va_G) (cI cS : ClassId) (τ : Nat → Option Nat) (ρ : Nat → Nat → Nat) (hW : WF τ ρ) (H : Heap) (hT : TH D cI cS τ ρ H) (a0 : Nat) (ha0 : τ a0 = some 12) : MI l D cI cS τ ρ yX12_get cX12_get 3 (some .int) 0 0 H [.ref a0, .int 0, .int 13] (fun (r : Int32) (u : Heap) => (H = u) ∧ (ai H (ρ a0 0) 13 = r)) (fun q => False) := by
  refine MI.of (by decide) (Nat.le_of_ble_eq_true rfl) ?_
  intro p e s m args below meth c E hml hr hlk hs ls hl
  have hx := E.1
  have hb := E.2.1
  have hown := E.2.2.1
  have hts := E.2.2.2.1
  have hS : SS (fun q => False) H H [] := SS.rf
  have hl : lv_has ls 3 [(0, .ref a0), (1, .int 0), (2, .int 13)] := hl
  refine lv_aload_n hx hb dX12_get_0 rfl (lv_at hl 0 rfl) ?_
  refine gf_X12_7 E hT hW ha0 dX12_get_1 (fun h_1 => ?_)
  refine lv_sipush (v := 288) hx hb dX12_get_4 (by decide) ?_
  refine lv_iload_n hx hb dX12_get_7 rfl (lv_at hl 1 rfl) ?_
  refine lv_imul hx hb dX12_get_8 ?_
  refine th_topi (y := 0) (by decide) ?_
  refine lv_iload_n hx hb dX12_get_9 rfl (lv_at hl 2 rfl) ?_
  refine lv_iadd hx hb dX12_get_10 ?_
  refine th_topi (y := 13) (by decide) ?_
  refine th_iald E hT h_1 (by decide) (vp_in_iff.mpr ⟨by decide, by decide⟩) dX12_get_11 ?_
  refine th_topi (y := ai H (ρ a0 0) 13) rfl ?_
  refine lv_topi (fun x_2 ex_2 => ?_)
  have c_x_2 := congrArg Int32.toInt ex_2.symm
  exact th_iret E hr hlk hs hT hS ⟨rfl, ex_2.symm⟩ dX12_get_12
set_option maxHeartbeats 4000000 in
set_option maxRecDepth 100000 in
/-- the reference: isByeSent -/
theorem y_isByeSent (l : Launch) (D : va_G) (cI cS : ClassId) (τ : Nat → Option Nat) (ρ : Nat → Nat → Nat) (hW : WF τ ρ) (H : Heap) (hT : TH D cI cS τ ρ H) (a0 : Nat) (ha0 : τ a0 = some 12) (N : Int) (hN0 : 0 ≤ N) (hN1 : N ≤ 600) (hI : IM D ρ N H a0) : MI l D cI cS τ ρ yX12_isByeSent cX12_isByeSent 2 (some .boolean) 1 22 H [.ref a0, .int 0] (fun (r : Int32) (u : Heap) => (H = u) ∧ (r = 0 ∨ r = 1)) (fun q => False) := by
  refine MI.of (by decide) (Nat.le_of_ble_eq_true rfl) ?_
  intro p e s m args below meth c E hml hr hlk hs ls hl
  have hx := E.1
  have hb := E.2.1
  have hown := E.2.2.1
  have hts := E.2.2.2.1
  have hS : SS (fun q => False) H H [] := SS.rf
  have hl : lv_has ls 2 [(0, .ref a0), (1, .int 0)] := hl
  have n01 := hI.2.2.2.2.2.1
  have n23 := hI.2.2.2.2.2.2.1
  refine lv_aload_n hx hb dX12_isByeSent_0 rfl (lv_at hl 0 rfl) ?_
  refine lv_iload_n hx hb dX12_isByeSent_1 rfl (lv_at hl 1 rfl) ?_
  refine lv_bipush (v := 13) hx hb dX12_isByeSent_2 (by decide) ?_
  refine th_Vi (As := [.int 0, .int 13]) (rest := []) E hml hl.1 (y_get_v26 l D cI cS τ ρ hW H hT a0 ha0) lk_X12_99 yd_X12_get hT ha0 rfl (by decide) hS (fun _ h => h.elim) ⟨by decide, by decide⟩ (Nat.le_of_ble_eq_true rfl) ⟨by decide, by decide⟩ rfl dX12_isByeSent_4 (fun r_1 H_1 locs_1 p_1 hT_1 hk_1 hS_1 => ?_)
  have p_1 : H = H_1 ∧ (ai H (ρ a0 0) 13 = r_1) := p_1
  obtain ⟨rfl, p_1_0⟩ := p_1
  have c_r_1 := congrArg Int32.toInt p_1_0
  refine lv_iconst (v := 1) hx hb dX12_isByeSent_7 (by decide) ?_
  refine lv_icmp_ne (tgt := 32) hx hb dX12_isByeSent_8 (by decide) (fun c_2 => ?_) (fun c_2 => ?_)
  · have f_2 : ¬ r_1.toInt = 1 := r_ne rfl (by decide) c_2
    refine lv_iconst (v := 0) hx hb dX12_isByeSent_32 (by decide) ?_
    exact th_zret E hr hlk hs (Or.inl rfl) hT_1 hS_1 ⟨rfl, (Or.inl rfl)⟩ dX12_isByeSent_33
  · have f_2 : r_1.toInt = 1 := r_eq rfl (by decide) c_2
    refine lv_aload_n hx hb dX12_isByeSent_11 rfl (lv_at hl 0 rfl) ?_
    refine lv_iload_n hx hb dX12_isByeSent_12 rfl (lv_at hl 1 rfl) ?_
    refine lv_iconst (v := 2) hx hb dX12_isByeSent_13 (by decide) ?_
    refine th_Vi (As := [.int 0, .int 2]) (rest := []) E hml hl.1 (y_get_v16 l D cI cS τ ρ hW H hT_1 a0 ha0) lk_X12_99 yd_X12_get hT_1 ha0 rfl (by decide) hS_1 (fun _ h => h.elim) ⟨by decide, by decide⟩ (Nat.le_of_ble_eq_true rfl) ⟨by decide, by decide⟩ rfl dX12_isByeSent_14 (fun r_3 H_3 locs_3 p_3 hT_3 hk_3 hS_3 => ?_)
    have p_3 : H = H_3 ∧ (ai H (ρ a0 0) 2 = r_3) := p_3
    obtain ⟨rfl, p_3_0⟩ := p_3
    have b_r_3 : 0 ≤ r_3.toInt ∧ r_3.toInt ≤ N + 2 := by rw [← p_3_0]; exact hI.1 2 (by decide)
    have c_r_3 := congrArg Int32.toInt p_3_0
    refine lv_aload_n hx hb dX12_isByeSent_17 rfl (lv_at hl 0 rfl) ?_
    refine lv_iload_n hx hb dX12_isByeSent_18 rfl (lv_at hl 1 rfl) ?_
    refine lv_iconst (v := 4) hx hb dX12_isByeSent_19 (by decide) ?_
    refine th_Vi (As := [.int 0, .int 4]) (rest := [.int r_3]) E hml hl.1 (y_get_v24 l D cI cS τ ρ hW H hT_3 a0 ha0) lk_X12_99 yd_X12_get hT_3 ha0 rfl (by decide) hS_3 (fun _ h => h.elim) ⟨by decide, by decide⟩ (Nat.le_of_ble_eq_true rfl) ⟨by decide, by decide⟩ rfl dX12_isByeSent_20 (fun r_4 H_4 locs_4 p_4 hT_4 hk_4 hS_4 => ?_)
    have p_4 : H = H_4 ∧ (ai H (ρ a0 0) 4 = r_4) := p_4
    obtain ⟨rfl, p_4_0⟩ := p_4
    have b_r_4 : 0 ≤ r_4.toInt ∧ r_4.toInt ≤ N := by rw [← p_4_0]; exact hI.1 4 (by decide)
    have c_r_4 := congrArg Int32.toInt p_4_0
    refine lv_iconst (v := 2) hx hb dX12_isByeSent_23 (by decide) ?_
    refine lv_iadd hx hb dX12_isByeSent_24 ?_
    refine lv_topi (fun x_5 ex_5 => ?_)
    have q_5 : x_5.toInt = r_4.toInt + 2 := i_pl rfl (by decide) ex_5 (by omega) (by omega)
    refine lv_icmp_ne (tgt := 32) hx hb dX12_isByeSent_25 (by decide) (fun c_6 => ?_) (fun c_6 => ?_)
    · have f_6 : ¬ r_3.toInt = x_5.toInt := r_ne rfl rfl c_6
      refine lv_iconst (v := 0) hx hb dX12_isByeSent_32 (by decide) ?_
      exact th_zret E hr hlk hs (Or.inl rfl) hT_4 hS_4 ⟨rfl, (Or.inl rfl)⟩ dX12_isByeSent_33
    · have f_6 : r_3.toInt = x_5.toInt := r_eq rfl rfl c_6
      refine lv_iconst (v := 1) hx hb dX12_isByeSent_28 (by decide) ?_
      refine lv_goto (tgt := 33) hx hb dX12_isByeSent_29 (by decide) ?_
      exact th_zret E hr hlk hs (Or.inr rfl) hT_4 hS_4 ⟨rfl, (Or.inr rfl)⟩ dX12_isByeSent_33
set_option maxHeartbeats 4000000 in
set_option maxRecDepth 100000 in
/-- the reference: set -/
theorem y_set_v27 (l : Launch) (D : va_G) (cI cS : ClassId) (τ : Nat → Option Nat) (ρ : Nat → Nat → Nat) (hW : WF τ ρ) (H : Heap) (hT : TH D cI cS τ ρ H) (a0 : Nat) (ha0 : τ a0 = some 12) : MV l D cI cS τ ρ yX12_set cX12_set 4 none 0 0 H [.ref a0, .int 0, .int 0, .int 10] (fun (u : Heap) => (AU 985 H u (ρ a0 0) 0 (10))) (fun q => q = ρ a0 0) := by
  refine MV.of (by decide) (Nat.le_of_ble_eq_true rfl) ?_
  intro p e s m args below meth c E hml hr hlk hs ls hl
  have hx := E.1
  have hb := E.2.1
  have hown := E.2.2.1
  have hts := E.2.2.2.1
  have hS : SS (fun q => q = ρ a0 0) H H [] := SS.rf
  have hl : lv_has ls 4 [(0, .ref a0), (1, .int 0), (2, .int 0), (3, .int 10)] := hl
  refine lv_aload_n hx hb dX12_set_0 rfl (lv_at hl 0 rfl) ?_
  refine gf_X12_7 E hT hW ha0 dX12_set_1 (fun h_1 => ?_)
  refine lv_sipush (v := 288) hx hb dX12_set_4 (by decide) ?_
  refine lv_iload_n hx hb dX12_set_7 rfl (lv_at hl 1 rfl) ?_
  refine lv_imul hx hb dX12_set_8 ?_
  refine th_topi (y := 0) (by decide) ?_
  refine lv_iload_n hx hb dX12_set_9 rfl (lv_at hl 2 rfl) ?_
  refine lv_iadd hx hb dX12_set_10 ?_
  refine th_topi (y := 0) (by decide) ?_
  refine lv_iload_n hx hb dX12_set_11 rfl (lv_at hl 3 rfl) ?_
  refine th_iast E hT hS h_1 rfl (by decide) (vp_in_iff.mpr ⟨by decide, by decide⟩) dX12_set_12 (fun H_2 locs_2 hT_2 hU_2 hS_2 => ?_)
  have hU_2 : AU 985 H H_2 (ρ a0 0) 0 (10) := hU_2
  exact th_vret E hr hlk hs hT_2 hS_2 hU_2 dX12_set_13
set_option maxHeartbeats 4000000 in
set_option maxRecDepth 100000 in
/-- the reference: set -/
theorem y_set_v28 (l : Launch) (D : va_G) (cI cS : ClassId) (τ : Nat → Option Nat) (ρ : Nat → Nat → Nat) (hW : WF τ ρ) (H : Heap) (hT : TH D cI cS τ ρ H) (a0 : Nat) (ha0 : τ a0 = some 12) : MV l D cI cS τ ρ yX12_set cX12_set 4 none 0 0 H [.ref a0, .int 0, .int 0, .int 6] (fun (u : Heap) => (AU 985 H u (ρ a0 0) 0 (6))) (fun q => q = ρ a0 0) := by
  refine MV.of (by decide) (Nat.le_of_ble_eq_true rfl) ?_
  intro p e s m args below meth c E hml hr hlk hs ls hl
  have hx := E.1
  have hb := E.2.1
  have hown := E.2.2.1
  have hts := E.2.2.2.1
  have hS : SS (fun q => q = ρ a0 0) H H [] := SS.rf
  have hl : lv_has ls 4 [(0, .ref a0), (1, .int 0), (2, .int 0), (3, .int 6)] := hl
  refine lv_aload_n hx hb dX12_set_0 rfl (lv_at hl 0 rfl) ?_
  refine gf_X12_7 E hT hW ha0 dX12_set_1 (fun h_1 => ?_)
  refine lv_sipush (v := 288) hx hb dX12_set_4 (by decide) ?_
  refine lv_iload_n hx hb dX12_set_7 rfl (lv_at hl 1 rfl) ?_
  refine lv_imul hx hb dX12_set_8 ?_
  refine th_topi (y := 0) (by decide) ?_
  refine lv_iload_n hx hb dX12_set_9 rfl (lv_at hl 2 rfl) ?_
  refine lv_iadd hx hb dX12_set_10 ?_
  refine th_topi (y := 0) (by decide) ?_
  refine lv_iload_n hx hb dX12_set_11 rfl (lv_at hl 3 rfl) ?_
  refine th_iast E hT hS h_1 rfl (by decide) (vp_in_iff.mpr ⟨by decide, by decide⟩) dX12_set_12 (fun H_2 locs_2 hT_2 hU_2 hS_2 => ?_)
  have hU_2 : AU 985 H H_2 (ρ a0 0) 0 (6) := hU_2
  exact th_vret E hr hlk hs hT_2 hS_2 hU_2 dX12_set_13
set_option maxHeartbeats 4000000 in
set_option maxRecDepth 100000 in
/-- the reference: set -/
theorem y_set_v29 (l : Launch) (D : va_G) (cI cS : ClassId) (τ : Nat → Option Nat) (ρ : Nat → Nat → Nat) (hW : WF τ ρ) (H : Heap) (hT : TH D cI cS τ ρ H) (a0 : Nat) (ha0 : τ a0 = some 12) : MV l D cI cS τ ρ yX12_set cX12_set 4 none 0 0 H [.ref a0, .int 0, .int 0, .int 0] (fun (u : Heap) => (AU 985 H u (ρ a0 0) 0 (0))) (fun q => q = ρ a0 0) := by
  refine MV.of (by decide) (Nat.le_of_ble_eq_true rfl) ?_
  intro p e s m args below meth c E hml hr hlk hs ls hl
  have hx := E.1
  have hb := E.2.1
  have hown := E.2.2.1
  have hts := E.2.2.2.1
  have hS : SS (fun q => q = ρ a0 0) H H [] := SS.rf
  have hl : lv_has ls 4 [(0, .ref a0), (1, .int 0), (2, .int 0), (3, .int 0)] := hl
  refine lv_aload_n hx hb dX12_set_0 rfl (lv_at hl 0 rfl) ?_
  refine gf_X12_7 E hT hW ha0 dX12_set_1 (fun h_1 => ?_)
  refine lv_sipush (v := 288) hx hb dX12_set_4 (by decide) ?_
  refine lv_iload_n hx hb dX12_set_7 rfl (lv_at hl 1 rfl) ?_
  refine lv_imul hx hb dX12_set_8 ?_
  refine th_topi (y := 0) (by decide) ?_
  refine lv_iload_n hx hb dX12_set_9 rfl (lv_at hl 2 rfl) ?_
  refine lv_iadd hx hb dX12_set_10 ?_
  refine th_topi (y := 0) (by decide) ?_
  refine lv_iload_n hx hb dX12_set_11 rfl (lv_at hl 3 rfl) ?_
  refine th_iast E hT hS h_1 rfl (by decide) (vp_in_iff.mpr ⟨by decide, by decide⟩) dX12_set_12 (fun H_2 locs_2 hT_2 hU_2 hS_2 => ?_)
  have hU_2 : AU 985 H H_2 (ρ a0 0) 0 (0) := hU_2
  exact th_vret E hr hlk hs hT_2 hS_2 hU_2 dX12_set_13
set_option maxHeartbeats 4000000 in
set_option maxRecDepth 100000 in
/-- the reference: set -/
theorem y_set_v30 (l : Launch) (D : va_G) (cI cS : ClassId) (τ : Nat → Option Nat) (ρ : Nat → Nat → Nat) (hW : WF τ ρ) (H : Heap) (hT : TH D cI cS τ ρ H) (a0 : Nat) (ha0 : τ a0 = some 12) : MV l D cI cS τ ρ yX12_set cX12_set 4 none 0 0 H [.ref a0, .int 0, .int 12, .int 0] (fun (u : Heap) => (AU 985 H u (ρ a0 0) 12 (0))) (fun q => q = ρ a0 0) := by
  refine MV.of (by decide) (Nat.le_of_ble_eq_true rfl) ?_
  intro p e s m args below meth c E hml hr hlk hs ls hl
  have hx := E.1
  have hb := E.2.1
  have hown := E.2.2.1
  have hts := E.2.2.2.1
  have hS : SS (fun q => q = ρ a0 0) H H [] := SS.rf
  have hl : lv_has ls 4 [(0, .ref a0), (1, .int 0), (2, .int 12), (3, .int 0)] := hl
  refine lv_aload_n hx hb dX12_set_0 rfl (lv_at hl 0 rfl) ?_
  refine gf_X12_7 E hT hW ha0 dX12_set_1 (fun h_1 => ?_)
  refine lv_sipush (v := 288) hx hb dX12_set_4 (by decide) ?_
  refine lv_iload_n hx hb dX12_set_7 rfl (lv_at hl 1 rfl) ?_
  refine lv_imul hx hb dX12_set_8 ?_
  refine th_topi (y := 0) (by decide) ?_
  refine lv_iload_n hx hb dX12_set_9 rfl (lv_at hl 2 rfl) ?_
  refine lv_iadd hx hb dX12_set_10 ?_
  refine th_topi (y := 12) (by decide) ?_
  refine lv_iload_n hx hb dX12_set_11 rfl (lv_at hl 3 rfl) ?_
  refine th_iast E hT hS h_1 rfl (by decide) (vp_in_iff.mpr ⟨by decide, by decide⟩) dX12_set_12 (fun H_2 locs_2 hT_2 hU_2 hS_2 => ?_)
  have hU_2 : AU 985 H H_2 (ρ a0 0) 12 (0) := hU_2
  exact th_vret E hr hlk hs hT_2 hS_2 hU_2 dX12_set_13
set_option maxHeartbeats 4000000 in
set_option maxRecDepth 100000 in
/-- the reference: shuts -/
theorem y_shuts (l : Launch) (D : va_G) (cI cS : ClassId) (τ : Nat → Option Nat) (ρ : Nat → Nat → Nat) (hW : WF τ ρ) (H : Heap) (hT : TH D cI cS τ ρ H) (a0 : Nat) (ha0 : τ a0 = some 12) (N : Int) (hN0 : 0 ≤ N) (hN1 : N ≤ 600) (hI : IM D ρ N H a0) : MV l D cI cS τ ρ yX12_shuts cX12_shuts 2 none 1 23 H [.ref a0, .int 0] (fun (u : Heap) => (IM D ρ N u a0) ∧ ((ai H (ρ a0 0) 976).toInt ≤ (ai u (ρ a0 0) 976).toInt)) (fun q => q = ρ a0 0) := by
  refine MV.of (by decide) (Nat.le_of_ble_eq_true rfl) ?_
  intro p e s m args below meth c E hml hr hlk hs ls hl
  have hx := E.1
  have hb := E.2.1
  have hown := E.2.2.1
  have hts := E.2.2.2.1
  have hS : SS (fun q => q = ρ a0 0) H H [] := SS.rf
  have hl : lv_has ls 2 [(0, .ref a0), (1, .int 0)] := hl
  have n01 := hI.2.2.2.2.2.1
  have n23 := hI.2.2.2.2.2.2.1
  refine lv_aload_n hx hb dX12_shuts_0 rfl (lv_at hl 0 rfl) ?_
  refine lv_iload_n hx hb dX12_shuts_1 rfl (lv_at hl 1 rfl) ?_
  refine lv_iconst (v := 0) hx hb dX12_shuts_2 (by decide) ?_
  refine lv_iconst (v := 0) hx hb dX12_shuts_3 (by decide) ?_
  refine th_Vv (As := [.int 0, .int 0, .int 0]) (rest := []) E hml hl.1 (y_set_v29 l D cI cS τ ρ hW H hT a0 ha0) lk_X12_95 yd_X12_set hT ha0 rfl (by decide) hS (fun q h => h) ⟨by decide, by decide⟩ (Nat.le_of_ble_eq_true rfl) ⟨by decide, by decide⟩ rfl dX12_shuts_4 (fun H_1 locs_1 p_1 hT_1 hk_1 hS_1 => ?_)
  have p_1 : (AU 985 H H_1 (ρ a0 0) 0 (0)) := p_1
  have hW_1 : PW N H_1 (ρ a0 0) := PW.put hI.1 p_1 (by show (-2147483648 : Int) ≤ _; exact i_min _) (by show _ ≤ (2147483647 : Int); exact i_max _)
  refine lv_aload_n hx hb dX12_shuts_7 rfl (lv_at hl 0 rfl) ?_
  refine lv_iload_n hx hb dX12_shuts_8 rfl (lv_at hl 1 rfl) ?_
  refine lv_bipush (v := 11) hx hb dX12_shuts_9 (by decide) ?_
  refine lv_iconst (v := 0) hx hb dX12_shuts_11 (by decide) ?_
  refine th_Vv (As := [.int 0, .int 11, .int 0]) (rest := []) E hml hl.1 (y_set_v10 l D cI cS τ ρ hW H_1 hT_1 a0 ha0) lk_X12_95 yd_X12_set hT_1 ha0 rfl (by decide) hS_1 (fun q h => h) ⟨by decide, by decide⟩ (Nat.le_of_ble_eq_true rfl) ⟨by decide, by decide⟩ rfl dX12_shuts_12 (fun H_2 locs_2 p_2 hT_2 hk_2 hS_2 => ?_)
  have p_2 : (AU 985 H_1 H_2 (ρ a0 0) 11 (0)) := p_2
  have hW_2 : PW N H_2 (ρ a0 0) := PW.put hW_1 p_2 (by show (-2147483648 : Int) ≤ _; exact i_min _) (by show _ ≤ (2147483647 : Int); exact i_max _)
  refine lv_aload_n hx hb dX12_shuts_15 rfl (lv_at hl 0 rfl) ?_
  refine lv_iload_n hx hb dX12_shuts_16 rfl (lv_at hl 1 rfl) ?_
  refine lv_bipush (v := 12) hx hb dX12_shuts_17 (by decide) ?_
  refine lv_iconst (v := 0) hx hb dX12_shuts_19 (by decide) ?_
  refine th_Vv (As := [.int 0, .int 12, .int 0]) (rest := []) E hml hl.1 (y_set_v30 l D cI cS τ ρ hW H_2 hT_2 a0 ha0) lk_X12_95 yd_X12_set hT_2 ha0 rfl (by decide) hS_2 (fun q h => h) ⟨by decide, by decide⟩ (Nat.le_of_ble_eq_true rfl) ⟨by decide, by decide⟩ rfl dX12_shuts_20 (fun H_3 locs_3 p_3 hT_3 hk_3 hS_3 => ?_)
  have p_3 : (AU 985 H_2 H_3 (ρ a0 0) 12 (0)) := p_3
  have hW_3 : PW N H_3 (ρ a0 0) := PW.put hW_2 p_3 (by show (-2147483648 : Int) ≤ _; exact i_min _) (by show _ ≤ (2147483647 : Int); exact i_max _)
  exact th_vret E hr hlk hs hT_3 hS_3 ⟨⟨hW_3, (QS.of (s := (0 : Int32)) (t := (ai H (ρ a0 0) 2 : Int32)) (Eq.trans (AU.o p_3 (by decide) (by decide)) (Eq.trans (AU.o p_2 (by decide) (by decide)) (AU.s p_1 (by decide)))) (Eq.trans (AU.o p_3 (by decide) (by decide)) (Eq.trans (AU.o p_2 (by decide) (by decide)) (AU.o p_1 (by decide) (by decide)))) (by have j := hI.2.1; unfold QS at j; have : (0 : Int32).toInt = 0 := (by decide); omega)), (QS.same (Eq.trans (AU.o p_3 (by decide) (by decide)) (Eq.trans (AU.o p_2 (by decide) (by decide)) (AU.o p_1 (by decide) (by decide)))) (Eq.trans (AU.o p_3 (by decide) (by decide)) (Eq.trans (AU.o p_2 (by decide) (by decide)) (AU.o p_1 (by decide) (by decide)))) hI.2.2.1), (PL.q (p_3.2 _ (th_ne (hW _ 12 2 ha0 (by decide) (by decide) (by decide)) (hW _ 12 0 ha0 (by decide) (by decide) (by decide)) (by decide))) (PL.q (p_2.2 _ (th_ne (hW _ 12 2 ha0 (by decide) (by decide) (by decide)) (hW _ 12 0 ha0 (by decide) (by decide) (by decide)) (by decide))) (PL.q (p_1.2 _ (th_ne (hW _ 12 2 ha0 (by decide) (by decide) (by decide)) (hW _ 12 0 ha0 (by decide) (by decide) (by decide)) (by decide))) hI.2.2.2.1))), (PL.q (p_3.2 _ (th_ne (hW _ 12 3 ha0 (by decide) (by decide) (by decide)) (hW _ 12 0 ha0 (by decide) (by decide) (by decide)) (by decide))) (PL.q (p_2.2 _ (th_ne (hW _ 12 3 ha0 (by decide) (by decide) (by decide)) (hW _ 12 0 ha0 (by decide) (by decide) (by decide)) (by decide))) (PL.q (p_1.2 _ (th_ne (hW _ 12 3 ha0 (by decide) (by decide) (by decide)) (hW _ 12 0 ha0 (by decide) (by decide) (by decide)) (by decide))) hI.2.2.2.2.1))), (IF.q (p_3.2 _ (th_ne ha0 (hW _ 12 0 ha0 (by decide) (by decide) (by decide)) (by decide))) (IF.q (p_2.2 _ (th_ne ha0 (hW _ 12 0 ha0 (by decide) (by decide) (by decide)) (by decide))) (IF.q (p_1.2 _ (th_ne ha0 (hW _ 12 0 ha0 (by decide) (by decide) (by decide)) (by decide))) hI.2.2.2.2.2)))⟩, (by rw [(Eq.trans (AU.o p_3 (by decide) (by decide)) (Eq.trans (AU.o p_2 (by decide) (by decide)) (AU.o p_1 (by decide) (by decide))))]; omega)⟩ dX12_shuts_23
set_option maxHeartbeats 4000000 in
set_option maxRecDepth 100000 in
/-- the reference: get -/
theorem y_get_v27 (l : Launch) (D : va_G) (cI cS : ClassId) (τ : Nat → Option Nat) (ρ : Nat → Nat → Nat) (hW : WF τ ρ) (H : Heap) (hT : TH D cI cS τ ρ H) (a0 : Nat) (ha0 : τ a0 = some 12) : MI l D cI cS τ ρ yX12_get cX12_get 3 (some .int) 0 0 H [.ref a0, .int 0, .int 15] (fun (r : Int32) (u : Heap) => (H = u) ∧ (ai H (ρ a0 0) 15 = r)) (fun q => False) := by
  refine MI.of (by decide) (Nat.le_of_ble_eq_true rfl) ?_
  intro p e s m args below meth c E hml hr hlk hs ls hl
  have hx := E.1
  have hb := E.2.1
  have hown := E.2.2.1
  have hts := E.2.2.2.1
  have hS : SS (fun q => False) H H [] := SS.rf
  have hl : lv_has ls 3 [(0, .ref a0), (1, .int 0), (2, .int 15)] := hl
  refine lv_aload_n hx hb dX12_get_0 rfl (lv_at hl 0 rfl) ?_
  refine gf_X12_7 E hT hW ha0 dX12_get_1 (fun h_1 => ?_)
  refine lv_sipush (v := 288) hx hb dX12_get_4 (by decide) ?_
  refine lv_iload_n hx hb dX12_get_7 rfl (lv_at hl 1 rfl) ?_
  refine lv_imul hx hb dX12_get_8 ?_
  refine th_topi (y := 0) (by decide) ?_
  refine lv_iload_n hx hb dX12_get_9 rfl (lv_at hl 2 rfl) ?_
  refine lv_iadd hx hb dX12_get_10 ?_
  refine th_topi (y := 15) (by decide) ?_
  refine th_iald E hT h_1 (by decide) (vp_in_iff.mpr ⟨by decide, by decide⟩) dX12_get_11 ?_
  refine th_topi (y := ai H (ρ a0 0) 15) rfl ?_
  refine lv_topi (fun x_2 ex_2 => ?_)
  have c_x_2 := congrArg Int32.toInt ex_2.symm
  exact th_iret E hr hlk hs hT hS ⟨rfl, ex_2.symm⟩ dX12_get_12
