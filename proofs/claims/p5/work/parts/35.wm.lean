/-! THE REFERENCE: weak contracts (written by wip/gen) -/
set_option maxHeartbeats 4000000 in
set_option maxRecDepth 100000 in
/-- the reference: makes -/
theorem y_makes_v10 (l : Launch) (D : va_G) (cI cS : ClassId) (τ : Nat → Option Nat) (ρ : Nat → Nat → Nat) (hW : WF τ ρ) (H : Heap) (hT : TH D cI cS τ ρ H) (a0 : Nat) (x2 : Int32) (ha0 : τ a0 = some 12) (N : Int) (hN0 : 0 ≤ N) (hN1 : N ≤ 600) (hI : IM D ρ N H a0) : MV l D cI cS τ ρ yX12_makes cX12_makes 5 none 0 0 H [.ref a0, .int 0, .int 8, .int x2] (fun (u : Heap) => (IM D ρ N u a0) ∧ ((ai H (ρ a0 0) 976).toInt ≤ (ai u (ρ a0 0) 976).toInt)) (fun q => q = ρ a0 2) := by
  refine MV.of (by decide) (Nat.le_of_ble_eq_true rfl) ?_
  intro p e s m args below meth c E hml hr hlk hs ls hl
  have hx := E.1
  have hb := E.2.1
  have hown := E.2.2.1
  have hts := E.2.2.2.1
  have hS : SS (fun q => q = ρ a0 2) H H [] := SS.rf
  have hl : lv_has ls 5 [(0, .ref a0), (1, .int 0), (2, .int 8), (3, .int x2)] := hl
  have n01 := hI.2.2.2.2.2.1
  have n23 := hI.2.2.2.2.2.2.1
  have L_3 : ∀ (n : Nat) (H_c3 : Heap) (lc_c3 : List Loc) (ls : Array Slot) (y3_4 : Int32), TH D cI cS τ ρ H_c3 → SS (fun q => q = ρ a0 2) H H_c3 lc_c3 → lv_has ls 5 [(0, .ref a0), (1, .int 0), (2, .int 8), (3, .int x2), (4, .int y3_4)] → 0 ≤ y3_4.toInt → IM D ρ N H_c3 a0 → (ai H (ρ a0 0) 976).toInt ≤ (ai H_c3 (ρ a0 0) 976).toInt → (20 - y3_4.toInt).toNat < n → W p l e (rmO 0 0) s m args below meth c H_c3 lc_c3 0 0 (MQ below (va_Qv (fun (u : Heap) => (IM D ρ N u a0) ∧ ((ai H (ρ a0 0) 976).toInt ≤ (ai u (ρ a0 0) 976).toInt)) (Bt D cI cS τ ρ H) (fun q => q = ρ a0 2)) args s 0 0 (fun q => q = ρ a0 2)) (F0 m 3 ls []) := by
    intro n
    induction n with
    | zero => intro H_c3 lc_c3 ls y3_4 hT_c3 hS_c3 hl ly3_4 hI_c3 hmn_c3 hm; exact absurd hm (Nat.not_lt_zero _)
    | succ n ih_3 =>
      intro H_c3 lc_c3 ls y3_4 hT_c3 hS_c3 hl ly3_4 hI_c3 hmn_c3 hm_3
      refine lv_iload hx hb dX12_makes_3 (lv_at hl 4 rfl) ?_
      refine lv_bipush (v := 20) hx hb dX12_makes_5 (by decide) ?_
      refine lv_icmp_ge (tgt := 55) hx hb dX12_makes_7 (by decide) (fun c_1 => ?_) (fun c_1 => ?_)
      · have f_1 : 20 ≤ y3_4.toInt := r_le (by decide) rfl c_1
        refine lv_aload_n hx hb dX12_makes_55 rfl (lv_at hl 0 rfl) ?_
        refine gf_X12_16 E hT_c3 hW ha0 dX12_makes_56 (fun h_2 => ?_)
        refine lv_iconst (v := 0) hx hb dX12_makes_59 (by decide) ?_
        refine lv_iload_n hx hb dX12_makes_60 rfl (lv_at hl 1 rfl) ?_
        refine th_iast E hT_c3 hS_c3 h_2 rfl (by decide) (vp_in_iff.mpr ⟨by decide, by decide⟩) dX12_makes_61 (fun H_3 locs_3 hT_3 hU_3 hS_3 => ?_)
        have hU_3 : AU 20 H_c3 H_3 (ρ a0 2) 0 (0) := hU_3
        have hL_3 : PL H_3 (ρ a0 2) := PL.put hI_c3.2.2.2.1 hU_3 (by show (0 : Int) ≤ (0 : Int32).toInt; have : (0 : Int32).toInt = 0 := (by decide); omega) (by show (0 : Int32).toInt ≤ (1 : Int); have : (0 : Int32).toInt = 0 := (by decide); omega)
        refine lv_aload_n hx hb dX12_makes_62 rfl (lv_at hl 0 rfl) ?_
        refine gf_X12_16 E hT_3 hW ha0 dX12_makes_63 (fun h_4 => ?_)
        refine lv_iconst (v := 1) hx hb dX12_makes_66 (by decide) ?_
        refine lv_iload_n hx hb dX12_makes_67 rfl (lv_at hl 2 rfl) ?_
        refine th_iast E hT_3 hS_3 h_4 rfl (by decide) (vp_in_iff.mpr ⟨by decide, by decide⟩) dX12_makes_68 (fun H_5 locs_5 hT_5 hU_5 hS_5 => ?_)
        have hU_5 : AU 20 H_3 H_5 (ρ a0 2) 1 (8) := hU_5
        have hL_5 : PL H_5 (ρ a0 2) := PL.put hL_3 hU_5 (by show (-2147483648 : Int) ≤ _; exact i_min _) (by show _ ≤ (2147483647 : Int); exact i_max _)
        refine lv_aload_n hx hb dX12_makes_69 rfl (lv_at hl 0 rfl) ?_
        refine gf_X12_16 E hT_5 hW ha0 dX12_makes_70 (fun h_6 => ?_)
        refine lv_iconst (v := 2) hx hb dX12_makes_73 (by decide) ?_
        refine lv_iload_n hx hb dX12_makes_74 rfl (lv_at hl 3 rfl) ?_
        refine th_iast E hT_5 hS_5 h_6 rfl (by decide) (vp_in_iff.mpr ⟨by decide, by decide⟩) dX12_makes_75 (fun H_7 locs_7 hT_7 hU_7 hS_7 => ?_)
        have hU_7 : AU 20 H_5 H_7 (ρ a0 2) 2 x2 := hU_7
        have hL_7 : PL H_7 (ρ a0 2) := PL.put hL_5 hU_7 (by show (-2147483648 : Int) ≤ _; exact i_min _) (by show _ ≤ (2147483647 : Int); exact i_max _)
        refine lv_iload_n hx hb dX12_makes_76 rfl (lv_at hl 2 rfl) ?_
        refine lv_iconst (v := 4) hx hb dX12_makes_77 (by decide) ?_
        refine lv_iand hx hb dX12_makes_78 ?_
        refine th_topi (y := 0) (by decide) ?_
        refine lv_if_le (tgt := 133) hx hb dX12_makes_79 (by decide) (fun c_8 => ?_) (fun c_8 => absurd (by decide) c_8)
        exact th_vret E hr hlk hs hT_7 hS_7 ⟨⟨(PW.q (hU_7.2 _ (th_ne (hW _ 12 0 ha0 (by decide) (by decide) (by decide)) (hW _ 12 2 ha0 (by decide) (by decide) (by decide)) (by decide))) (PW.q (hU_5.2 _ (th_ne (hW _ 12 0 ha0 (by decide) (by decide) (by decide)) (hW _ 12 2 ha0 (by decide) (by decide) (by decide)) (by decide))) (PW.q (hU_3.2 _ (th_ne (hW _ 12 0 ha0 (by decide) (by decide) (by decide)) (hW _ 12 2 ha0 (by decide) (by decide) (by decide)) (by decide))) hI_c3.1))), (QS.same (Eq.trans (ai_q (hU_7.2 _ (th_ne (hW _ 12 0 ha0 (by decide) (by decide) (by decide)) (hW _ 12 2 ha0 (by decide) (by decide) (by decide)) (by decide)))) (Eq.trans (ai_q (hU_5.2 _ (th_ne (hW _ 12 0 ha0 (by decide) (by decide) (by decide)) (hW _ 12 2 ha0 (by decide) (by decide) (by decide)) (by decide)))) (ai_q (hU_3.2 _ (th_ne (hW _ 12 0 ha0 (by decide) (by decide) (by decide)) (hW _ 12 2 ha0 (by decide) (by decide) (by decide)) (by decide)))))) (Eq.trans (ai_q (hU_7.2 _ (th_ne (hW _ 12 0 ha0 (by decide) (by decide) (by decide)) (hW _ 12 2 ha0 (by decide) (by decide) (by decide)) (by decide)))) (Eq.trans (ai_q (hU_5.2 _ (th_ne (hW _ 12 0 ha0 (by decide) (by decide) (by decide)) (hW _ 12 2 ha0 (by decide) (by decide) (by decide)) (by decide)))) (ai_q (hU_3.2 _ (th_ne (hW _ 12 0 ha0 (by decide) (by decide) (by decide)) (hW _ 12 2 ha0 (by decide) (by decide) (by decide)) (by decide)))))) hI_c3.2.1), (QS.same (Eq.trans (ai_q (hU_7.2 _ (th_ne (hW _ 12 0 ha0 (by decide) (by decide) (by decide)) (hW _ 12 2 ha0 (by decide) (by decide) (by decide)) (by decide)))) (Eq.trans (ai_q (hU_5.2 _ (th_ne (hW _ 12 0 ha0 (by decide) (by decide) (by decide)) (hW _ 12 2 ha0 (by decide) (by decide) (by decide)) (by decide)))) (ai_q (hU_3.2 _ (th_ne (hW _ 12 0 ha0 (by decide) (by decide) (by decide)) (hW _ 12 2 ha0 (by decide) (by decide) (by decide)) (by decide)))))) (Eq.trans (ai_q (hU_7.2 _ (th_ne (hW _ 12 0 ha0 (by decide) (by decide) (by decide)) (hW _ 12 2 ha0 (by decide) (by decide) (by decide)) (by decide)))) (Eq.trans (ai_q (hU_5.2 _ (th_ne (hW _ 12 0 ha0 (by decide) (by decide) (by decide)) (hW _ 12 2 ha0 (by decide) (by decide) (by decide)) (by decide)))) (ai_q (hU_3.2 _ (th_ne (hW _ 12 0 ha0 (by decide) (by decide) (by decide)) (hW _ 12 2 ha0 (by decide) (by decide) (by decide)) (by decide)))))) hI_c3.2.2.1), hL_7, (PL.q (hU_7.2 _ (Ne.symm n23)) (PL.q (hU_5.2 _ (Ne.symm n23)) (PL.q (hU_3.2 _ (Ne.symm n23)) hI_c3.2.2.2.2.1))), (IF.q (hU_7.2 _ (th_ne ha0 (hW _ 12 2 ha0 (by decide) (by decide) (by decide)) (by decide))) (IF.q (hU_5.2 _ (th_ne ha0 (hW _ 12 2 ha0 (by decide) (by decide) (by decide)) (by decide))) (IF.q (hU_3.2 _ (th_ne ha0 (hW _ 12 2 ha0 (by decide) (by decide) (by decide)) (by decide))) hI_c3.2.2.2.2.2)))⟩, (by rw [(Eq.trans (ai_q (hU_7.2 _ (th_ne (hW _ 12 0 ha0 (by decide) (by decide) (by decide)) (hW _ 12 2 ha0 (by decide) (by decide) (by decide)) (by decide)))) (Eq.trans (ai_q (hU_5.2 _ (th_ne (hW _ 12 0 ha0 (by decide) (by decide) (by decide)) (hW _ 12 2 ha0 (by decide) (by decide) (by decide)) (by decide)))) (ai_q (hU_3.2 _ (th_ne (hW _ 12 0 ha0 (by decide) (by decide) (by decide)) (hW _ 12 2 ha0 (by decide) (by decide) (by decide)) (by decide))))))]; omega)⟩ dX12_makes_133
      · have f_1 : y3_4.toInt < 20 := r_nle (by decide) rfl c_1
        refine lv_aload_n hx hb dX12_makes_10 rfl (lv_at hl 0 rfl) ?_
        refine gf_X12_16 E hT_c3 hW ha0 dX12_makes_11 (fun h_9 => ?_)
        refine lv_iload hx hb dX12_makes_14 (lv_at hl 4 rfl) ?_
        refine lv_iload hx hb dX12_makes_16 (lv_at hl 4 rfl) ?_
        refine lv_iconst (v := 3) hx hb dX12_makes_18 (by decide) ?_
        refine lv_icmp_lt (tgt := 42) hx hb dX12_makes_19 (by decide) (fun c_10 => ?_) (fun c_10 => ?_)
        · have f_10 : y3_4.toInt < 3 := r_lt rfl (by decide) c_10
          refine lv_iconst (v := 0) hx hb dX12_makes_42 (by decide) ?_
          refine lv_goto (tgt := 48) hx hb dX12_makes_43 (by decide) ?_
          refine th_iast E hT_c3 hS_c3 h_9 rfl (by decide) (vp_in_iff.mpr ⟨by omega, by omega⟩) dX12_makes_48 (fun H_11 locs_11 hT_11 hU_11 hS_11 => ?_)
          have hU_11 : AU 20 H_c3 H_11 (ρ a0 2) y3_4.toInt.toNat (0) := hU_11
          have hL_11 : PL H_11 (ρ a0 2) := PL.zero hI_c3.2.2.2.1 hU_11
          obtain ⟨x_12, ex_12⟩ : ∃ y : Int32, y3_4 + 1 = y := ⟨_, rfl⟩
          have q_x_12 : x_12.toInt = y3_4.toInt + 1 := i_add (k := 1) (by decide) ex_12 (by have := i_min y3_4; omega) (by have := i_max y3_4; omega)
          refine lv_iinc (v := x_12) (lv' := [(4, .int x_12), (0, .ref a0), (1, .int 0), (2, .int 8), (3, .int x2)]) hx hb dX12_makes_49 hl (k := 4) rfl (by rw [← ex_12]; rfl) (by decide) rfl (fun ls hl => ?_)
          refine lv_goto (tgt := 3) hx hb dX12_makes_52 (by decide) ?_
          exact ih_3 H_11 locs_11 _ x_12 hT_11 hS_11 (lv_sub hl [1, 2, 3, 4, 0] rfl) (by omega) ⟨(PW.q (hU_11.2 _ (th_ne (hW _ 12 0 ha0 (by decide) (by decide) (by decide)) (hW _ 12 2 ha0 (by decide) (by decide) (by decide)) (by decide))) hI_c3.1), (QS.same (ai_q (hU_11.2 _ (th_ne (hW _ 12 0 ha0 (by decide) (by decide) (by decide)) (hW _ 12 2 ha0 (by decide) (by decide) (by decide)) (by decide)))) (ai_q (hU_11.2 _ (th_ne (hW _ 12 0 ha0 (by decide) (by decide) (by decide)) (hW _ 12 2 ha0 (by decide) (by decide) (by decide)) (by decide)))) hI_c3.2.1), (QS.same (ai_q (hU_11.2 _ (th_ne (hW _ 12 0 ha0 (by decide) (by decide) (by decide)) (hW _ 12 2 ha0 (by decide) (by decide) (by decide)) (by decide)))) (ai_q (hU_11.2 _ (th_ne (hW _ 12 0 ha0 (by decide) (by decide) (by decide)) (hW _ 12 2 ha0 (by decide) (by decide) (by decide)) (by decide)))) hI_c3.2.2.1), hL_11, (PL.q (hU_11.2 _ (Ne.symm n23)) hI_c3.2.2.2.2.1), (IF.q (hU_11.2 _ (th_ne ha0 (hW _ 12 2 ha0 (by decide) (by decide) (by decide)) (by decide))) hI_c3.2.2.2.2.2)⟩ (by rw [(ai_q (hU_11.2 _ (th_ne (hW _ 12 0 ha0 (by decide) (by decide) (by decide)) (hW _ 12 2 ha0 (by decide) (by decide) (by decide)) (by decide))))]; omega) (by omega)
        · have f_10 : 3 ≤ y3_4.toInt := r_nlt rfl (by decide) c_10
          refine lv_iload hx hb dX12_makes_22 (lv_at hl 4 rfl) ?_
          refine lv_iconst (v := 5) hx hb dX12_makes_24 (by decide) ?_
          refine lv_icmp_eq (tgt := 42) hx hb dX12_makes_25 (by decide) (fun c_13 => ?_) (fun c_13 => ?_)
          · have f_13 : y3_4.toInt = 5 := r_eq rfl (by decide) c_13
            refine lv_iconst (v := 0) hx hb dX12_makes_42 (by decide) ?_
            refine lv_goto (tgt := 48) hx hb dX12_makes_43 (by decide) ?_
            refine th_iast E hT_c3 hS_c3 h_9 rfl (by decide) (vp_in_iff.mpr ⟨by omega, by omega⟩) dX12_makes_48 (fun H_14 locs_14 hT_14 hU_14 hS_14 => ?_)
            have hU_14 : AU 20 H_c3 H_14 (ρ a0 2) y3_4.toInt.toNat (0) := hU_14
            have hL_14 : PL H_14 (ρ a0 2) := PL.zero hI_c3.2.2.2.1 hU_14
            obtain ⟨x_15, ex_15⟩ : ∃ y : Int32, y3_4 + 1 = y := ⟨_, rfl⟩
            have q_x_15 : x_15.toInt = y3_4.toInt + 1 := i_add (k := 1) (by decide) ex_15 (by have := i_min y3_4; omega) (by have := i_max y3_4; omega)
            refine lv_iinc (v := x_15) (lv' := [(4, .int x_15), (0, .ref a0), (1, .int 0), (2, .int 8), (3, .int x2)]) hx hb dX12_makes_49 hl (k := 4) rfl (by rw [← ex_15]; rfl) (by decide) rfl (fun ls hl => ?_)
            refine lv_goto (tgt := 3) hx hb dX12_makes_52 (by decide) ?_
            exact ih_3 H_14 locs_14 _ x_15 hT_14 hS_14 (lv_sub hl [1, 2, 3, 4, 0] rfl) (by omega) ⟨(PW.q (hU_14.2 _ (th_ne (hW _ 12 0 ha0 (by decide) (by decide) (by decide)) (hW _ 12 2 ha0 (by decide) (by decide) (by decide)) (by decide))) hI_c3.1), (QS.same (ai_q (hU_14.2 _ (th_ne (hW _ 12 0 ha0 (by decide) (by decide) (by decide)) (hW _ 12 2 ha0 (by decide) (by decide) (by decide)) (by decide)))) (ai_q (hU_14.2 _ (th_ne (hW _ 12 0 ha0 (by decide) (by decide) (by decide)) (hW _ 12 2 ha0 (by decide) (by decide) (by decide)) (by decide)))) hI_c3.2.1), (QS.same (ai_q (hU_14.2 _ (th_ne (hW _ 12 0 ha0 (by decide) (by decide) (by decide)) (hW _ 12 2 ha0 (by decide) (by decide) (by decide)) (by decide)))) (ai_q (hU_14.2 _ (th_ne (hW _ 12 0 ha0 (by decide) (by decide) (by decide)) (hW _ 12 2 ha0 (by decide) (by decide) (by decide)) (by decide)))) hI_c3.2.2.1), hL_14, (PL.q (hU_14.2 _ (Ne.symm n23)) hI_c3.2.2.2.2.1), (IF.q (hU_14.2 _ (th_ne ha0 (hW _ 12 2 ha0 (by decide) (by decide) (by decide)) (by decide))) hI_c3.2.2.2.2.2)⟩ (by rw [(ai_q (hU_14.2 _ (th_ne (hW _ 12 0 ha0 (by decide) (by decide) (by decide)) (hW _ 12 2 ha0 (by decide) (by decide) (by decide)) (by decide))))]; omega) (by omega)
          · have f_13 : ¬ y3_4.toInt = 5 := r_ne rfl (by decide) c_13
            refine lv_iload hx hb dX12_makes_28 (lv_at hl 4 rfl) ?_
            refine lv_bipush (v := 6) hx hb dX12_makes_30 (by decide) ?_
            refine lv_icmp_eq (tgt := 42) hx hb dX12_makes_32 (by decide) (fun c_16 => ?_) (fun c_16 => ?_)
            · have f_16 : y3_4.toInt = 6 := r_eq rfl (by decide) c_16
              refine lv_iconst (v := 0) hx hb dX12_makes_42 (by decide) ?_
              refine lv_goto (tgt := 48) hx hb dX12_makes_43 (by decide) ?_
              refine th_iast E hT_c3 hS_c3 h_9 rfl (by decide) (vp_in_iff.mpr ⟨by omega, by omega⟩) dX12_makes_48 (fun H_17 locs_17 hT_17 hU_17 hS_17 => ?_)
              have hU_17 : AU 20 H_c3 H_17 (ρ a0 2) y3_4.toInt.toNat (0) := hU_17
              have hL_17 : PL H_17 (ρ a0 2) := PL.zero hI_c3.2.2.2.1 hU_17
              obtain ⟨x_18, ex_18⟩ : ∃ y : Int32, y3_4 + 1 = y := ⟨_, rfl⟩
              have q_x_18 : x_18.toInt = y3_4.toInt + 1 := i_add (k := 1) (by decide) ex_18 (by have := i_min y3_4; omega) (by have := i_max y3_4; omega)
              refine lv_iinc (v := x_18) (lv' := [(4, .int x_18), (0, .ref a0), (1, .int 0), (2, .int 8), (3, .int x2)]) hx hb dX12_makes_49 hl (k := 4) rfl (by rw [← ex_18]; rfl) (by decide) rfl (fun ls hl => ?_)
              refine lv_goto (tgt := 3) hx hb dX12_makes_52 (by decide) ?_
              exact ih_3 H_17 locs_17 _ x_18 hT_17 hS_17 (lv_sub hl [1, 2, 3, 4, 0] rfl) (by omega) ⟨(PW.q (hU_17.2 _ (th_ne (hW _ 12 0 ha0 (by decide) (by decide) (by decide)) (hW _ 12 2 ha0 (by decide) (by decide) (by decide)) (by decide))) hI_c3.1), (QS.same (ai_q (hU_17.2 _ (th_ne (hW _ 12 0 ha0 (by decide) (by decide) (by decide)) (hW _ 12 2 ha0 (by decide) (by decide) (by decide)) (by decide)))) (ai_q (hU_17.2 _ (th_ne (hW _ 12 0 ha0 (by decide) (by decide) (by decide)) (hW _ 12 2 ha0 (by decide) (by decide) (by decide)) (by decide)))) hI_c3.2.1), (QS.same (ai_q (hU_17.2 _ (th_ne (hW _ 12 0 ha0 (by decide) (by decide) (by decide)) (hW _ 12 2 ha0 (by decide) (by decide) (by decide)) (by decide)))) (ai_q (hU_17.2 _ (th_ne (hW _ 12 0 ha0 (by decide) (by decide) (by decide)) (hW _ 12 2 ha0 (by decide) (by decide) (by decide)) (by decide)))) hI_c3.2.2.1), hL_17, (PL.q (hU_17.2 _ (Ne.symm n23)) hI_c3.2.2.2.2.1), (IF.q (hU_17.2 _ (th_ne ha0 (hW _ 12 2 ha0 (by decide) (by decide) (by decide)) (by decide))) hI_c3.2.2.2.2.2)⟩ (by rw [(ai_q (hU_17.2 _ (th_ne (hW _ 12 0 ha0 (by decide) (by decide) (by decide)) (hW _ 12 2 ha0 (by decide) (by decide) (by decide)) (by decide))))]; omega) (by omega)
            · have f_16 : ¬ y3_4.toInt = 6 := r_ne rfl (by decide) c_16
              refine lv_iload hx hb dX12_makes_35 (lv_at hl 4 rfl) ?_
              refine lv_bipush (v := 12) hx hb dX12_makes_37 (by decide) ?_
              refine lv_icmp_lt (tgt := 46) hx hb dX12_makes_39 (by decide) (fun c_19 => ?_) (fun c_19 => ?_)
              · have f_19 : y3_4.toInt < 12 := r_lt rfl (by decide) c_19
                refine lv_bipush (v := (-4)) hx hb dX12_makes_46 (by decide) ?_
                refine th_iast E hT_c3 hS_c3 h_9 rfl (by decide) (vp_in_iff.mpr ⟨by omega, by omega⟩) dX12_makes_48 (fun H_20 locs_20 hT_20 hU_20 hS_20 => ?_)
                have hU_20 : AU 20 H_c3 H_20 (ρ a0 2) y3_4.toInt.toNat ((-4)) := hU_20
                have hL_20 : PL H_20 (ρ a0 2) := PL.free hI_c3.2.2.2.1 hU_20 (by omega)
                obtain ⟨x_21, ex_21⟩ : ∃ y : Int32, y3_4 + 1 = y := ⟨_, rfl⟩
                have q_x_21 : x_21.toInt = y3_4.toInt + 1 := i_add (k := 1) (by decide) ex_21 (by have := i_min y3_4; omega) (by have := i_max y3_4; omega)
                refine lv_iinc (v := x_21) (lv' := [(4, .int x_21), (0, .ref a0), (1, .int 0), (2, .int 8), (3, .int x2)]) hx hb dX12_makes_49 hl (k := 4) rfl (by rw [← ex_21]; rfl) (by decide) rfl (fun ls hl => ?_)
                refine lv_goto (tgt := 3) hx hb dX12_makes_52 (by decide) ?_
                exact ih_3 H_20 locs_20 _ x_21 hT_20 hS_20 (lv_sub hl [1, 2, 3, 4, 0] rfl) (by omega) ⟨(PW.q (hU_20.2 _ (th_ne (hW _ 12 0 ha0 (by decide) (by decide) (by decide)) (hW _ 12 2 ha0 (by decide) (by decide) (by decide)) (by decide))) hI_c3.1), (QS.same (ai_q (hU_20.2 _ (th_ne (hW _ 12 0 ha0 (by decide) (by decide) (by decide)) (hW _ 12 2 ha0 (by decide) (by decide) (by decide)) (by decide)))) (ai_q (hU_20.2 _ (th_ne (hW _ 12 0 ha0 (by decide) (by decide) (by decide)) (hW _ 12 2 ha0 (by decide) (by decide) (by decide)) (by decide)))) hI_c3.2.1), (QS.same (ai_q (hU_20.2 _ (th_ne (hW _ 12 0 ha0 (by decide) (by decide) (by decide)) (hW _ 12 2 ha0 (by decide) (by decide) (by decide)) (by decide)))) (ai_q (hU_20.2 _ (th_ne (hW _ 12 0 ha0 (by decide) (by decide) (by decide)) (hW _ 12 2 ha0 (by decide) (by decide) (by decide)) (by decide)))) hI_c3.2.2.1), hL_20, (PL.q (hU_20.2 _ (Ne.symm n23)) hI_c3.2.2.2.2.1), (IF.q (hU_20.2 _ (th_ne ha0 (hW _ 12 2 ha0 (by decide) (by decide) (by decide)) (by decide))) hI_c3.2.2.2.2.2)⟩ (by rw [(ai_q (hU_20.2 _ (th_ne (hW _ 12 0 ha0 (by decide) (by decide) (by decide)) (hW _ 12 2 ha0 (by decide) (by decide) (by decide)) (by decide))))]; omega) (by omega)
              · have f_19 : 12 ≤ y3_4.toInt := r_nlt rfl (by decide) c_19
                refine lv_iconst (v := 0) hx hb dX12_makes_42 (by decide) ?_
                refine lv_goto (tgt := 48) hx hb dX12_makes_43 (by decide) ?_
                refine th_iast E hT_c3 hS_c3 h_9 rfl (by decide) (vp_in_iff.mpr ⟨by omega, by omega⟩) dX12_makes_48 (fun H_22 locs_22 hT_22 hU_22 hS_22 => ?_)
                have hU_22 : AU 20 H_c3 H_22 (ρ a0 2) y3_4.toInt.toNat (0) := hU_22
                have hL_22 : PL H_22 (ρ a0 2) := PL.zero hI_c3.2.2.2.1 hU_22
                obtain ⟨x_23, ex_23⟩ : ∃ y : Int32, y3_4 + 1 = y := ⟨_, rfl⟩
                have q_x_23 : x_23.toInt = y3_4.toInt + 1 := i_add (k := 1) (by decide) ex_23 (by have := i_min y3_4; omega) (by have := i_max y3_4; omega)
                refine lv_iinc (v := x_23) (lv' := [(4, .int x_23), (0, .ref a0), (1, .int 0), (2, .int 8), (3, .int x2)]) hx hb dX12_makes_49 hl (k := 4) rfl (by rw [← ex_23]; rfl) (by decide) rfl (fun ls hl => ?_)
                refine lv_goto (tgt := 3) hx hb dX12_makes_52 (by decide) ?_
                exact ih_3 H_22 locs_22 _ x_23 hT_22 hS_22 (lv_sub hl [1, 2, 3, 4, 0] rfl) (by omega) ⟨(PW.q (hU_22.2 _ (th_ne (hW _ 12 0 ha0 (by decide) (by decide) (by decide)) (hW _ 12 2 ha0 (by decide) (by decide) (by decide)) (by decide))) hI_c3.1), (QS.same (ai_q (hU_22.2 _ (th_ne (hW _ 12 0 ha0 (by decide) (by decide) (by decide)) (hW _ 12 2 ha0 (by decide) (by decide) (by decide)) (by decide)))) (ai_q (hU_22.2 _ (th_ne (hW _ 12 0 ha0 (by decide) (by decide) (by decide)) (hW _ 12 2 ha0 (by decide) (by decide) (by decide)) (by decide)))) hI_c3.2.1), (QS.same (ai_q (hU_22.2 _ (th_ne (hW _ 12 0 ha0 (by decide) (by decide) (by decide)) (hW _ 12 2 ha0 (by decide) (by decide) (by decide)) (by decide)))) (ai_q (hU_22.2 _ (th_ne (hW _ 12 0 ha0 (by decide) (by decide) (by decide)) (hW _ 12 2 ha0 (by decide) (by decide) (by decide)) (by decide)))) hI_c3.2.2.1), hL_22, (PL.q (hU_22.2 _ (Ne.symm n23)) hI_c3.2.2.2.2.1), (IF.q (hU_22.2 _ (th_ne ha0 (hW _ 12 2 ha0 (by decide) (by decide) (by decide)) (by decide))) hI_c3.2.2.2.2.2)⟩ (by rw [(ai_q (hU_22.2 _ (th_ne (hW _ 12 0 ha0 (by decide) (by decide) (by decide)) (hW _ 12 2 ha0 (by decide) (by decide) (by decide)) (by decide))))]; omega) (by omega)
  refine lv_iconst (v := 0) hx hb dX12_makes_0 (by decide) ?_
  refine lv_istore (lv' := [(4, .int 0), (0, .ref a0), (1, .int 0), (2, .int 8), (3, .int x2)]) hx hb dX12_makes_1 hl (by decide) rfl (fun ls hl => ?_)
  exact L_3 _ H [] _ 0 hT hS (lv_sub hl [1, 2, 3, 4, 0] rfl) (by decide) ⟨hI.1, hI.2.1, hI.2.2.1, hI.2.2.2.1, hI.2.2.2.2.1, hI.2.2.2.2.2⟩ (by omega) (Nat.lt_succ_self _)
set_option maxHeartbeats 4000000 in
set_option maxRecDepth 100000 in
/-- the reference: breaks -/
theorem y_breaks_v2 (l : Launch) (D : va_G) (cI cS : ClassId) (τ : Nat → Option Nat) (ρ : Nat → Nat → Nat) (hW : WF τ ρ) (H : Heap) (hT : TH D cI cS τ ρ H) (a0 : Nat) (x1 : Int32) (ha0 : τ a0 = some 12) (N : Int) (hN0 : 0 ≤ N) (hN1 : N ≤ 600) (hI : IM D ρ N H a0) : MV l D cI cS τ ρ yX12_breaks cX12_breaks 3 none 1 24 H [.ref a0, .int 0, .int x1] (fun (u : Heap) => (IM D ρ N u a0) ∧ ((ai H (ρ a0 0) 976).toInt ≤ (ai u (ρ a0 0) 976).toInt)) (fun q => q = ρ a0 2 ∨ q = ρ a0 0) := by
  refine MV.of (by decide) (Nat.le_of_ble_eq_true rfl) ?_
  intro p e s m args below meth c E hml hr hlk hs ls hl
  have hx := E.1
  have hb := E.2.1
  have hown := E.2.2.1
  have hts := E.2.2.2.1
  have hS : SS (fun q => q = ρ a0 2 ∨ q = ρ a0 0) H H [] := SS.rf
  have hl : lv_has ls 3 [(0, .ref a0), (1, .int 0), (2, .int x1)] := hl
  have n01 := hI.2.2.2.2.2.1
  have n23 := hI.2.2.2.2.2.2.1
  refine lv_aload_n hx hb dX12_breaks_0 rfl (lv_at hl 0 rfl) ?_
  refine lv_iload_n hx hb dX12_breaks_1 rfl (lv_at hl 1 rfl) ?_
  refine lv_bipush (v := 8) hx hb dX12_breaks_2 (by decide) ?_
  refine lv_iload_n hx hb dX12_breaks_4 rfl (lv_at hl 2 rfl) ?_
  refine th_Vv (As := [.int 0, .int 8, .int x1]) (rest := []) E hml hl.1 (y_makes_v10 l D cI cS τ ρ hW H hT a0 x1 ha0 N hN0 hN1 ⟨hI.1, hI.2.1, hI.2.2.1, hI.2.2.2.1, hI.2.2.2.2.1, hI.2.2.2.2.2⟩) lk_X12_126 yd_X12_makes hT ha0 rfl (by decide) hS (fun q h => (Or.inl h)) ⟨by decide, by decide⟩ (Nat.le_of_ble_eq_true rfl) ⟨by decide, by decide⟩ rfl dX12_breaks_5 (fun H_1 locs_1 p_1 hT_1 hk_1 hS_1 => ?_)
  have p_1 : (IM D ρ N H_1 a0) ∧ ((ai H (ρ a0 0) 976).toInt ≤ (ai H_1 (ρ a0 0) 976).toInt) := p_1
  obtain ⟨p_1_0, p_1_1⟩ := p_1
  have mn_1 : (ai H (ρ a0 0) 976).toInt ≤ (ai H_1 (ρ a0 0) 976).toInt := by exact p_1_1
  refine lv_aload_n hx hb dX12_breaks_8 rfl (lv_at hl 0 rfl) ?_
  refine th_Vv (As := []) (rest := []) E hml hl.1 (y_posts l D cI cS τ ρ hW H_1 hT_1 a0 ha0 N hN0 hN1 ⟨p_1_0.1, p_1_0.2.1, p_1_0.2.2.1, p_1_0.2.2.2.1, p_1_0.2.2.2.2.1, p_1_0.2.2.2.2.2⟩) lk_X12_129 yd_X12_posts hT_1 ha0 rfl (by decide) hS_1 (fun q h => (Or.inr h)) ⟨by decide, by decide⟩ (Nat.le_of_ble_eq_true rfl) ⟨by decide, by decide⟩ rfl dX12_breaks_9 (fun H_2 locs_2 p_2 hT_2 hk_2 hS_2 => ?_)
  have p_2 : (IM D ρ N H_2 a0) ∧ ((ai H_1 (ρ a0 0) 976).toInt ≤ (ai H_2 (ρ a0 0) 976).toInt) := p_2
  obtain ⟨p_2_0, p_2_1⟩ := p_2
  have mn_2 : (ai H (ρ a0 0) 976).toInt ≤ (ai H_2 (ρ a0 0) 976).toInt := by have h := p_2_1; rw [(ai_q (hk_1 _ (th_ne (hW _ 12 0 ha0 (by decide) (by decide) (by decide)) (hW _ 12 2 ha0 (by decide) (by decide) (by decide)) (by decide))))] at h; exact h
  exact th_vret E hr hlk hs hT_2 hS_2 ⟨⟨p_2_0.1, p_2_0.2.1, p_2_0.2.2.1, p_2_0.2.2.2.1, p_2_0.2.2.2.2.1, p_2_0.2.2.2.2.2⟩, (by omega)⟩ dX12_breaks_12
set_option maxHeartbeats 4000000 in
set_option maxRecDepth 100000 in
/-- the reference: breaksIt -/
theorem y_breaksIt_v2 (l : Launch) (D : va_G) (cI cS : ClassId) (τ : Nat → Option Nat) (ρ : Nat → Nat → Nat) (hW : WF τ ρ) (H : Heap) (hT : TH D cI cS τ ρ H) (a0 : Nat) (ha0 : τ a0 = some 12) (N : Int) (hN0 : 0 ≤ N) (hN1 : N ≤ 600) (hI : IM D ρ N H a0) : MV l D cI cS τ ρ yX12_breaksIt cX12_breaksIt 2 none 2 46 H [.ref a0, .int 0] (fun (u : Heap) => (IM D ρ N u a0) ∧ ((ai H (ρ a0 0) 976).toInt ≤ (ai u (ρ a0 0) 976).toInt)) (fun q => q = ρ a0 2 ∨ q = ρ a0 0) := by
  refine MV.of (by decide) (Nat.le_of_ble_eq_true rfl) ?_
  intro p e s m args below meth c E hml hr hlk hs ls hl
  have hx := E.1
  have hb := E.2.1
  have hown := E.2.2.1
  have hts := E.2.2.2.1
  have hS : SS (fun q => q = ρ a0 2 ∨ q = ρ a0 0) H H [] := SS.rf
  have hl : lv_has ls 2 [(0, .ref a0), (1, .int 0)] := hl
  have n01 := hI.2.2.2.2.2.1
  have n23 := hI.2.2.2.2.2.2.1
  refine lv_aload_n hx hb dX12_breaksIt_0 rfl (lv_at hl 0 rfl) ?_
  refine gf_X12_19 E hT hW ha0 dX12_breaksIt_1 (fun h_1 => ?_)
  refine lv_iconst (v := 1) hx hb dX12_breaksIt_4 (by decide) ?_
  refine th_iald E hT h_1 (by decide) (vp_in_iff.mpr ⟨by decide, by decide⟩) dX12_breaksIt_5 ?_
  refine th_topi (y := ai H (ρ a0 3) 1) rfl ?_
  refine lv_topi (fun x_2 ex_2 => ?_)
  have c_x_2 := congrArg Int32.toInt ex_2.symm
  refine lv_iconst (v := 4) hx hb dX12_breaksIt_6 (by decide) ?_
  refine lv_iand hx hb dX12_breaksIt_7 ?_
  refine lv_topi (fun x_3 ex_3 => ?_)
  have q_3 := i_msk (k := 4) (x := x_2) (by decide) (by decide) ex_3
  refine lv_if_le (tgt := 23) hx hb dX12_breaksIt_8 (by decide) (fun c_4 => ?_) (fun c_4 => ?_)
  · have f_4 : x_3.toInt ≤ 0 := r_le rfl (by decide) c_4
    refine lv_aload_n hx hb dX12_breaksIt_23 rfl (lv_at hl 0 rfl) ?_
    refine lv_iload_n hx hb dX12_breaksIt_24 rfl (lv_at hl 1 rfl) ?_
    refine lv_bipush (v := 12) hx hb dX12_breaksIt_25 (by decide) ?_
    refine lv_iconst (v := 0) hx hb dX12_breaksIt_27 (by decide) ?_
    refine th_Vv (As := [.int 0, .int 12, .int 0]) (rest := []) E hml hl.1 (y_makes_v9 l D cI cS τ ρ hW H hT a0 ha0 N hN0 hN1 ⟨hI.1, hI.2.1, hI.2.2.1, hI.2.2.2.1, hI.2.2.2.2.1, hI.2.2.2.2.2⟩) lk_X12_126 yd_X12_makes hT ha0 rfl (by decide) hS (fun q h => (Or.inl h)) ⟨by decide, by decide⟩ (Nat.le_of_ble_eq_true rfl) ⟨by decide, by decide⟩ rfl dX12_breaksIt_28 (fun H_5 locs_5 p_5 hT_5 hk_5 hS_5 => ?_)
    have p_5 : (IM D ρ N H_5 a0) ∧ ((ai H (ρ a0 0) 976).toInt ≤ (ai H_5 (ρ a0 0) 976).toInt) := p_5
    obtain ⟨p_5_0, p_5_1⟩ := p_5
    have mn_5 : (ai H (ρ a0 0) 976).toInt ≤ (ai H_5 (ρ a0 0) 976).toInt := by exact p_5_1
    refine lv_aload_n hx hb dX12_breaksIt_31 rfl (lv_at hl 0 rfl) ?_
    refine gf_X12_16 E hT_5 hW ha0 dX12_breaksIt_32 (fun h_6 => ?_)
    refine lv_iconst (v := 3) hx hb dX12_breaksIt_35 (by decide) ?_
    refine lv_aload_n hx hb dX12_breaksIt_36 rfl (lv_at hl 0 rfl) ?_
    refine gf_X12_19 E hT_5 hW ha0 dX12_breaksIt_37 (fun h_7 => ?_)
    refine lv_iconst (v := 2) hx hb dX12_breaksIt_40 (by decide) ?_
    refine th_iald E hT_5 h_7 (by decide) (vp_in_iff.mpr ⟨by decide, by decide⟩) dX12_breaksIt_41 ?_
    refine th_topi (y := ai H_5 (ρ a0 3) 2) rfl ?_
    refine th_topi (y := ai H (ρ a0 3) 2) (ai_q (hk_5 _ (Ne.symm n23))) ?_
    refine lv_topi (fun x_8 ex_8 => ?_)
    have c_x_8 := congrArg Int32.toInt ex_8.symm
    refine lv_aload_n hx hb dX12_breaksIt_42 rfl (lv_at hl 0 rfl) ?_
    refine th_Vi (As := []) (rest := [.int x_8, .int 3, .ref (ρ a0 2)]) E hml hl.1 (y_lengthOfIt l D cI cS τ ρ hW H_5 hT_5 a0 ha0) lk_X12_136 yd_X12_lengthOfIt hT_5 ha0 rfl (by decide) hS_5 (fun _ h => h.elim) ⟨by decide, by decide⟩ (Nat.le_of_ble_eq_true rfl) ⟨by decide, by decide⟩ rfl dX12_breaksIt_43 (fun r_9 H_9 locs_9 p_9 hT_9 hk_9 hS_9 => ?_)
    have p_9 : H_5 = H_9 := p_9
    obtain rfl := p_9
    refine lv_iadd hx hb dX12_breaksIt_46 ?_
    refine lv_topi (fun x_10 ex_10 => ?_)
    refine lv_sipush (v := 256) hx hb dX12_breaksIt_47 (by decide) ?_
    refine lv_irem hx hb dX12_breaksIt_50 (by decide) ?_
    refine lv_topi (fun x_11 ex_11 => ?_)
    have q_11 := i_rem (k := 256) (x := x_10) (by decide) (by decide) ex_11
    refine th_iast E hT_9 hS_9 h_6 (Or.inl rfl) (by decide) (vp_in_iff.mpr ⟨by decide, by decide⟩) dX12_breaksIt_51 (fun H_12 locs_12 hT_12 hU_12 hS_12 => ?_)
    have hU_12 : AU 20 H_5 H_12 (ρ a0 2) 3 x_11 := hU_12
    have hL_12 : PL H_12 (ρ a0 2) := PL.put p_5_0.2.2.2.1 hU_12 (by show (-2147483648 : Int) ≤ _; exact i_min _) (by show _ ≤ (2147483647 : Int); exact i_max _)
    refine lv_aload_n hx hb dX12_breaksIt_52 rfl (lv_at hl 0 rfl) ?_
    refine gf_X12_16 E hT_12 hW ha0 dX12_breaksIt_53 (fun h_13 => ?_)
    refine lv_iconst (v := 4) hx hb dX12_breaksIt_56 (by decide) ?_
    refine lv_iconst (v := 0) hx hb dX12_breaksIt_57 (by decide) ?_
    refine th_iast E hT_12 hS_12 h_13 (Or.inl rfl) (by decide) (vp_in_iff.mpr ⟨by decide, by decide⟩) dX12_breaksIt_58 (fun H_14 locs_14 hT_14 hU_14 hS_14 => ?_)
    have hU_14 : AU 20 H_12 H_14 (ρ a0 2) 4 (0) := hU_14
    have hL_14 : PL H_14 (ρ a0 2) := PL.put hL_12 hU_14 (by show (-2147483648 : Int) ≤ _; exact i_min _) (by show _ ≤ (2147483647 : Int); exact i_max _)
    refine lv_aload_n hx hb dX12_breaksIt_59 rfl (lv_at hl 0 rfl) ?_
    refine th_Vv (As := []) (rest := []) E hml hl.1 (y_posts l D cI cS τ ρ hW H_14 hT_14 a0 ha0 N hN0 hN1 ⟨(PW.q (hU_14.2 _ (th_ne (hW _ 12 0 ha0 (by decide) (by decide) (by decide)) (hW _ 12 2 ha0 (by decide) (by decide) (by decide)) (by decide))) (PW.q (hU_12.2 _ (th_ne (hW _ 12 0 ha0 (by decide) (by decide) (by decide)) (hW _ 12 2 ha0 (by decide) (by decide) (by decide)) (by decide))) p_5_0.1)), (QS.same ((Eq.trans (ai_q (hU_14.2 _ (th_ne (hW _ 12 0 ha0 (by decide) (by decide) (by decide)) (hW _ 12 2 ha0 (by decide) (by decide) (by decide)) (by decide)))) (Eq.trans (ai_q (hU_12.2 _ (th_ne (hW _ 12 0 ha0 (by decide) (by decide) (by decide)) (hW _ 12 2 ha0 (by decide) (by decide) (by decide)) (by decide)))) (ai_q (hk_5 _ (th_ne (hW _ 12 0 ha0 (by decide) (by decide) (by decide)) (hW _ 12 2 ha0 (by decide) (by decide) (by decide)) (by decide)))))).trans (ai_q (hk_5 _ (th_ne (hW _ 12 0 ha0 (by decide) (by decide) (by decide)) (hW _ 12 2 ha0 (by decide) (by decide) (by decide)) (by decide)))).symm) ((Eq.trans (ai_q (hU_14.2 _ (th_ne (hW _ 12 0 ha0 (by decide) (by decide) (by decide)) (hW _ 12 2 ha0 (by decide) (by decide) (by decide)) (by decide)))) (Eq.trans (ai_q (hU_12.2 _ (th_ne (hW _ 12 0 ha0 (by decide) (by decide) (by decide)) (hW _ 12 2 ha0 (by decide) (by decide) (by decide)) (by decide)))) (ai_q (hk_5 _ (th_ne (hW _ 12 0 ha0 (by decide) (by decide) (by decide)) (hW _ 12 2 ha0 (by decide) (by decide) (by decide)) (by decide)))))).trans (ai_q (hk_5 _ (th_ne (hW _ 12 0 ha0 (by decide) (by decide) (by decide)) (hW _ 12 2 ha0 (by decide) (by decide) (by decide)) (by decide)))).symm) p_5_0.2.1), (QS.same ((Eq.trans (ai_q (hU_14.2 _ (th_ne (hW _ 12 0 ha0 (by decide) (by decide) (by decide)) (hW _ 12 2 ha0 (by decide) (by decide) (by decide)) (by decide)))) (Eq.trans (ai_q (hU_12.2 _ (th_ne (hW _ 12 0 ha0 (by decide) (by decide) (by decide)) (hW _ 12 2 ha0 (by decide) (by decide) (by decide)) (by decide)))) (ai_q (hk_5 _ (th_ne (hW _ 12 0 ha0 (by decide) (by decide) (by decide)) (hW _ 12 2 ha0 (by decide) (by decide) (by decide)) (by decide)))))).trans (ai_q (hk_5 _ (th_ne (hW _ 12 0 ha0 (by decide) (by decide) (by decide)) (hW _ 12 2 ha0 (by decide) (by decide) (by decide)) (by decide)))).symm) ((Eq.trans (ai_q (hU_14.2 _ (th_ne (hW _ 12 0 ha0 (by decide) (by decide) (by decide)) (hW _ 12 2 ha0 (by decide) (by decide) (by decide)) (by decide)))) (Eq.trans (ai_q (hU_12.2 _ (th_ne (hW _ 12 0 ha0 (by decide) (by decide) (by decide)) (hW _ 12 2 ha0 (by decide) (by decide) (by decide)) (by decide)))) (ai_q (hk_5 _ (th_ne (hW _ 12 0 ha0 (by decide) (by decide) (by decide)) (hW _ 12 2 ha0 (by decide) (by decide) (by decide)) (by decide)))))).trans (ai_q (hk_5 _ (th_ne (hW _ 12 0 ha0 (by decide) (by decide) (by decide)) (hW _ 12 2 ha0 (by decide) (by decide) (by decide)) (by decide)))).symm) p_5_0.2.2.1), hL_14, (PL.q (hU_14.2 _ (Ne.symm n23)) (PL.q (hU_12.2 _ (Ne.symm n23)) p_5_0.2.2.2.2.1)), (IF.q (hU_14.2 _ (th_ne ha0 (hW _ 12 2 ha0 (by decide) (by decide) (by decide)) (by decide))) (IF.q (hU_12.2 _ (th_ne ha0 (hW _ 12 2 ha0 (by decide) (by decide) (by decide)) (by decide))) p_5_0.2.2.2.2.2))⟩) lk_X12_129 yd_X12_posts hT_14 ha0 rfl (by decide) hS_14 (fun q h => (Or.inr h)) ⟨by decide, by decide⟩ (Nat.le_of_ble_eq_true rfl) ⟨by decide, by decide⟩ rfl dX12_breaksIt_60 (fun H_15 locs_15 p_15 hT_15 hk_15 hS_15 => ?_)
    have p_15 : (IM D ρ N H_15 a0) ∧ ((ai H_14 (ρ a0 0) 976).toInt ≤ (ai H_15 (ρ a0 0) 976).toInt) := p_15
    obtain ⟨p_15_0, p_15_1⟩ := p_15
    have mn_15 : (ai H (ρ a0 0) 976).toInt ≤ (ai H_15 (ρ a0 0) 976).toInt := by have h := p_15_1; rw [(Eq.trans (ai_q (hU_14.2 _ (th_ne (hW _ 12 0 ha0 (by decide) (by decide) (by decide)) (hW _ 12 2 ha0 (by decide) (by decide) (by decide)) (by decide)))) (Eq.trans (ai_q (hU_12.2 _ (th_ne (hW _ 12 0 ha0 (by decide) (by decide) (by decide)) (hW _ 12 2 ha0 (by decide) (by decide) (by decide)) (by decide)))) (ai_q (hk_5 _ (th_ne (hW _ 12 0 ha0 (by decide) (by decide) (by decide)) (hW _ 12 2 ha0 (by decide) (by decide) (by decide)) (by decide))))))] at h; exact h
    exact th_vret E hr hlk hs hT_15 hS_15 ⟨⟨p_15_0.1, p_15_0.2.1, p_15_0.2.2.1, p_15_0.2.2.2.1, p_15_0.2.2.2.2.1, p_15_0.2.2.2.2.2⟩, (by omega)⟩ dX12_breaksIt_63
  · have f_4 : 0 < x_3.toInt := r_nle rfl (by decide) c_4
    refine lv_aload_n hx hb dX12_breaksIt_11 rfl (lv_at hl 0 rfl) ?_
    refine lv_iload_n hx hb dX12_breaksIt_12 rfl (lv_at hl 1 rfl) ?_
    refine lv_aload_n hx hb dX12_breaksIt_13 rfl (lv_at hl 0 rfl) ?_
    refine gf_X12_19 E hT hW ha0 dX12_breaksIt_14 (fun h_16 => ?_)
    refine lv_iconst (v := 3) hx hb dX12_breaksIt_17 (by decide) ?_
    refine th_iald E hT h_16 (by decide) (vp_in_iff.mpr ⟨by decide, by decide⟩) dX12_breaksIt_18 ?_
    refine th_topi (y := ai H (ρ a0 3) 3) rfl ?_
    refine lv_topi (fun x_17 ex_17 => ?_)
    have c_x_17 := congrArg Int32.toInt ex_17.symm
    refine th_Vv (As := [.int 0, .int x_17]) (rest := []) E hml hl.1 (y_breaks_v2 l D cI cS τ ρ hW H hT a0 x_17 ha0 N hN0 hN1 ⟨hI.1, hI.2.1, hI.2.2.1, hI.2.2.2.1, hI.2.2.2.2.1, hI.2.2.2.2.2⟩) lk_X12_132 yd_X12_breaks hT ha0 rfl (by decide) hS (fun q => (fun h => h.elim (fun h => (Or.inl h)) (fun h => (Or.inr h)))) ⟨by decide, by decide⟩ (Nat.le_of_ble_eq_true rfl) ⟨by decide, by decide⟩ rfl dX12_breaksIt_19 (fun H_18 locs_18 p_18 hT_18 hk_18 hS_18 => ?_)
    have p_18 : (IM D ρ N H_18 a0) ∧ ((ai H (ρ a0 0) 976).toInt ≤ (ai H_18 (ρ a0 0) 976).toInt) := p_18
    obtain ⟨p_18_0, p_18_1⟩ := p_18
    have mn_18 : (ai H (ρ a0 0) 976).toInt ≤ (ai H_18 (ρ a0 0) 976).toInt := by exact p_18_1
    exact th_vret E hr hlk hs hT_18 hS_18 ⟨⟨p_18_0.1, p_18_0.2.1, p_18_0.2.2.1, p_18_0.2.2.2.1, p_18_0.2.2.2.2.1, p_18_0.2.2.2.2.2⟩, (by omega)⟩ dX12_breaksIt_22
set_option maxHeartbeats 4000000 in
set_option maxRecDepth 100000 in
/-- the reference: dropsAndBreaks -/
theorem y_dropsAndBreaks_v2 (l : Launch) (D : va_G) (cI cS : ClassId) (τ : Nat → Option Nat) (ρ : Nat → Nat → Nat) (hW : WF τ ρ) (H : Heap) (hT : TH D cI cS τ ρ H) (a0 : Nat) (ha0 : τ a0 = some 12) (N : Int) (hN0 : 0 ≤ N) (hN1 : N ≤ 600) (hI : IM D ρ N H a0) : MI l D cI cS τ ρ yX12_dropsAndBreaks cX12_dropsAndBreaks 3 (some .int) 3 67 H [.ref a0, .int 0, .int 5] (fun (r : Int32) (u : Heap) => (IM D ρ N u a0) ∧ ((ai H (ρ a0 0) 976).toInt ≤ (ai u (ρ a0 0) 976).toInt)) (fun q => q = ρ a0 2 ∨ q = ρ a0 0) := by
  refine MI.of (by decide) (Nat.le_of_ble_eq_true rfl) ?_
  intro p e s m args below meth c E hml hr hlk hs ls hl
  have hx := E.1
  have hb := E.2.1
  have hown := E.2.2.1
  have hts := E.2.2.2.1
  have hS : SS (fun q => q = ρ a0 2 ∨ q = ρ a0 0) H H [] := SS.rf
  have hl : lv_has ls 3 [(0, .ref a0), (1, .int 0), (2, .int 5)] := hl
  have n01 := hI.2.2.2.2.2.1
  have n23 := hI.2.2.2.2.2.2.1
  refine lv_aload_n hx hb dX12_dropsAndBreaks_0 rfl (lv_at hl 0 rfl) ?_
  refine lv_iload_n hx hb dX12_dropsAndBreaks_1 rfl (lv_at hl 1 rfl) ?_
  refine th_Vv (As := [.int 0]) (rest := []) E hml hl.1 (y_breaksIt_v2 l D cI cS τ ρ hW H hT a0 ha0 N hN0 hN1 ⟨hI.1, hI.2.1, hI.2.2.1, hI.2.2.2.1, hI.2.2.2.2.1, hI.2.2.2.2.2⟩) lk_X12_196 yd_X12_breaksIt hT ha0 rfl (by decide) hS (fun q => (fun h => h.elim (fun h => (Or.inl h)) (fun h => (Or.inr h)))) ⟨by decide, by decide⟩ (Nat.le_of_ble_eq_true rfl) ⟨by decide, by decide⟩ rfl dX12_dropsAndBreaks_2 (fun H_1 locs_1 p_1 hT_1 hk_1 hS_1 => ?_)
  have p_1 : (IM D ρ N H_1 a0) ∧ ((ai H (ρ a0 0) 976).toInt ≤ (ai H_1 (ρ a0 0) 976).toInt) := p_1
  obtain ⟨p_1_0, p_1_1⟩ := p_1
  have mn_1 : (ai H (ρ a0 0) 976).toInt ≤ (ai H_1 (ρ a0 0) 976).toInt := by exact p_1_1
  refine lv_aload_n hx hb dX12_dropsAndBreaks_5 rfl (lv_at hl 0 rfl) ?_
  refine lv_iload_n hx hb dX12_dropsAndBreaks_6 rfl (lv_at hl 2 rfl) ?_
  refine lv_iconst (v := 0) hx hb dX12_dropsAndBreaks_7 (by decide) ?_
  refine th_Vi (As := [.int 5, .int 0]) (rest := []) E hml hl.1 (y_drops_v3 l D cI cS τ ρ hW H_1 hT_1 a0 ha0 N hN0 hN1 ⟨p_1_0.1, p_1_0.2.1, p_1_0.2.2.1, p_1_0.2.2.2.1, p_1_0.2.2.2.2.1, p_1_0.2.2.2.2.2⟩) lk_X12_199 yd_X12_drops hT_1 ha0 rfl (by decide) hS_1 (fun q h => (Or.inr h)) ⟨by decide, by decide⟩ (Nat.le_of_ble_eq_true rfl) ⟨by decide, by decide⟩ rfl dX12_dropsAndBreaks_8 (fun r_2 H_2 locs_2 p_2 hT_2 hk_2 hS_2 => ?_)
  have p_2 : (IM D ρ N H_2 a0) ∧ ((ai H_1 (ρ a0 0) 976).toInt ≤ (ai H_2 (ρ a0 0) 976).toInt) := p_2
  obtain ⟨p_2_0, p_2_1⟩ := p_2
  have mn_2 : (ai H_1 (ρ a0 0) 976).toInt ≤ (ai H_2 (ρ a0 0) 976).toInt := by exact p_2_1
  exact th_iret E hr hlk hs hT_2 hS_2 ⟨⟨p_2_0.1, p_2_0.2.1, p_2_0.2.2.1, p_2_0.2.2.2.1, p_2_0.2.2.2.2.1, p_2_0.2.2.2.2.2⟩, (by omega)⟩ dX12_dropsAndBreaks_11
set_option maxHeartbeats 4000000 in
set_option maxRecDepth 100000 in
/-- the reference: drops -/
theorem y_drops_v5 (l : Launch) (D : va_G) (cI cS : ClassId) (τ : Nat → Option Nat) (ρ : Nat → Nat → Nat) (hW : WF τ ρ) (H : Heap) (hT : TH D cI cS τ ρ H) (a0 : Nat) (ha0 : τ a0 = some 12) (N : Int) (hN0 : 0 ≤ N) (hN1 : N ≤ 600) (hI : IM D ρ N H a0) : MI l D cI cS τ ρ yX12_drops cX12_drops 3 (some .int) 0 0 H [.ref a0, .int 10, .int 0] (fun (r : Int32) (u : Heap) => (IM D ρ N u a0) ∧ ((ai H (ρ a0 0) 976).toInt ≤ (ai u (ρ a0 0) 976).toInt)) (fun q => q = ρ a0 0) := by
  refine MI.of (by decide) (Nat.le_of_ble_eq_true rfl) ?_
  intro p e s m args below meth c E hml hr hlk hs ls hl
  have hx := E.1
  have hb := E.2.1
  have hown := E.2.2.1
  have hts := E.2.2.2.1
  have hS : SS (fun q => q = ρ a0 0) H H [] := SS.rf
  have hl : lv_has ls 3 [(0, .ref a0), (1, .int 10), (2, .int 0)] := hl
  have n01 := hI.2.2.2.2.2.1
  have n23 := hI.2.2.2.2.2.2.1
  have J_28 : ∀ (H_c28 : Heap) (lc_c28 : List Loc) (ls : Array Slot), TH D cI cS τ ρ H_c28 → SS (fun q => q = ρ a0 0) H H_c28 lc_c28 → lv_has ls 3 [(0, .ref a0), (1, .int 10), (2, .int 0)] → IM D ρ N H_c28 a0 → (ai H (ρ a0 0) 976).toInt ≤ (ai H_c28 (ρ a0 0) 976).toInt → W p l e (rmO 0 0) s m args below meth c H_c28 lc_c28 0 0 (MQ below (va_Qi (fun (r : Int32) (u : Heap) => (IM D ρ N u a0) ∧ ((ai H (ρ a0 0) 976).toInt ≤ (ai u (ρ a0 0) 976).toInt)) (Bt D cI cS τ ρ H) (fun q => q = ρ a0 0)) args s 0 0 (fun q => q = ρ a0 0)) (F0 m 28 ls [.int 1, .int 982, .ref (ρ a0 0)]) := by
    intro H_c28 lc_c28 ls hT_c28 hS_c28 hl hI_c28 hmn_c28
    refine th_iast E hT_c28 hS_c28 (hW _ 12 0 ha0 (by decide) (by decide) (by decide)) rfl (by decide) (vp_in_iff.mpr ⟨by decide, by decide⟩) dX12_drops_28 (fun H_1 locs_1 hT_1 hU_1 hS_1 => ?_)
    have hU_1 : AU 985 H_c28 H_1 (ρ a0 0) 982 (1) := hU_1
    have hW_1 : PW N H_1 (ρ a0 0) := PW.put hI_c28.1 hU_1 (by show (-2147483648 : Int) ≤ _; exact i_min _) (by show (1 : Int32).toInt ≤ (2 : Int); have : (1 : Int32).toInt = 1 := (by decide); omega)
    refine lv_aload_n hx hb dX12_drops_29 rfl (lv_at hl 0 rfl) ?_
    refine gf_X12_7 E hT_1 hW ha0 dX12_drops_30 (fun h_2 => ?_)
    refine lv_sipush (v := 983) hx hb dX12_drops_33 (by decide) ?_
    refine lv_iload_n hx hb dX12_drops_36 rfl (lv_at hl 1 rfl) ?_
    refine th_iast E hT_1 hS_1 h_2 rfl (by decide) (vp_in_iff.mpr ⟨by decide, by decide⟩) dX12_drops_37 (fun H_3 locs_3 hT_3 hU_3 hS_3 => ?_)
    have hU_3 : AU 985 H_1 H_3 (ρ a0 0) 983 (10) := hU_3
    have hW_3 : PW N H_3 (ρ a0 0) := PW.put hW_1 hU_3 (by show (-2147483648 : Int) ≤ _; exact i_min _) (by show _ ≤ (2147483647 : Int); exact i_max _)
    refine lv_aload_n hx hb dX12_drops_38 rfl (lv_at hl 0 rfl) ?_
    refine gf_X12_7 E hT_3 hW ha0 dX12_drops_39 (fun h_4 => ?_)
    refine lv_sipush (v := 984) hx hb dX12_drops_42 (by decide) ?_
    refine lv_iload_n hx hb dX12_drops_45 rfl (lv_at hl 2 rfl) ?_
    refine th_iast E hT_3 hS_3 h_4 rfl (by decide) (vp_in_iff.mpr ⟨by decide, by decide⟩) dX12_drops_46 (fun H_5 locs_5 hT_5 hU_5 hS_5 => ?_)
    have hU_5 : AU 985 H_3 H_5 (ρ a0 0) 984 (0) := hU_5
    have hW_5 : PW N H_5 (ρ a0 0) := PW.put hW_3 hU_5 (by show (-2147483648 : Int) ≤ _; exact i_min _) (by show _ ≤ (2147483647 : Int); exact i_max _)
    refine lv_iconst (v := 0) hx hb dX12_drops_47 (by decide) ?_
    exact th_iret E hr hlk hs hT_5 hS_5 ⟨⟨hW_5, (QS.same (Eq.trans (AU.o hU_5 (by decide) (by decide)) (Eq.trans (AU.o hU_3 (by decide) (by decide)) (AU.o hU_1 (by decide) (by decide)))) (Eq.trans (AU.o hU_5 (by decide) (by decide)) (Eq.trans (AU.o hU_3 (by decide) (by decide)) (AU.o hU_1 (by decide) (by decide)))) hI_c28.2.1), (QS.same (Eq.trans (AU.o hU_5 (by decide) (by decide)) (Eq.trans (AU.o hU_3 (by decide) (by decide)) (AU.o hU_1 (by decide) (by decide)))) (Eq.trans (AU.o hU_5 (by decide) (by decide)) (Eq.trans (AU.o hU_3 (by decide) (by decide)) (AU.o hU_1 (by decide) (by decide)))) hI_c28.2.2.1), (PL.q (hU_5.2 _ (th_ne (hW _ 12 2 ha0 (by decide) (by decide) (by decide)) (hW _ 12 0 ha0 (by decide) (by decide) (by decide)) (by decide))) (PL.q (hU_3.2 _ (th_ne (hW _ 12 2 ha0 (by decide) (by decide) (by decide)) (hW _ 12 0 ha0 (by decide) (by decide) (by decide)) (by decide))) (PL.q (hU_1.2 _ (th_ne (hW _ 12 2 ha0 (by decide) (by decide) (by decide)) (hW _ 12 0 ha0 (by decide) (by decide) (by decide)) (by decide))) hI_c28.2.2.2.1))), (PL.q (hU_5.2 _ (th_ne (hW _ 12 3 ha0 (by decide) (by decide) (by decide)) (hW _ 12 0 ha0 (by decide) (by decide) (by decide)) (by decide))) (PL.q (hU_3.2 _ (th_ne (hW _ 12 3 ha0 (by decide) (by decide) (by decide)) (hW _ 12 0 ha0 (by decide) (by decide) (by decide)) (by decide))) (PL.q (hU_1.2 _ (th_ne (hW _ 12 3 ha0 (by decide) (by decide) (by decide)) (hW _ 12 0 ha0 (by decide) (by decide) (by decide)) (by decide))) hI_c28.2.2.2.2.1))), (IF.q (hU_5.2 _ (th_ne ha0 (hW _ 12 0 ha0 (by decide) (by decide) (by decide)) (by decide))) (IF.q (hU_3.2 _ (th_ne ha0 (hW _ 12 0 ha0 (by decide) (by decide) (by decide)) (by decide))) (IF.q (hU_1.2 _ (th_ne ha0 (hW _ 12 0 ha0 (by decide) (by decide) (by decide)) (by decide))) hI_c28.2.2.2.2.2)))⟩, (by rw [(Eq.trans (AU.o hU_5 (by decide) (by decide)) (Eq.trans (AU.o hU_3 (by decide) (by decide)) (AU.o hU_1 (by decide) (by decide))))]; omega)⟩ dX12_drops_48
  refine lv_aload_n hx hb dX12_drops_0 rfl (lv_at hl 0 rfl) ?_
  refine gf_X12_7 E hT hW ha0 dX12_drops_1 (fun h_6 => ?_)
  refine lv_sipush (v := 981) hx hb dX12_drops_4 (by decide) ?_
  refine lv_dup2_11 hx hb dX12_drops_7 rfl rfl ?_
  refine th_iald E hT h_6 (by decide) (vp_in_iff.mpr ⟨by decide, by decide⟩) dX12_drops_8 ?_
  refine th_topi (y := ai H (ρ a0 0) 981) rfl ?_
  refine lv_topi (fun x_7 ex_7 => ?_)
  have c_x_7 := congrArg Int32.toInt ex_7.symm
  refine lv_iconst (v := 1) hx hb dX12_drops_9 (by decide) ?_
  refine lv_iadd hx hb dX12_drops_10 ?_
  refine lv_topi (fun x_8 ex_8 => ?_)
  refine th_iast E hT hS h_6 rfl (by decide) (vp_in_iff.mpr ⟨by decide, by decide⟩) dX12_drops_11 (fun H_9 locs_9 hT_9 hU_9 hS_9 => ?_)
  have hU_9 : AU 985 H H_9 (ρ a0 0) 981 x_8 := hU_9
  have hW_9 : PW N H_9 (ρ a0 0) := PW.put hI.1 hU_9 (by show (-2147483648 : Int) ≤ _; exact i_min _) (by show _ ≤ (2147483647 : Int); exact i_max _)
  refine lv_aload_n hx hb dX12_drops_12 rfl (lv_at hl 0 rfl) ?_
  refine gf_X12_7 E hT_9 hW ha0 dX12_drops_13 (fun h_10 => ?_)
  refine lv_sipush (v := 982) hx hb dX12_drops_16 (by decide) ?_
  refine lv_iload_n hx hb dX12_drops_19 rfl (lv_at hl 2 rfl) ?_
  refine lv_if_le (tgt := 27) hx hb dX12_drops_20 (by decide) (fun c_11 => ?_) (fun c_11 => absurd (by decide) c_11)
  refine lv_iconst (v := 1) hx hb dX12_drops_27 (by decide) ?_
  exact J_28 H_9 locs_9 _ hT_9 hS_9 hl ⟨hW_9, (QS.same (AU.o hU_9 (by decide) (by decide)) (AU.o hU_9 (by decide) (by decide)) hI.2.1), (QS.same (AU.o hU_9 (by decide) (by decide)) (AU.o hU_9 (by decide) (by decide)) hI.2.2.1), (PL.q (hU_9.2 _ (th_ne (hW _ 12 2 ha0 (by decide) (by decide) (by decide)) (hW _ 12 0 ha0 (by decide) (by decide) (by decide)) (by decide))) hI.2.2.2.1), (PL.q (hU_9.2 _ (th_ne (hW _ 12 3 ha0 (by decide) (by decide) (by decide)) (hW _ 12 0 ha0 (by decide) (by decide) (by decide)) (by decide))) hI.2.2.2.2.1), (IF.q (hU_9.2 _ (th_ne ha0 (hW _ 12 0 ha0 (by decide) (by decide) (by decide)) (by decide))) hI.2.2.2.2.2)⟩ (by rw [(AU.o hU_9 (by decide) (by decide))]; omega)
set_option maxHeartbeats 4000000 in
set_option maxRecDepth 100000 in
/-- the reference: drops -/
theorem y_drops_v6 (l : Launch) (D : va_G) (cI cS : ClassId) (τ : Nat → Option Nat) (ρ : Nat → Nat → Nat) (hW : WF τ ρ) (H : Heap) (hT : TH D cI cS τ ρ H) (a0 : Nat) (x1 : Int32) (ha0 : τ a0 = some 12) (N : Int) (hN0 : 0 ≤ N) (hN1 : N ≤ 600) (hI : IM D ρ N H a0) : MI l D cI cS τ ρ yX12_drops cX12_drops 3 (some .int) 0 0 H [.ref a0, .int 6, .int x1] (fun (r : Int32) (u : Heap) => (IM D ρ N u a0) ∧ ((ai H (ρ a0 0) 976).toInt ≤ (ai u (ρ a0 0) 976).toInt)) (fun q => q = ρ a0 0) := by
  refine MI.of (by decide) (Nat.le_of_ble_eq_true rfl) ?_
  intro p e s m args below meth c E hml hr hlk hs ls hl
  have hx := E.1
  have hb := E.2.1
  have hown := E.2.2.1
  have hts := E.2.2.2.1
  have hS : SS (fun q => q = ρ a0 0) H H [] := SS.rf
  have hl : lv_has ls 3 [(0, .ref a0), (1, .int 6), (2, .int x1)] := hl
  have n01 := hI.2.2.2.2.2.1
  have n23 := hI.2.2.2.2.2.2.1
  have J_28 : ∀ (H_c28 : Heap) (lc_c28 : List Loc) (ls : Array Slot) (z28_2 : Int32), TH D cI cS τ ρ H_c28 → SS (fun q => q = ρ a0 0) H H_c28 lc_c28 → lv_has ls 3 [(0, .ref a0), (1, .int 6), (2, .int x1)] → 1 ≤ z28_2.toInt → z28_2.toInt ≤ 2 → IM D ρ N H_c28 a0 → (ai H (ρ a0 0) 976).toInt ≤ (ai H_c28 (ρ a0 0) 976).toInt → W p l e (rmO 0 0) s m args below meth c H_c28 lc_c28 0 0 (MQ below (va_Qi (fun (r : Int32) (u : Heap) => (IM D ρ N u a0) ∧ ((ai H (ρ a0 0) 976).toInt ≤ (ai u (ρ a0 0) 976).toInt)) (Bt D cI cS τ ρ H) (fun q => q = ρ a0 0)) args s 0 0 (fun q => q = ρ a0 0)) (F0 m 28 ls [.int z28_2, .int 982, .ref (ρ a0 0)]) := by
    intro H_c28 lc_c28 ls z28_2 hT_c28 hS_c28 hl lz28_2 uz28_2 hI_c28 hmn_c28
    refine th_iast E hT_c28 hS_c28 (hW _ 12 0 ha0 (by decide) (by decide) (by decide)) rfl (by decide) (vp_in_iff.mpr ⟨by decide, by decide⟩) dX12_drops_28 (fun H_1 locs_1 hT_1 hU_1 hS_1 => ?_)
    have hU_1 : AU 985 H_c28 H_1 (ρ a0 0) 982 z28_2 := hU_1
    have hW_1 : PW N H_1 (ρ a0 0) := PW.put hI_c28.1 hU_1 (by show (-2147483648 : Int) ≤ _; exact i_min _) (by show z28_2.toInt ≤ (2 : Int); omega)
    refine lv_aload_n hx hb dX12_drops_29 rfl (lv_at hl 0 rfl) ?_
    refine gf_X12_7 E hT_1 hW ha0 dX12_drops_30 (fun h_2 => ?_)
    refine lv_sipush (v := 983) hx hb dX12_drops_33 (by decide) ?_
    refine lv_iload_n hx hb dX12_drops_36 rfl (lv_at hl 1 rfl) ?_
    refine th_iast E hT_1 hS_1 h_2 rfl (by decide) (vp_in_iff.mpr ⟨by decide, by decide⟩) dX12_drops_37 (fun H_3 locs_3 hT_3 hU_3 hS_3 => ?_)
    have hU_3 : AU 985 H_1 H_3 (ρ a0 0) 983 (6) := hU_3
    have hW_3 : PW N H_3 (ρ a0 0) := PW.put hW_1 hU_3 (by show (-2147483648 : Int) ≤ _; exact i_min _) (by show _ ≤ (2147483647 : Int); exact i_max _)
    refine lv_aload_n hx hb dX12_drops_38 rfl (lv_at hl 0 rfl) ?_
    refine gf_X12_7 E hT_3 hW ha0 dX12_drops_39 (fun h_4 => ?_)
    refine lv_sipush (v := 984) hx hb dX12_drops_42 (by decide) ?_
    refine lv_iload_n hx hb dX12_drops_45 rfl (lv_at hl 2 rfl) ?_
    refine th_iast E hT_3 hS_3 h_4 rfl (by decide) (vp_in_iff.mpr ⟨by decide, by decide⟩) dX12_drops_46 (fun H_5 locs_5 hT_5 hU_5 hS_5 => ?_)
    have hU_5 : AU 985 H_3 H_5 (ρ a0 0) 984 x1 := hU_5
    have hW_5 : PW N H_5 (ρ a0 0) := PW.put hW_3 hU_5 (by show (-2147483648 : Int) ≤ _; exact i_min _) (by show _ ≤ (2147483647 : Int); exact i_max _)
    refine lv_iconst (v := 0) hx hb dX12_drops_47 (by decide) ?_
    exact th_iret E hr hlk hs hT_5 hS_5 ⟨⟨hW_5, (QS.same (Eq.trans (AU.o hU_5 (by decide) (by decide)) (Eq.trans (AU.o hU_3 (by decide) (by decide)) (AU.o hU_1 (by decide) (by decide)))) (Eq.trans (AU.o hU_5 (by decide) (by decide)) (Eq.trans (AU.o hU_3 (by decide) (by decide)) (AU.o hU_1 (by decide) (by decide)))) hI_c28.2.1), (QS.same (Eq.trans (AU.o hU_5 (by decide) (by decide)) (Eq.trans (AU.o hU_3 (by decide) (by decide)) (AU.o hU_1 (by decide) (by decide)))) (Eq.trans (AU.o hU_5 (by decide) (by decide)) (Eq.trans (AU.o hU_3 (by decide) (by decide)) (AU.o hU_1 (by decide) (by decide)))) hI_c28.2.2.1), (PL.q (hU_5.2 _ (th_ne (hW _ 12 2 ha0 (by decide) (by decide) (by decide)) (hW _ 12 0 ha0 (by decide) (by decide) (by decide)) (by decide))) (PL.q (hU_3.2 _ (th_ne (hW _ 12 2 ha0 (by decide) (by decide) (by decide)) (hW _ 12 0 ha0 (by decide) (by decide) (by decide)) (by decide))) (PL.q (hU_1.2 _ (th_ne (hW _ 12 2 ha0 (by decide) (by decide) (by decide)) (hW _ 12 0 ha0 (by decide) (by decide) (by decide)) (by decide))) hI_c28.2.2.2.1))), (PL.q (hU_5.2 _ (th_ne (hW _ 12 3 ha0 (by decide) (by decide) (by decide)) (hW _ 12 0 ha0 (by decide) (by decide) (by decide)) (by decide))) (PL.q (hU_3.2 _ (th_ne (hW _ 12 3 ha0 (by decide) (by decide) (by decide)) (hW _ 12 0 ha0 (by decide) (by decide) (by decide)) (by decide))) (PL.q (hU_1.2 _ (th_ne (hW _ 12 3 ha0 (by decide) (by decide) (by decide)) (hW _ 12 0 ha0 (by decide) (by decide) (by decide)) (by decide))) hI_c28.2.2.2.2.1))), (IF.q (hU_5.2 _ (th_ne ha0 (hW _ 12 0 ha0 (by decide) (by decide) (by decide)) (by decide))) (IF.q (hU_3.2 _ (th_ne ha0 (hW _ 12 0 ha0 (by decide) (by decide) (by decide)) (by decide))) (IF.q (hU_1.2 _ (th_ne ha0 (hW _ 12 0 ha0 (by decide) (by decide) (by decide)) (by decide))) hI_c28.2.2.2.2.2)))⟩, (by rw [(Eq.trans (AU.o hU_5 (by decide) (by decide)) (Eq.trans (AU.o hU_3 (by decide) (by decide)) (AU.o hU_1 (by decide) (by decide))))]; omega)⟩ dX12_drops_48
  refine lv_aload_n hx hb dX12_drops_0 rfl (lv_at hl 0 rfl) ?_
  refine gf_X12_7 E hT hW ha0 dX12_drops_1 (fun h_6 => ?_)
  refine lv_sipush (v := 981) hx hb dX12_drops_4 (by decide) ?_
  refine lv_dup2_11 hx hb dX12_drops_7 rfl rfl ?_
  refine th_iald E hT h_6 (by decide) (vp_in_iff.mpr ⟨by decide, by decide⟩) dX12_drops_8 ?_
  refine th_topi (y := ai H (ρ a0 0) 981) rfl ?_
  refine lv_topi (fun x_7 ex_7 => ?_)
  have c_x_7 := congrArg Int32.toInt ex_7.symm
  refine lv_iconst (v := 1) hx hb dX12_drops_9 (by decide) ?_
  refine lv_iadd hx hb dX12_drops_10 ?_
  refine lv_topi (fun x_8 ex_8 => ?_)
  refine th_iast E hT hS h_6 rfl (by decide) (vp_in_iff.mpr ⟨by decide, by decide⟩) dX12_drops_11 (fun H_9 locs_9 hT_9 hU_9 hS_9 => ?_)
  have hU_9 : AU 985 H H_9 (ρ a0 0) 981 x_8 := hU_9
  have hW_9 : PW N H_9 (ρ a0 0) := PW.put hI.1 hU_9 (by show (-2147483648 : Int) ≤ _; exact i_min _) (by show _ ≤ (2147483647 : Int); exact i_max _)
  refine lv_aload_n hx hb dX12_drops_12 rfl (lv_at hl 0 rfl) ?_
  refine gf_X12_7 E hT_9 hW ha0 dX12_drops_13 (fun h_10 => ?_)
  refine lv_sipush (v := 982) hx hb dX12_drops_16 (by decide) ?_
  refine lv_iload_n hx hb dX12_drops_19 rfl (lv_at hl 2 rfl) ?_
  refine lv_if_le (tgt := 27) hx hb dX12_drops_20 (by decide) (fun c_11 => ?_) (fun c_11 => ?_)
  · have f_11 : x1.toInt ≤ 0 := r_le rfl (by decide) c_11
    refine lv_iconst (v := 1) hx hb dX12_drops_27 (by decide) ?_
    exact J_28 H_9 locs_9 _ 1 hT_9 hS_9 hl (by decide) (by decide) ⟨hW_9, (QS.same (AU.o hU_9 (by decide) (by decide)) (AU.o hU_9 (by decide) (by decide)) hI.2.1), (QS.same (AU.o hU_9 (by decide) (by decide)) (AU.o hU_9 (by decide) (by decide)) hI.2.2.1), (PL.q (hU_9.2 _ (th_ne (hW _ 12 2 ha0 (by decide) (by decide) (by decide)) (hW _ 12 0 ha0 (by decide) (by decide) (by decide)) (by decide))) hI.2.2.2.1), (PL.q (hU_9.2 _ (th_ne (hW _ 12 3 ha0 (by decide) (by decide) (by decide)) (hW _ 12 0 ha0 (by decide) (by decide) (by decide)) (by decide))) hI.2.2.2.2.1), (IF.q (hU_9.2 _ (th_ne ha0 (hW _ 12 0 ha0 (by decide) (by decide) (by decide)) (by decide))) hI.2.2.2.2.2)⟩ (by rw [(AU.o hU_9 (by decide) (by decide))]; omega)
  · have f_11 : 0 < x1.toInt := r_nle rfl (by decide) c_11
    refine lv_iconst (v := 2) hx hb dX12_drops_23 (by decide) ?_
    refine lv_goto (tgt := 28) hx hb dX12_drops_24 (by decide) ?_
    exact J_28 H_9 locs_9 _ 2 hT_9 hS_9 hl (by decide) (by decide) ⟨hW_9, (QS.same (AU.o hU_9 (by decide) (by decide)) (AU.o hU_9 (by decide) (by decide)) hI.2.1), (QS.same (AU.o hU_9 (by decide) (by decide)) (AU.o hU_9 (by decide) (by decide)) hI.2.2.1), (PL.q (hU_9.2 _ (th_ne (hW _ 12 2 ha0 (by decide) (by decide) (by decide)) (hW _ 12 0 ha0 (by decide) (by decide) (by decide)) (by decide))) hI.2.2.2.1), (PL.q (hU_9.2 _ (th_ne (hW _ 12 3 ha0 (by decide) (by decide) (by decide)) (hW _ 12 0 ha0 (by decide) (by decide) (by decide)) (by decide))) hI.2.2.2.2.1), (IF.q (hU_9.2 _ (th_ne ha0 (hW _ 12 0 ha0 (by decide) (by decide) (by decide)) (by decide))) hI.2.2.2.2.2)⟩ (by rw [(AU.o hU_9 (by decide) (by decide))]; omega)
set_option maxHeartbeats 4000000 in
set_option maxRecDepth 100000 in
/-- the reference: dropsAndSays -/
theorem y_dropsAndSays (l : Launch) (D : va_G) (cI cS : ClassId) (τ : Nat → Option Nat) (ρ : Nat → Nat → Nat) (hW : WF τ ρ) (H : Heap) (hT : TH D cI cS τ ρ H) (a0 : Nat) (x2 : Int32) (ha0 : τ a0 = some 12) (N : Int) (hN0 : 0 ≤ N) (hN1 : N ≤ 600) (hI : IM D ρ N H a0) : MI l D cI cS τ ρ yX12_dropsAndSays cX12_dropsAndSays 4 (some .int) 6 136 H [.ref a0, .int 0, .int 6, .int x2] (fun (r : Int32) (u : Heap) => (IM D ρ N u a0) ∧ ((ai H (ρ a0 0) 976).toInt ≤ (ai u (ρ a0 0) 976).toInt)) (fun q => q = ρ a0 2 ∨ q = ρ a0 0) := by
  refine MI.of (by decide) (Nat.le_of_ble_eq_true rfl) ?_
  intro p e s m args below meth c E hml hr hlk hs ls hl
  have hx := E.1
  have hb := E.2.1
  have hown := E.2.2.1
  have hts := E.2.2.2.1
  have hS : SS (fun q => q = ρ a0 2 ∨ q = ρ a0 0) H H [] := SS.rf
  have hl : lv_has ls 4 [(0, .ref a0), (1, .int 0), (2, .int 6), (3, .int x2)] := hl
  have n01 := hI.2.2.2.2.2.1
  have n23 := hI.2.2.2.2.2.2.1
  have J_14 : ∀ (H_c14 : Heap) (lc_c14 : List Loc) (ls : Array Slot), TH D cI cS τ ρ H_c14 → SS (fun q => q = ρ a0 2 ∨ q = ρ a0 0) H H_c14 lc_c14 → lv_has ls 4 [(0, .ref a0), (1, .int 0), (2, .int 6), (3, .int x2)] → IM D ρ N H_c14 a0 → (ai H (ρ a0 0) 976).toInt ≤ (ai H_c14 (ρ a0 0) 976).toInt → W p l e (rmO 6 136) s m args below meth c H_c14 lc_c14 0 0 (MQ below (va_Qi (fun (r : Int32) (u : Heap) => (IM D ρ N u a0) ∧ ((ai H (ρ a0 0) 976).toInt ≤ (ai u (ρ a0 0) 976).toInt)) (Bt D cI cS τ ρ H) (fun q => q = ρ a0 2 ∨ q = ρ a0 0)) args s 0 0 (fun q => q = ρ a0 2 ∨ q = ρ a0 0)) (F0 m 14 ls []) := by
    intro H_c14 lc_c14 ls hT_c14 hS_c14 hl hI_c14 hmn_c14
    refine lv_aload_n hx hb dX12_dropsAndSays_14 rfl (lv_at hl 0 rfl) ?_
    refine lv_iload_n hx hb dX12_dropsAndSays_15 rfl (lv_at hl 2 rfl) ?_
    refine lv_iload_n hx hb dX12_dropsAndSays_16 rfl (lv_at hl 3 rfl) ?_
    refine th_Vi (As := [.int 6, .int x2]) (rest := []) E hml hl.1 (y_drops_v6 l D cI cS τ ρ hW H_c14 hT_c14 a0 x2 ha0 N hN0 hN1 ⟨hI_c14.1, hI_c14.2.1, hI_c14.2.2.1, hI_c14.2.2.2.1, hI_c14.2.2.2.2.1, hI_c14.2.2.2.2.2⟩) lk_X12_199 yd_X12_drops hT_c14 ha0 rfl (by decide) hS_c14 (fun q h => (Or.inr h)) ⟨by decide, by decide⟩ (Nat.le_of_ble_eq_true rfl) ⟨by decide, by decide⟩ rfl dX12_dropsAndSays_17 (fun r_1 H_1 locs_1 p_1 hT_1 hk_1 hS_1 => ?_)
    have p_1 : (IM D ρ N H_1 a0) ∧ ((ai H_c14 (ρ a0 0) 976).toInt ≤ (ai H_1 (ρ a0 0) 976).toInt) := p_1
    obtain ⟨p_1_0, p_1_1⟩ := p_1
    have mn_1 : (ai H_c14 (ρ a0 0) 976).toInt ≤ (ai H_1 (ρ a0 0) 976).toInt := by exact p_1_1
    exact th_iret E hr hlk hs hT_1 hS_1 ⟨⟨p_1_0.1, p_1_0.2.1, p_1_0.2.2.1, p_1_0.2.2.2.1, p_1_0.2.2.2.2.1, p_1_0.2.2.2.2.2⟩, (by omega)⟩ dX12_dropsAndSays_20
  refine lv_aload_n hx hb dX12_dropsAndSays_0 rfl (lv_at hl 0 rfl) ?_
  refine lv_bipush (v := 8) hx hb dX12_dropsAndSays_1 (by decide) ?_
  refine th_Vi (As := [.int 8]) (rest := []) E hml hl.1 (y_has_v3 l D cI cS τ ρ hW H hT a0 ha0) lk_X12_202 yd_X12_has hT ha0 rfl (by decide) hS (fun _ h => h.elim) ⟨by decide, by decide⟩ (Nat.le_of_ble_eq_true rfl) ⟨by decide, by decide⟩ rfl dX12_dropsAndSays_3 (fun r_2 H_2 locs_2 p_2 hT_2 hk_2 hS_2 => ?_)
  have p_2 : H = H_2 ∧ (r_2 = 0 ∨ r_2 = 1) := p_2
  obtain ⟨rfl, p_2_0⟩ := p_2
  have z_2 := b_iv p_2_0
  refine lv_if_ne (tgt := 14) hx hb dX12_dropsAndSays_6 (by decide) (fun c_3 => ?_) (fun c_3 => ?_)
  · have f_3 : ¬ r_2.toInt = 0 := r_ne rfl (by decide) c_3
    have nz_r_2 : ¬ r_2 = 0 := c_3
    exact J_14 H locs_2 _ hT_2 hS_2 hl ⟨hI.1, hI.2.1, hI.2.2.1, hI.2.2.2.1, hI.2.2.2.2.1, hI.2.2.2.2.2⟩ (by omega)
  · have f_3 : r_2.toInt = 0 := r_eq rfl (by decide) c_3
    refine lv_aload_n hx hb dX12_dropsAndSays_9 rfl (lv_at hl 0 rfl) ?_
    refine lv_iload_n hx hb dX12_dropsAndSays_10 rfl (lv_at hl 1 rfl) ?_
    refine th_Vv (As := [.int 0]) (rest := []) E hml hl.1 (y_yes l D cI cS τ ρ hW H hT_2 a0 ha0 N hN0 hN1 ⟨hI.1, hI.2.1, hI.2.2.1, hI.2.2.2.1, hI.2.2.2.2.1, hI.2.2.2.2.2⟩) lk_X12_193 yd_X12_yes hT_2 ha0 rfl (by decide) hS_2 (fun q => (fun h => h.elim (fun h => (Or.inl h)) (fun h => (Or.inr h)))) ⟨by decide, by decide⟩ (Nat.le_of_ble_eq_true rfl) ⟨by decide, by decide⟩ rfl dX12_dropsAndSays_11 (fun H_4 locs_4 p_4 hT_4 hk_4 hS_4 => ?_)
    have p_4 : (IM D ρ N H_4 a0) ∧ ((ai H (ρ a0 0) 976).toInt ≤ (ai H_4 (ρ a0 0) 976).toInt) := p_4
    obtain ⟨p_4_0, p_4_1⟩ := p_4
    have mn_4 : (ai H (ρ a0 0) 976).toInt ≤ (ai H_4 (ρ a0 0) 976).toInt := by exact p_4_1
    exact J_14 H_4 locs_4 _ hT_4 hS_4 hl ⟨p_4_0.1, p_4_0.2.1, p_4_0.2.2.1, p_4_0.2.2.2.1, p_4_0.2.2.2.2.1, p_4_0.2.2.2.2.2⟩ (by omega)
set_option maxHeartbeats 4000000 in
set_option maxRecDepth 100000 in
/-- the reference: dropsAndSays -/
theorem y_dropsAndSays_v2 (l : Launch) (D : va_G) (cI cS : ClassId) (τ : Nat → Option Nat) (ρ : Nat → Nat → Nat) (hW : WF τ ρ) (H : Heap) (hT : TH D cI cS τ ρ H) (a0 : Nat) (ha0 : τ a0 = some 12) (N : Int) (hN0 : 0 ≤ N) (hN1 : N ≤ 600) (hI : IM D ρ N H a0) : MI l D cI cS τ ρ yX12_dropsAndSays cX12_dropsAndSays 4 (some .int) 6 136 H [.ref a0, .int 0, .int 5, .int 0] (fun (r : Int32) (u : Heap) => (IM D ρ N u a0) ∧ ((ai H (ρ a0 0) 976).toInt ≤ (ai u (ρ a0 0) 976).toInt)) (fun q => q = ρ a0 2 ∨ q = ρ a0 0) := by
  refine MI.of (by decide) (Nat.le_of_ble_eq_true rfl) ?_
  intro p e s m args below meth c E hml hr hlk hs ls hl
  have hx := E.1
  have hb := E.2.1
  have hown := E.2.2.1
  have hts := E.2.2.2.1
  have hS : SS (fun q => q = ρ a0 2 ∨ q = ρ a0 0) H H [] := SS.rf
  have hl : lv_has ls 4 [(0, .ref a0), (1, .int 0), (2, .int 5), (3, .int 0)] := hl
  have n01 := hI.2.2.2.2.2.1
  have n23 := hI.2.2.2.2.2.2.1
  have J_14 : ∀ (H_c14 : Heap) (lc_c14 : List Loc) (ls : Array Slot), TH D cI cS τ ρ H_c14 → SS (fun q => q = ρ a0 2 ∨ q = ρ a0 0) H H_c14 lc_c14 → lv_has ls 4 [(0, .ref a0), (1, .int 0), (2, .int 5), (3, .int 0)] → IM D ρ N H_c14 a0 → (ai H (ρ a0 0) 976).toInt ≤ (ai H_c14 (ρ a0 0) 976).toInt → W p l e (rmO 6 136) s m args below meth c H_c14 lc_c14 0 0 (MQ below (va_Qi (fun (r : Int32) (u : Heap) => (IM D ρ N u a0) ∧ ((ai H (ρ a0 0) 976).toInt ≤ (ai u (ρ a0 0) 976).toInt)) (Bt D cI cS τ ρ H) (fun q => q = ρ a0 2 ∨ q = ρ a0 0)) args s 0 0 (fun q => q = ρ a0 2 ∨ q = ρ a0 0)) (F0 m 14 ls []) := by
    intro H_c14 lc_c14 ls hT_c14 hS_c14 hl hI_c14 hmn_c14
    refine lv_aload_n hx hb dX12_dropsAndSays_14 rfl (lv_at hl 0 rfl) ?_
    refine lv_iload_n hx hb dX12_dropsAndSays_15 rfl (lv_at hl 2 rfl) ?_
    refine lv_iload_n hx hb dX12_dropsAndSays_16 rfl (lv_at hl 3 rfl) ?_
    refine th_Vi (As := [.int 5, .int 0]) (rest := []) E hml hl.1 (y_drops_v3 l D cI cS τ ρ hW H_c14 hT_c14 a0 ha0 N hN0 hN1 ⟨hI_c14.1, hI_c14.2.1, hI_c14.2.2.1, hI_c14.2.2.2.1, hI_c14.2.2.2.2.1, hI_c14.2.2.2.2.2⟩) lk_X12_199 yd_X12_drops hT_c14 ha0 rfl (by decide) hS_c14 (fun q h => (Or.inr h)) ⟨by decide, by decide⟩ (Nat.le_of_ble_eq_true rfl) ⟨by decide, by decide⟩ rfl dX12_dropsAndSays_17 (fun r_1 H_1 locs_1 p_1 hT_1 hk_1 hS_1 => ?_)
    have p_1 : (IM D ρ N H_1 a0) ∧ ((ai H_c14 (ρ a0 0) 976).toInt ≤ (ai H_1 (ρ a0 0) 976).toInt) := p_1
    obtain ⟨p_1_0, p_1_1⟩ := p_1
    have mn_1 : (ai H_c14 (ρ a0 0) 976).toInt ≤ (ai H_1 (ρ a0 0) 976).toInt := by exact p_1_1
    exact th_iret E hr hlk hs hT_1 hS_1 ⟨⟨p_1_0.1, p_1_0.2.1, p_1_0.2.2.1, p_1_0.2.2.2.1, p_1_0.2.2.2.2.1, p_1_0.2.2.2.2.2⟩, (by omega)⟩ dX12_dropsAndSays_20
  refine lv_aload_n hx hb dX12_dropsAndSays_0 rfl (lv_at hl 0 rfl) ?_
  refine lv_bipush (v := 8) hx hb dX12_dropsAndSays_1 (by decide) ?_
  refine th_Vi (As := [.int 8]) (rest := []) E hml hl.1 (y_has_v3 l D cI cS τ ρ hW H hT a0 ha0) lk_X12_202 yd_X12_has hT ha0 rfl (by decide) hS (fun _ h => h.elim) ⟨by decide, by decide⟩ (Nat.le_of_ble_eq_true rfl) ⟨by decide, by decide⟩ rfl dX12_dropsAndSays_3 (fun r_2 H_2 locs_2 p_2 hT_2 hk_2 hS_2 => ?_)
  have p_2 : H = H_2 ∧ (r_2 = 0 ∨ r_2 = 1) := p_2
  obtain ⟨rfl, p_2_0⟩ := p_2
  have z_2 := b_iv p_2_0
  refine lv_if_ne (tgt := 14) hx hb dX12_dropsAndSays_6 (by decide) (fun c_3 => ?_) (fun c_3 => ?_)
  · have f_3 : ¬ r_2.toInt = 0 := r_ne rfl (by decide) c_3
    have nz_r_2 : ¬ r_2 = 0 := c_3
    exact J_14 H locs_2 _ hT_2 hS_2 hl ⟨hI.1, hI.2.1, hI.2.2.1, hI.2.2.2.1, hI.2.2.2.2.1, hI.2.2.2.2.2⟩ (by omega)
  · have f_3 : r_2.toInt = 0 := r_eq rfl (by decide) c_3
    refine lv_aload_n hx hb dX12_dropsAndSays_9 rfl (lv_at hl 0 rfl) ?_
    refine lv_iload_n hx hb dX12_dropsAndSays_10 rfl (lv_at hl 1 rfl) ?_
    refine th_Vv (As := [.int 0]) (rest := []) E hml hl.1 (y_yes l D cI cS τ ρ hW H hT_2 a0 ha0 N hN0 hN1 ⟨hI.1, hI.2.1, hI.2.2.1, hI.2.2.2.1, hI.2.2.2.2.1, hI.2.2.2.2.2⟩) lk_X12_193 yd_X12_yes hT_2 ha0 rfl (by decide) hS_2 (fun q => (fun h => h.elim (fun h => (Or.inl h)) (fun h => (Or.inr h)))) ⟨by decide, by decide⟩ (Nat.le_of_ble_eq_true rfl) ⟨by decide, by decide⟩ rfl dX12_dropsAndSays_11 (fun H_4 locs_4 p_4 hT_4 hk_4 hS_4 => ?_)
    have p_4 : (IM D ρ N H_4 a0) ∧ ((ai H (ρ a0 0) 976).toInt ≤ (ai H_4 (ρ a0 0) 976).toInt) := p_4
    obtain ⟨p_4_0, p_4_1⟩ := p_4
    have mn_4 : (ai H (ρ a0 0) 976).toInt ≤ (ai H_4 (ρ a0 0) 976).toInt := by exact p_4_1
    exact J_14 H_4 locs_4 _ hT_4 hS_4 hl ⟨p_4_0.1, p_4_0.2.1, p_4_0.2.2.1, p_4_0.2.2.2.1, p_4_0.2.2.2.2.1, p_4_0.2.2.2.2.2⟩ (by omega)
set_option maxHeartbeats 4000000 in
set_option maxRecDepth 100000 in
/-- the reference: inOthers -/
theorem y_inOthers (l : Launch) (D : va_G) (cI cS : ClassId) (τ : Nat → Option Nat) (ρ : Nat → Nat → Nat) (hW : WF τ ρ) (H : Heap) (hT : TH D cI cS τ ρ H) (a0 : Nat) (ha0 : τ a0 = some 12) (N : Int) (hN0 : 0 ≤ N) (hN1 : N ≤ 600) (hI : IM D ρ N H a0) : MI l D cI cS τ ρ yX12_inOthers cX12_inOthers 5 (some .int) 10 237 H [.ref a0, .int 0] (fun (r : Int32) (u : Heap) => (IM D ρ N u a0) ∧ ((ai H (ρ a0 0) 976).toInt ≤ (ai u (ρ a0 0) 976).toInt)) (fun q => q = ρ a0 2 ∨ q = ρ a0 0) := by
  refine MI.of (by decide) (Nat.le_of_ble_eq_true rfl) ?_
  intro p e s m args below meth c E hml hr hlk hs ls hl
  have hx := E.1
  have hb := E.2.1
  have hown := E.2.2.1
  have hts := E.2.2.2.1
  have hS : SS (fun q => q = ρ a0 2 ∨ q = ρ a0 0) H H [] := SS.rf
  have hl : lv_has ls 5 [(0, .ref a0), (1, .int 0)] := hl
  have n01 := hI.2.2.2.2.2.1
  have n23 := hI.2.2.2.2.2.2.1
  have J_186 : ∀ (H_c186 : Heap) (lc_c186 : List Loc) (ls : Array Slot) (y186_2 : Int32) (y186_3 : Int32) (y186_4 : Int32), TH D cI cS τ ρ H_c186 → SS (fun q => q = ρ a0 2 ∨ q = ρ a0 0) H H_c186 lc_c186 → lv_has ls 5 [(0, .ref a0), (1, .int 0), (2, .int y186_2), (3, .int y186_3), (4, .int y186_4)] → -128 ≤ y186_2.toInt → y186_2.toInt ≤ 760 → -128 ≤ y186_4.toInt → y186_4.toInt ≤ 729 → IM D ρ N H_c186 a0 → (ai H (ρ a0 0) 976).toInt ≤ (ai H_c186 (ρ a0 0) 976).toInt → W p l e (rmO 10 237) s m args below meth c H_c186 lc_c186 0 0 (MQ below (va_Qi (fun (r : Int32) (u : Heap) => (IM D ρ N u a0) ∧ ((ai H (ρ a0 0) 976).toInt ≤ (ai u (ρ a0 0) 976).toInt)) (Bt D cI cS τ ρ H) (fun q => q = ρ a0 2 ∨ q = ρ a0 0)) args s 0 0 (fun q => q = ρ a0 2 ∨ q = ρ a0 0)) (F0 m 186 ls []) := by
    intro H_c186 lc_c186 ls y186_2 y186_3 y186_4 hT_c186 hS_c186 hl ly186_2 uy186_2 ly186_4 uy186_4 hI_c186 hmn_c186
    refine lv_iload hx hb dX12_inOthers_186 (lv_at hl 4 rfl) ?_
    refine lv_aload_n hx hb dX12_inOthers_188 rfl (lv_at hl 0 rfl) ?_
    refine lv_iload_n hx hb dX12_inOthers_189 rfl (lv_at hl 1 rfl) ?_
    refine lv_iconst (v := 2) hx hb dX12_inOthers_190 (by decide) ?_
    refine th_Vi (As := [.int 0, .int 2]) (rest := [.int y186_4]) E hml hl.1 (y_get_v16 l D cI cS τ ρ hW H_c186 hT_c186 a0 ha0) lk_X12_99 yd_X12_get hT_c186 ha0 rfl (by decide) hS_c186 (fun _ h => h.elim) ⟨by decide, by decide⟩ (Nat.le_of_ble_eq_true rfl) ⟨by decide, by decide⟩ rfl dX12_inOthers_191 (fun r_1 H_1 locs_1 p_1 hT_1 hk_1 hS_1 => ?_)
    have p_1 : H_c186 = H_1 ∧ (ai H_c186 (ρ a0 0) 2 = r_1) := p_1
    obtain ⟨rfl, p_1_0⟩ := p_1
    have b_r_1 : 0 ≤ r_1.toInt ∧ r_1.toInt ≤ N + 2 := by rw [← p_1_0]; exact hI_c186.1 2 (by decide)
    have c_r_1 := congrArg Int32.toInt p_1_0
    refine lv_icmp_le (tgt := 205) hx hb dX12_inOthers_194 (by decide) (fun c_2 => ?_) (fun c_2 => ?_)
    · have f_2 : y186_4.toInt ≤ r_1.toInt := r_le rfl rfl c_2
      refine lv_aload_n hx hb dX12_inOthers_205 rfl (lv_at hl 0 rfl) ?_
      refine lv_iload_n hx hb dX12_inOthers_206 rfl (lv_at hl 1 rfl) ?_
      refine lv_iload_n hx hb dX12_inOthers_207 rfl (lv_at hl 2 rfl) ?_
      refine lv_iload hx hb dX12_inOthers_208 (lv_at hl 4 rfl) ?_
      refine th_Vi (As := [.int 0, .int y186_2, .int y186_4]) (rest := []) E hml hl.1 (y_takesIn l D cI cS τ ρ hW H_c186 hT_1 a0 y186_2 y186_4 ha0 N hN0 hN1 ⟨hI_c186.1, hI_c186.2.1, hI_c186.2.2.1, hI_c186.2.2.2.1, hI_c186.2.2.2.2.1, hI_c186.2.2.2.2.2⟩ (by omega) (by omega)) lk_X12_233 yd_X12_takesIn hT_1 ha0 rfl (by decide) hS_1 (fun q => (fun h => h.elim (fun h => (Or.inr h)) (fun h => (Or.inl h)))) ⟨by decide, by decide⟩ (Nat.le_of_ble_eq_true rfl) ⟨by decide, by decide⟩ rfl dX12_inOthers_210 (fun r_3 H_3 locs_3 p_3 hT_3 hk_3 hS_3 => ?_)
      have p_3 : (IM D ρ N H_3 a0) ∧ ((ai H_c186 (ρ a0 0) 976).toInt ≤ (ai H_3 (ρ a0 0) 976).toInt) := p_3
      obtain ⟨p_3_0, p_3_1⟩ := p_3
      have mn_3 : (ai H_c186 (ρ a0 0) 976).toInt ≤ (ai H_3 (ρ a0 0) 976).toInt := by exact p_3_1
      exact th_iret E hr hlk hs hT_3 hS_3 ⟨⟨p_3_0.1, p_3_0.2.1, p_3_0.2.2.1, p_3_0.2.2.2.1, p_3_0.2.2.2.2.1, p_3_0.2.2.2.2.2⟩, (by omega)⟩ dX12_inOthers_213
    · have f_2 : r_1.toInt < y186_4.toInt := r_nle rfl rfl c_2
      refine lv_aload_n hx hb dX12_inOthers_197 rfl (lv_at hl 0 rfl) ?_
      refine lv_iload_n hx hb dX12_inOthers_198 rfl (lv_at hl 1 rfl) ?_
      refine lv_iconst (v := 5) hx hb dX12_inOthers_199 (by decide) ?_
      refine lv_iconst (v := 0) hx hb dX12_inOthers_200 (by decide) ?_
      refine th_Vi (As := [.int 0, .int 5, .int 0]) (rest := []) E hml hl.1 (y_dropsAndSays_v2 l D cI cS τ ρ hW H_c186 hT_1 a0 ha0 N hN0 hN1 ⟨hI_c186.1, hI_c186.2.1, hI_c186.2.2.1, hI_c186.2.2.2.1, hI_c186.2.2.2.2.1, hI_c186.2.2.2.2.2⟩) lk_X12_230 yd_X12_dropsAndSays hT_1 ha0 rfl (by decide) hS_1 (fun q => (fun h => h.elim (fun h => (Or.inl h)) (fun h => (Or.inr h)))) ⟨by decide, by decide⟩ (Nat.le_of_ble_eq_true rfl) ⟨by decide, by decide⟩ rfl dX12_inOthers_201 (fun r_4 H_4 locs_4 p_4 hT_4 hk_4 hS_4 => ?_)
      have p_4 : (IM D ρ N H_4 a0) ∧ ((ai H_c186 (ρ a0 0) 976).toInt ≤ (ai H_4 (ρ a0 0) 976).toInt) := p_4
      obtain ⟨p_4_0, p_4_1⟩ := p_4
      have mn_4 : (ai H_c186 (ρ a0 0) 976).toInt ≤ (ai H_4 (ρ a0 0) 976).toInt := by exact p_4_1
      exact th_iret E hr hlk hs hT_4 hS_4 ⟨⟨p_4_0.1, p_4_0.2.1, p_4_0.2.2.1, p_4_0.2.2.2.1, p_4_0.2.2.2.2.1, p_4_0.2.2.2.2.2⟩, (by omega)⟩ dX12_inOthers_204
  have J_79 : ∀ (H_c79 : Heap) (lc_c79 : List Loc) (ls : Array Slot) (y79_2 : Int32) (y79_3 : Int32) (z79_3 : Int32), TH D cI cS τ ρ H_c79 → SS (fun q => q = ρ a0 2 ∨ q = ρ a0 0) H H_c79 lc_c79 → lv_has ls 5 [(0, .ref a0), (1, .int 0), (2, .int y79_2), (3, .int y79_3)] → -128 ≤ y79_2.toInt → y79_2.toInt ≤ 760 → 7 ≤ z79_3.toInt → z79_3.toInt ≤ 9 → IM D ρ N H_c79 a0 → (ai H (ρ a0 0) 976).toInt ≤ (ai H_c79 (ρ a0 0) 976).toInt → W p l e (rmO 10 237) s m args below meth c H_c79 lc_c79 0 0 (MQ below (va_Qi (fun (r : Int32) (u : Heap) => (IM D ρ N u a0) ∧ ((ai H (ρ a0 0) 976).toInt ≤ (ai u (ρ a0 0) 976).toInt)) (Bt D cI cS τ ρ H) (fun q => q = ρ a0 2 ∨ q = ρ a0 0)) args s 0 0 (fun q => q = ρ a0 2 ∨ q = ρ a0 0)) (F0 m 79 ls [.int z79_3, .int 6, .int 0, .ref a0]) := by
    intro H_c79 lc_c79 ls y79_2 y79_3 z79_3 hT_c79 hS_c79 hl ly79_2 uy79_2 lz79_3 uz79_3 hI_c79 hmn_c79
    refine th_Vi (As := [.int 0, .int 6, .int z79_3]) (rest := []) E hml hl.1 (y_dropsAndSays l D cI cS τ ρ hW H_c79 hT_c79 a0 z79_3 ha0 N hN0 hN1 ⟨hI_c79.1, hI_c79.2.1, hI_c79.2.2.1, hI_c79.2.2.2.1, hI_c79.2.2.2.2.1, hI_c79.2.2.2.2.2⟩) lk_X12_230 yd_X12_dropsAndSays hT_c79 ha0 rfl (by decide) hS_c79 (fun q => (fun h => h.elim (fun h => (Or.inl h)) (fun h => (Or.inr h)))) ⟨by decide, by decide⟩ (Nat.le_of_ble_eq_true rfl) ⟨by decide, by decide⟩ rfl dX12_inOthers_79 (fun r_5 H_5 locs_5 p_5 hT_5 hk_5 hS_5 => ?_)
    have p_5 : (IM D ρ N H_5 a0) ∧ ((ai H_c79 (ρ a0 0) 976).toInt ≤ (ai H_5 (ρ a0 0) 976).toInt) := p_5
    obtain ⟨p_5_0, p_5_1⟩ := p_5
    have mn_5 : (ai H_c79 (ρ a0 0) 976).toInt ≤ (ai H_5 (ρ a0 0) 976).toInt := by exact p_5_1
    refine lv_istore (lv' := [(4, .int r_5), (0, .ref a0), (1, .int 0), (2, .int y79_2), (3, .int y79_3)]) hx hb dX12_inOthers_82 hl (by decide) rfl (fun ls hl => ?_)
    refine lv_iload_n hx hb dX12_inOthers_84 rfl (lv_at hl 4 rfl) ?_
    refine lv_bipush (v := 10) hx hb dX12_inOthers_85 (by decide) ?_
    refine lv_icmp_ne (tgt := 103) hx hb dX12_inOthers_87 (by decide) (fun c_6 => ?_) (fun c_6 => ?_)
    · have f_6 : ¬ y79_3.toInt = 10 := r_ne rfl (by decide) c_6
      refine lv_iload hx hb dX12_inOthers_103 (lv_at hl 0 rfl) ?_
      exact th_iret E hr hlk hs hT_5 hS_5 ⟨⟨p_5_0.1, p_5_0.2.1, p_5_0.2.2.1, p_5_0.2.2.2.1, p_5_0.2.2.2.2.1, p_5_0.2.2.2.2.2⟩, (by omega)⟩ dX12_inOthers_105
    · have f_6 : y79_3.toInt = 10 := r_eq rfl (by decide) c_6
      refine lv_aload_n hx hb dX12_inOthers_90 rfl (lv_at hl 1 rfl) ?_
      refine lv_iload_n hx hb dX12_inOthers_91 rfl (lv_at hl 2 rfl) ?_
      refine lv_bipush (v := 12) hx hb dX12_inOthers_92 (by decide) ?_
      refine lv_iconst (v := 2) hx hb dX12_inOthers_94 (by decide) ?_
      refine lv_aload_n hx hb dX12_inOthers_95 rfl (lv_at hl 1 rfl) ?_
      refine gf_X12_32 E hT_5 ha0 dX12_inOthers_96 ?_
      refine th_topi (y := fi D 12 8 H_c79 a0) (fi_q (hk_5 _ (fun h => h.elim (th_ne ha0 (hW _ 12 2 ha0 (by decide) (by decide) (by decide)) (by decide)) (th_ne ha0 (hW _ 12 0 ha0 (by decide) (by decide) (by decide)) (by decide))))) ?_
      refine lv_topi (fun x_7 ex_7 => ?_)
      have b_7 : 1 ≤ x_7.toInt ∧ x_7.toInt ≤ 20 := by rw [ex_7]; exact IF.f8 hI_c79.2.2.2.2.2
      refine lv_imul hx hb dX12_inOthers_99 ?_
      refine lv_topi (fun x_8 ex_8 => ?_)
      have q_8 : x_8.toInt = 2 * x_7.toInt := i_ml (by decide) rfl ex_8 (by omega) (by omega)
      refine th_Vv (As := [.int 0, .int 12, .int x_8]) (rest := []) E hml hl.1 (y_set_v36 l D cI cS τ ρ hW H_5 hT_5 a0 x_8 ha0) lk_X12_95 yd_X12_set hT_5 ha0 rfl (by decide) hS_5 (fun q h => (Or.inr h)) ⟨by decide, by decide⟩ (Nat.le_of_ble_eq_true rfl) ⟨by decide, by decide⟩ rfl dX12_inOthers_100 (fun H_9 locs_9 p_9 hT_9 hk_9 hS_9 => ?_)
      have p_9 : (AU 985 H_5 H_9 (ρ a0 0) 12 x_8) := p_9
      have hW_9 : PW N H_9 (ρ a0 0) := PW.put p_5_0.1 p_9 (by show (-2147483648 : Int) ≤ _; exact i_min _) (by show _ ≤ (2147483647 : Int); exact i_max _)
      refine lv_iload hx hb dX12_inOthers_103 (lv_at hl 0 rfl) ?_
      exact th_iret E hr hlk hs hT_9 hS_9 ⟨⟨hW_9, (QS.same (AU.o p_9 (by decide) (by decide)) (AU.o p_9 (by decide) (by decide)) p_5_0.2.1), (QS.same (AU.o p_9 (by decide) (by decide)) (AU.o p_9 (by decide) (by decide)) p_5_0.2.2.1), (PL.q (p_9.2 _ (th_ne (hW _ 12 2 ha0 (by decide) (by decide) (by decide)) (hW _ 12 0 ha0 (by decide) (by decide) (by decide)) (by decide))) p_5_0.2.2.2.1), (PL.q (p_9.2 _ (th_ne (hW _ 12 3 ha0 (by decide) (by decide) (by decide)) (hW _ 12 0 ha0 (by decide) (by decide) (by decide)) (by decide))) p_5_0.2.2.2.2.1), (IF.q (p_9.2 _ (th_ne ha0 (hW _ 12 0 ha0 (by decide) (by decide) (by decide)) (by decide))) p_5_0.2.2.2.2.2)⟩, (by rw [(AU.o p_9 (by decide) (by decide))]; omega)⟩ dX12_inOthers_105
  refine lv_aload_n hx hb dX12_inOthers_0 rfl (lv_at hl 0 rfl) ?_
  refine lv_iconst (v := 1) hx hb dX12_inOthers_1 (by decide) ?_
  refine lv_iload_n hx hb dX12_inOthers_2 rfl (lv_at hl 1 rfl) ?_
  refine lv_isub hx hb dX12_inOthers_3 ?_
  refine th_topi (y := 1) (by decide) ?_
  refine lv_aload_n hx hb dX12_inOthers_4 rfl (lv_at hl 0 rfl) ?_
  refine gf_X12_19 E hT hW ha0 dX12_inOthers_5 (fun h_10 => ?_)
  refine lv_iconst (v := 2) hx hb dX12_inOthers_8 (by decide) ?_
  refine th_iald E hT h_10 (by decide) (vp_in_iff.mpr ⟨by decide, by decide⟩) dX12_inOthers_9 ?_
  refine th_topi (y := ai H (ρ a0 3) 2) rfl ?_
  refine lv_topi (fun x_11 ex_11 => ?_)
  have c_x_11 := congrArg Int32.toInt ex_11.symm
  refine lv_aload_n hx hb dX12_inOthers_10 rfl (lv_at hl 0 rfl) ?_
  refine lv_iload_n hx hb dX12_inOthers_11 rfl (lv_at hl 1 rfl) ?_
  refine lv_iconst (v := 5) hx hb dX12_inOthers_12 (by decide) ?_
  refine th_Vi (As := [.int 0, .int 5]) (rest := [.int x_11, .int 1, .ref a0]) E hml hl.1 (y_get_v22 l D cI cS τ ρ hW H hT a0 ha0) lk_X12_99 yd_X12_get hT ha0 rfl (by decide) hS (fun _ h => h.elim) ⟨by decide, by decide⟩ (Nat.le_of_ble_eq_true rfl) ⟨by decide, by decide⟩ rfl dX12_inOthers_13 (fun r_12 H_12 locs_12 p_12 hT_12 hk_12 hS_12 => ?_)
  have p_12 : H = H_12 ∧ (ai H (ρ a0 0) 5 = r_12) := p_12
  obtain ⟨rfl, p_12_0⟩ := p_12
  have b_r_12 : 0 ≤ r_12.toInt ∧ r_12.toInt ≤ N + 33 := by rw [← p_12_0]; exact hI.1 5 (by decide)
  have c_r_12 := congrArg Int32.toInt p_12_0
  refine th_Vi (As := [.int 1, .int x_11, .int r_12]) (rest := []) E hml hl.1 (y_means_v2 l D cI cS τ ρ hW H hT_12 a0 x_11 r_12 ha0 (by omega)) lk_X12_208 yd_X12_means hT_12 ha0 rfl (by decide) hS_12 (fun _ h => h.elim) ⟨by decide, by decide⟩ (Nat.le_of_ble_eq_true rfl) ⟨by decide, by decide⟩ rfl dX12_inOthers_16 (fun r_13 H_13 locs_13 p_13 hT_13 hk_13 hS_13 => ?_)
  have p_13 : H = H_13 ∧ (r_12.toInt - 128 ≤ r_13.toInt ∧ r_13.toInt ≤ r_12.toInt + 127) := p_13
  obtain ⟨rfl, p_13_0⟩ := p_13
  refine lv_istore_n (lv' := [(2, .int r_13), (0, .ref a0), (1, .int 0)]) hx hb dX12_inOthers_19 rfl hl (by decide) rfl (fun ls hl => ?_)
  refine lv_aload_n hx hb dX12_inOthers_20 rfl (lv_at hl 1 rfl) ?_
  refine lv_iload_n hx hb dX12_inOthers_21 rfl (lv_at hl 2 rfl) ?_
  refine lv_iconst (v := 0) hx hb dX12_inOthers_22 (by decide) ?_
  refine th_Vi (As := [.int 0, .int 0]) (rest := []) E hml hl.1 (y_get_v21 l D cI cS τ ρ hW H hT_13 a0 ha0) lk_X12_99 yd_X12_get hT_13 ha0 rfl (by decide) hS_13 (fun _ h => h.elim) ⟨by decide, by decide⟩ (Nat.le_of_ble_eq_true rfl) ⟨by decide, by decide⟩ rfl dX12_inOthers_23 (fun r_14 H_14 locs_14 p_14 hT_14 hk_14 hS_14 => ?_)
  have p_14 : H = H_14 ∧ (ai H (ρ a0 0) 0 = r_14) := p_14
  obtain ⟨rfl, p_14_0⟩ := p_14
  have c_r_14 := congrArg Int32.toInt p_14_0
  refine lv_istore_n (lv' := [(3, .int r_14), (2, .int r_13), (0, .ref a0), (1, .int 0)]) hx hb dX12_inOthers_26 rfl hl (by decide) rfl (fun ls hl => ?_)
  refine lv_aload_n hx hb dX12_inOthers_27 rfl (lv_at hl 2 rfl) ?_
  refine lv_iload_n hx hb dX12_inOthers_28 rfl (lv_at hl 3 rfl) ?_
  refine lv_iload_n hx hb dX12_inOthers_29 rfl (lv_at hl 1 rfl) ?_
  refine th_Vi (As := [.int 0, .int r_13]) (rest := []) E hml hl.1 (y_fits l D cI cS τ ρ hW H hT_14 a0 r_13 ha0 N hN0 hN1 ⟨hI.1, hI.2.1, hI.2.2.1, hI.2.2.2.1, hI.2.2.2.2.1, hI.2.2.2.2.2⟩) lk_X12_227 yd_X12_fits hT_14 ha0 rfl (by decide) hS_14 (fun _ h => h.elim) ⟨by decide, by decide⟩ (Nat.le_of_ble_eq_true rfl) ⟨by decide, by decide⟩ rfl dX12_inOthers_30 (fun r_15 H_15 locs_15 p_15 hT_15 hk_15 hS_15 => ?_)
  have p_15 : H = H_15 ∧ (r_15 = 0 ∨ r_15 = 1) := p_15
  obtain ⟨rfl, p_15_0⟩ := p_15
  have z_15 := b_iv p_15_0
  refine lv_if_ne (tgt := 106) hx hb dX12_inOthers_33 (by decide) (fun c_16 => ?_) (fun c_16 => ?_)
  · have f_16 : ¬ r_15.toInt = 0 := r_ne rfl (by decide) c_16
    have nz_r_15 : ¬ r_15 = 0 := c_16
    refine lv_aload_n hx hb dX12_inOthers_106 rfl (lv_at hl 2 rfl) ?_
    refine lv_bipush (v := 8) hx hb dX12_inOthers_107 (by decide) ?_
    refine th_Vi (As := [.int 8]) (rest := []) E hml hl.1 (y_has_v3 l D cI cS τ ρ hW H hT_15 a0 ha0) lk_X12_202 yd_X12_has hT_15 ha0 rfl (by decide) hS_15 (fun _ h => h.elim) ⟨by decide, by decide⟩ (Nat.le_of_ble_eq_true rfl) ⟨by decide, by decide⟩ rfl dX12_inOthers_109 (fun r_17 H_17 locs_17 p_17 hT_17 hk_17 hS_17 => ?_)
    have p_17 : H = H_17 ∧ (r_17 = 0 ∨ r_17 = 1) := p_17
    obtain ⟨rfl, p_17_0⟩ := p_17
    have z_17 := b_iv p_17_0
    refine lv_if_eq (tgt := 122) hx hb dX12_inOthers_112 (by decide) (fun c_18 => ?_) (fun c_18 => ?_)
    · have f_18 : r_17.toInt = 0 := r_eq rfl (by decide) c_18
      refine lv_aload_n hx hb dX12_inOthers_122 rfl (lv_at hl 2 rfl) ?_
      refine lv_iconst (v := 4) hx hb dX12_inOthers_123 (by decide) ?_
      refine th_Vi (As := [.int 4]) (rest := []) E hml hl.1 (y_has_v2 l D cI cS τ ρ hW H hT_17 a0 ha0) lk_X12_202 yd_X12_has hT_17 ha0 rfl (by decide) hS_17 (fun _ h => h.elim) ⟨by decide, by decide⟩ (Nat.le_of_ble_eq_true rfl) ⟨by decide, by decide⟩ rfl dX12_inOthers_124 (fun r_19 H_19 locs_19 p_19 hT_19 hk_19 hS_19 => ?_)
      have p_19 : H = H_19 ∧ (r_19 = 0 ∨ r_19 = 1) := p_19
      obtain ⟨rfl, p_19_0⟩ := p_19
      have z_19 := b_iv p_19_0
      refine lv_if_ne (tgt := 138) hx hb dX12_inOthers_127 (by decide) (fun c_20 => ?_) (fun c_20 => ?_)
      · have f_20 : ¬ r_19.toInt = 0 := r_ne rfl (by decide) c_20
        have nz_r_19 : ¬ r_19 = 0 := c_20
        refine lv_aload_n hx hb dX12_inOthers_138 rfl (lv_at hl 2 rfl) ?_
        refine lv_iload_n hx hb dX12_inOthers_139 rfl (lv_at hl 3 rfl) ?_
        refine lv_aload_n hx hb dX12_inOthers_140 rfl (lv_at hl 2 rfl) ?_
        refine gf_X12_19 E hT_19 hW ha0 dX12_inOthers_141 (fun h_21 => ?_)
        refine lv_iconst (v := 3) hx hb dX12_inOthers_144 (by decide) ?_
        refine th_iald E hT_19 h_21 (by decide) (vp_in_iff.mpr ⟨by decide, by decide⟩) dX12_inOthers_145 ?_
        refine th_topi (y := ai H (ρ a0 3) 3) rfl ?_
        refine lv_topi (fun x_22 ex_22 => ?_)
        have c_x_22 := congrArg Int32.toInt ex_22.symm
        refine lv_aload_n hx hb dX12_inOthers_146 rfl (lv_at hl 2 rfl) ?_
        refine lv_iload_n hx hb dX12_inOthers_147 rfl (lv_at hl 3 rfl) ?_
        refine lv_iconst (v := 1) hx hb dX12_inOthers_148 (by decide) ?_
        refine th_Vi (As := [.int 0, .int 1]) (rest := [.int x_22, .int 0, .ref a0]) E hml hl.1 (y_get_v7 l D cI cS τ ρ hW H hT_19 a0 ha0) lk_X12_99 yd_X12_get hT_19 ha0 rfl (by decide) hS_19 (fun _ h => h.elim) ⟨by decide, by decide⟩ (Nat.le_of_ble_eq_true rfl) ⟨by decide, by decide⟩ rfl dX12_inOthers_149 (fun r_23 H_23 locs_23 p_23 hT_23 hk_23 hS_23 => ?_)
        have p_23 : H = H_23 ∧ (ai H (ρ a0 0) 1 = r_23) := p_23
        obtain ⟨rfl, p_23_0⟩ := p_23
        have b_r_23 : 0 ≤ r_23.toInt ∧ r_23.toInt ≤ N + 2 := by rw [← p_23_0]; exact hI.1 1 (by decide)
        have c_r_23 := congrArg Int32.toInt p_23_0
        refine th_Vi (As := [.int 0, .int x_22, .int r_23]) (rest := []) E hml hl.1 (y_means l D cI cS τ ρ hW H hT_23 a0 x_22 r_23 ha0 (by omega)) lk_X12_208 yd_X12_means hT_23 ha0 rfl (by decide) hS_23 (fun _ h => h.elim) ⟨by decide, by decide⟩ (Nat.le_of_ble_eq_true rfl) ⟨by decide, by decide⟩ rfl dX12_inOthers_152 (fun r_24 H_24 locs_24 p_24 hT_24 hk_24 hS_24 => ?_)
        have p_24 : H = H_24 ∧ (r_23.toInt - 128 ≤ r_24.toInt ∧ r_24.toInt ≤ r_23.toInt + 127) := p_24
        obtain ⟨rfl, p_24_0⟩ := p_24
        refine lv_istore (lv' := [(4, .int r_24), (3, .int r_14), (2, .int r_13), (0, .ref a0), (1, .int 0)]) hx hb dX12_inOthers_155 hl (by decide) rfl (fun ls hl => ?_)
        refine lv_iload_n hx hb dX12_inOthers_157 rfl (lv_at hl 1 rfl) ?_
        refine lv_iconst (v := 3) hx hb dX12_inOthers_158 (by decide) ?_
        refine lv_icmp_ne (tgt := 186) hx hb dX12_inOthers_159 (by decide) (fun c_25 => ?_) (fun c_25 => ?_)
        · have f_25 : ¬ r_14.toInt = 3 := r_ne rfl (by decide) c_25
          exact J_186 H locs_24 _ r_13 r_14 r_24 hT_24 hS_24 (lv_sub hl [3, 4, 2, 1, 0] rfl) (by omega) (by omega) (by omega) (by omega) ⟨hI.1, hI.2.1, hI.2.2.1, hI.2.2.2.1, hI.2.2.2.2.1, hI.2.2.2.2.2⟩ (by omega)
        · have f_25 : r_14.toInt = 3 := r_eq rfl (by decide) c_25
          refine lv_iload hx hb dX12_inOthers_162 (lv_at hl 0 rfl) ?_
          obtain ⟨x_26, ex_26⟩ : ∃ y : Int64, r_24.toInt64 = y := ⟨_, rfl⟩
          refine lv_i2l (v := x_26) hx hb dX12_inOthers_164 ex_26 ?_
          have q_26 : x_26.toInt = r_24.toInt := by rw [← ex_26]; exact Int32.toInt_toInt64 _
          refine lv_lconst (v := 1) hx hb dX12_inOthers_165 (by decide) ?_
          refine lv_aload_n hx hb dX12_inOthers_166 rfl (lv_at hl 3 rfl) ?_
          refine lv_iload_n hx hb dX12_inOthers_167 rfl (lv_at hl 4 rfl) ?_
          refine lv_iconst (v := 2) hx hb dX12_inOthers_168 (by decide) ?_
          refine th_Vi (As := [.int 0, .int 2]) (rest := [.long 1, .long x_26]) E hml hl.1 (y_get_v16 l D cI cS τ ρ hW H hT_24 a0 ha0) lk_X12_99 yd_X12_get hT_24 ha0 rfl (by decide) hS_24 (fun _ h => h.elim) ⟨by decide, by decide⟩ (Nat.le_of_ble_eq_true rfl) ⟨by decide, by decide⟩ rfl dX12_inOthers_169 (fun r_27 H_27 locs_27 p_27 hT_27 hk_27 hS_27 => ?_)
          have p_27 : H = H_27 ∧ (ai H (ρ a0 0) 2 = r_27) := p_27
          obtain ⟨rfl, p_27_0⟩ := p_27
          have b_r_27 : 0 ≤ r_27.toInt ∧ r_27.toInt ≤ N + 2 := by rw [← p_27_0]; exact hI.1 2 (by decide)
          have c_r_27 := congrArg Int32.toInt p_27_0
          obtain ⟨x_28, ex_28⟩ : ∃ y : Int64, r_27.toInt64 = y := ⟨_, rfl⟩
          refine lv_i2l (v := x_28) hx hb dX12_inOthers_172 ex_28 ?_
          have q_28 : x_28.toInt = r_27.toInt := by rw [← ex_28]; exact Int32.toInt_toInt64 _
          refine th_Si (As := [.long x_26, .long 1, .long x_28]) (rest := []) E hml hl.1 (y_in_v3 l D cI cS τ ρ hW H hT_27 x_26 x_28) lk_X12_54 yd_X12_in hS_27 (fun _ h => h.elim) ⟨by decide, by decide⟩ (Nat.le_of_ble_eq_true rfl) ⟨by decide, by decide⟩ rfl dX12_inOthers_173 (fun r_29 H_29 locs_29 p_29 hT_29 hk_29 hS_29 => ?_)
          have p_29 : H = H_29 ∧ (r_29 = 0 ∨ r_29 = 1) ∧ ((r_29.toInt = 1 ∧ 1 ≤ x_26.toInt ∧ x_26.toInt ≤ x_28.toInt) ∨ (r_29.toInt = 0 ∧ (x_26.toInt < 1 ∨ x_28.toInt < x_26.toInt))) := p_29
          obtain ⟨rfl, p_29_0, p_29_1⟩ := p_29
          have z_29 := b_iv p_29_0
          refine lv_if_ne (tgt := 186) hx hb dX12_inOthers_176 (by decide) (fun c_30 => ?_) (fun c_30 => ?_)
          · have f_30 : ¬ r_29.toInt = 0 := r_ne rfl (by decide) c_30
            have nz_r_29 : ¬ r_29 = 0 := c_30
            exact J_186 H locs_29 _ r_13 r_14 r_24 hT_29 hS_29 (lv_sub hl [3, 4, 2, 1, 0] rfl) (by omega) (by omega) (by omega) (by omega) ⟨hI.1, hI.2.1, hI.2.2.1, hI.2.2.2.1, hI.2.2.2.2.1, hI.2.2.2.2.2⟩ (by omega)
          · have f_30 : r_29.toInt = 0 := r_eq rfl (by decide) c_30
            refine lv_aload_n hx hb dX12_inOthers_179 rfl (lv_at hl 3 rfl) ?_
            refine lv_iload_n hx hb dX12_inOthers_180 rfl (lv_at hl 4 rfl) ?_
            refine lv_iconst (v := 5) hx hb dX12_inOthers_181 (by decide) ?_
            refine th_Vi (As := [.int 0, .int 5]) (rest := []) E hml hl.1 (y_dropsAndBreaks_v2 l D cI cS τ ρ hW H hT_29 a0 ha0 N hN0 hN1 ⟨hI.1, hI.2.1, hI.2.2.1, hI.2.2.2.1, hI.2.2.2.2.1, hI.2.2.2.2.2⟩) lk_X12_205 yd_X12_dropsAndBreaks hT_29 ha0 rfl (by decide) hS_29 (fun q => (fun h => h.elim (fun h => (Or.inl h)) (fun h => (Or.inr h)))) ⟨by decide, by decide⟩ (Nat.le_of_ble_eq_true rfl) ⟨by decide, by decide⟩ rfl dX12_inOthers_182 (fun r_31 H_31 locs_31 p_31 hT_31 hk_31 hS_31 => ?_)
            have p_31 : (IM D ρ N H_31 a0) ∧ ((ai H (ρ a0 0) 976).toInt ≤ (ai H_31 (ρ a0 0) 976).toInt) := p_31
            obtain ⟨p_31_0, p_31_1⟩ := p_31
            have mn_31 : (ai H (ρ a0 0) 976).toInt ≤ (ai H_31 (ρ a0 0) 976).toInt := by exact p_31_1
            exact th_iret E hr hlk hs hT_31 hS_31 ⟨⟨p_31_0.1, p_31_0.2.1, p_31_0.2.2.1, p_31_0.2.2.2.1, p_31_0.2.2.2.2.1, p_31_0.2.2.2.2.2⟩, (by omega)⟩ dX12_inOthers_185
      · have f_20 : r_19.toInt = 0 := r_eq rfl (by decide) c_20
        refine lv_aload_n hx hb dX12_inOthers_130 rfl (lv_at hl 2 rfl) ?_
        refine lv_bipush (v := 10) hx hb dX12_inOthers_131 (by decide) ?_
        refine lv_iconst (v := 0) hx hb dX12_inOthers_133 (by decide) ?_
        refine th_Vi (As := [.int 10, .int 0]) (rest := []) E hml hl.1 (y_drops_v5 l D cI cS τ ρ hW H hT_19 a0 ha0 N hN0 hN1 ⟨hI.1, hI.2.1, hI.2.2.1, hI.2.2.2.1, hI.2.2.2.2.1, hI.2.2.2.2.2⟩) lk_X12_199 yd_X12_drops hT_19 ha0 rfl (by decide) hS_19 (fun q h => (Or.inr h)) ⟨by decide, by decide⟩ (Nat.le_of_ble_eq_true rfl) ⟨by decide, by decide⟩ rfl dX12_inOthers_134 (fun r_32 H_32 locs_32 p_32 hT_32 hk_32 hS_32 => ?_)
        have p_32 : (IM D ρ N H_32 a0) ∧ ((ai H (ρ a0 0) 976).toInt ≤ (ai H_32 (ρ a0 0) 976).toInt) := p_32
        obtain ⟨p_32_0, p_32_1⟩ := p_32
        have mn_32 : (ai H (ρ a0 0) 976).toInt ≤ (ai H_32 (ρ a0 0) 976).toInt := by exact p_32_1
        exact th_iret E hr hlk hs hT_32 hS_32 ⟨⟨p_32_0.1, p_32_0.2.1, p_32_0.2.2.1, p_32_0.2.2.2.1, p_32_0.2.2.2.2.1, p_32_0.2.2.2.2.2⟩, (by omega)⟩ dX12_inOthers_137
    · have f_18 : ¬ r_17.toInt = 0 := r_ne rfl (by decide) c_18
      have nz_r_17 : ¬ r_17 = 0 := c_18
      refine lv_aload_n hx hb dX12_inOthers_115 rfl (lv_at hl 2 rfl) ?_
      refine lv_iload_n hx hb dX12_inOthers_116 rfl (lv_at hl 3 rfl) ?_
      refine th_Vv (As := [.int 0]) (rest := []) E hml hl.1 (y_shuts l D cI cS τ ρ hW H hT_17 a0 ha0 N hN0 hN1 ⟨hI.1, hI.2.1, hI.2.2.1, hI.2.2.2.1, hI.2.2.2.2.1, hI.2.2.2.2.2⟩) lk_X12_180 yd_X12_shuts hT_17 ha0 rfl (by decide) hS_17 (fun q h => (Or.inr h)) ⟨by decide, by decide⟩ (Nat.le_of_ble_eq_true rfl) ⟨by decide, by decide⟩ rfl dX12_inOthers_117 (fun H_33 locs_33 p_33 hT_33 hk_33 hS_33 => ?_)
      have p_33 : (IM D ρ N H_33 a0) ∧ ((ai H (ρ a0 0) 976).toInt ≤ (ai H_33 (ρ a0 0) 976).toInt) := p_33
      obtain ⟨p_33_0, p_33_1⟩ := p_33
      have mn_33 : (ai H (ρ a0 0) 976).toInt ≤ (ai H_33 (ρ a0 0) 976).toInt := by exact p_33_1
      refine lv_iconst (v := 1) hx hb dX12_inOthers_120 (by decide) ?_
      exact th_iret E hr hlk hs hT_33 hS_33 ⟨⟨p_33_0.1, p_33_0.2.1, p_33_0.2.2.1, p_33_0.2.2.2.1, p_33_0.2.2.2.2.1, p_33_0.2.2.2.2.2⟩, (by omega)⟩ dX12_inOthers_121
  · have f_16 : r_15.toInt = 0 := r_eq rfl (by decide) c_16
    refine lv_aload_n hx hb dX12_inOthers_36 rfl (lv_at hl 2 rfl) ?_
    refine lv_iload_n hx hb dX12_inOthers_37 rfl (lv_at hl 3 rfl) ?_
    refine lv_bipush (v := 6) hx hb dX12_inOthers_38 (by decide) ?_
    refine lv_aload_n hx hb dX12_inOthers_40 rfl (lv_at hl 2 rfl) ?_
    refine lv_iload_n hx hb dX12_inOthers_41 rfl (lv_at hl 3 rfl) ?_
    refine lv_bipush (v := 7) hx hb dX12_inOthers_42 (by decide) ?_
    refine th_Vi (As := [.int 0, .int 7]) (rest := [.int 6, .int 0, .ref a0]) E hml hl.1 (y_get_v23 l D cI cS τ ρ hW H hT_15 a0 ha0) lk_X12_99 yd_X12_get hT_15 ha0 rfl (by decide) hS_15 (fun _ h => h.elim) ⟨by decide, by decide⟩ (Nat.le_of_ble_eq_true rfl) ⟨by decide, by decide⟩ rfl dX12_inOthers_44 (fun r_34 H_34 locs_34 p_34 hT_34 hk_34 hS_34 => ?_)
    have p_34 : H = H_34 ∧ (ai H (ρ a0 0) 7 = r_34) := p_34
    obtain ⟨rfl, p_34_0⟩ := p_34
    have b_r_34 : 0 ≤ r_34.toInt ∧ r_34.toInt ≤ N + 33 := by rw [← p_34_0]; exact hI.1 7 (by decide)
    have c_r_34 := congrArg Int32.toInt p_34_0
    refine lv_aload_n hx hb dX12_inOthers_47 rfl (lv_at hl 2 rfl) ?_
    refine lv_iload_n hx hb dX12_inOthers_48 rfl (lv_at hl 3 rfl) ?_
    refine lv_iconst (v := 5) hx hb dX12_inOthers_49 (by decide) ?_
    refine th_Vi (As := [.int 0, .int 5]) (rest := [.int r_34, .int 6, .int 0, .ref a0]) E hml hl.1 (y_get_v22 l D cI cS τ ρ hW H hT_34 a0 ha0) lk_X12_99 yd_X12_get hT_34 ha0 rfl (by decide) hS_34 (fun _ h => h.elim) ⟨by decide, by decide⟩ (Nat.le_of_ble_eq_true rfl) ⟨by decide, by decide⟩ rfl dX12_inOthers_50 (fun r_35 H_35 locs_35 p_35 hT_35 hk_35 hS_35 => ?_)
    have p_35 : H = H_35 ∧ (ai H (ρ a0 0) 5 = r_35) := p_35
    obtain ⟨rfl, p_35_0⟩ := p_35
    have s_35 : r_35 = r_12 := p_35_0.symm.trans p_12_0
    refine th_topi s_35 ?_
    refine lv_icmp_ne (tgt := 61) hx hb dX12_inOthers_53 (by decide) (fun c_36 => ?_) (fun c_36 => ?_)
    · have f_36 : ¬ r_34.toInt = r_12.toInt := r_ne rfl rfl c_36
      refine lv_iload_n hx hb dX12_inOthers_61 rfl (lv_at hl 1 rfl) ?_
      refine lv_aload_n hx hb dX12_inOthers_62 rfl (lv_at hl 2 rfl) ?_
      refine lv_iload_n hx hb dX12_inOthers_63 rfl (lv_at hl 3 rfl) ?_
      refine lv_bipush (v := 7) hx hb dX12_inOthers_64 (by decide) ?_
      refine th_Vi (As := [.int 0, .int 7]) (rest := [.int r_13, .int 6, .int 0, .ref a0]) E hml hl.1 (y_get_v23 l D cI cS τ ρ hW H hT_35 a0 ha0) lk_X12_99 yd_X12_get hT_35 ha0 rfl (by decide) hS_35 (fun _ h => h.elim) ⟨by decide, by decide⟩ (Nat.le_of_ble_eq_true rfl) ⟨by decide, by decide⟩ rfl dX12_inOthers_66 (fun r_37 H_37 locs_37 p_37 hT_37 hk_37 hS_37 => ?_)
      have p_37 : H = H_37 ∧ (ai H (ρ a0 0) 7 = r_37) := p_37
      obtain ⟨rfl, p_37_0⟩ := p_37
      have s_37 : r_37 = r_34 := p_37_0.symm.trans p_34_0
      refine th_topi s_37 ?_
      refine lv_icmp_lt (tgt := 77) hx hb dX12_inOthers_69 (by decide) (fun c_38 => ?_) (fun c_38 => ?_)
      · have f_38 : r_13.toInt < r_34.toInt := r_lt rfl rfl c_38
        refine lv_bipush (v := 9) hx hb dX12_inOthers_77 (by decide) ?_
        exact J_79 H locs_37 _ r_13 r_14 9 hT_37 hS_37 (lv_sub hl [2, 3, 1, 0] rfl) (by omega) (by omega) (by decide) (by decide) ⟨hI.1, hI.2.1, hI.2.2.1, hI.2.2.2.1, hI.2.2.2.2.1, hI.2.2.2.2.2⟩ (by omega)
      · have f_38 : r_34.toInt ≤ r_13.toInt := r_nlt rfl rfl c_38
        refine lv_bipush (v := 8) hx hb dX12_inOthers_72 (by decide) ?_
        refine lv_goto (tgt := 79) hx hb dX12_inOthers_74 (by decide) ?_
        exact J_79 H locs_37 _ r_13 r_14 8 hT_37 hS_37 (lv_sub hl [2, 3, 1, 0] rfl) (by omega) (by omega) (by decide) (by decide) ⟨hI.1, hI.2.1, hI.2.2.1, hI.2.2.2.1, hI.2.2.2.2.1, hI.2.2.2.2.2⟩ (by omega)
    · have f_36 : r_34.toInt = r_12.toInt := r_eq rfl rfl c_36
      refine lv_bipush (v := 7) hx hb dX12_inOthers_56 (by decide) ?_
      refine lv_goto (tgt := 79) hx hb dX12_inOthers_58 (by decide) ?_
      exact J_79 H locs_35 _ r_13 r_14 7 hT_35 hS_35 (lv_sub hl [2, 3, 1, 0] rfl) (by omega) (by omega) (by decide) (by decide) ⟨hI.1, hI.2.1, hI.2.2.1, hI.2.2.2.1, hI.2.2.2.2.1, hI.2.2.2.2.2⟩ (by omega)
set_option maxHeartbeats 4000000 in
set_option maxRecDepth 100000 in
/-- the reference: get -/
theorem y_get_v36 (l : Launch) (D : va_G) (cI cS : ClassId) (τ : Nat → Option Nat) (ρ : Nat → Nat → Nat) (hW : WF τ ρ) (H : Heap) (hT : TH D cI cS τ ρ H) (a0 : Nat) (ha0 : τ a0 = some 12) : MI l D cI cS τ ρ yX12_get cX12_get 3 (some .int) 0 0 H [.ref a0, .int 0, .int 11] (fun (r : Int32) (u : Heap) => (H = u) ∧ (ai H (ρ a0 0) 11 = r)) (fun q => False) := by
  refine MI.of (by decide) (Nat.le_of_ble_eq_true rfl) ?_
  intro p e s m args below meth c E hml hr hlk hs ls hl
  have hx := E.1
  have hb := E.2.1
  have hown := E.2.2.1
  have hts := E.2.2.2.1
  have hS : SS (fun q => False) H H [] := SS.rf
  have hl : lv_has ls 3 [(0, .ref a0), (1, .int 0), (2, .int 11)] := hl
  refine lv_aload_n hx hb dX12_get_0 rfl (lv_at hl 0 rfl) ?_
  refine gf_X12_7 E hT hW ha0 dX12_get_1 (fun h_1 => ?_)
  refine lv_sipush (v := 288) hx hb dX12_get_4 (by decide) ?_
  refine lv_iload_n hx hb dX12_get_7 rfl (lv_at hl 1 rfl) ?_
  refine lv_imul hx hb dX12_get_8 ?_
  refine th_topi (y := 0) (by decide) ?_
  refine lv_iload_n hx hb dX12_get_9 rfl (lv_at hl 2 rfl) ?_
  refine lv_iadd hx hb dX12_get_10 ?_
  refine th_topi (y := 11) (by decide) ?_
  refine th_iald E hT h_1 (by decide) (vp_in_iff.mpr ⟨by decide, by decide⟩) dX12_get_11 ?_
  refine th_topi (y := ai H (ρ a0 0) 11) rfl ?_
  refine lv_topi (fun x_2 ex_2 => ?_)
  have c_x_2 := congrArg Int32.toInt ex_2.symm
  exact th_iret E hr hlk hs hT hS ⟨rfl, ex_2.symm⟩ dX12_get_12
set_option maxHeartbeats 4000000 in
set_option maxRecDepth 100000 in
/-- the reference: set -/
theorem y_set_v55 (l : Launch) (D : va_G) (cI cS : ClassId) (τ : Nat → Option Nat) (ρ : Nat → Nat → Nat) (hW : WF τ ρ) (H : Heap) (hT : TH D cI cS τ ρ H) (a0 : Nat) (x2 : Int32) (ha0 : τ a0 = some 12) : MV l D cI cS τ ρ yX12_set cX12_set 4 none 0 0 H [.ref a0, .int 0, .int 11, .int x2] (fun (u : Heap) => (AU 985 H u (ρ a0 0) 11 x2)) (fun q => q = ρ a0 0) := by
  refine MV.of (by decide) (Nat.le_of_ble_eq_true rfl) ?_
  intro p e s m args below meth c E hml hr hlk hs ls hl
  have hx := E.1
  have hb := E.2.1
  have hown := E.2.2.1
  have hts := E.2.2.2.1
  have hS : SS (fun q => q = ρ a0 0) H H [] := SS.rf
  have hl : lv_has ls 4 [(0, .ref a0), (1, .int 0), (2, .int 11), (3, .int x2)] := hl
  refine lv_aload_n hx hb dX12_set_0 rfl (lv_at hl 0 rfl) ?_
  refine gf_X12_7 E hT hW ha0 dX12_set_1 (fun h_1 => ?_)
  refine lv_sipush (v := 288) hx hb dX12_set_4 (by decide) ?_
  refine lv_iload_n hx hb dX12_set_7 rfl (lv_at hl 1 rfl) ?_
  refine lv_imul hx hb dX12_set_8 ?_
  refine th_topi (y := 0) (by decide) ?_
  refine lv_iload_n hx hb dX12_set_9 rfl (lv_at hl 2 rfl) ?_
  refine lv_iadd hx hb dX12_set_10 ?_
  refine th_topi (y := 11) (by decide) ?_
  refine lv_iload_n hx hb dX12_set_11 rfl (lv_at hl 3 rfl) ?_
  refine th_iast E hT hS h_1 rfl (by decide) (vp_in_iff.mpr ⟨by decide, by decide⟩) dX12_set_12 (fun H_2 locs_2 hT_2 hU_2 hS_2 => ?_)
  have hU_2 : AU 985 H H_2 (ρ a0 0) 11 x2 := hU_2
  exact th_vret E hr hlk hs hT_2 hS_2 hU_2 dX12_set_13
set_option maxHeartbeats 4000000 in
set_option maxRecDepth 100000 in
/-- the reference: isBlocked -/
theorem y_isBlocked (l : Launch) (D : va_G) (cI cS : ClassId) (τ : Nat → Option Nat) (ρ : Nat → Nat → Nat) (hW : WF τ ρ) (H : Heap) (hT : TH D cI cS τ ρ H) (a0 : Nat) (ha0 : τ a0 = some 12) (N : Int) (hN0 : 0 ≤ N) (hN1 : N ≤ 600) (hI : IM D ρ N H a0) : MI l D cI cS τ ρ yX12_isBlocked cX12_isBlocked 2 (some .boolean) 2 45 H [.ref a0, .int 0] (fun (r : Int32) (u : Heap) => (H = u) ∧ (r = 0 ∨ r = 1) ∧ (r.toInt = 1 → ((ai H (ρ a0 0) 0).toInt = 4 ∨ (ai H (ρ a0 0) 0).toInt = 7))) (fun q => False) := by
  refine MI.of (by decide) (Nat.le_of_ble_eq_true rfl) ?_
  intro p e s m args below meth c E hml hr hlk hs ls hl
  have hx := E.1
  have hb := E.2.1
  have hown := E.2.2.1
  have hts := E.2.2.2.1
  have hS : SS (fun q => False) H H [] := SS.rf
  have hl : lv_has ls 2 [(0, .ref a0), (1, .int 0)] := hl
  have n01 := hI.2.2.2.2.2.1
  have n23 := hI.2.2.2.2.2.2.1
  refine lv_aload_n hx hb dX12_isBlocked_0 rfl (lv_at hl 0 rfl) ?_
  refine lv_iload_n hx hb dX12_isBlocked_1 rfl (lv_at hl 1 rfl) ?_
  refine lv_iconst (v := 4) hx hb dX12_isBlocked_2 (by decide) ?_
  refine lv_bipush (v := 7) hx hb dX12_isBlocked_3 (by decide) ?_
  refine th_Vi (As := [.int 0, .int 4, .int 7]) (rest := []) E hml hl.1 (y_isIn l D cI cS τ ρ hW H hT a0 ha0) lk_X12_106 yd_X12_isIn hT ha0 rfl (by decide) hS (fun _ h => h.elim) ⟨by decide, by decide⟩ (Nat.le_of_ble_eq_true rfl) ⟨by decide, by decide⟩ rfl dX12_isBlocked_5 (fun r_1 H_1 locs_1 p_1 hT_1 hk_1 hS_1 => ?_)
  have p_1 : H = H_1 ∧ (r_1 = 0 ∨ r_1 = 1) ∧ ((r_1.toInt = 1 ∧ ((ai H (ρ a0 0) 0).toInt = 4 ∨ (ai H (ρ a0 0) 0).toInt = 7)) ∨ (r_1.toInt = 0 ∧ ¬ (ai H (ρ a0 0) 0).toInt = 4 ∧ ¬ (ai H (ρ a0 0) 0).toInt = 7)) := p_1
  obtain ⟨rfl, p_1_0, p_1_1⟩ := p_1
  have z_1 := b_iv p_1_0
  refine lv_if_eq (tgt := 55) hx hb dX12_isBlocked_8 (by decide) (fun c_2 => ?_) (fun c_2 => ?_)
  · have f_2 : r_1.toInt = 0 := r_eq rfl (by decide) c_2
    refine lv_iconst (v := 0) hx hb dX12_isBlocked_55 (by decide) ?_
    exact th_zret E hr hlk hs (Or.inl rfl) hT_1 hS_1 ⟨rfl, (Or.inl rfl), (by have : (0 : Int32).toInt = 0 := (by decide); omega)⟩ dX12_isBlocked_56
  · have f_2 : ¬ r_1.toInt = 0 := r_ne rfl (by decide) c_2
    have nz_r_1 : ¬ r_1 = 0 := c_2
    refine lv_aload_n hx hb dX12_isBlocked_11 rfl (lv_at hl 0 rfl) ?_
    refine lv_iload_n hx hb dX12_isBlocked_12 rfl (lv_at hl 1 rfl) ?_
    refine lv_iconst (v := 1) hx hb dX12_isBlocked_13 (by decide) ?_
    refine th_Vi (As := [.int 0, .int 1]) (rest := []) E hml hl.1 (y_get_v7 l D cI cS τ ρ hW H hT_1 a0 ha0) lk_X12_99 yd_X12_get hT_1 ha0 rfl (by decide) hS_1 (fun _ h => h.elim) ⟨by decide, by decide⟩ (Nat.le_of_ble_eq_true rfl) ⟨by decide, by decide⟩ rfl dX12_isBlocked_14 (fun r_3 H_3 locs_3 p_3 hT_3 hk_3 hS_3 => ?_)
    have p_3 : H = H_3 ∧ (ai H (ρ a0 0) 1 = r_3) := p_3
    obtain ⟨rfl, p_3_0⟩ := p_3
    have b_r_3 : 0 ≤ r_3.toInt ∧ r_3.toInt ≤ N + 2 := by rw [← p_3_0]; exact hI.1 1 (by decide)
    have c_r_3 := congrArg Int32.toInt p_3_0
    refine lv_aload_n hx hb dX12_isBlocked_17 rfl (lv_at hl 0 rfl) ?_
    refine lv_iload_n hx hb dX12_isBlocked_18 rfl (lv_at hl 1 rfl) ?_
    refine lv_iconst (v := 2) hx hb dX12_isBlocked_19 (by decide) ?_
    refine th_Vi (As := [.int 0, .int 2]) (rest := [.int r_3]) E hml hl.1 (y_get_v16 l D cI cS τ ρ hW H hT_3 a0 ha0) lk_X12_99 yd_X12_get hT_3 ha0 rfl (by decide) hS_3 (fun _ h => h.elim) ⟨by decide, by decide⟩ (Nat.le_of_ble_eq_true rfl) ⟨by decide, by decide⟩ rfl dX12_isBlocked_20 (fun r_4 H_4 locs_4 p_4 hT_4 hk_4 hS_4 => ?_)
    have p_4 : H = H_4 ∧ (ai H (ρ a0 0) 2 = r_4) := p_4
    obtain ⟨rfl, p_4_0⟩ := p_4
    have b_r_4 : 0 ≤ r_4.toInt ∧ r_4.toInt ≤ N + 2 := by rw [← p_4_0]; exact hI.1 2 (by decide)
    have c_r_4 := congrArg Int32.toInt p_4_0
    refine lv_icmp_ne (tgt := 55) hx hb dX12_isBlocked_23 (by decide) (fun c_5 => ?_) (fun c_5 => ?_)
    · have f_5 : ¬ r_3.toInt = r_4.toInt := r_ne rfl rfl c_5
      refine lv_iconst (v := 0) hx hb dX12_isBlocked_55 (by decide) ?_
      exact th_zret E hr hlk hs (Or.inl rfl) hT_4 hS_4 ⟨rfl, (Or.inl rfl), (by have : (0 : Int32).toInt = 0 := (by decide); omega)⟩ dX12_isBlocked_56
    · have f_5 : r_3.toInt = r_4.toInt := r_eq rfl rfl c_5
      refine lv_aload_n hx hb dX12_isBlocked_26 rfl (lv_at hl 0 rfl) ?_
      refine lv_iload_n hx hb dX12_isBlocked_27 rfl (lv_at hl 1 rfl) ?_
      refine lv_aload_n hx hb dX12_isBlocked_28 rfl (lv_at hl 0 rfl) ?_
      refine lv_iload_n hx hb dX12_isBlocked_29 rfl (lv_at hl 1 rfl) ?_
      refine lv_iconst (v := 2) hx hb dX12_isBlocked_30 (by decide) ?_
      refine th_Vi (As := [.int 0, .int 2]) (rest := [.int 0, .ref a0]) E hml hl.1 (y_get_v16 l D cI cS τ ρ hW H hT_4 a0 ha0) lk_X12_99 yd_X12_get hT_4 ha0 rfl (by decide) hS_4 (fun _ h => h.elim) ⟨by decide, by decide⟩ (Nat.le_of_ble_eq_true rfl) ⟨by decide, by decide⟩ rfl dX12_isBlocked_31 (fun r_6 H_6 locs_6 p_6 hT_6 hk_6 hS_6 => ?_)
      have p_6 : H = H_6 ∧ (ai H (ρ a0 0) 2 = r_6) := p_6
      obtain ⟨rfl, p_6_0⟩ := p_6
      have s_6 : r_6 = r_4 := p_6_0.symm.trans p_4_0
      refine th_topi s_6 ?_
      refine th_Vi (As := [.int 0, .int r_4]) (rest := []) E hml hl.1 (y_saidFrom l D cI cS τ ρ hW H hT_6 a0 r_4 ha0 N hN0 hN1 ⟨hI.1, hI.2.1, hI.2.2.1, hI.2.2.2.1, hI.2.2.2.2.1, hI.2.2.2.2.2⟩ (by omega)) lk_X12_109 yd_X12_saidFrom hT_6 ha0 rfl (by decide) hS_6 (fun _ h => h.elim) ⟨by decide, by decide⟩ (Nat.le_of_ble_eq_true rfl) ⟨by decide, by decide⟩ rfl dX12_isBlocked_34 (fun r_7 H_7 locs_7 p_7 hT_7 hk_7 hS_7 => ?_)
      have p_7 : H = H_7 ∧ (0 ≤ r_7.toInt ∧ (r_7.toInt = 0 ∨ (1 ≤ r_4.toInt ∧ r_7.toInt = (ai H (ρ a0 0) 4).toInt + 1 - r_4.toInt) ∨ (r_4.toInt < 1 ∧ r_7.toInt = (ai H (ρ a0 0) 4).toInt)) ∧ (ai H (ρ a0 0) 4).toInt ≤ N) := p_7
      obtain ⟨rfl, p_7_0⟩ := p_7
      refine lv_if_gt (tgt := 51) hx hb dX12_isBlocked_37 (by decide) (fun c_8 => ?_) (fun c_8 => ?_)
      · have f_8 : 0 < r_7.toInt := r_lt (by decide) rfl c_8
        refine lv_iconst (v := 1) hx hb dX12_isBlocked_51 (by decide) ?_
        refine lv_goto (tgt := 56) hx hb dX12_isBlocked_52 (by decide) ?_
        exact th_zret E hr hlk hs (Or.inr rfl) hT_7 hS_7 ⟨rfl, (Or.inr rfl), (by have : (1 : Int32).toInt = 1 := (by decide); omega)⟩ dX12_isBlocked_56
      · have f_8 : r_7.toInt ≤ 0 := r_nlt (by decide) rfl c_8
        refine lv_aload_n hx hb dX12_isBlocked_40 rfl (lv_at hl 0 rfl) ?_
        refine lv_iload_n hx hb dX12_isBlocked_41 rfl (lv_at hl 1 rfl) ?_
        refine lv_bipush (v := 13) hx hb dX12_isBlocked_42 (by decide) ?_
        refine th_Vi (As := [.int 0, .int 13]) (rest := []) E hml hl.1 (y_get_v26 l D cI cS τ ρ hW H hT_7 a0 ha0) lk_X12_99 yd_X12_get hT_7 ha0 rfl (by decide) hS_7 (fun _ h => h.elim) ⟨by decide, by decide⟩ (Nat.le_of_ble_eq_true rfl) ⟨by decide, by decide⟩ rfl dX12_isBlocked_44 (fun r_9 H_9 locs_9 p_9 hT_9 hk_9 hS_9 => ?_)
        have p_9 : H = H_9 ∧ (ai H (ρ a0 0) 13 = r_9) := p_9
        obtain ⟨rfl, p_9_0⟩ := p_9
        have c_r_9 := congrArg Int32.toInt p_9_0
        refine lv_iconst (v := 1) hx hb dX12_isBlocked_47 (by decide) ?_
        refine lv_icmp_ne (tgt := 55) hx hb dX12_isBlocked_48 (by decide) (fun c_10 => ?_) (fun c_10 => ?_)
        · have f_10 : ¬ r_9.toInt = 1 := r_ne rfl (by decide) c_10
          refine lv_iconst (v := 0) hx hb dX12_isBlocked_55 (by decide) ?_
          exact th_zret E hr hlk hs (Or.inl rfl) hT_9 hS_9 ⟨rfl, (Or.inl rfl), (by have : (0 : Int32).toInt = 0 := (by decide); omega)⟩ dX12_isBlocked_56
        · have f_10 : r_9.toInt = 1 := r_eq rfl (by decide) c_10
          refine lv_iconst (v := 1) hx hb dX12_isBlocked_51 (by decide) ?_
          refine lv_goto (tgt := 56) hx hb dX12_isBlocked_52 (by decide) ?_
          exact th_zret E hr hlk hs (Or.inr rfl) hT_9 hS_9 ⟨rfl, (Or.inr rfl), (by have : (1 : Int32).toInt = 1 := (by decide); omega)⟩ dX12_isBlocked_56
set_option maxHeartbeats 4000000 in
set_option maxRecDepth 100000 in
/-- the reference: asks -/
theorem y_asks (l : Launch) (D : va_G) (cI cS : ClassId) (τ : Nat → Option Nat) (ρ : Nat → Nat → Nat) (hW : WF τ ρ) (H : Heap) (hT : TH D cI cS τ ρ H) (a0 : Nat) (ha0 : τ a0 = some 12) (N : Int) (hN0 : 0 ≤ N) (hN1 : N ≤ 600) (hI : IM D ρ N H a0) (hp0 : (ai H (ρ a0 0) 0).toInt = 4 ∨ (ai H (ρ a0 0) 0).toInt = 7) : MV l D cI cS τ ρ yX12_asks cX12_asks 3 none 7 165 H [.ref a0, .int 0] (fun (u : Heap) => (IM D ρ N u a0) ∧ ((ai H (ρ a0 0) 976).toInt ≤ (ai u (ρ a0 0) 976).toInt)) (fun q => q = ρ a0 2 ∨ q = ρ a0 0) := by
  refine MV.of (by decide) (Nat.le_of_ble_eq_true rfl) ?_
  intro p e s m args below meth c E hml hr hlk hs ls hl
  have hx := E.1
  have hb := E.2.1
  have hown := E.2.2.1
  have hts := E.2.2.2.1
  have hS : SS (fun q => q = ρ a0 2 ∨ q = ρ a0 0) H H [] := SS.rf
  have hl : lv_has ls 3 [(0, .ref a0), (1, .int 0)] := hl
  have n01 := hI.2.2.2.2.2.1
  have n23 := hI.2.2.2.2.2.2.1
  refine lv_aload_n hx hb dX12_asks_0 rfl (lv_at hl 0 rfl) ?_
  refine lv_iload_n hx hb dX12_asks_1 rfl (lv_at hl 1 rfl) ?_
  refine lv_iconst (v := 2) hx hb dX12_asks_2 (by decide) ?_
  refine th_Vi (As := [.int 0, .int 2]) (rest := []) E hml hl.1 (y_get_v16 l D cI cS τ ρ hW H hT a0 ha0) lk_X12_99 yd_X12_get hT ha0 rfl (by decide) hS (fun _ h => h.elim) ⟨by decide, by decide⟩ (Nat.le_of_ble_eq_true rfl) ⟨by decide, by decide⟩ rfl dX12_asks_3 (fun r_1 H_1 locs_1 p_1 hT_1 hk_1 hS_1 => ?_)
  have p_1 : H = H_1 ∧ (ai H (ρ a0 0) 2 = r_1) := p_1
  obtain ⟨rfl, p_1_0⟩ := p_1
  have b_r_1 : 0 ≤ r_1.toInt ∧ r_1.toInt ≤ N + 2 := by rw [← p_1_0]; exact hI.1 2 (by decide)
  have c_r_1 := congrArg Int32.toInt p_1_0
  refine lv_istore_n (lv' := [(2, .int r_1), (0, .ref a0), (1, .int 0)]) hx hb dX12_asks_6 rfl hl (by decide) rfl (fun ls hl => ?_)
  refine lv_iload_n hx hb dX12_asks_7 rfl (lv_at hl 0 rfl) ?_
  refine lv_aload_n hx hb dX12_asks_8 rfl (lv_at hl 1 rfl) ?_
  refine lv_iload_n hx hb dX12_asks_9 rfl (lv_at hl 2 rfl) ?_
  refine lv_iconst (v := 3) hx hb dX12_asks_10 (by decide) ?_
  refine th_Vi (As := [.int 0, .int 3]) (rest := [.int r_1]) E hml hl.1 (y_get_v15 l D cI cS τ ρ hW H hT_1 a0 ha0) lk_X12_99 yd_X12_get hT_1 ha0 rfl (by decide) hS_1 (fun _ h => h.elim) ⟨by decide, by decide⟩ (Nat.le_of_ble_eq_true rfl) ⟨by decide, by decide⟩ rfl dX12_asks_11 (fun r_2 H_2 locs_2 p_2 hT_2 hk_2 hS_2 => ?_)
  have p_2 : H = H_2 ∧ (ai H (ρ a0 0) 3 = r_2) := p_2
  obtain ⟨rfl, p_2_0⟩ := p_2
  have b_r_2 : 0 ≤ r_2.toInt ∧ r_2.toInt ≤ (2147483647 : Int) := by rw [← p_2_0]; exact hI.1 3 (by decide)
  have c_r_2 := congrArg Int32.toInt p_2_0
  refine lv_icmp_ge (tgt := 50) hx hb dX12_asks_14 (by decide) (fun c_3 => ?_) (fun c_3 => ?_)
  · have f_3 : r_2.toInt ≤ r_1.toInt := r_le rfl rfl c_3
    refine lv_aload_n hx hb dX12_asks_50 rfl (lv_at hl 1 rfl) ?_
    refine lv_iload_n hx hb dX12_asks_51 rfl (lv_at hl 2 rfl) ?_
    refine lv_iconst (v := 4) hx hb dX12_asks_52 (by decide) ?_
    refine lv_aload_n hx hb dX12_asks_53 rfl (lv_at hl 1 rfl) ?_
    refine lv_iload_n hx hb dX12_asks_54 rfl (lv_at hl 2 rfl) ?_
    refine lv_iload_n hx hb dX12_asks_55 rfl (lv_at hl 0 rfl) ?_
    refine lv_iconst (v := 1) hx hb dX12_asks_56 (by decide) ?_
    refine lv_isub hx hb dX12_asks_57 ?_
    refine lv_topi (fun x_4 ex_4 => ?_)
    have q_4 : x_4.toInt = r_1.toInt - 1 := i_mi rfl (by decide) ex_4 (by omega) (by omega)
    refine th_Vi (As := [.int 0, .int x_4]) (rest := [.int 4, .int 0, .ref a0]) E hml hl.1 (y_number_v3 l D cI cS τ ρ hW H hT_2 a0 x_4 ha0) lk_X12_112 yd_X12_number hT_2 ha0 rfl (by decide) hS_2 (fun _ h => h.elim) ⟨by decide, by decide⟩ (Nat.le_of_ble_eq_true rfl) ⟨by decide, by decide⟩ rfl dX12_asks_58 (fun r_5 H_5 locs_5 p_5 hT_5 hk_5 hS_5 => ?_)
    have p_5 : H = H_5 := p_5
    obtain rfl := p_5
    refine th_Vv (As := [.int 0, .int 4, .int r_5]) (rest := []) E hml hl.1 (y_makes_v3 l D cI cS τ ρ hW H hT_5 a0 r_5 ha0 N hN0 hN1 ⟨hI.1, hI.2.1, hI.2.2.1, hI.2.2.2.1, hI.2.2.2.2.1, hI.2.2.2.2.2⟩) lk_X12_126 yd_X12_makes hT_5 ha0 rfl (by decide) hS_5 (fun q h => (Or.inl h)) ⟨by decide, by decide⟩ (Nat.le_of_ble_eq_true rfl) ⟨by decide, by decide⟩ rfl dX12_asks_61 (fun H_6 locs_6 p_6 hT_6 hk_6 hS_6 => ?_)
    have p_6 : (IM D ρ N H_6 a0) ∧ ((ai H (ρ a0 0) 976).toInt ≤ (ai H_6 (ρ a0 0) 976).toInt) := p_6
    obtain ⟨p_6_0, p_6_1⟩ := p_6
    have mn_6 : (ai H (ρ a0 0) 976).toInt ≤ (ai H_6 (ρ a0 0) 976).toInt := by exact p_6_1
    refine lv_aload_n hx hb dX12_asks_64 rfl (lv_at hl 1 rfl) ?_
    refine th_Vv (As := []) (rest := []) E hml hl.1 (y_posts l D cI cS τ ρ hW H_6 hT_6 a0 ha0 N hN0 hN1 ⟨p_6_0.1, p_6_0.2.1, p_6_0.2.2.1, p_6_0.2.2.2.1, p_6_0.2.2.2.2.1, p_6_0.2.2.2.2.2⟩) lk_X12_129 yd_X12_posts hT_6 ha0 rfl (by decide) hS_6 (fun q h => (Or.inr h)) ⟨by decide, by decide⟩ (Nat.le_of_ble_eq_true rfl) ⟨by decide, by decide⟩ rfl dX12_asks_65 (fun H_7 locs_7 p_7 hT_7 hk_7 hS_7 => ?_)
    have p_7 : (IM D ρ N H_7 a0) ∧ ((ai H_6 (ρ a0 0) 976).toInt ≤ (ai H_7 (ρ a0 0) 976).toInt) := p_7
    obtain ⟨p_7_0, p_7_1⟩ := p_7
    have mn_7 : (ai H (ρ a0 0) 976).toInt ≤ (ai H_7 (ρ a0 0) 976).toInt := by have h := p_7_1; rw [(ai_q (hk_6 _ (th_ne (hW _ 12 0 ha0 (by decide) (by decide) (by decide)) (hW _ 12 2 ha0 (by decide) (by decide) (by decide)) (by decide))))] at h; exact h
    exact th_vret E hr hlk hs hT_7 hS_7 ⟨⟨p_7_0.1, p_7_0.2.1, p_7_0.2.2.1, p_7_0.2.2.2.1, p_7_0.2.2.2.2.1, p_7_0.2.2.2.2.2⟩, (by omega)⟩ dX12_asks_68
  · have f_3 : r_1.toInt < r_2.toInt := r_nle rfl rfl c_3
    refine lv_aload_n hx hb dX12_asks_17 rfl (lv_at hl 1 rfl) ?_
    refine lv_iload_n hx hb dX12_asks_18 rfl (lv_at hl 2 rfl) ?_
    refine lv_aload_n hx hb dX12_asks_19 rfl (lv_at hl 1 rfl) ?_
    refine gf_X12_25 E hT_2 ha0 dX12_asks_20 ?_
    refine lv_topi (fun x_8 ex_8 => ?_)
    have b_8 : 1 ≤ x_8.toInt ∧ x_8.toInt ≤ 8 := by rw [ex_8]; exact IF.f6 hI.2.2.2.2.2
    refine lv_aload_n hx hb dX12_asks_23 rfl (lv_at hl 1 rfl) ?_
    refine lv_iload_n hx hb dX12_asks_24 rfl (lv_at hl 2 rfl) ?_
    refine lv_iload_n hx hb dX12_asks_25 rfl (lv_at hl 0 rfl) ?_
    refine th_Vi (As := [.int 0, .int r_1]) (rest := [.int x_8, .int 0, .ref a0]) E hml hl.1 (y_saidFrom l D cI cS τ ρ hW H hT_2 a0 r_1 ha0 N hN0 hN1 ⟨hI.1, hI.2.1, hI.2.2.1, hI.2.2.2.1, hI.2.2.2.2.1, hI.2.2.2.2.2⟩ (by omega)) lk_X12_109 yd_X12_saidFrom hT_2 ha0 rfl (by decide) hS_2 (fun _ h => h.elim) ⟨by decide, by decide⟩ (Nat.le_of_ble_eq_true rfl) ⟨by decide, by decide⟩ rfl dX12_asks_26 (fun r_9 H_9 locs_9 p_9 hT_9 hk_9 hS_9 => ?_)
    have p_9 : H = H_9 ∧ (0 ≤ r_9.toInt ∧ (r_9.toInt = 0 ∨ (1 ≤ r_1.toInt ∧ r_9.toInt = (ai H (ρ a0 0) 4).toInt + 1 - r_1.toInt) ∨ (r_1.toInt < 1 ∧ r_9.toInt = (ai H (ρ a0 0) 4).toInt)) ∧ (ai H (ρ a0 0) 4).toInt ≤ N) := p_9
    obtain ⟨rfl, p_9_0⟩ := p_9
    refine lv_aload_n hx hb dX12_asks_29 rfl (lv_at hl 1 rfl) ?_
    refine lv_iload_n hx hb dX12_asks_30 rfl (lv_at hl 2 rfl) ?_
    refine lv_iconst (v := 3) hx hb dX12_asks_31 (by decide) ?_
    refine th_Vi (As := [.int 0, .int 3]) (rest := [.int r_9, .int x_8, .int 0, .ref a0]) E hml hl.1 (y_get_v15 l D cI cS τ ρ hW H hT_9 a0 ha0) lk_X12_99 yd_X12_get hT_9 ha0 rfl (by decide) hS_9 (fun _ h => h.elim) ⟨by decide, by decide⟩ (Nat.le_of_ble_eq_true rfl) ⟨by decide, by decide⟩ rfl dX12_asks_32 (fun r_10 H_10 locs_10 p_10 hT_10 hk_10 hS_10 => ?_)
    have p_10 : H = H_10 ∧ (ai H (ρ a0 0) 3 = r_10) := p_10
    obtain ⟨rfl, p_10_0⟩ := p_10
    have s_10 : r_10 = r_2 := p_10_0.symm.trans p_2_0
    refine th_topi s_10 ?_
    refine lv_iload_n hx hb dX12_asks_35 rfl (lv_at hl 0 rfl) ?_
    refine lv_isub hx hb dX12_asks_36 ?_
    refine lv_topi (fun x_11 ex_11 => ?_)
    have q_11 : x_11.toInt = r_2.toInt - r_1.toInt := i_mi rfl rfl ex_11 (by omega) (by omega)
    refine th_Si (As := [.int r_9, .int x_11]) (rest := [.int x_8, .int 0, .ref a0]) E hml hl.1 (y_lesser_v2 l D cI cS τ ρ hW H hT_10 r_9 x_11) lk_X12_146 yd_X12_lesser hS_10 (fun _ h => h.elim) ⟨by decide, by decide⟩ (Nat.le_of_ble_eq_true rfl) ⟨by decide, by decide⟩ rfl dX12_asks_37 (fun r_12 H_12 locs_12 p_12 hT_12 hk_12 hS_12 => ?_)
    have p_12 : H = H_12 ∧ (r_12.toInt ≤ r_9.toInt ∧ r_12.toInt ≤ x_11.toInt ∧ (r_12.toInt = r_9.toInt ∨ r_12.toInt = x_11.toInt)) := p_12
    obtain ⟨rfl, p_12_0⟩ := p_12
    refine th_Si (As := [.int x_8, .int r_12]) (rest := [.int 0, .ref a0]) E hml hl.1 (y_lesser_v2 l D cI cS τ ρ hW H hT_12 x_8 r_12) lk_X12_146 yd_X12_lesser hS_12 (fun _ h => h.elim) ⟨by decide, by decide⟩ (Nat.le_of_ble_eq_true rfl) ⟨by decide, by decide⟩ rfl dX12_asks_40 (fun r_13 H_13 locs_13 p_13 hT_13 hk_13 hS_13 => ?_)
    have p_13 : H = H_13 ∧ (r_13.toInt ≤ x_8.toInt ∧ r_13.toInt ≤ r_12.toInt ∧ (r_13.toInt = x_8.toInt ∨ r_13.toInt = r_12.toInt)) := p_13
    obtain ⟨rfl, p_13_0⟩ := p_13
    refine lv_iconst (v := 0) hx hb dX12_asks_43 (by decide) ?_
    refine th_Vv (As := [.int 0, .int r_13, .int 0]) (rest := []) E hml hl.1 (y_sends l D cI cS τ ρ hW H hT_13 a0 r_13 ha0 N hN0 hN1 ⟨hI.1, hI.2.1, hI.2.2.1, hI.2.2.2.1, hI.2.2.2.2.1, hI.2.2.2.2.2⟩ (by omega) (by have : (ai H (ρ a0 0) 2).toInt = (r_1 : Int32).toInt := congrArg Int32.toInt p_1_0; have j_2 := hI.2.1; unfold QS at j_2; omega)) lk_X12_149 yd_X12_sends hT_13 ha0 rfl (by decide) hS_13 (fun q => (fun h => h.elim (fun h => (Or.inl h)) (fun h => (Or.inr h)))) ⟨by decide, by decide⟩ (Nat.le_of_ble_eq_true rfl) ⟨by decide, by decide⟩ rfl dX12_asks_44 (fun H_14 locs_14 p_14 hT_14 hk_14 hS_14 => ?_)
    have p_14 : (IM D ρ N H_14 a0) ∧ ((ai H_14 (ρ a0 0) 2).toInt = (ai H (ρ a0 0) 2).toInt + r_13.toInt + 0) ∧ ((ai H (ρ a0 0) 976).toInt ≤ (ai H_14 (ρ a0 0) 976).toInt) := p_14
    obtain ⟨p_14_0, p_14_1, p_14_2⟩ := p_14
    have mn_14 : (ai H (ρ a0 0) 976).toInt ≤ (ai H_14 (ρ a0 0) 976).toInt := by exact p_14_2
    refine lv_goto (tgt := 68) hx hb dX12_asks_47 (by decide) ?_
    exact th_vret E hr hlk hs hT_14 hS_14 ⟨⟨p_14_0.1, p_14_0.2.1, p_14_0.2.2.1, p_14_0.2.2.2.1, p_14_0.2.2.2.2.1, p_14_0.2.2.2.2.2⟩, (by omega)⟩ dX12_asks_68
set_option maxHeartbeats 4000000 in
set_option maxRecDepth 100000 in
/-- the reference: get -/
theorem y_get_v37 (l : Launch) (D : va_G) (cI cS : ClassId) (τ : Nat → Option Nat) (ρ : Nat → Nat → Nat) (hW : WF τ ρ) (H : Heap) (hT : TH D cI cS τ ρ H) (a0 : Nat) (ha0 : τ a0 = some 12) : MI l D cI cS τ ρ yX12_get cX12_get 3 (some .int) 0 0 H [.ref a0, .int 0, .int 8] (fun (r : Int32) (u : Heap) => (H = u) ∧ (ai H (ρ a0 0) 8 = r)) (fun q => False) := by
  refine MI.of (by decide) (Nat.le_of_ble_eq_true rfl) ?_
  intro p e s m args below meth c E hml hr hlk hs ls hl
  have hx := E.1
  have hb := E.2.1
  have hown := E.2.2.1
  have hts := E.2.2.2.1
  have hS : SS (fun q => False) H H [] := SS.rf
  have hl : lv_has ls 3 [(0, .ref a0), (1, .int 0), (2, .int 8)] := hl
  refine lv_aload_n hx hb dX12_get_0 rfl (lv_at hl 0 rfl) ?_
  refine gf_X12_7 E hT hW ha0 dX12_get_1 (fun h_1 => ?_)
  refine lv_sipush (v := 288) hx hb dX12_get_4 (by decide) ?_
  refine lv_iload_n hx hb dX12_get_7 rfl (lv_at hl 1 rfl) ?_
  refine lv_imul hx hb dX12_get_8 ?_
  refine th_topi (y := 0) (by decide) ?_
  refine lv_iload_n hx hb dX12_get_9 rfl (lv_at hl 2 rfl) ?_
  refine lv_iadd hx hb dX12_get_10 ?_
  refine th_topi (y := 8) (by decide) ?_
  refine th_iald E hT h_1 (by decide) (vp_in_iff.mpr ⟨by decide, by decide⟩) dX12_get_11 ?_
  refine th_topi (y := ai H (ρ a0 0) 8) rfl ?_
  refine lv_topi (fun x_2 ex_2 => ?_)
  have c_x_2 := congrArg Int32.toInt ex_2.symm
  exact th_iret E hr hlk hs hT hS ⟨rfl, ex_2.symm⟩ dX12_get_12
set_option maxHeartbeats 4000000 in
set_option maxRecDepth 100000 in
/-- the reference: settles -/
theorem y_settles (l : Launch) (D : va_G) (cI cS : ClassId) (τ : Nat → Option Nat) (ρ : Nat → Nat → Nat) (hW : WF τ ρ) (H : Heap) (hT : TH D cI cS τ ρ H) (a0 : Nat) (ha0 : τ a0 = some 12) (N : Int) (hN0 : 0 ≤ N) (hN1 : N ≤ 600) (hI : IM D ρ N H a0) : MV l D cI cS τ ρ yX12_settles cX12_settles 3 none 3 66 H [.ref a0, .int 0] (fun (u : Heap) => (IM D ρ N u a0) ∧ ((ai H (ρ a0 0) 976).toInt ≤ (ai u (ρ a0 0) 976).toInt)) (fun q => q = ρ a0 0) := by
  refine MV.of (by decide) (Nat.le_of_ble_eq_true rfl) ?_
  intro p e s m args below meth c E hml hr hlk hs ls hl
  have hx := E.1
  have hb := E.2.1
  have hown := E.2.2.1
  have hts := E.2.2.2.1
  have hS : SS (fun q => q = ρ a0 0) H H [] := SS.rf
  have hl : lv_has ls 3 [(0, .ref a0), (1, .int 0)] := hl
  have n01 := hI.2.2.2.2.2.1
  have n23 := hI.2.2.2.2.2.2.1
  have J_38 : ∀ (H_c38 : Heap) (lc_c38 : List Loc) (ls : Array Slot) (z38_0 : Int32), TH D cI cS τ ρ H_c38 → SS (fun q => q = ρ a0 0) H H_c38 lc_c38 → lv_has ls 3 [(0, .ref a0), (1, .int 0)] → z38_0 = 0 ∨ z38_0 = 1 → IM D ρ N H_c38 a0 → (ai H (ρ a0 0) 976).toInt ≤ (ai H_c38 (ρ a0 0) 976).toInt → W p l e (rmO 3 66) s m args below meth c H_c38 lc_c38 0 0 (MQ below (va_Qv (fun (u : Heap) => (IM D ρ N u a0) ∧ ((ai H (ρ a0 0) 976).toInt ≤ (ai u (ρ a0 0) 976).toInt)) (Bt D cI cS τ ρ H) (fun q => q = ρ a0 0)) args s 0 0 (fun q => q = ρ a0 0)) (F0 m 38 ls [.int z38_0]) := by
    intro H_c38 lc_c38 ls z38_0 hT_c38 hS_c38 hl bz38_0 hI_c38 hmn_c38
    have z_z38_0 := b_iv bz38_0
    refine lv_istore_n (lv' := [(2, .int z38_0), (0, .ref a0), (1, .int 0)]) hx hb dX12_settles_38 rfl hl (by decide) rfl (fun ls hl => ?_)
    refine lv_iload_n hx hb dX12_settles_39 rfl (lv_at hl 0 rfl) ?_
    refine lv_if_ne (tgt := 54) hx hb dX12_settles_40 (by decide) (fun c_1 => ?_) (fun c_1 => ?_)
    · have f_1 : ¬ z38_0.toInt = 0 := r_ne rfl (by decide) c_1
      have nz_z38_0 : ¬ z38_0 = 0 := c_1
      refine lv_aload_n hx hb dX12_settles_54 rfl (lv_at hl 1 rfl) ?_
      refine lv_iload_n hx hb dX12_settles_55 rfl (lv_at hl 2 rfl) ?_
      refine lv_bipush (v := 11) hx hb dX12_settles_56 (by decide) ?_
      refine th_Vi (As := [.int 0, .int 11]) (rest := []) E hml hl.1 (y_get_v36 l D cI cS τ ρ hW H_c38 hT_c38 a0 ha0) lk_X12_99 yd_X12_get hT_c38 ha0 rfl (by decide) hS_c38 (fun _ h => h.elim) ⟨by decide, by decide⟩ (Nat.le_of_ble_eq_true rfl) ⟨by decide, by decide⟩ rfl dX12_settles_58 (fun r_2 H_2 locs_2 p_2 hT_2 hk_2 hS_2 => ?_)
      have p_2 : H_c38 = H_2 ∧ (ai H_c38 (ρ a0 0) 11 = r_2) := p_2
      obtain ⟨rfl, p_2_0⟩ := p_2
      have c_r_2 := congrArg Int32.toInt p_2_0
      refine lv_if_ne (tgt := 78) hx hb dX12_settles_61 (by decide) (fun c_3 => ?_) (fun c_3 => ?_)
      · have f_3 : ¬ r_2.toInt = 0 := r_ne rfl (by decide) c_3
        have nz_r_2 : ¬ r_2 = 0 := c_3
        exact th_vret E hr hlk hs hT_2 hS_2 ⟨⟨hI_c38.1, hI_c38.2.1, hI_c38.2.2.1, hI_c38.2.2.2.1, hI_c38.2.2.2.2.1, hI_c38.2.2.2.2.2⟩, (by omega)⟩ dX12_settles_78
      · have f_3 : r_2.toInt = 0 := r_eq rfl (by decide) c_3
        refine lv_aload_n hx hb dX12_settles_64 rfl (lv_at hl 1 rfl) ?_
        refine lv_iload_n hx hb dX12_settles_65 rfl (lv_at hl 2 rfl) ?_
        refine lv_bipush (v := 11) hx hb dX12_settles_66 (by decide) ?_
        refine lv_aload_n hx hb dX12_settles_68 rfl (lv_at hl 1 rfl) ?_
        refine lv_iload_n hx hb dX12_settles_69 rfl (lv_at hl 2 rfl) ?_
        refine lv_bipush (v := 8) hx hb dX12_settles_70 (by decide) ?_
        refine th_Vi (As := [.int 0, .int 8]) (rest := [.int 11, .int 0, .ref a0]) E hml hl.1 (y_get_v37 l D cI cS τ ρ hW H_c38 hT_2 a0 ha0) lk_X12_99 yd_X12_get hT_2 ha0 rfl (by decide) hS_2 (fun _ h => h.elim) ⟨by decide, by decide⟩ (Nat.le_of_ble_eq_true rfl) ⟨by decide, by decide⟩ rfl dX12_settles_72 (fun r_4 H_4 locs_4 p_4 hT_4 hk_4 hS_4 => ?_)
        have p_4 : H_c38 = H_4 ∧ (ai H_c38 (ρ a0 0) 8 = r_4) := p_4
        obtain ⟨rfl, p_4_0⟩ := p_4
        have c_r_4 := congrArg Int32.toInt p_4_0
        refine th_Vv (As := [.int 0, .int 11, .int r_4]) (rest := []) E hml hl.1 (y_set_v55 l D cI cS τ ρ hW H_c38 hT_4 a0 r_4 ha0) lk_X12_95 yd_X12_set hT_4 ha0 rfl (by decide) hS_4 (fun q h => h) ⟨by decide, by decide⟩ (Nat.le_of_ble_eq_true rfl) ⟨by decide, by decide⟩ rfl dX12_settles_75 (fun H_5 locs_5 p_5 hT_5 hk_5 hS_5 => ?_)
        have p_5 : (AU 985 H_c38 H_5 (ρ a0 0) 11 r_4) := p_5
        have hW_5 : PW N H_5 (ρ a0 0) := PW.put hI_c38.1 p_5 (by show (-2147483648 : Int) ≤ _; exact i_min _) (by show _ ≤ (2147483647 : Int); exact i_max _)
        exact th_vret E hr hlk hs hT_5 hS_5 ⟨⟨hW_5, (QS.same (AU.o p_5 (by decide) (by decide)) (AU.o p_5 (by decide) (by decide)) hI_c38.2.1), (QS.same (AU.o p_5 (by decide) (by decide)) (AU.o p_5 (by decide) (by decide)) hI_c38.2.2.1), (PL.q (p_5.2 _ (th_ne (hW _ 12 2 ha0 (by decide) (by decide) (by decide)) (hW _ 12 0 ha0 (by decide) (by decide) (by decide)) (by decide))) hI_c38.2.2.2.1), (PL.q (p_5.2 _ (th_ne (hW _ 12 3 ha0 (by decide) (by decide) (by decide)) (hW _ 12 0 ha0 (by decide) (by decide) (by decide)) (by decide))) hI_c38.2.2.2.2.1), (IF.q (p_5.2 _ (th_ne ha0 (hW _ 12 0 ha0 (by decide) (by decide) (by decide)) (by decide))) hI_c38.2.2.2.2.2)⟩, (by rw [(AU.o p_5 (by decide) (by decide))]; omega)⟩ dX12_settles_78
    · have f_1 : z38_0.toInt = 0 := r_eq rfl (by decide) c_1
      refine lv_aload_n hx hb dX12_settles_43 rfl (lv_at hl 1 rfl) ?_
      refine lv_iload_n hx hb dX12_settles_44 rfl (lv_at hl 2 rfl) ?_
      refine lv_bipush (v := 11) hx hb dX12_settles_45 (by decide) ?_
      refine lv_iconst (v := 0) hx hb dX12_settles_47 (by decide) ?_
      refine th_Vv (As := [.int 0, .int 11, .int 0]) (rest := []) E hml hl.1 (y_set_v10 l D cI cS τ ρ hW H_c38 hT_c38 a0 ha0) lk_X12_95 yd_X12_set hT_c38 ha0 rfl (by decide) hS_c38 (fun q h => h) ⟨by decide, by decide⟩ (Nat.le_of_ble_eq_true rfl) ⟨by decide, by decide⟩ rfl dX12_settles_48 (fun H_6 locs_6 p_6 hT_6 hk_6 hS_6 => ?_)
      have p_6 : (AU 985 H_c38 H_6 (ρ a0 0) 11 (0)) := p_6
      have hW_6 : PW N H_6 (ρ a0 0) := PW.put hI_c38.1 p_6 (by show (-2147483648 : Int) ≤ _; exact i_min _) (by show _ ≤ (2147483647 : Int); exact i_max _)
      refine lv_goto (tgt := 78) hx hb dX12_settles_51 (by decide) ?_
      exact th_vret E hr hlk hs hT_6 hS_6 ⟨⟨hW_6, (QS.same (AU.o p_6 (by decide) (by decide)) (AU.o p_6 (by decide) (by decide)) hI_c38.2.1), (QS.same (AU.o p_6 (by decide) (by decide)) (AU.o p_6 (by decide) (by decide)) hI_c38.2.2.1), (PL.q (p_6.2 _ (th_ne (hW _ 12 2 ha0 (by decide) (by decide) (by decide)) (hW _ 12 0 ha0 (by decide) (by decide) (by decide)) (by decide))) hI_c38.2.2.2.1), (PL.q (p_6.2 _ (th_ne (hW _ 12 3 ha0 (by decide) (by decide) (by decide)) (hW _ 12 0 ha0 (by decide) (by decide) (by decide)) (by decide))) hI_c38.2.2.2.2.1), (IF.q (p_6.2 _ (th_ne ha0 (hW _ 12 0 ha0 (by decide) (by decide) (by decide)) (by decide))) hI_c38.2.2.2.2.2)⟩, (by rw [(AU.o p_6 (by decide) (by decide))]; omega)⟩ dX12_settles_78
  have J_37 : ∀ (H_c37 : Heap) (lc_c37 : List Loc) (ls : Array Slot), TH D cI cS τ ρ H_c37 → SS (fun q => q = ρ a0 0) H H_c37 lc_c37 → lv_has ls 3 [(0, .ref a0), (1, .int 0)] → IM D ρ N H_c37 a0 → (ai H (ρ a0 0) 976).toInt ≤ (ai H_c37 (ρ a0 0) 976).toInt → W p l e (rmO 3 66) s m args below meth c H_c37 lc_c37 0 0 (MQ below (va_Qv (fun (u : Heap) => (IM D ρ N u a0) ∧ ((ai H (ρ a0 0) 976).toInt ≤ (ai u (ρ a0 0) 976).toInt)) (Bt D cI cS τ ρ H) (fun q => q = ρ a0 0)) args s 0 0 (fun q => q = ρ a0 0)) (F0 m 37 ls []) := by
    intro H_c37 lc_c37 ls hT_c37 hS_c37 hl hI_c37 hmn_c37
    refine lv_iconst (v := 0) hx hb dX12_settles_37 (by decide) ?_
    exact J_38 H_c37 lc_c37 _ 0 hT_c37 hS_c37 hl (Or.inl rfl) ⟨hI_c37.1, hI_c37.2.1, hI_c37.2.2.1, hI_c37.2.2.2.1, hI_c37.2.2.2.2.1, hI_c37.2.2.2.2.2⟩ (by omega)
  have J_33 : ∀ (H_c33 : Heap) (lc_c33 : List Loc) (ls : Array Slot), TH D cI cS τ ρ H_c33 → SS (fun q => q = ρ a0 0) H H_c33 lc_c33 → lv_has ls 3 [(0, .ref a0), (1, .int 0)] → IM D ρ N H_c33 a0 → (ai H (ρ a0 0) 976).toInt ≤ (ai H_c33 (ρ a0 0) 976).toInt → W p l e (rmO 3 66) s m args below meth c H_c33 lc_c33 0 0 (MQ below (va_Qv (fun (u : Heap) => (IM D ρ N u a0) ∧ ((ai H (ρ a0 0) 976).toInt ≤ (ai u (ρ a0 0) 976).toInt)) (Bt D cI cS τ ρ H) (fun q => q = ρ a0 0)) args s 0 0 (fun q => q = ρ a0 0)) (F0 m 33 ls []) := by
    intro H_c33 lc_c33 ls hT_c33 hS_c33 hl hI_c33 hmn_c33
    refine lv_iconst (v := 1) hx hb dX12_settles_33 (by decide) ?_
    refine lv_goto (tgt := 38) hx hb dX12_settles_34 (by decide) ?_
    exact J_38 H_c33 lc_c33 _ 1 hT_c33 hS_c33 hl (Or.inr rfl) ⟨hI_c33.1, hI_c33.2.1, hI_c33.2.2.1, hI_c33.2.2.2.1, hI_c33.2.2.2.2.1, hI_c33.2.2.2.2.2⟩ (by omega)
  refine lv_aload_n hx hb dX12_settles_0 rfl (lv_at hl 0 rfl) ?_
  refine lv_iload_n hx hb dX12_settles_1 rfl (lv_at hl 1 rfl) ?_
  refine lv_iconst (v := 0) hx hb dX12_settles_2 (by decide) ?_
  refine th_Vi (As := [.int 0, .int 0]) (rest := []) E hml hl.1 (y_get_v21 l D cI cS τ ρ hW H hT a0 ha0) lk_X12_99 yd_X12_get hT ha0 rfl (by decide) hS (fun _ h => h.elim) ⟨by decide, by decide⟩ (Nat.le_of_ble_eq_true rfl) ⟨by decide, by decide⟩ rfl dX12_settles_3 (fun r_7 H_7 locs_7 p_7 hT_7 hk_7 hS_7 => ?_)
  have p_7 : H = H_7 ∧ (ai H (ρ a0 0) 0 = r_7) := p_7
  obtain ⟨rfl, p_7_0⟩ := p_7
  have c_r_7 := congrArg Int32.toInt p_7_0
  refine lv_iconst (v := 1) hx hb dX12_settles_6 (by decide) ?_
  refine lv_icmp_le (tgt := 37) hx hb dX12_settles_7 (by decide) (fun c_8 => ?_) (fun c_8 => ?_)
  · have f_8 : r_7.toInt ≤ 1 := r_le rfl (by decide) c_8
    exact J_37 H locs_7 _ hT_7 hS_7 hl ⟨hI.1, hI.2.1, hI.2.2.1, hI.2.2.2.1, hI.2.2.2.2.1, hI.2.2.2.2.2⟩ (by omega)
  · have f_8 : 1 < r_7.toInt := r_nle rfl (by decide) c_8
    refine lv_aload_n hx hb dX12_settles_10 rfl (lv_at hl 0 rfl) ?_
    refine lv_iload_n hx hb dX12_settles_11 rfl (lv_at hl 1 rfl) ?_
    refine lv_iconst (v := 1) hx hb dX12_settles_12 (by decide) ?_
    refine th_Vi (As := [.int 0, .int 1]) (rest := []) E hml hl.1 (y_get_v7 l D cI cS τ ρ hW H hT_7 a0 ha0) lk_X12_99 yd_X12_get hT_7 ha0 rfl (by decide) hS_7 (fun _ h => h.elim) ⟨by decide, by decide⟩ (Nat.le_of_ble_eq_true rfl) ⟨by decide, by decide⟩ rfl dX12_settles_13 (fun r_9 H_9 locs_9 p_9 hT_9 hk_9 hS_9 => ?_)
    have p_9 : H = H_9 ∧ (ai H (ρ a0 0) 1 = r_9) := p_9
    obtain ⟨rfl, p_9_0⟩ := p_9
    have b_r_9 : 0 ≤ r_9.toInt ∧ r_9.toInt ≤ N + 2 := by rw [← p_9_0]; exact hI.1 1 (by decide)
    have c_r_9 := congrArg Int32.toInt p_9_0
    refine lv_aload_n hx hb dX12_settles_16 rfl (lv_at hl 0 rfl) ?_
    refine lv_iload_n hx hb dX12_settles_17 rfl (lv_at hl 1 rfl) ?_
    refine lv_iconst (v := 2) hx hb dX12_settles_18 (by decide) ?_
    refine th_Vi (As := [.int 0, .int 2]) (rest := [.int r_9]) E hml hl.1 (y_get_v16 l D cI cS τ ρ hW H hT_9 a0 ha0) lk_X12_99 yd_X12_get hT_9 ha0 rfl (by decide) hS_9 (fun _ h => h.elim) ⟨by decide, by decide⟩ (Nat.le_of_ble_eq_true rfl) ⟨by decide, by decide⟩ rfl dX12_settles_19 (fun r_10 H_10 locs_10 p_10 hT_10 hk_10 hS_10 => ?_)
    have p_10 : H = H_10 ∧ (ai H (ρ a0 0) 2 = r_10) := p_10
    obtain ⟨rfl, p_10_0⟩ := p_10
    have b_r_10 : 0 ≤ r_10.toInt ∧ r_10.toInt ≤ N + 2 := by rw [← p_10_0]; exact hI.1 2 (by decide)
    have c_r_10 := congrArg Int32.toInt p_10_0
    refine lv_icmp_lt (tgt := 33) hx hb dX12_settles_22 (by decide) (fun c_11 => ?_) (fun c_11 => ?_)
    · have f_11 : r_9.toInt < r_10.toInt := r_lt rfl rfl c_11
      exact J_33 H locs_10 _ hT_10 hS_10 hl ⟨hI.1, hI.2.1, hI.2.2.1, hI.2.2.2.1, hI.2.2.2.2.1, hI.2.2.2.2.2⟩ (by omega)
    · have f_11 : r_10.toInt ≤ r_9.toInt := r_nlt rfl rfl c_11
      refine lv_aload_n hx hb dX12_settles_25 rfl (lv_at hl 0 rfl) ?_
      refine lv_iload_n hx hb dX12_settles_26 rfl (lv_at hl 1 rfl) ?_
      refine th_Vi (As := [.int 0]) (rest := []) E hml hl.1 (y_isBlocked l D cI cS τ ρ hW H hT_10 a0 ha0 N hN0 hN1 ⟨hI.1, hI.2.1, hI.2.2.1, hI.2.2.2.1, hI.2.2.2.2.1, hI.2.2.2.2.2⟩) lk_X12_157 yd_X12_isBlocked hT_10 ha0 rfl (by decide) hS_10 (fun _ h => h.elim) ⟨by decide, by decide⟩ (Nat.le_of_ble_eq_true rfl) ⟨by decide, by decide⟩ rfl dX12_settles_27 (fun r_12 H_12 locs_12 p_12 hT_12 hk_12 hS_12 => ?_)
      have p_12 : H = H_12 ∧ (r_12 = 0 ∨ r_12 = 1) ∧ (r_12.toInt = 1 → ((ai H (ρ a0 0) 0).toInt = 4 ∨ (ai H (ρ a0 0) 0).toInt = 7)) := p_12
      obtain ⟨rfl, p_12_0, p_12_1⟩ := p_12
      have z_12 := b_iv p_12_0
      refine lv_if_eq (tgt := 37) hx hb dX12_settles_30 (by decide) (fun c_13 => ?_) (fun c_13 => ?_)
      · have f_13 : r_12.toInt = 0 := r_eq rfl (by decide) c_13
        exact J_37 H locs_12 _ hT_12 hS_12 hl ⟨hI.1, hI.2.1, hI.2.2.1, hI.2.2.2.1, hI.2.2.2.2.1, hI.2.2.2.2.2⟩ (by omega)
      · have f_13 : ¬ r_12.toInt = 0 := r_ne rfl (by decide) c_13
        have nz_r_12 : ¬ r_12 = 0 := c_13
        exact J_33 H locs_12 _ hT_12 hS_12 hl ⟨hI.1, hI.2.1, hI.2.2.1, hI.2.2.2.1, hI.2.2.2.2.1, hI.2.2.2.2.2⟩ (by omega)
set_option maxHeartbeats 4000000 in
set_option maxRecDepth 100000 in
/-- the reference: clocks -/
theorem y_clocks (l : Launch) (D : va_G) (cI cS : ClassId) (τ : Nat → Option Nat) (ρ : Nat → Nat → Nat) (hW : WF τ ρ) (H : Heap) (hT : TH D cI cS τ ρ H) (a0 : Nat) (ha0 : τ a0 = some 12) (N : Int) (hN0 : 0 ≤ N) (hN1 : N ≤ 600) (hI : IM D ρ N H a0) : MV l D cI cS τ ρ yX12_clocks cX12_clocks 2 none 8 187 H [.ref a0, .int 0] (fun (u : Heap) => (IM D ρ N u a0) ∧ ((ai H (ρ a0 0) 976).toInt ≤ (ai u (ρ a0 0) 976).toInt)) (fun q => q = ρ a0 0 ∨ q = ρ a0 2) := by
  refine MV.of (by decide) (Nat.le_of_ble_eq_true rfl) ?_
  intro p e s m args below meth c E hml hr hlk hs ls hl
  have hx := E.1
  have hb := E.2.1
  have hown := E.2.2.1
  have hts := E.2.2.2.1
  have hS : SS (fun q => q = ρ a0 0 ∨ q = ρ a0 2) H H [] := SS.rf
  have hl : lv_has ls 2 [(0, .ref a0), (1, .int 0)] := hl
  have n01 := hI.2.2.2.2.2.1
  have n23 := hI.2.2.2.2.2.2.1
  have J_63 : ∀ (H_c63 : Heap) (lc_c63 : List Loc) (ls : Array Slot), TH D cI cS τ ρ H_c63 → SS (fun q => q = ρ a0 0 ∨ q = ρ a0 2) H H_c63 lc_c63 → lv_has ls 2 [(0, .ref a0), (1, .int 0)] → IM D ρ N H_c63 a0 → (ai H (ρ a0 0) 976).toInt ≤ (ai H_c63 (ρ a0 0) 976).toInt → W p l e (rmO 8 187) s m args below meth c H_c63 lc_c63 0 0 (MQ below (va_Qv (fun (u : Heap) => (IM D ρ N u a0) ∧ ((ai H (ρ a0 0) 976).toInt ≤ (ai u (ρ a0 0) 976).toInt)) (Bt D cI cS τ ρ H) (fun q => q = ρ a0 0 ∨ q = ρ a0 2)) args s 0 0 (fun q => q = ρ a0 0 ∨ q = ρ a0 2)) (F0 m 63 ls []) := by
    intro H_c63 lc_c63 ls hT_c63 hS_c63 hl hI_c63 hmn_c63
    refine lv_aload_n hx hb dX12_clocks_63 rfl (lv_at hl 0 rfl) ?_
    refine lv_iload_n hx hb dX12_clocks_64 rfl (lv_at hl 1 rfl) ?_
    refine lv_bipush (v := 8) hx hb dX12_clocks_65 (by decide) ?_
    refine lv_bipush (v := 64) hx hb dX12_clocks_67 (by decide) ?_
    refine lv_iconst (v := 2) hx hb dX12_clocks_69 (by decide) ?_
    refine lv_aload_n hx hb dX12_clocks_70 rfl (lv_at hl 0 rfl) ?_
    refine lv_iload_n hx hb dX12_clocks_71 rfl (lv_at hl 1 rfl) ?_
    refine lv_bipush (v := 8) hx hb dX12_clocks_72 (by decide) ?_
    refine th_Vi (As := [.int 0, .int 8]) (rest := [.int 2, .int 64, .int 8, .int 0, .ref a0]) E hml hl.1 (y_get_v37 l D cI cS τ ρ hW H_c63 hT_c63 a0 ha0) lk_X12_99 yd_X12_get hT_c63 ha0 rfl (by decide) hS_c63 (fun _ h => h.elim) ⟨by decide, by decide⟩ (Nat.le_of_ble_eq_true rfl) ⟨by decide, by decide⟩ rfl dX12_clocks_74 (fun r_1 H_1 locs_1 p_1 hT_1 hk_1 hS_1 => ?_)
    have p_1 : H_c63 = H_1 ∧ (ai H_c63 (ρ a0 0) 8 = r_1) := p_1
    obtain ⟨rfl, p_1_0⟩ := p_1
    have c_r_1 := congrArg Int32.toInt p_1_0
    refine lv_imul hx hb dX12_clocks_77 ?_
    refine lv_topi (fun x_2 ex_2 => ?_)
    refine th_Si (As := [.int 64, .int x_2]) (rest := [.int 8, .int 0, .ref a0]) E hml hl.1 (y_lesser l D cI cS τ ρ hW H_c63 hT_1 x_2) lk_X12_146 yd_X12_lesser hS_1 (fun _ h => h.elim) ⟨by decide, by decide⟩ (Nat.le_of_ble_eq_true rfl) ⟨by decide, by decide⟩ rfl dX12_clocks_78 (fun r_3 H_3 locs_3 p_3 hT_3 hk_3 hS_3 => ?_)
    have p_3 : H_c63 = H_3 ∧ (r_3.toInt ≤ 64 ∧ r_3.toInt ≤ x_2.toInt ∧ (r_3.toInt = 64 ∨ r_3.toInt = x_2.toInt)) := p_3
    obtain ⟨rfl, p_3_0⟩ := p_3
    refine th_Vv (As := [.int 0, .int 8, .int r_3]) (rest := []) E hml hl.1 (y_set_v14 l D cI cS τ ρ hW H_c63 hT_3 a0 r_3 ha0) lk_X12_95 yd_X12_set hT_3 ha0 rfl (by decide) hS_3 (fun q h => (Or.inl h)) ⟨by decide, by decide⟩ (Nat.le_of_ble_eq_true rfl) ⟨by decide, by decide⟩ rfl dX12_clocks_81 (fun H_4 locs_4 p_4 hT_4 hk_4 hS_4 => ?_)
    have p_4 : (AU 985 H_c63 H_4 (ρ a0 0) 8 r_3) := p_4
    have hW_4 : PW N H_4 (ρ a0 0) := PW.put hI_c63.1 p_4 (by show (-2147483648 : Int) ≤ _; exact i_min _) (by show _ ≤ (2147483647 : Int); exact i_max _)
    refine lv_aload_n hx hb dX12_clocks_84 rfl (lv_at hl 0 rfl) ?_
    refine lv_iload_n hx hb dX12_clocks_85 rfl (lv_at hl 1 rfl) ?_
    refine th_Vv (As := [.int 0]) (rest := []) E hml hl.1 (y_settles l D cI cS τ ρ hW H_4 hT_4 a0 ha0 N hN0 hN1 ⟨hW_4, (QS.same (AU.o p_4 (by decide) (by decide)) (AU.o p_4 (by decide) (by decide)) hI_c63.2.1), (QS.same (AU.o p_4 (by decide) (by decide)) (AU.o p_4 (by decide) (by decide)) hI_c63.2.2.1), (PL.q (p_4.2 _ (th_ne (hW _ 12 2 ha0 (by decide) (by decide) (by decide)) (hW _ 12 0 ha0 (by decide) (by decide) (by decide)) (by decide))) hI_c63.2.2.2.1), (PL.q (p_4.2 _ (th_ne (hW _ 12 3 ha0 (by decide) (by decide) (by decide)) (hW _ 12 0 ha0 (by decide) (by decide) (by decide)) (by decide))) hI_c63.2.2.2.2.1), (IF.q (p_4.2 _ (th_ne ha0 (hW _ 12 0 ha0 (by decide) (by decide) (by decide)) (by decide))) hI_c63.2.2.2.2.2)⟩) lk_X12_166 yd_X12_settles hT_4 ha0 rfl (by decide) hS_4 (fun q h => (Or.inl h)) ⟨by decide, by decide⟩ (Nat.le_of_ble_eq_true rfl) ⟨by decide, by decide⟩ rfl dX12_clocks_86 (fun H_5 locs_5 p_5 hT_5 hk_5 hS_5 => ?_)
    have p_5 : (IM D ρ N H_5 a0) ∧ ((ai H_4 (ρ a0 0) 976).toInt ≤ (ai H_5 (ρ a0 0) 976).toInt) := p_5
    obtain ⟨p_5_0, p_5_1⟩ := p_5
    have mn_5 : (ai H_c63 (ρ a0 0) 976).toInt ≤ (ai H_5 (ρ a0 0) 976).toInt := by have h := p_5_1; rw [(AU.o p_4 (by decide) (by decide))] at h; exact h
    exact th_vret E hr hlk hs hT_5 hS_5 ⟨⟨p_5_0.1, p_5_0.2.1, p_5_0.2.2.1, p_5_0.2.2.2.1, p_5_0.2.2.2.2.1, p_5_0.2.2.2.2.2⟩, (by omega)⟩ dX12_clocks_89
  refine lv_aload_n hx hb dX12_clocks_0 rfl (lv_at hl 0 rfl) ?_
  refine lv_iload_n hx hb dX12_clocks_1 rfl (lv_at hl 1 rfl) ?_
  refine lv_bipush (v := 11) hx hb dX12_clocks_2 (by decide) ?_
  refine lv_aload_n hx hb dX12_clocks_4 rfl (lv_at hl 0 rfl) ?_
  refine lv_iload_n hx hb dX12_clocks_5 rfl (lv_at hl 1 rfl) ?_
  refine lv_bipush (v := 11) hx hb dX12_clocks_6 (by decide) ?_
  refine th_Vi (As := [.int 0, .int 11]) (rest := [.int 11, .int 0, .ref a0]) E hml hl.1 (y_get_v36 l D cI cS τ ρ hW H hT a0 ha0) lk_X12_99 yd_X12_get hT ha0 rfl (by decide) hS (fun _ h => h.elim) ⟨by decide, by decide⟩ (Nat.le_of_ble_eq_true rfl) ⟨by decide, by decide⟩ rfl dX12_clocks_8 (fun r_6 H_6 locs_6 p_6 hT_6 hk_6 hS_6 => ?_)
  have p_6 : H = H_6 ∧ (ai H (ρ a0 0) 11 = r_6) := p_6
  obtain ⟨rfl, p_6_0⟩ := p_6
  have c_r_6 := congrArg Int32.toInt p_6_0
  refine lv_iconst (v := 1) hx hb dX12_clocks_11 (by decide) ?_
  refine lv_isub hx hb dX12_clocks_12 ?_
  refine lv_topi (fun x_7 ex_7 => ?_)
  refine th_Vv (As := [.int 0, .int 11, .int x_7]) (rest := []) E hml hl.1 (y_set_v55 l D cI cS τ ρ hW H hT_6 a0 x_7 ha0) lk_X12_95 yd_X12_set hT_6 ha0 rfl (by decide) hS_6 (fun q h => (Or.inl h)) ⟨by decide, by decide⟩ (Nat.le_of_ble_eq_true rfl) ⟨by decide, by decide⟩ rfl dX12_clocks_13 (fun H_8 locs_8 p_8 hT_8 hk_8 hS_8 => ?_)
  have p_8 : (AU 985 H H_8 (ρ a0 0) 11 x_7) := p_8
  have hW_8 : PW N H_8 (ρ a0 0) := PW.put hI.1 p_8 (by show (-2147483648 : Int) ≤ _; exact i_min _) (by show _ ≤ (2147483647 : Int); exact i_max _)
  refine lv_aload_n hx hb dX12_clocks_16 rfl (lv_at hl 0 rfl) ?_
  refine lv_iload_n hx hb dX12_clocks_17 rfl (lv_at hl 1 rfl) ?_
  refine lv_bipush (v := 11) hx hb dX12_clocks_18 (by decide) ?_
  refine th_Vi (As := [.int 0, .int 11]) (rest := []) E hml hl.1 (y_get_v36 l D cI cS τ ρ hW H_8 hT_8 a0 ha0) lk_X12_99 yd_X12_get hT_8 ha0 rfl (by decide) hS_8 (fun _ h => h.elim) ⟨by decide, by decide⟩ (Nat.le_of_ble_eq_true rfl) ⟨by decide, by decide⟩ rfl dX12_clocks_20 (fun r_9 H_9 locs_9 p_9 hT_9 hk_9 hS_9 => ?_)
  have p_9 : H_8 = H_9 ∧ (ai H_8 (ρ a0 0) 11 = r_9) := p_9
  obtain ⟨rfl, p_9_0⟩ := p_9
  have s_9 : r_9 = x_7 := p_9_0.symm.trans (AU.s p_8 (by decide))
  refine th_topi s_9 ?_
  refine lv_if_le (tgt := 27) hx hb dX12_clocks_23 (by decide) (fun c_10 => ?_) (fun c_10 => ?_)
  · have f_10 : x_7.toInt ≤ 0 := r_le rfl (by decide) c_10
    refine lv_aload_n hx hb dX12_clocks_27 rfl (lv_at hl 0 rfl) ?_
    refine lv_iload_n hx hb dX12_clocks_28 rfl (lv_at hl 1 rfl) ?_
    refine lv_iconst (v := 1) hx hb dX12_clocks_29 (by decide) ?_
    refine th_Vi (As := [.int 0, .int 1]) (rest := []) E hml hl.1 (y_get_v7 l D cI cS τ ρ hW H_8 hT_9 a0 ha0) lk_X12_99 yd_X12_get hT_9 ha0 rfl (by decide) hS_9 (fun _ h => h.elim) ⟨by decide, by decide⟩ (Nat.le_of_ble_eq_true rfl) ⟨by decide, by decide⟩ rfl dX12_clocks_30 (fun r_11 H_11 locs_11 p_11 hT_11 hk_11 hS_11 => ?_)
    have p_11 : H_8 = H_11 ∧ (ai H_8 (ρ a0 0) 1 = r_11) := p_11
    obtain ⟨rfl, p_11_0⟩ := p_11
    have t_11 : ai H (ρ a0 0) 1 = r_11 := (AU.o p_8 (by decide) (by decide)).symm.trans p_11_0
    have b_r_11 : 0 ≤ r_11.toInt ∧ r_11.toInt ≤ N + 2 := by rw [← t_11]; exact hI.1 1 (by decide)
    have c_r_11 := congrArg Int32.toInt t_11
    refine lv_aload_n hx hb dX12_clocks_33 rfl (lv_at hl 0 rfl) ?_
    refine lv_iload_n hx hb dX12_clocks_34 rfl (lv_at hl 1 rfl) ?_
    refine lv_iconst (v := 2) hx hb dX12_clocks_35 (by decide) ?_
    refine th_Vi (As := [.int 0, .int 2]) (rest := [.int r_11]) E hml hl.1 (y_get_v16 l D cI cS τ ρ hW H_8 hT_11 a0 ha0) lk_X12_99 yd_X12_get hT_11 ha0 rfl (by decide) hS_11 (fun _ h => h.elim) ⟨by decide, by decide⟩ (Nat.le_of_ble_eq_true rfl) ⟨by decide, by decide⟩ rfl dX12_clocks_36 (fun r_12 H_12 locs_12 p_12 hT_12 hk_12 hS_12 => ?_)
    have p_12 : H_8 = H_12 ∧ (ai H_8 (ρ a0 0) 2 = r_12) := p_12
    obtain ⟨rfl, p_12_0⟩ := p_12
    have t_12 : ai H (ρ a0 0) 2 = r_12 := (AU.o p_8 (by decide) (by decide)).symm.trans p_12_0
    have b_r_12 : 0 ≤ r_12.toInt ∧ r_12.toInt ≤ N + 2 := by rw [← t_12]; exact hI.1 2 (by decide)
    have c_r_12 := congrArg Int32.toInt t_12
    refine lv_icmp_ge (tgt := 50) hx hb dX12_clocks_39 (by decide) (fun c_13 => ?_) (fun c_13 => ?_)
    · have f_13 : r_12.toInt ≤ r_11.toInt := r_le rfl rfl c_13
      refine lv_aload_n hx hb dX12_clocks_50 rfl (lv_at hl 0 rfl) ?_
      refine lv_iload_n hx hb dX12_clocks_51 rfl (lv_at hl 1 rfl) ?_
      refine th_Vi (As := [.int 0]) (rest := []) E hml hl.1 (y_isBlocked l D cI cS τ ρ hW H_8 hT_12 a0 ha0 N hN0 hN1 ⟨hW_8, (QS.same (AU.o p_8 (by decide) (by decide)) (((AU.o p_8 (by decide) (by decide)).trans t_12).trans t_12.symm) hI.2.1), (QS.same (AU.o p_8 (by decide) (by decide)) (AU.o p_8 (by decide) (by decide)) hI.2.2.1), (PL.q (p_8.2 _ (th_ne (hW _ 12 2 ha0 (by decide) (by decide) (by decide)) (hW _ 12 0 ha0 (by decide) (by decide) (by decide)) (by decide))) hI.2.2.2.1), (PL.q (p_8.2 _ (th_ne (hW _ 12 3 ha0 (by decide) (by decide) (by decide)) (hW _ 12 0 ha0 (by decide) (by decide) (by decide)) (by decide))) hI.2.2.2.2.1), (IF.q (p_8.2 _ (th_ne ha0 (hW _ 12 0 ha0 (by decide) (by decide) (by decide)) (by decide))) hI.2.2.2.2.2)⟩) lk_X12_157 yd_X12_isBlocked hT_12 ha0 rfl (by decide) hS_12 (fun _ h => h.elim) ⟨by decide, by decide⟩ (Nat.le_of_ble_eq_true rfl) ⟨by decide, by decide⟩ rfl dX12_clocks_52 (fun r_14 H_14 locs_14 p_14 hT_14 hk_14 hS_14 => ?_)
      have p_14 : H_8 = H_14 ∧ (r_14 = 0 ∨ r_14 = 1) ∧ (r_14.toInt = 1 → ((ai H_8 (ρ a0 0) 0).toInt = 4 ∨ (ai H_8 (ρ a0 0) 0).toInt = 7)) := p_14
      obtain ⟨rfl, p_14_0, p_14_1⟩ := p_14
      have z_14 := b_iv p_14_0
      refine lv_if_eq (tgt := 63) hx hb dX12_clocks_55 (by decide) (fun c_15 => ?_) (fun c_15 => ?_)
      · have f_15 : r_14.toInt = 0 := r_eq rfl (by decide) c_15
        exact J_63 H_8 locs_14 _ hT_14 hS_14 hl ⟨hW_8, (QS.same (AU.o p_8 (by decide) (by decide)) (((AU.o p_8 (by decide) (by decide)).trans t_12).trans t_12.symm) hI.2.1), (QS.same (AU.o p_8 (by decide) (by decide)) (AU.o p_8 (by decide) (by decide)) hI.2.2.1), (PL.q (p_8.2 _ (th_ne (hW _ 12 2 ha0 (by decide) (by decide) (by decide)) (hW _ 12 0 ha0 (by decide) (by decide) (by decide)) (by decide))) hI.2.2.2.1), (PL.q (p_8.2 _ (th_ne (hW _ 12 3 ha0 (by decide) (by decide) (by decide)) (hW _ 12 0 ha0 (by decide) (by decide) (by decide)) (by decide))) hI.2.2.2.2.1), (IF.q (p_8.2 _ (th_ne ha0 (hW _ 12 0 ha0 (by decide) (by decide) (by decide)) (by decide))) hI.2.2.2.2.2)⟩ (by rw [(AU.o p_8 (by decide) (by decide))]; omega)
      · have f_15 : ¬ r_14.toInt = 0 := r_ne rfl (by decide) c_15
        have nz_r_14 : ¬ r_14 = 0 := c_15
        refine lv_aload_n hx hb dX12_clocks_58 rfl (lv_at hl 0 rfl) ?_
        refine lv_iload_n hx hb dX12_clocks_59 rfl (lv_at hl 1 rfl) ?_
        refine th_Vv (As := [.int 0]) (rest := []) E hml hl.1 (y_asks l D cI cS τ ρ hW H_8 hT_14 a0 ha0 N hN0 hN1 ⟨hW_8, (QS.same (AU.o p_8 (by decide) (by decide)) (((AU.o p_8 (by decide) (by decide)).trans t_12).trans t_12.symm) hI.2.1), (QS.same (AU.o p_8 (by decide) (by decide)) (AU.o p_8 (by decide) (by decide)) hI.2.2.1), (PL.q (p_8.2 _ (th_ne (hW _ 12 2 ha0 (by decide) (by decide) (by decide)) (hW _ 12 0 ha0 (by decide) (by decide) (by decide)) (by decide))) hI.2.2.2.1), (PL.q (p_8.2 _ (th_ne (hW _ 12 3 ha0 (by decide) (by decide) (by decide)) (hW _ 12 0 ha0 (by decide) (by decide) (by decide)) (by decide))) hI.2.2.2.2.1), (IF.q (p_8.2 _ (th_ne ha0 (hW _ 12 0 ha0 (by decide) (by decide) (by decide)) (by decide))) hI.2.2.2.2.2)⟩ (by have : (ai H_8 (ρ a0 0) 0).toInt = (ai H (ρ a0 0) 0 : Int32).toInt := congrArg Int32.toInt (AU.o p_8 (by decide) (by decide)); omega)) lk_X12_266 yd_X12_asks hT_14 ha0 rfl (by decide) hS_14 (fun q => (fun h => h.elim (fun h => (Or.inr h)) (fun h => (Or.inl h)))) ⟨by decide, by decide⟩ (Nat.le_of_ble_eq_true rfl) ⟨by decide, by decide⟩ rfl dX12_clocks_60 (fun H_16 locs_16 p_16 hT_16 hk_16 hS_16 => ?_)
        have p_16 : (IM D ρ N H_16 a0) ∧ ((ai H_8 (ρ a0 0) 976).toInt ≤ (ai H_16 (ρ a0 0) 976).toInt) := p_16
        obtain ⟨p_16_0, p_16_1⟩ := p_16
        have mn_16 : (ai H (ρ a0 0) 976).toInt ≤ (ai H_16 (ρ a0 0) 976).toInt := by have h := p_16_1; rw [(AU.o p_8 (by decide) (by decide))] at h; exact h
        exact J_63 H_16 locs_16 _ hT_16 hS_16 hl ⟨p_16_0.1, p_16_0.2.1, p_16_0.2.2.1, p_16_0.2.2.2.1, p_16_0.2.2.2.2.1, p_16_0.2.2.2.2.2⟩ (by omega)
    · have f_13 : r_11.toInt < r_12.toInt := r_nle rfl rfl c_13
      refine lv_aload_n hx hb dX12_clocks_42 rfl (lv_at hl 0 rfl) ?_
      refine lv_iload_n hx hb dX12_clocks_43 rfl (lv_at hl 1 rfl) ?_
      refine th_Vv (As := [.int 0]) (rest := []) E hml hl.1 (y_sendsAgain l D cI cS τ ρ hW H_8 hT_12 a0 ha0 N hN0 hN1 ⟨hW_8, (QS.same (AU.o p_8 (by decide) (by decide)) (((AU.o p_8 (by decide) (by decide)).trans t_12).trans t_12.symm) hI.2.1), (QS.same (AU.o p_8 (by decide) (by decide)) (AU.o p_8 (by decide) (by decide)) hI.2.2.1), (PL.q (p_8.2 _ (th_ne (hW _ 12 2 ha0 (by decide) (by decide) (by decide)) (hW _ 12 0 ha0 (by decide) (by decide) (by decide)) (by decide))) hI.2.2.2.1), (PL.q (p_8.2 _ (th_ne (hW _ 12 3 ha0 (by decide) (by decide) (by decide)) (hW _ 12 0 ha0 (by decide) (by decide) (by decide)) (by decide))) hI.2.2.2.2.1), (IF.q (p_8.2 _ (th_ne ha0 (hW _ 12 0 ha0 (by decide) (by decide) (by decide)) (by decide))) hI.2.2.2.2.2)⟩) lk_X12_263 yd_X12_sendsAgain hT_12 ha0 rfl (by decide) hS_12 (fun q => (fun h => h.elim (fun h => (Or.inr h)) (fun h => (Or.inl h)))) ⟨by decide, by decide⟩ (Nat.le_of_ble_eq_true rfl) ⟨by decide, by decide⟩ rfl dX12_clocks_44 (fun H_17 locs_17 p_17 hT_17 hk_17 hS_17 => ?_)
      have p_17 : (IM D ρ N H_17 a0) ∧ ((ai H_8 (ρ a0 0) 976).toInt ≤ (ai H_17 (ρ a0 0) 976).toInt) := p_17
      obtain ⟨p_17_0, p_17_1⟩ := p_17
      have mn_17 : (ai H (ρ a0 0) 976).toInt ≤ (ai H_17 (ρ a0 0) 976).toInt := by have h := p_17_1; rw [(AU.o p_8 (by decide) (by decide))] at h; exact h
      refine lv_goto (tgt := 63) hx hb dX12_clocks_47 (by decide) ?_
      exact J_63 H_17 locs_17 _ hT_17 hS_17 hl ⟨p_17_0.1, p_17_0.2.1, p_17_0.2.2.1, p_17_0.2.2.2.1, p_17_0.2.2.2.2.1, p_17_0.2.2.2.2.2⟩ (by omega)
  · have f_10 : 0 < x_7.toInt := r_nle rfl (by decide) c_10
    exact th_vret E hr hlk hs hT_9 hS_9 ⟨⟨hW_8, (QS.same (AU.o p_8 (by decide) (by decide)) (AU.o p_8 (by decide) (by decide)) hI.2.1), (QS.same (AU.o p_8 (by decide) (by decide)) (AU.o p_8 (by decide) (by decide)) hI.2.2.1), (PL.q (p_8.2 _ (th_ne (hW _ 12 2 ha0 (by decide) (by decide) (by decide)) (hW _ 12 0 ha0 (by decide) (by decide) (by decide)) (by decide))) hI.2.2.2.1), (PL.q (p_8.2 _ (th_ne (hW _ 12 3 ha0 (by decide) (by decide) (by decide)) (hW _ 12 0 ha0 (by decide) (by decide) (by decide)) (by decide))) hI.2.2.2.2.1), (IF.q (p_8.2 _ (th_ne ha0 (hW _ 12 0 ha0 (by decide) (by decide) (by decide)) (by decide))) hI.2.2.2.2.2)⟩, (by rw [(AU.o p_8 (by decide) (by decide))]; omega)⟩ dX12_clocks_26
set_option maxHeartbeats 4000000 in
set_option maxRecDepth 100000 in
/-- the reference: set -/
theorem y_set_v56 (l : Launch) (D : va_G) (cI cS : ClassId) (τ : Nat → Option Nat) (ρ : Nat → Nat → Nat) (hW : WF τ ρ) (H : Heap) (hT : TH D cI cS τ ρ H) (a0 : Nat) (ha0 : τ a0 = some 12) : MV l D cI cS τ ρ yX12_set cX12_set 4 none 0 0 H [.ref a0, .int 0, .int 5, .int 1] (fun (u : Heap) => (AU 985 H u (ρ a0 0) 5 (1))) (fun q => q = ρ a0 0) := by
  refine MV.of (by decide) (Nat.le_of_ble_eq_true rfl) ?_
  intro p e s m args below meth c E hml hr hlk hs ls hl
  have hx := E.1
  have hb := E.2.1
  have hown := E.2.2.1
  have hts := E.2.2.2.1
  have hS : SS (fun q => q = ρ a0 0) H H [] := SS.rf
  have hl : lv_has ls 4 [(0, .ref a0), (1, .int 0), (2, .int 5), (3, .int 1)] := hl
  refine lv_aload_n hx hb dX12_set_0 rfl (lv_at hl 0 rfl) ?_
  refine gf_X12_7 E hT hW ha0 dX12_set_1 (fun h_1 => ?_)
  refine lv_sipush (v := 288) hx hb dX12_set_4 (by decide) ?_
  refine lv_iload_n hx hb dX12_set_7 rfl (lv_at hl 1 rfl) ?_
  refine lv_imul hx hb dX12_set_8 ?_
  refine th_topi (y := 0) (by decide) ?_
  refine lv_iload_n hx hb dX12_set_9 rfl (lv_at hl 2 rfl) ?_
  refine lv_iadd hx hb dX12_set_10 ?_
  refine th_topi (y := 5) (by decide) ?_
  refine lv_iload_n hx hb dX12_set_11 rfl (lv_at hl 3 rfl) ?_
  refine th_iast E hT hS h_1 rfl (by decide) (vp_in_iff.mpr ⟨by decide, by decide⟩) dX12_set_12 (fun H_2 locs_2 hT_2 hU_2 hS_2 => ?_)
  have hU_2 : AU 985 H H_2 (ρ a0 0) 5 (1) := hU_2
  exact th_vret E hr hlk hs hT_2 hS_2 hU_2 dX12_set_13
set_option maxHeartbeats 4000000 in
set_option maxRecDepth 100000 in
/-- the reference: set -/
theorem y_set_v57 (l : Launch) (D : va_G) (cI cS : ClassId) (τ : Nat → Option Nat) (ρ : Nat → Nat → Nat) (hW : WF τ ρ) (H : Heap) (hT : TH D cI cS τ ρ H) (a0 : Nat) (ha0 : τ a0 = some 12) : MV l D cI cS τ ρ yX12_set cX12_set 4 none 0 0 H [.ref a0, .int 0, .int 0, .int 3] (fun (u : Heap) => (AU 985 H u (ρ a0 0) 0 (3))) (fun q => q = ρ a0 0) := by
  refine MV.of (by decide) (Nat.le_of_ble_eq_true rfl) ?_
  intro p e s m args below meth c E hml hr hlk hs ls hl
  have hx := E.1
  have hb := E.2.1
  have hown := E.2.2.1
  have hts := E.2.2.2.1
  have hS : SS (fun q => q = ρ a0 0) H H [] := SS.rf
  have hl : lv_has ls 4 [(0, .ref a0), (1, .int 0), (2, .int 0), (3, .int 3)] := hl
  refine lv_aload_n hx hb dX12_set_0 rfl (lv_at hl 0 rfl) ?_
  refine gf_X12_7 E hT hW ha0 dX12_set_1 (fun h_1 => ?_)
  refine lv_sipush (v := 288) hx hb dX12_set_4 (by decide) ?_
  refine lv_iload_n hx hb dX12_set_7 rfl (lv_at hl 1 rfl) ?_
  refine lv_imul hx hb dX12_set_8 ?_
  refine th_topi (y := 0) (by decide) ?_
  refine lv_iload_n hx hb dX12_set_9 rfl (lv_at hl 2 rfl) ?_
  refine lv_iadd hx hb dX12_set_10 ?_
  refine th_topi (y := 0) (by decide) ?_
  refine lv_iload_n hx hb dX12_set_11 rfl (lv_at hl 3 rfl) ?_
  refine th_iast E hT hS h_1 rfl (by decide) (vp_in_iff.mpr ⟨by decide, by decide⟩) dX12_set_12 (fun H_2 locs_2 hT_2 hU_2 hS_2 => ?_)
  have hU_2 : AU 985 H H_2 (ρ a0 0) 0 (3) := hU_2
  exact th_vret E hr hlk hs hT_2 hS_2 hU_2 dX12_set_13
set_option maxHeartbeats 4000000 in
set_option maxRecDepth 100000 in
/-- the reference: inCalling -/
theorem y_inCalling_v2 (l : Launch) (D : va_G) (cI cS : ClassId) (τ : Nat → Option Nat) (ρ : Nat → Nat → Nat) (hW : WF τ ρ) (H : Heap) (hT : TH D cI cS τ ρ H) (a0 : Nat) (ha0 : τ a0 = some 12) (N : Int) (hN0 : 0 ≤ N) (hN1 : N ≤ 600) (hI : IM D ρ N H a0) (hp0 : (ai H (ρ a0 0) 0).toInt = 2) : MI l D cI cS τ ρ yX12_inCalling cX12_inCalling 3 (some .int) 9 212 H [.ref a0, .int 0] (fun (r : Int32) (u : Heap) => (IM D ρ N u a0) ∧ ((ai H (ρ a0 0) 976).toInt ≤ (ai u (ρ a0 0) 976).toInt)) (fun q => q = ρ a0 0 ∨ q = ρ a0 2) := by
  refine MI.of (by decide) (Nat.le_of_ble_eq_true rfl) ?_
  intro p e s m args below meth c E hml hr hlk hs ls hl
  have hx := E.1
  have hb := E.2.1
  have hown := E.2.2.1
  have hts := E.2.2.2.1
  have hS : SS (fun q => q = ρ a0 0 ∨ q = ρ a0 2) H H [] := SS.rf
  have hl : lv_has ls 3 [(0, .ref a0), (1, .int 0)] := hl
  have n01 := hI.2.2.2.2.2.1
  have n23 := hI.2.2.2.2.2.2.1
  have J_29 : ∀ (H_c29 : Heap) (lc_c29 : List Loc) (ls : Array Slot) (z29_0 : Int32), TH D cI cS τ ρ H_c29 → SS (fun q => q = ρ a0 0 ∨ q = ρ a0 2) H H_c29 lc_c29 → lv_has ls 3 [(0, .ref a0), (1, .int 0)] → -128 ≤ z29_0.toInt → z29_0.toInt ≤ 729 → IM D ρ N H_c29 a0 → (ai H (ρ a0 0) 976).toInt ≤ (ai H_c29 (ρ a0 0) 976).toInt → (ai H_c29 (ρ a0 0) 0).toInt = 2 → W p l e (rmO 9 212) s m args below meth c H_c29 lc_c29 0 0 (MQ below (va_Qi (fun (r : Int32) (u : Heap) => (IM D ρ N u a0) ∧ ((ai H (ρ a0 0) 976).toInt ≤ (ai u (ρ a0 0) 976).toInt)) (Bt D cI cS τ ρ H) (fun q => q = ρ a0 0 ∨ q = ρ a0 2)) args s 0 0 (fun q => q = ρ a0 0 ∨ q = ρ a0 2)) (F0 m 29 ls [.int z29_0]) := by
    intro H_c29 lc_c29 ls z29_0 hT_c29 hS_c29 hl lz29_0 uz29_0 hI_c29 hmn_c29 hx29_0
    refine lv_istore_n (lv' := [(2, .int z29_0), (0, .ref a0), (1, .int 0)]) hx hb dX12_inCalling_29 rfl hl (by decide) rfl (fun ls hl => ?_)
    refine lv_iload_n hx hb dX12_inCalling_30 rfl (lv_at hl 0 rfl) ?_
    refine lv_iconst (v := 1) hx hb dX12_inCalling_31 (by decide) ?_
    refine lv_icmp_eq (tgt := 60) hx hb dX12_inCalling_32 (by decide) (fun c_1 => ?_) (fun c_1 => ?_)
    · have f_1 : z29_0.toInt = 1 := r_eq rfl (by decide) c_1
      refine lv_aload_n hx hb dX12_inCalling_60 rfl (lv_at hl 1 rfl) ?_
      refine lv_bipush (v := 8) hx hb dX12_inCalling_61 (by decide) ?_
      refine th_Vi (As := [.int 8]) (rest := []) E hml hl.1 (y_has_v3 l D cI cS τ ρ hW H_c29 hT_c29 a0 ha0) lk_X12_202 yd_X12_has hT_c29 ha0 rfl (by decide) hS_c29 (fun _ h => h.elim) ⟨by decide, by decide⟩ (Nat.le_of_ble_eq_true rfl) ⟨by decide, by decide⟩ rfl dX12_inCalling_63 (fun r_2 H_2 locs_2 p_2 hT_2 hk_2 hS_2 => ?_)
      have p_2 : H_c29 = H_2 ∧ (r_2 = 0 ∨ r_2 = 1) := p_2
      obtain ⟨rfl, p_2_0⟩ := p_2
      have z_2 := b_iv p_2_0
      refine lv_if_eq (tgt := 91) hx hb dX12_inCalling_66 (by decide) (fun c_3 => ?_) (fun c_3 => ?_)
      · have f_3 : r_2.toInt = 0 := r_eq rfl (by decide) c_3
        refine lv_aload_n hx hb dX12_inCalling_91 rfl (lv_at hl 1 rfl) ?_
        refine lv_iconst (v := 1) hx hb dX12_inCalling_92 (by decide) ?_
        refine th_Vi (As := [.int 1]) (rest := []) E hml hl.1 (y_has_v4 l D cI cS τ ρ hW H_c29 hT_2 a0 ha0) lk_X12_202 yd_X12_has hT_2 ha0 rfl (by decide) hS_2 (fun _ h => h.elim) ⟨by decide, by decide⟩ (Nat.le_of_ble_eq_true rfl) ⟨by decide, by decide⟩ rfl dX12_inCalling_93 (fun r_4 H_4 locs_4 p_4 hT_4 hk_4 hS_4 => ?_)
        have p_4 : H_c29 = H_4 ∧ (r_4 = 0 ∨ r_4 = 1) := p_4
        obtain ⟨rfl, p_4_0⟩ := p_4
        have z_4 := b_iv p_4_0
        refine lv_if_ne (tgt := 106) hx hb dX12_inCalling_96 (by decide) (fun c_5 => ?_) (fun c_5 => ?_)
        · have f_5 : ¬ r_4.toInt = 0 := r_ne rfl (by decide) c_5
          have nz_r_4 : ¬ r_4 = 0 := c_5
          refine lv_aload_n hx hb dX12_inCalling_106 rfl (lv_at hl 1 rfl) ?_
          refine lv_iload_n hx hb dX12_inCalling_107 rfl (lv_at hl 2 rfl) ?_
          refine lv_iconst (v := 5) hx hb dX12_inCalling_108 (by decide) ?_
          refine lv_iconst (v := 1) hx hb dX12_inCalling_109 (by decide) ?_
          refine th_Vv (As := [.int 0, .int 5, .int 1]) (rest := []) E hml hl.1 (y_set_v56 l D cI cS τ ρ hW H_c29 hT_4 a0 ha0) lk_X12_95 yd_X12_set hT_4 ha0 rfl (by decide) hS_4 (fun q h => (Or.inl h)) ⟨by decide, by decide⟩ (Nat.le_of_ble_eq_true rfl) ⟨by decide, by decide⟩ rfl dX12_inCalling_110 (fun H_6 locs_6 p_6 hT_6 hk_6 hS_6 => ?_)
          have p_6 : (AU 985 H_c29 H_6 (ρ a0 0) 5 (1)) := p_6
          have hW_6 : PW N H_6 (ρ a0 0) := PW.put hI_c29.1 p_6 (by show (0 : Int) ≤ (1 : Int32).toInt; have : (1 : Int32).toInt = 1 := (by decide); omega) (by show (1 : Int32).toInt ≤ (N + 33 : Int); have : (1 : Int32).toInt = 1 := (by decide); omega)
          refine lv_aload_n hx hb dX12_inCalling_113 rfl (lv_at hl 1 rfl) ?_
          refine lv_iconst (v := 4) hx hb dX12_inCalling_114 (by decide) ?_
          refine th_Vi (As := [.int 4]) (rest := []) E hml hl.1 (y_has_v2 l D cI cS τ ρ hW H_6 hT_6 a0 ha0) lk_X12_202 yd_X12_has hT_6 ha0 rfl (by decide) hS_6 (fun _ h => h.elim) ⟨by decide, by decide⟩ (Nat.le_of_ble_eq_true rfl) ⟨by decide, by decide⟩ rfl dX12_inCalling_115 (fun r_7 H_7 locs_7 p_7 hT_7 hk_7 hS_7 => ?_)
          have p_7 : H_6 = H_7 ∧ (r_7 = 0 ∨ r_7 = 1) := p_7
          obtain ⟨rfl, p_7_0⟩ := p_7
          have z_7 := b_iv p_7_0
          refine lv_if_eq (tgt := 147) hx hb dX12_inCalling_118 (by decide) (fun c_8 => ?_) (fun c_8 => ?_)
          · have f_8 : r_7.toInt = 0 := r_eq rfl (by decide) c_8
            refine lv_aload_n hx hb dX12_inCalling_147 rfl (lv_at hl 1 rfl) ?_
            refine lv_iload_n hx hb dX12_inCalling_148 rfl (lv_at hl 2 rfl) ?_
            refine lv_iconst (v := 0) hx hb dX12_inCalling_149 (by decide) ?_
            refine lv_iconst (v := 3) hx hb dX12_inCalling_150 (by decide) ?_
            refine th_Vv (As := [.int 0, .int 0, .int 3]) (rest := []) E hml hl.1 (y_set_v57 l D cI cS τ ρ hW H_6 hT_7 a0 ha0) lk_X12_95 yd_X12_set hT_7 ha0 rfl (by decide) hS_7 (fun q h => (Or.inl h)) ⟨by decide, by decide⟩ (Nat.le_of_ble_eq_true rfl) ⟨by decide, by decide⟩ rfl dX12_inCalling_151 (fun H_9 locs_9 p_9 hT_9 hk_9 hS_9 => ?_)
            have p_9 : (AU 985 H_6 H_9 (ρ a0 0) 0 (3)) := p_9
            have hW_9 : PW N H_9 (ρ a0 0) := PW.put hW_6 p_9 (by show (-2147483648 : Int) ≤ _; exact i_min _) (by show _ ≤ (2147483647 : Int); exact i_max _)
            refine lv_aload_n hx hb dX12_inCalling_154 rfl (lv_at hl 1 rfl) ?_
            refine lv_iload_n hx hb dX12_inCalling_155 rfl (lv_at hl 2 rfl) ?_
            refine th_Vv (As := [.int 0]) (rest := []) E hml hl.1 (y_hello l D cI cS τ ρ hW H_9 hT_9 a0 ha0 N hN0 hN1 ⟨hW_9, (QS.of (s := (3 : Int32)) (t := (ai H_c29 (ρ a0 0) 2 : Int32)) (AU.s p_9 (by decide)) (Eq.trans (AU.o p_9 (by decide) (by decide)) (AU.o p_6 (by decide) (by decide))) (by have j := hI_c29.2.1; unfold QS at j; have : (3 : Int32).toInt = 3 := (by decide); omega)), (QS.same (Eq.trans (AU.o p_9 (by decide) (by decide)) (AU.o p_6 (by decide) (by decide))) (Eq.trans (AU.o p_9 (by decide) (by decide)) (AU.o p_6 (by decide) (by decide))) hI_c29.2.2.1), (PL.q (p_9.2 _ (th_ne (hW _ 12 2 ha0 (by decide) (by decide) (by decide)) (hW _ 12 0 ha0 (by decide) (by decide) (by decide)) (by decide))) (PL.q (p_6.2 _ (th_ne (hW _ 12 2 ha0 (by decide) (by decide) (by decide)) (hW _ 12 0 ha0 (by decide) (by decide) (by decide)) (by decide))) hI_c29.2.2.2.1)), (PL.q (p_9.2 _ (th_ne (hW _ 12 3 ha0 (by decide) (by decide) (by decide)) (hW _ 12 0 ha0 (by decide) (by decide) (by decide)) (by decide))) (PL.q (p_6.2 _ (th_ne (hW _ 12 3 ha0 (by decide) (by decide) (by decide)) (hW _ 12 0 ha0 (by decide) (by decide) (by decide)) (by decide))) hI_c29.2.2.2.2.1)), (IF.q (p_9.2 _ (th_ne ha0 (hW _ 12 0 ha0 (by decide) (by decide) (by decide)) (by decide))) (IF.q (p_6.2 _ (th_ne ha0 (hW _ 12 0 ha0 (by decide) (by decide) (by decide)) (by decide))) hI_c29.2.2.2.2.2))⟩) lk_X12_169 yd_X12_hello hT_9 ha0 rfl (by decide) hS_9 (fun q => (fun h => h.elim (fun h => (Or.inr h)) (fun h => (Or.inl h)))) ⟨by decide, by decide⟩ (Nat.le_of_ble_eq_true rfl) ⟨by decide, by decide⟩ rfl dX12_inCalling_156 (fun H_10 locs_10 p_10 hT_10 hk_10 hS_10 => ?_)
            have p_10 : (IM D ρ N H_10 a0) ∧ ((ai H_9 (ρ a0 0) 976).toInt ≤ (ai H_10 (ρ a0 0) 976).toInt) := p_10
            obtain ⟨p_10_0, p_10_1⟩ := p_10
            have mn_10 : (ai H_c29 (ρ a0 0) 976).toInt ≤ (ai H_10 (ρ a0 0) 976).toInt := by have h := p_10_1; rw [(Eq.trans (AU.o p_9 (by decide) (by decide)) (AU.o p_6 (by decide) (by decide)))] at h; exact h
            refine lv_iconst (v := 1) hx hb dX12_inCalling_159 (by decide) ?_
            exact th_iret E hr hlk hs hT_10 hS_10 ⟨⟨p_10_0.1, p_10_0.2.1, p_10_0.2.2.1, p_10_0.2.2.2.1, p_10_0.2.2.2.2.1, p_10_0.2.2.2.2.2⟩, (by omega)⟩ dX12_inCalling_160
          · have f_8 : ¬ r_7.toInt = 0 := r_ne rfl (by decide) c_8
            have nz_r_7 : ¬ r_7 = 0 := c_8
            refine lv_aload_n hx hb dX12_inCalling_121 rfl (lv_at hl 1 rfl) ?_
            refine lv_iload_n hx hb dX12_inCalling_122 rfl (lv_at hl 2 rfl) ?_
            refine lv_iload_n hx hb dX12_inCalling_123 rfl (lv_at hl 0 rfl) ?_
            refine th_Vv (As := [.int 0, .int z29_0]) (rest := []) E hml hl.1 (y_hears l D cI cS τ ρ hW H_6 hT_7 a0 z29_0 ha0 N hN0 hN1 ⟨hW_6, (QS.same (AU.o p_6 (by decide) (by decide)) (AU.o p_6 (by decide) (by decide)) hI_c29.2.1), (QS.same (AU.o p_6 (by decide) (by decide)) (AU.o p_6 (by decide) (by decide)) hI_c29.2.2.1), (PL.q (p_6.2 _ (th_ne (hW _ 12 2 ha0 (by decide) (by decide) (by decide)) (hW _ 12 0 ha0 (by decide) (by decide) (by decide)) (by decide))) hI_c29.2.2.2.1), (PL.q (p_6.2 _ (th_ne (hW _ 12 3 ha0 (by decide) (by decide) (by decide)) (hW _ 12 0 ha0 (by decide) (by decide) (by decide)) (by decide))) hI_c29.2.2.2.2.1), (IF.q (p_6.2 _ (th_ne ha0 (hW _ 12 0 ha0 (by decide) (by decide) (by decide)) (by decide))) hI_c29.2.2.2.2.2)⟩ (by omega)) lk_X12_212 yd_X12_hears hT_7 ha0 rfl (by decide) hS_7 (fun q h => (Or.inl h)) ⟨by decide, by decide⟩ (Nat.le_of_ble_eq_true rfl) ⟨by decide, by decide⟩ rfl dX12_inCalling_124 (fun H_11 locs_11 p_11 hT_11 hk_11 hS_11 => ?_)
            have p_11 : (IM D ρ N H_11 a0) ∧ ((ai H_6 (ρ a0 0) 976).toInt ≤ (ai H_11 (ρ a0 0) 976).toInt) ∧ (ai H_11 (ρ a0 0) 0 = ai H_6 (ρ a0 0) 0) ∧ (ai H_11 (ρ a0 0) 2 = ai H_6 (ρ a0 0) 2) := p_11
            obtain ⟨p_11_0, p_11_1, p_11_2, p_11_3⟩ := p_11
            have mn_11 : (ai H_c29 (ρ a0 0) 976).toInt ≤ (ai H_11 (ρ a0 0) 976).toInt := by have h := p_11_1; rw [(AU.o p_6 (by decide) (by decide))] at h; exact h
            refine lv_aload_n hx hb dX12_inCalling_127 rfl (lv_at hl 1 rfl) ?_
            refine lv_iload_n hx hb dX12_inCalling_128 rfl (lv_at hl 2 rfl) ?_
            refine lv_iconst (v := 0) hx hb dX12_inCalling_129 (by decide) ?_
            refine lv_iconst (v := 4) hx hb dX12_inCalling_130 (by decide) ?_
            refine th_Vv (As := [.int 0, .int 0, .int 4]) (rest := []) E hml hl.1 (y_set_v26 l D cI cS τ ρ hW H_11 hT_11 a0 ha0) lk_X12_95 yd_X12_set hT_11 ha0 rfl (by decide) hS_11 (fun q h => (Or.inl h)) ⟨by decide, by decide⟩ (Nat.le_of_ble_eq_true rfl) ⟨by decide, by decide⟩ rfl dX12_inCalling_131 (fun H_12 locs_12 p_12 hT_12 hk_12 hS_12 => ?_)
            have p_12 : (AU 985 H_11 H_12 (ρ a0 0) 0 (4)) := p_12
            have hW_12 : PW N H_12 (ρ a0 0) := PW.put p_11_0.1 p_12 (by show (-2147483648 : Int) ≤ _; exact i_min _) (by show _ ≤ (2147483647 : Int); exact i_max _)
            refine lv_aload_n hx hb dX12_inCalling_134 rfl (lv_at hl 1 rfl) ?_
            refine lv_iload_n hx hb dX12_inCalling_135 rfl (lv_at hl 2 rfl) ?_
            refine th_Vv (As := [.int 0]) (rest := []) E hml hl.1 (y_yes l D cI cS τ ρ hW H_12 hT_12 a0 ha0 N hN0 hN1 ⟨hW_12, (QS.of (s := (4 : Int32)) (t := (ai H_c29 (ρ a0 0) 2 : Int32)) (AU.s p_12 (by decide)) (Eq.trans (AU.o p_12 (by decide) (by decide)) (Eq.trans p_11_3 (AU.o p_6 (by decide) (by decide)))) (by have j := p_11_0.2.1; unfold QS at j; have : (ai H_11 (ρ a0 0) 0).toInt = (ai H_c29 (ρ a0 0) 0 : Int32).toInt := congrArg Int32.toInt (Eq.trans p_11_2 (AU.o p_6 (by decide) (by decide))); have : (ai H_11 (ρ a0 0) 2).toInt = (ai H_c29 (ρ a0 0) 2 : Int32).toInt := congrArg Int32.toInt (Eq.trans p_11_3 (AU.o p_6 (by decide) (by decide))); have : (4 : Int32).toInt = 4 := (by decide); omega)), (QS.same (AU.o p_12 (by decide) (by decide)) (AU.o p_12 (by decide) (by decide)) p_11_0.2.2.1), (PL.q (p_12.2 _ (th_ne (hW _ 12 2 ha0 (by decide) (by decide) (by decide)) (hW _ 12 0 ha0 (by decide) (by decide) (by decide)) (by decide))) p_11_0.2.2.2.1), (PL.q (p_12.2 _ (th_ne (hW _ 12 3 ha0 (by decide) (by decide) (by decide)) (hW _ 12 0 ha0 (by decide) (by decide) (by decide)) (by decide))) p_11_0.2.2.2.2.1), (IF.q (p_12.2 _ (th_ne ha0 (hW _ 12 0 ha0 (by decide) (by decide) (by decide)) (by decide))) p_11_0.2.2.2.2.2)⟩) lk_X12_193 yd_X12_yes hT_12 ha0 rfl (by decide) hS_12 (fun q => (fun h => h.elim (fun h => (Or.inr h)) (fun h => (Or.inl h)))) ⟨by decide, by decide⟩ (Nat.le_of_ble_eq_true rfl) ⟨by decide, by decide⟩ rfl dX12_inCalling_136 (fun H_13 locs_13 p_13 hT_13 hk_13 hS_13 => ?_)
            have p_13 : (IM D ρ N H_13 a0) ∧ ((ai H_12 (ρ a0 0) 976).toInt ≤ (ai H_13 (ρ a0 0) 976).toInt) := p_13
            obtain ⟨p_13_0, p_13_1⟩ := p_13
            have mn_13 : (ai H_11 (ρ a0 0) 976).toInt ≤ (ai H_13 (ρ a0 0) 976).toInt := by have h := p_13_1; rw [(AU.o p_12 (by decide) (by decide))] at h; exact h
            refine lv_aload_n hx hb dX12_inCalling_139 rfl (lv_at hl 1 rfl) ?_
            refine lv_iload_n hx hb dX12_inCalling_140 rfl (lv_at hl 2 rfl) ?_
            refine th_Vv (As := [.int 0]) (rest := []) E hml hl.1 (y_goesOn l D cI cS τ ρ hW H_13 hT_13 a0 ha0 N hN0 hN1 ⟨p_13_0.1, p_13_0.2.1, p_13_0.2.2.1, p_13_0.2.2.2.1, p_13_0.2.2.2.2.1, p_13_0.2.2.2.2.2⟩) lk_X12_177 yd_X12_goesOn hT_13 ha0 rfl (by decide) hS_13 (fun q => (fun h => h.elim (fun h => (Or.inr h)) (fun h => (Or.inl h)))) ⟨by decide, by decide⟩ (Nat.le_of_ble_eq_true rfl) ⟨by decide, by decide⟩ rfl dX12_inCalling_141 (fun H_14 locs_14 p_14 hT_14 hk_14 hS_14 => ?_)
            have p_14 : (IM D ρ N H_14 a0) ∧ ((ai H_13 (ρ a0 0) 976).toInt ≤ (ai H_14 (ρ a0 0) 976).toInt) := p_14
            obtain ⟨p_14_0, p_14_1⟩ := p_14
            have mn_14 : (ai H_13 (ρ a0 0) 976).toInt ≤ (ai H_14 (ρ a0 0) 976).toInt := by exact p_14_1
            refine lv_goto (tgt := 159) hx hb dX12_inCalling_144 (by decide) ?_
            refine lv_iconst (v := 1) hx hb dX12_inCalling_159 (by decide) ?_
            exact th_iret E hr hlk hs hT_14 hS_14 ⟨⟨p_14_0.1, p_14_0.2.1, p_14_0.2.2.1, p_14_0.2.2.2.1, p_14_0.2.2.2.2.1, p_14_0.2.2.2.2.2⟩, (by omega)⟩ dX12_inCalling_160
        · have f_5 : r_4.toInt = 0 := r_eq rfl (by decide) c_5
          refine lv_aload_n hx hb dX12_inCalling_99 rfl (lv_at hl 1 rfl) ?_
          refine lv_iconst (v := 4) hx hb dX12_inCalling_100 (by decide) ?_
          refine lv_iconst (v := 0) hx hb dX12_inCalling_101 (by decide) ?_
          refine th_Vi (As := [.int 4, .int 0]) (rest := []) E hml hl.1 (y_drops l D cI cS τ ρ hW H_c29 hT_4 a0 ha0 N hN0 hN1 ⟨hI_c29.1, hI_c29.2.1, hI_c29.2.2.1, hI_c29.2.2.2.1, hI_c29.2.2.2.2.1, hI_c29.2.2.2.2.2⟩) lk_X12_199 yd_X12_drops hT_4 ha0 rfl (by decide) hS_4 (fun q h => (Or.inl h)) ⟨by decide, by decide⟩ (Nat.le_of_ble_eq_true rfl) ⟨by decide, by decide⟩ rfl dX12_inCalling_102 (fun r_15 H_15 locs_15 p_15 hT_15 hk_15 hS_15 => ?_)
          have p_15 : (IM D ρ N H_15 a0) ∧ ((ai H_c29 (ρ a0 0) 976).toInt ≤ (ai H_15 (ρ a0 0) 976).toInt) := p_15
          obtain ⟨p_15_0, p_15_1⟩ := p_15
          have mn_15 : (ai H_c29 (ρ a0 0) 976).toInt ≤ (ai H_15 (ρ a0 0) 976).toInt := by exact p_15_1
          exact th_iret E hr hlk hs hT_15 hS_15 ⟨⟨p_15_0.1, p_15_0.2.1, p_15_0.2.2.1, p_15_0.2.2.2.1, p_15_0.2.2.2.2.1, p_15_0.2.2.2.2.2⟩, (by omega)⟩ dX12_inCalling_105
      · have f_3 : ¬ r_2.toInt = 0 := r_ne rfl (by decide) c_3
        have nz_r_2 : ¬ r_2 = 0 := c_3
        refine lv_aload_n hx hb dX12_inCalling_69 rfl (lv_at hl 1 rfl) ?_
        refine lv_iconst (v := 4) hx hb dX12_inCalling_70 (by decide) ?_
        refine th_Vi (As := [.int 4]) (rest := []) E hml hl.1 (y_has_v2 l D cI cS τ ρ hW H_c29 hT_2 a0 ha0) lk_X12_202 yd_X12_has hT_2 ha0 rfl (by decide) hS_2 (fun _ h => h.elim) ⟨by decide, by decide⟩ (Nat.le_of_ble_eq_true rfl) ⟨by decide, by decide⟩ rfl dX12_inCalling_71 (fun r_16 H_16 locs_16 p_16 hT_16 hk_16 hS_16 => ?_)
        have p_16 : H_c29 = H_16 ∧ (r_16 = 0 ∨ r_16 = 1) := p_16
        obtain ⟨rfl, p_16_0⟩ := p_16
        have z_16 := b_iv p_16_0
        refine lv_if_ne (tgt := 84) hx hb dX12_inCalling_74 (by decide) (fun c_17 => ?_) (fun c_17 => ?_)
        · have f_17 : ¬ r_16.toInt = 0 := r_ne rfl (by decide) c_17
          have nz_r_16 : ¬ r_16 = 0 := c_17
          refine lv_aload_n hx hb dX12_inCalling_84 rfl (lv_at hl 1 rfl) ?_
          refine lv_iload_n hx hb dX12_inCalling_85 rfl (lv_at hl 2 rfl) ?_
          refine th_Vv (As := [.int 0]) (rest := []) E hml hl.1 (y_shuts l D cI cS τ ρ hW H_c29 hT_16 a0 ha0 N hN0 hN1 ⟨hI_c29.1, hI_c29.2.1, hI_c29.2.2.1, hI_c29.2.2.2.1, hI_c29.2.2.2.2.1, hI_c29.2.2.2.2.2⟩) lk_X12_180 yd_X12_shuts hT_16 ha0 rfl (by decide) hS_16 (fun q h => (Or.inl h)) ⟨by decide, by decide⟩ (Nat.le_of_ble_eq_true rfl) ⟨by decide, by decide⟩ rfl dX12_inCalling_86 (fun H_18 locs_18 p_18 hT_18 hk_18 hS_18 => ?_)
          have p_18 : (IM D ρ N H_18 a0) ∧ ((ai H_c29 (ρ a0 0) 976).toInt ≤ (ai H_18 (ρ a0 0) 976).toInt) := p_18
          obtain ⟨p_18_0, p_18_1⟩ := p_18
          have mn_18 : (ai H_c29 (ρ a0 0) 976).toInt ≤ (ai H_18 (ρ a0 0) 976).toInt := by exact p_18_1
          refine lv_iconst (v := 1) hx hb dX12_inCalling_89 (by decide) ?_
          exact th_iret E hr hlk hs hT_18 hS_18 ⟨⟨p_18_0.1, p_18_0.2.1, p_18_0.2.2.1, p_18_0.2.2.2.1, p_18_0.2.2.2.2.1, p_18_0.2.2.2.2.2⟩, (by omega)⟩ dX12_inCalling_90
        · have f_17 : r_16.toInt = 0 := r_eq rfl (by decide) c_17
          refine lv_aload_n hx hb dX12_inCalling_77 rfl (lv_at hl 1 rfl) ?_
          refine lv_iconst (v := 2) hx hb dX12_inCalling_78 (by decide) ?_
          refine lv_iconst (v := 0) hx hb dX12_inCalling_79 (by decide) ?_
          refine th_Vi (As := [.int 2, .int 0]) (rest := []) E hml hl.1 (y_drops_v2 l D cI cS τ ρ hW H_c29 hT_16 a0 ha0 N hN0 hN1 ⟨hI_c29.1, hI_c29.2.1, hI_c29.2.2.1, hI_c29.2.2.2.1, hI_c29.2.2.2.2.1, hI_c29.2.2.2.2.2⟩) lk_X12_199 yd_X12_drops hT_16 ha0 rfl (by decide) hS_16 (fun q h => (Or.inl h)) ⟨by decide, by decide⟩ (Nat.le_of_ble_eq_true rfl) ⟨by decide, by decide⟩ rfl dX12_inCalling_80 (fun r_19 H_19 locs_19 p_19 hT_19 hk_19 hS_19 => ?_)
          have p_19 : (IM D ρ N H_19 a0) ∧ ((ai H_c29 (ρ a0 0) 976).toInt ≤ (ai H_19 (ρ a0 0) 976).toInt) := p_19
          obtain ⟨p_19_0, p_19_1⟩ := p_19
          have mn_19 : (ai H_c29 (ρ a0 0) 976).toInt ≤ (ai H_19 (ρ a0 0) 976).toInt := by exact p_19_1
          exact th_iret E hr hlk hs hT_19 hS_19 ⟨⟨p_19_0.1, p_19_0.2.1, p_19_0.2.2.1, p_19_0.2.2.2.1, p_19_0.2.2.2.2.1, p_19_0.2.2.2.2.2⟩, (by omega)⟩ dX12_inCalling_83
    · have f_1 : ¬ z29_0.toInt = 1 := r_ne rfl (by decide) c_1
      refine lv_aload_n hx hb dX12_inCalling_35 rfl (lv_at hl 1 rfl) ?_
      refine lv_bipush (v := 8) hx hb dX12_inCalling_36 (by decide) ?_
      refine th_Vi (As := [.int 8]) (rest := []) E hml hl.1 (y_has_v3 l D cI cS τ ρ hW H_c29 hT_c29 a0 ha0) lk_X12_202 yd_X12_has hT_c29 ha0 rfl (by decide) hS_c29 (fun _ h => h.elim) ⟨by decide, by decide⟩ (Nat.le_of_ble_eq_true rfl) ⟨by decide, by decide⟩ rfl dX12_inCalling_38 (fun r_20 H_20 locs_20 p_20 hT_20 hk_20 hS_20 => ?_)
      have p_20 : H_c29 = H_20 ∧ (r_20 = 0 ∨ r_20 = 1) := p_20
      obtain ⟨rfl, p_20_0⟩ := p_20
      have z_20 := b_iv p_20_0
      refine lv_if_eq (tgt := 53) hx hb dX12_inCalling_41 (by decide) (fun c_21 => ?_) (fun c_21 => ?_)
      · have f_21 : r_20.toInt = 0 := r_eq rfl (by decide) c_21
        refine lv_aload_n hx hb dX12_inCalling_53 rfl (lv_at hl 1 rfl) ?_
        refine lv_iload_n hx hb dX12_inCalling_54 rfl (lv_at hl 2 rfl) ?_
        refine lv_iconst (v := 5) hx hb dX12_inCalling_55 (by decide) ?_
        refine th_Vi (As := [.int 0, .int 5]) (rest := []) E hml hl.1 (y_dropsAndBreaks_v2 l D cI cS τ ρ hW H_c29 hT_20 a0 ha0 N hN0 hN1 ⟨hI_c29.1, hI_c29.2.1, hI_c29.2.2.1, hI_c29.2.2.2.1, hI_c29.2.2.2.2.1, hI_c29.2.2.2.2.2⟩) lk_X12_205 yd_X12_dropsAndBreaks hT_20 ha0 rfl (by decide) hS_20 (fun q => (fun h => h.elim (fun h => (Or.inr h)) (fun h => (Or.inl h)))) ⟨by decide, by decide⟩ (Nat.le_of_ble_eq_true rfl) ⟨by decide, by decide⟩ rfl dX12_inCalling_56 (fun r_22 H_22 locs_22 p_22 hT_22 hk_22 hS_22 => ?_)
        have p_22 : (IM D ρ N H_22 a0) ∧ ((ai H_c29 (ρ a0 0) 976).toInt ≤ (ai H_22 (ρ a0 0) 976).toInt) := p_22
        obtain ⟨p_22_0, p_22_1⟩ := p_22
        have mn_22 : (ai H_c29 (ρ a0 0) 976).toInt ≤ (ai H_22 (ρ a0 0) 976).toInt := by exact p_22_1
        exact th_iret E hr hlk hs hT_22 hS_22 ⟨⟨p_22_0.1, p_22_0.2.1, p_22_0.2.2.1, p_22_0.2.2.2.1, p_22_0.2.2.2.2.1, p_22_0.2.2.2.2.2⟩, (by omega)⟩ dX12_inCalling_59
      · have f_21 : ¬ r_20.toInt = 0 := r_ne rfl (by decide) c_21
        have nz_r_20 : ¬ r_20 = 0 := c_21
        refine lv_aload_n hx hb dX12_inCalling_44 rfl (lv_at hl 1 rfl) ?_
        refine lv_iconst (v := 5) hx hb dX12_inCalling_45 (by decide) ?_
        refine lv_iconst (v := 2) hx hb dX12_inCalling_46 (by decide) ?_
        refine th_Vi (As := [.int 5, .int 2]) (rest := []) E hml hl.1 (y_drops_v4 l D cI cS τ ρ hW H_c29 hT_20 a0 ha0 N hN0 hN1 ⟨hI_c29.1, hI_c29.2.1, hI_c29.2.2.1, hI_c29.2.2.2.1, hI_c29.2.2.2.2.1, hI_c29.2.2.2.2.2⟩) lk_X12_199 yd_X12_drops hT_20 ha0 rfl (by decide) hS_20 (fun q h => (Or.inl h)) ⟨by decide, by decide⟩ (Nat.le_of_ble_eq_true rfl) ⟨by decide, by decide⟩ rfl dX12_inCalling_47 (fun r_23 H_23 locs_23 p_23 hT_23 hk_23 hS_23 => ?_)
        have p_23 : (IM D ρ N H_23 a0) ∧ ((ai H_c29 (ρ a0 0) 976).toInt ≤ (ai H_23 (ρ a0 0) 976).toInt) := p_23
        obtain ⟨p_23_0, p_23_1⟩ := p_23
        have mn_23 : (ai H_c29 (ρ a0 0) 976).toInt ≤ (ai H_23 (ρ a0 0) 976).toInt := by exact p_23_1
        refine lv_goto (tgt := 59) hx hb dX12_inCalling_50 (by decide) ?_
        exact th_iret E hr hlk hs hT_23 hS_23 ⟨⟨p_23_0.1, p_23_0.2.1, p_23_0.2.2.1, p_23_0.2.2.2.1, p_23_0.2.2.2.2.1, p_23_0.2.2.2.2.2⟩, (by omega)⟩ dX12_inCalling_59
  refine lv_aload_n hx hb dX12_inCalling_0 rfl (lv_at hl 0 rfl) ?_
  refine lv_iconst (v := 4) hx hb dX12_inCalling_1 (by decide) ?_
  refine th_Vi (As := [.int 4]) (rest := []) E hml hl.1 (y_has_v2 l D cI cS τ ρ hW H hT a0 ha0) lk_X12_202 yd_X12_has hT ha0 rfl (by decide) hS (fun _ h => h.elim) ⟨by decide, by decide⟩ (Nat.le_of_ble_eq_true rfl) ⟨by decide, by decide⟩ rfl dX12_inCalling_2 (fun r_24 H_24 locs_24 p_24 hT_24 hk_24 hS_24 => ?_)
  have p_24 : H = H_24 ∧ (r_24 = 0 ∨ r_24 = 1) := p_24
  obtain ⟨rfl, p_24_0⟩ := p_24
  have z_24 := b_iv p_24_0
  refine lv_if_eq (tgt := 28) hx hb dX12_inCalling_5 (by decide) (fun c_25 => ?_) (fun c_25 => ?_)
  · have f_25 : r_24.toInt = 0 := r_eq rfl (by decide) c_25
    refine lv_iconst (v := 1) hx hb dX12_inCalling_28 (by decide) ?_
    exact J_29 H locs_24 _ 1 hT_24 hS_24 hl (by decide) (by decide) ⟨hI.1, hI.2.1, hI.2.2.1, hI.2.2.2.1, hI.2.2.2.2.1, hI.2.2.2.2.2⟩ (by omega) (by omega)
  · have f_25 : ¬ r_24.toInt = 0 := r_ne rfl (by decide) c_25
    have nz_r_24 : ¬ r_24 = 0 := c_25
    refine lv_aload_n hx hb dX12_inCalling_8 rfl (lv_at hl 0 rfl) ?_
    refine lv_iload_n hx hb dX12_inCalling_9 rfl (lv_at hl 1 rfl) ?_
    refine lv_aload_n hx hb dX12_inCalling_10 rfl (lv_at hl 0 rfl) ?_
    refine gf_X12_19 E hT_24 hW ha0 dX12_inCalling_11 (fun h_26 => ?_)
    refine lv_iconst (v := 3) hx hb dX12_inCalling_14 (by decide) ?_
    refine th_iald E hT_24 h_26 (by decide) (vp_in_iff.mpr ⟨by decide, by decide⟩) dX12_inCalling_15 ?_
    refine th_topi (y := ai H (ρ a0 3) 3) rfl ?_
    refine lv_topi (fun x_27 ex_27 => ?_)
    have c_x_27 := congrArg Int32.toInt ex_27.symm
    refine lv_aload_n hx hb dX12_inCalling_16 rfl (lv_at hl 0 rfl) ?_
    refine lv_iload_n hx hb dX12_inCalling_17 rfl (lv_at hl 1 rfl) ?_
    refine lv_iconst (v := 1) hx hb dX12_inCalling_18 (by decide) ?_
    refine th_Vi (As := [.int 0, .int 1]) (rest := [.int x_27, .int 0, .ref a0]) E hml hl.1 (y_get_v7 l D cI cS τ ρ hW H hT_24 a0 ha0) lk_X12_99 yd_X12_get hT_24 ha0 rfl (by decide) hS_24 (fun _ h => h.elim) ⟨by decide, by decide⟩ (Nat.le_of_ble_eq_true rfl) ⟨by decide, by decide⟩ rfl dX12_inCalling_19 (fun r_28 H_28 locs_28 p_28 hT_28 hk_28 hS_28 => ?_)
    have p_28 : H = H_28 ∧ (ai H (ρ a0 0) 1 = r_28) := p_28
    obtain ⟨rfl, p_28_0⟩ := p_28
    have b_r_28 : 0 ≤ r_28.toInt ∧ r_28.toInt ≤ N + 2 := by rw [← p_28_0]; exact hI.1 1 (by decide)
    have c_r_28 := congrArg Int32.toInt p_28_0
    refine th_Vi (As := [.int 0, .int x_27, .int r_28]) (rest := []) E hml hl.1 (y_means l D cI cS τ ρ hW H hT_28 a0 x_27 r_28 ha0 (by omega)) lk_X12_208 yd_X12_means hT_28 ha0 rfl (by decide) hS_28 (fun _ h => h.elim) ⟨by decide, by decide⟩ (Nat.le_of_ble_eq_true rfl) ⟨by decide, by decide⟩ rfl dX12_inCalling_22 (fun r_29 H_29 locs_29 p_29 hT_29 hk_29 hS_29 => ?_)
    have p_29 : H = H_29 ∧ (r_28.toInt - 128 ≤ r_29.toInt ∧ r_29.toInt ≤ r_28.toInt + 127) := p_29
    obtain ⟨rfl, p_29_0⟩ := p_29
    refine lv_goto (tgt := 29) hx hb dX12_inCalling_25 (by decide) ?_
    exact J_29 H locs_29 _ r_29 hT_29 hS_29 hl (by omega) (by omega) ⟨hI.1, hI.2.1, hI.2.2.1, hI.2.2.2.1, hI.2.2.2.2.1, hI.2.2.2.2.2⟩ (by omega) (by omega)
set_option maxHeartbeats 4000000 in
set_option maxRecDepth 100000 in
/-- the reference: set -/
theorem y_set_v58 (l : Launch) (D : va_G) (cI cS : ClassId) (τ : Nat → Option Nat) (ρ : Nat → Nat → Nat) (hW : WF τ ρ) (H : Heap) (hT : TH D cI cS τ ρ H) (a0 : Nat) (ha0 : τ a0 = some 12) : MV l D cI cS τ ρ yX12_set cX12_set 4 none 0 0 H [.ref a0, .int 0, .int 16, .int 0] (fun (u : Heap) => (AU 985 H u (ρ a0 0) 16 (0))) (fun q => q = ρ a0 0) := by
  refine MV.of (by decide) (Nat.le_of_ble_eq_true rfl) ?_
  intro p e s m args below meth c E hml hr hlk hs ls hl
  have hx := E.1
  have hb := E.2.1
  have hown := E.2.2.1
  have hts := E.2.2.2.1
  have hS : SS (fun q => q = ρ a0 0) H H [] := SS.rf
  have hl : lv_has ls 4 [(0, .ref a0), (1, .int 0), (2, .int 16), (3, .int 0)] := hl
  refine lv_aload_n hx hb dX12_set_0 rfl (lv_at hl 0 rfl) ?_
  refine gf_X12_7 E hT hW ha0 dX12_set_1 (fun h_1 => ?_)
  refine lv_sipush (v := 288) hx hb dX12_set_4 (by decide) ?_
  refine lv_iload_n hx hb dX12_set_7 rfl (lv_at hl 1 rfl) ?_
  refine lv_imul hx hb dX12_set_8 ?_
  refine th_topi (y := 0) (by decide) ?_
  refine lv_iload_n hx hb dX12_set_9 rfl (lv_at hl 2 rfl) ?_
  refine lv_iadd hx hb dX12_set_10 ?_
  refine th_topi (y := 16) (by decide) ?_
  refine lv_iload_n hx hb dX12_set_11 rfl (lv_at hl 3 rfl) ?_
  refine th_iast E hT hS h_1 rfl (by decide) (vp_in_iff.mpr ⟨by decide, by decide⟩) dX12_set_12 (fun H_2 locs_2 hT_2 hU_2 hS_2 => ?_)
  have hU_2 : AU 985 H H_2 (ρ a0 0) 16 (0) := hU_2
  exact th_vret E hr hlk hs hT_2 hS_2 hU_2 dX12_set_13
set_option maxHeartbeats 4000000 in
set_option maxRecDepth 100000 in
/-- the reference: times -/
theorem y_times_v3 (l : Launch) (D : va_G) (cI cS : ClassId) (τ : Nat → Option Nat) (ρ : Nat → Nat → Nat) (hW : WF τ ρ) (H : Heap) (hT : TH D cI cS τ ρ H) (a0 : Nat) (ha0 : τ a0 = some 12) (N : Int) (hN0 : 0 ≤ N) (hN1 : N ≤ 600) (hI : IM D ρ N H a0) : MV l D cI cS τ ρ yX12_times cX12_times 3 none 1 23 H [.ref a0, .int 0, .int 0] (fun (u : Heap) => (IM D ρ N u a0) ∧ ((ai H (ρ a0 0) 976).toInt ≤ (ai u (ρ a0 0) 976).toInt)) (fun q => q = ρ a0 0) := by
  refine MV.of (by decide) (Nat.le_of_ble_eq_true rfl) ?_
  intro p e s m args below meth c E hml hr hlk hs ls hl
  have hx := E.1
  have hb := E.2.1
  have hown := E.2.2.1
  have hts := E.2.2.2.1
  have hS : SS (fun q => q = ρ a0 0) H H [] := SS.rf
  have hl : lv_has ls 3 [(0, .ref a0), (1, .int 0), (2, .int 0)] := hl
  have n01 := hI.2.2.2.2.2.1
  have n23 := hI.2.2.2.2.2.2.1
  refine lv_aload_n hx hb dX12_times_0 rfl (lv_at hl 0 rfl) ?_
  refine lv_iload_n hx hb dX12_times_1 rfl (lv_at hl 1 rfl) ?_
  refine lv_bipush (v := 16) hx hb dX12_times_2 (by decide) ?_
  refine th_Vi (As := [.int 0, .int 16]) (rest := []) E hml hl.1 (y_get_v8 l D cI cS τ ρ hW H hT a0 ha0) lk_X12_99 yd_X12_get hT ha0 rfl (by decide) hS (fun _ h => h.elim) ⟨by decide, by decide⟩ (Nat.le_of_ble_eq_true rfl) ⟨by decide, by decide⟩ rfl dX12_times_4 (fun r_1 H_1 locs_1 p_1 hT_1 hk_1 hS_1 => ?_)
  have p_1 : H = H_1 ∧ (ai H (ρ a0 0) 16 = r_1) := p_1
  obtain ⟨rfl, p_1_0⟩ := p_1
  have c_r_1 := congrArg Int32.toInt p_1_0
  refine lv_bipush (v := (-4)) hx hb dX12_times_7 (by decide) ?_
  refine lv_icmp_ne (tgt := 35) hx hb dX12_times_9 (by decide) (fun c_2 => ?_) (fun c_2 => ?_)
  · have f_2 : ¬ r_1.toInt = -4 := r_ne rfl (by decide) c_2
    exact th_vret E hr hlk hs hT_1 hS_1 ⟨⟨hI.1, hI.2.1, hI.2.2.1, hI.2.2.2.1, hI.2.2.2.2.1, hI.2.2.2.2.2⟩, (by omega)⟩ dX12_times_35
  · have f_2 : r_1.toInt = -4 := r_eq rfl (by decide) c_2
    refine lv_aload_n hx hb dX12_times_12 rfl (lv_at hl 0 rfl) ?_
    refine lv_iload_n hx hb dX12_times_13 rfl (lv_at hl 1 rfl) ?_
    refine lv_bipush (v := 16) hx hb dX12_times_14 (by decide) ?_
    refine lv_iload_n hx hb dX12_times_16 rfl (lv_at hl 2 rfl) ?_
    refine th_Vv (As := [.int 0, .int 16, .int 0]) (rest := []) E hml hl.1 (y_set_v58 l D cI cS τ ρ hW H hT_1 a0 ha0) lk_X12_95 yd_X12_set hT_1 ha0 rfl (by decide) hS_1 (fun q h => h) ⟨by decide, by decide⟩ (Nat.le_of_ble_eq_true rfl) ⟨by decide, by decide⟩ rfl dX12_times_17 (fun H_3 locs_3 p_3 hT_3 hk_3 hS_3 => ?_)
    have p_3 : (AU 985 H H_3 (ρ a0 0) 16 (0)) := p_3
    have hW_3 : PW N H_3 (ρ a0 0) := PW.put hI.1 p_3 (by show (-2147483648 : Int) ≤ _; exact i_min _) (by show _ ≤ (2147483647 : Int); exact i_max _)
    refine lv_aload_n hx hb dX12_times_20 rfl (lv_at hl 0 rfl) ?_
    refine lv_iload_n hx hb dX12_times_21 rfl (lv_at hl 1 rfl) ?_
    refine lv_bipush (v := 18) hx hb dX12_times_22 (by decide) ?_
    refine lv_aload_n hx hb dX12_times_24 rfl (lv_at hl 0 rfl) ?_
    refine gf_X12_7 E hT_3 hW ha0 dX12_times_25 (fun h_4 => ?_)
    refine lv_sipush (v := 977) hx hb dX12_times_28 (by decide) ?_
    refine th_iald E hT_3 h_4 (by decide) (vp_in_iff.mpr ⟨by decide, by decide⟩) dX12_times_31 ?_
    refine th_topi (y := ai H_3 (ρ a0 0) 977) rfl ?_
    refine th_topi (y := ai H (ρ a0 0) 977) (AU.o p_3 (by decide) (by decide)) ?_
    refine lv_topi (fun x_5 ex_5 => ?_)
    have c_x_5 := congrArg Int32.toInt ex_5.symm
    refine th_Vv (As := [.int 0, .int 18, .int x_5]) (rest := []) E hml hl.1 (y_set_v38 l D cI cS τ ρ hW H_3 hT_3 a0 x_5 ha0) lk_X12_95 yd_X12_set hT_3 ha0 rfl (by decide) hS_3 (fun q h => h) ⟨by decide, by decide⟩ (Nat.le_of_ble_eq_true rfl) ⟨by decide, by decide⟩ rfl dX12_times_32 (fun H_6 locs_6 p_6 hT_6 hk_6 hS_6 => ?_)
    have p_6 : (AU 985 H_3 H_6 (ρ a0 0) 18 x_5) := p_6
    have hW_6 : PW N H_6 (ρ a0 0) := PW.put hW_3 p_6 (by show (-2147483648 : Int) ≤ _; exact i_min _) (by show _ ≤ (2147483647 : Int); exact i_max _)
    exact th_vret E hr hlk hs hT_6 hS_6 ⟨⟨hW_6, (QS.same (Eq.trans (AU.o p_6 (by decide) (by decide)) (AU.o p_3 (by decide) (by decide))) (Eq.trans (AU.o p_6 (by decide) (by decide)) (AU.o p_3 (by decide) (by decide))) hI.2.1), (QS.same (Eq.trans (AU.o p_6 (by decide) (by decide)) (AU.o p_3 (by decide) (by decide))) (Eq.trans (AU.o p_6 (by decide) (by decide)) (AU.o p_3 (by decide) (by decide))) hI.2.2.1), (PL.q (p_6.2 _ (th_ne (hW _ 12 2 ha0 (by decide) (by decide) (by decide)) (hW _ 12 0 ha0 (by decide) (by decide) (by decide)) (by decide))) (PL.q (p_3.2 _ (th_ne (hW _ 12 2 ha0 (by decide) (by decide) (by decide)) (hW _ 12 0 ha0 (by decide) (by decide) (by decide)) (by decide))) hI.2.2.2.1)), (PL.q (p_6.2 _ (th_ne (hW _ 12 3 ha0 (by decide) (by decide) (by decide)) (hW _ 12 0 ha0 (by decide) (by decide) (by decide)) (by decide))) (PL.q (p_3.2 _ (th_ne (hW _ 12 3 ha0 (by decide) (by decide) (by decide)) (hW _ 12 0 ha0 (by decide) (by decide) (by decide)) (by decide))) hI.2.2.2.2.1)), (IF.q (p_6.2 _ (th_ne ha0 (hW _ 12 0 ha0 (by decide) (by decide) (by decide)) (by decide))) (IF.q (p_3.2 _ (th_ne ha0 (hW _ 12 0 ha0 (by decide) (by decide) (by decide)) (by decide))) hI.2.2.2.2.2))⟩, (by rw [(Eq.trans (AU.o p_6 (by decide) (by decide)) (AU.o p_3 (by decide) (by decide)))]; omega)⟩ dX12_times_35
set_option maxHeartbeats 4000000 in
set_option maxRecDepth 100000 in
/-- the reference: set -/
theorem y_set_v59 (l : Launch) (D : va_G) (cI cS : ClassId) (τ : Nat → Option Nat) (ρ : Nat → Nat → Nat) (hW : WF τ ρ) (H : Heap) (hT : TH D cI cS τ ρ H) (a0 : Nat) (ha0 : τ a0 = some 12) : MV l D cI cS τ ρ yX12_set cX12_set 4 none 0 0 H [.ref a0, .int 0, .int 2, .int 1] (fun (u : Heap) => (AU 985 H u (ρ a0 0) 2 (1))) (fun q => q = ρ a0 0) := by
  refine MV.of (by decide) (Nat.le_of_ble_eq_true rfl) ?_
  intro p e s m args below meth c E hml hr hlk hs ls hl
  have hx := E.1
  have hb := E.2.1
  have hown := E.2.2.1
  have hts := E.2.2.2.1
  have hS : SS (fun q => q = ρ a0 0) H H [] := SS.rf
  have hl : lv_has ls 4 [(0, .ref a0), (1, .int 0), (2, .int 2), (3, .int 1)] := hl
  refine lv_aload_n hx hb dX12_set_0 rfl (lv_at hl 0 rfl) ?_
  refine gf_X12_7 E hT hW ha0 dX12_set_1 (fun h_1 => ?_)
  refine lv_sipush (v := 288) hx hb dX12_set_4 (by decide) ?_
  refine lv_iload_n hx hb dX12_set_7 rfl (lv_at hl 1 rfl) ?_
  refine lv_imul hx hb dX12_set_8 ?_
  refine th_topi (y := 0) (by decide) ?_
  refine lv_iload_n hx hb dX12_set_9 rfl (lv_at hl 2 rfl) ?_
  refine lv_iadd hx hb dX12_set_10 ?_
  refine th_topi (y := 2) (by decide) ?_
  refine lv_iload_n hx hb dX12_set_11 rfl (lv_at hl 3 rfl) ?_
  refine th_iast E hT hS h_1 rfl (by decide) (vp_in_iff.mpr ⟨by decide, by decide⟩) dX12_set_12 (fun H_2 locs_2 hT_2 hU_2 hS_2 => ?_)
  have hU_2 : AU 985 H H_2 (ρ a0 0) 2 (1) := hU_2
  exact th_vret E hr hlk hs hT_2 hS_2 hU_2 dX12_set_13
set_option maxHeartbeats 4000000 in
set_option maxRecDepth 100000 in
/-- the reference: callsOut -/
theorem y_callsOut (l : Launch) (D : va_G) (cI cS : ClassId) (τ : Nat → Option Nat) (ρ : Nat → Nat → Nat) (hW : WF τ ρ) (H : Heap) (hT : TH D cI cS τ ρ H) (a0 : Nat) (ha0 : τ a0 = some 12) (N : Int) (hN0 : 0 ≤ N) (hN1 : N ≤ 600) (hI : IM D ρ N H a0) : MV l D cI cS τ ρ yX12_callsOut cX12_callsOut 2 none 6 136 H [.ref a0, .int 0] (fun (u : Heap) => (IM D ρ N u a0) ∧ ((ai H (ρ a0 0) 976).toInt ≤ (ai u (ρ a0 0) 976).toInt)) (fun q => q = ρ a0 2 ∨ q = ρ a0 0) := by
  refine MV.of (by decide) (Nat.le_of_ble_eq_true rfl) ?_
  intro p e s m args below meth c E hml hr hlk hs ls hl
  have hx := E.1
  have hb := E.2.1
  have hown := E.2.2.1
  have hts := E.2.2.2.1
  have hS : SS (fun q => q = ρ a0 2 ∨ q = ρ a0 0) H H [] := SS.rf
  have hl : lv_has ls 2 [(0, .ref a0), (1, .int 0)] := hl
  have n01 := hI.2.2.2.2.2.1
  have n23 := hI.2.2.2.2.2.2.1
  refine lv_aload_n hx hb dX12_callsOut_0 rfl (lv_at hl 0 rfl) ?_
  refine lv_iload_n hx hb dX12_callsOut_1 rfl (lv_at hl 1 rfl) ?_
  refine th_Vv (As := [.int 0]) (rest := []) E hml hl.1 (y_hello l D cI cS τ ρ hW H hT a0 ha0 N hN0 hN1 ⟨hI.1, hI.2.1, hI.2.2.1, hI.2.2.2.1, hI.2.2.2.2.1, hI.2.2.2.2.2⟩) lk_X12_169 yd_X12_hello hT ha0 rfl (by decide) hS (fun q => (fun h => h.elim (fun h => (Or.inl h)) (fun h => (Or.inr h)))) ⟨by decide, by decide⟩ (Nat.le_of_ble_eq_true rfl) ⟨by decide, by decide⟩ rfl dX12_callsOut_2 (fun H_1 locs_1 p_1 hT_1 hk_1 hS_1 => ?_)
  have p_1 : (IM D ρ N H_1 a0) ∧ ((ai H (ρ a0 0) 976).toInt ≤ (ai H_1 (ρ a0 0) 976).toInt) := p_1
  obtain ⟨p_1_0, p_1_1⟩ := p_1
  have mn_1 : (ai H (ρ a0 0) 976).toInt ≤ (ai H_1 (ρ a0 0) 976).toInt := by exact p_1_1
  refine lv_aload_n hx hb dX12_callsOut_5 rfl (lv_at hl 0 rfl) ?_
  refine lv_iload_n hx hb dX12_callsOut_6 rfl (lv_at hl 1 rfl) ?_
  refine lv_iconst (v := 0) hx hb dX12_callsOut_7 (by decide) ?_
  refine th_Vv (As := [.int 0, .int 0]) (rest := []) E hml hl.1 (y_times_v3 l D cI cS τ ρ hW H_1 hT_1 a0 ha0 N hN0 hN1 ⟨p_1_0.1, p_1_0.2.1, p_1_0.2.2.1, p_1_0.2.2.2.1, p_1_0.2.2.2.2.1, p_1_0.2.2.2.2.2⟩) lk_X12_143 yd_X12_times hT_1 ha0 rfl (by decide) hS_1 (fun q h => (Or.inr h)) ⟨by decide, by decide⟩ (Nat.le_of_ble_eq_true rfl) ⟨by decide, by decide⟩ rfl dX12_callsOut_8 (fun H_2 locs_2 p_2 hT_2 hk_2 hS_2 => ?_)
  have p_2 : (IM D ρ N H_2 a0) ∧ ((ai H_1 (ρ a0 0) 976).toInt ≤ (ai H_2 (ρ a0 0) 976).toInt) := p_2
  obtain ⟨p_2_0, p_2_1⟩ := p_2
  have mn_2 : (ai H_1 (ρ a0 0) 976).toInt ≤ (ai H_2 (ρ a0 0) 976).toInt := by exact p_2_1
  refine lv_aload_n hx hb dX12_callsOut_11 rfl (lv_at hl 0 rfl) ?_
  refine lv_iload_n hx hb dX12_callsOut_12 rfl (lv_at hl 1 rfl) ?_
  refine lv_iconst (v := 2) hx hb dX12_callsOut_13 (by decide) ?_
  refine lv_iconst (v := 1) hx hb dX12_callsOut_14 (by decide) ?_
  refine th_Vv (As := [.int 0, .int 2, .int 1]) (rest := []) E hml hl.1 (y_set_v59 l D cI cS τ ρ hW H_2 hT_2 a0 ha0) lk_X12_95 yd_X12_set hT_2 ha0 rfl (by decide) hS_2 (fun q h => (Or.inr h)) ⟨by decide, by decide⟩ (Nat.le_of_ble_eq_true rfl) ⟨by decide, by decide⟩ rfl dX12_callsOut_15 (fun H_3 locs_3 p_3 hT_3 hk_3 hS_3 => ?_)
  have p_3 : (AU 985 H_2 H_3 (ρ a0 0) 2 (1)) := p_3
  have hW_3 : PW N H_3 (ρ a0 0) := PW.put p_2_0.1 p_3 (by show (0 : Int) ≤ (1 : Int32).toInt; have : (1 : Int32).toInt = 1 := (by decide); omega) (by show (1 : Int32).toInt ≤ (N + 2 : Int); have : (1 : Int32).toInt = 1 := (by decide); omega)
  exact th_vret E hr hlk hs hT_3 hS_3 ⟨⟨hW_3, (QS.of (s := (ai H_2 (ρ a0 0) 0 : Int32)) (t := (1 : Int32)) (AU.o p_3 (by decide) (by decide)) (AU.s p_3 (by decide)) (by have j := p_2_0.2.1; unfold QS at j; have : (1 : Int32).toInt = 1 := (by decide); omega)), (QS.same (AU.o p_3 (by decide) (by decide)) (AU.o p_3 (by decide) (by decide)) p_2_0.2.2.1), (PL.q (p_3.2 _ (th_ne (hW _ 12 2 ha0 (by decide) (by decide) (by decide)) (hW _ 12 0 ha0 (by decide) (by decide) (by decide)) (by decide))) p_2_0.2.2.2.1), (PL.q (p_3.2 _ (th_ne (hW _ 12 3 ha0 (by decide) (by decide) (by decide)) (hW _ 12 0 ha0 (by decide) (by decide) (by decide)) (by decide))) p_2_0.2.2.2.2.1), (IF.q (p_3.2 _ (th_ne ha0 (hW _ 12 0 ha0 (by decide) (by decide) (by decide)) (by decide))) p_2_0.2.2.2.2.2)⟩, (by rw [(AU.o p_3 (by decide) (by decide))]; omega)⟩ dX12_callsOut_18
set_option maxHeartbeats 4000000 in
set_option maxRecDepth 100000 in
/-- the reference: drops -/
theorem y_drops_v7 (l : Launch) (D : va_G) (cI cS : ClassId) (τ : Nat → Option Nat) (ρ : Nat → Nat → Nat) (hW : WF τ ρ) (H : Heap) (hT : TH D cI cS τ ρ H) (a0 : Nat) (ha0 : τ a0 = some 12) (N : Int) (hN0 : 0 ≤ N) (hN1 : N ≤ 600) (hI : IM D ρ N H a0) : MI l D cI cS τ ρ yX12_drops cX12_drops 3 (some .int) 0 0 H [.ref a0, .int 3, .int 0] (fun (r : Int32) (u : Heap) => (IM D ρ N u a0) ∧ ((ai H (ρ a0 0) 976).toInt ≤ (ai u (ρ a0 0) 976).toInt)) (fun q => q = ρ a0 0) := by
  refine MI.of (by decide) (Nat.le_of_ble_eq_true rfl) ?_
  intro p e s m args below meth c E hml hr hlk hs ls hl
  have hx := E.1
  have hb := E.2.1
  have hown := E.2.2.1
  have hts := E.2.2.2.1
  have hS : SS (fun q => q = ρ a0 0) H H [] := SS.rf
  have hl : lv_has ls 3 [(0, .ref a0), (1, .int 3), (2, .int 0)] := hl
  have n01 := hI.2.2.2.2.2.1
  have n23 := hI.2.2.2.2.2.2.1
  have J_28 : ∀ (H_c28 : Heap) (lc_c28 : List Loc) (ls : Array Slot), TH D cI cS τ ρ H_c28 → SS (fun q => q = ρ a0 0) H H_c28 lc_c28 → lv_has ls 3 [(0, .ref a0), (1, .int 3), (2, .int 0)] → IM D ρ N H_c28 a0 → (ai H (ρ a0 0) 976).toInt ≤ (ai H_c28 (ρ a0 0) 976).toInt → W p l e (rmO 0 0) s m args below meth c H_c28 lc_c28 0 0 (MQ below (va_Qi (fun (r : Int32) (u : Heap) => (IM D ρ N u a0) ∧ ((ai H (ρ a0 0) 976).toInt ≤ (ai u (ρ a0 0) 976).toInt)) (Bt D cI cS τ ρ H) (fun q => q = ρ a0 0)) args s 0 0 (fun q => q = ρ a0 0)) (F0 m 28 ls [.int 1, .int 982, .ref (ρ a0 0)]) := by
    intro H_c28 lc_c28 ls hT_c28 hS_c28 hl hI_c28 hmn_c28
    refine th_iast E hT_c28 hS_c28 (hW _ 12 0 ha0 (by decide) (by decide) (by decide)) rfl (by decide) (vp_in_iff.mpr ⟨by decide, by decide⟩) dX12_drops_28 (fun H_1 locs_1 hT_1 hU_1 hS_1 => ?_)
    have hU_1 : AU 985 H_c28 H_1 (ρ a0 0) 982 (1) := hU_1
    have hW_1 : PW N H_1 (ρ a0 0) := PW.put hI_c28.1 hU_1 (by show (-2147483648 : Int) ≤ _; exact i_min _) (by show (1 : Int32).toInt ≤ (2 : Int); have : (1 : Int32).toInt = 1 := (by decide); omega)
    refine lv_aload_n hx hb dX12_drops_29 rfl (lv_at hl 0 rfl) ?_
    refine gf_X12_7 E hT_1 hW ha0 dX12_drops_30 (fun h_2 => ?_)
    refine lv_sipush (v := 983) hx hb dX12_drops_33 (by decide) ?_
    refine lv_iload_n hx hb dX12_drops_36 rfl (lv_at hl 1 rfl) ?_
    refine th_iast E hT_1 hS_1 h_2 rfl (by decide) (vp_in_iff.mpr ⟨by decide, by decide⟩) dX12_drops_37 (fun H_3 locs_3 hT_3 hU_3 hS_3 => ?_)
    have hU_3 : AU 985 H_1 H_3 (ρ a0 0) 983 (3) := hU_3
    have hW_3 : PW N H_3 (ρ a0 0) := PW.put hW_1 hU_3 (by show (-2147483648 : Int) ≤ _; exact i_min _) (by show _ ≤ (2147483647 : Int); exact i_max _)
    refine lv_aload_n hx hb dX12_drops_38 rfl (lv_at hl 0 rfl) ?_
    refine gf_X12_7 E hT_3 hW ha0 dX12_drops_39 (fun h_4 => ?_)
    refine lv_sipush (v := 984) hx hb dX12_drops_42 (by decide) ?_
    refine lv_iload_n hx hb dX12_drops_45 rfl (lv_at hl 2 rfl) ?_
    refine th_iast E hT_3 hS_3 h_4 rfl (by decide) (vp_in_iff.mpr ⟨by decide, by decide⟩) dX12_drops_46 (fun H_5 locs_5 hT_5 hU_5 hS_5 => ?_)
    have hU_5 : AU 985 H_3 H_5 (ρ a0 0) 984 (0) := hU_5
    have hW_5 : PW N H_5 (ρ a0 0) := PW.put hW_3 hU_5 (by show (-2147483648 : Int) ≤ _; exact i_min _) (by show _ ≤ (2147483647 : Int); exact i_max _)
    refine lv_iconst (v := 0) hx hb dX12_drops_47 (by decide) ?_
    exact th_iret E hr hlk hs hT_5 hS_5 ⟨⟨hW_5, (QS.same (Eq.trans (AU.o hU_5 (by decide) (by decide)) (Eq.trans (AU.o hU_3 (by decide) (by decide)) (AU.o hU_1 (by decide) (by decide)))) (Eq.trans (AU.o hU_5 (by decide) (by decide)) (Eq.trans (AU.o hU_3 (by decide) (by decide)) (AU.o hU_1 (by decide) (by decide)))) hI_c28.2.1), (QS.same (Eq.trans (AU.o hU_5 (by decide) (by decide)) (Eq.trans (AU.o hU_3 (by decide) (by decide)) (AU.o hU_1 (by decide) (by decide)))) (Eq.trans (AU.o hU_5 (by decide) (by decide)) (Eq.trans (AU.o hU_3 (by decide) (by decide)) (AU.o hU_1 (by decide) (by decide)))) hI_c28.2.2.1), (PL.q (hU_5.2 _ (th_ne (hW _ 12 2 ha0 (by decide) (by decide) (by decide)) (hW _ 12 0 ha0 (by decide) (by decide) (by decide)) (by decide))) (PL.q (hU_3.2 _ (th_ne (hW _ 12 2 ha0 (by decide) (by decide) (by decide)) (hW _ 12 0 ha0 (by decide) (by decide) (by decide)) (by decide))) (PL.q (hU_1.2 _ (th_ne (hW _ 12 2 ha0 (by decide) (by decide) (by decide)) (hW _ 12 0 ha0 (by decide) (by decide) (by decide)) (by decide))) hI_c28.2.2.2.1))), (PL.q (hU_5.2 _ (th_ne (hW _ 12 3 ha0 (by decide) (by decide) (by decide)) (hW _ 12 0 ha0 (by decide) (by decide) (by decide)) (by decide))) (PL.q (hU_3.2 _ (th_ne (hW _ 12 3 ha0 (by decide) (by decide) (by decide)) (hW _ 12 0 ha0 (by decide) (by decide) (by decide)) (by decide))) (PL.q (hU_1.2 _ (th_ne (hW _ 12 3 ha0 (by decide) (by decide) (by decide)) (hW _ 12 0 ha0 (by decide) (by decide) (by decide)) (by decide))) hI_c28.2.2.2.2.1))), (IF.q (hU_5.2 _ (th_ne ha0 (hW _ 12 0 ha0 (by decide) (by decide) (by decide)) (by decide))) (IF.q (hU_3.2 _ (th_ne ha0 (hW _ 12 0 ha0 (by decide) (by decide) (by decide)) (by decide))) (IF.q (hU_1.2 _ (th_ne ha0 (hW _ 12 0 ha0 (by decide) (by decide) (by decide)) (by decide))) hI_c28.2.2.2.2.2)))⟩, (by rw [(Eq.trans (AU.o hU_5 (by decide) (by decide)) (Eq.trans (AU.o hU_3 (by decide) (by decide)) (AU.o hU_1 (by decide) (by decide))))]; omega)⟩ dX12_drops_48
  refine lv_aload_n hx hb dX12_drops_0 rfl (lv_at hl 0 rfl) ?_
  refine gf_X12_7 E hT hW ha0 dX12_drops_1 (fun h_6 => ?_)
  refine lv_sipush (v := 981) hx hb dX12_drops_4 (by decide) ?_
  refine lv_dup2_11 hx hb dX12_drops_7 rfl rfl ?_
  refine th_iald E hT h_6 (by decide) (vp_in_iff.mpr ⟨by decide, by decide⟩) dX12_drops_8 ?_
  refine th_topi (y := ai H (ρ a0 0) 981) rfl ?_
  refine lv_topi (fun x_7 ex_7 => ?_)
  have c_x_7 := congrArg Int32.toInt ex_7.symm
  refine lv_iconst (v := 1) hx hb dX12_drops_9 (by decide) ?_
  refine lv_iadd hx hb dX12_drops_10 ?_
  refine lv_topi (fun x_8 ex_8 => ?_)
  refine th_iast E hT hS h_6 rfl (by decide) (vp_in_iff.mpr ⟨by decide, by decide⟩) dX12_drops_11 (fun H_9 locs_9 hT_9 hU_9 hS_9 => ?_)
  have hU_9 : AU 985 H H_9 (ρ a0 0) 981 x_8 := hU_9
  have hW_9 : PW N H_9 (ρ a0 0) := PW.put hI.1 hU_9 (by show (-2147483648 : Int) ≤ _; exact i_min _) (by show _ ≤ (2147483647 : Int); exact i_max _)
  refine lv_aload_n hx hb dX12_drops_12 rfl (lv_at hl 0 rfl) ?_
  refine gf_X12_7 E hT_9 hW ha0 dX12_drops_13 (fun h_10 => ?_)
  refine lv_sipush (v := 982) hx hb dX12_drops_16 (by decide) ?_
  refine lv_iload_n hx hb dX12_drops_19 rfl (lv_at hl 2 rfl) ?_
  refine lv_if_le (tgt := 27) hx hb dX12_drops_20 (by decide) (fun c_11 => ?_) (fun c_11 => absurd (by decide) c_11)
  refine lv_iconst (v := 1) hx hb dX12_drops_27 (by decide) ?_
  exact J_28 H_9 locs_9 _ hT_9 hS_9 hl ⟨hW_9, (QS.same (AU.o hU_9 (by decide) (by decide)) (AU.o hU_9 (by decide) (by decide)) hI.2.1), (QS.same (AU.o hU_9 (by decide) (by decide)) (AU.o hU_9 (by decide) (by decide)) hI.2.2.1), (PL.q (hU_9.2 _ (th_ne (hW _ 12 2 ha0 (by decide) (by decide) (by decide)) (hW _ 12 0 ha0 (by decide) (by decide) (by decide)) (by decide))) hI.2.2.2.1), (PL.q (hU_9.2 _ (th_ne (hW _ 12 3 ha0 (by decide) (by decide) (by decide)) (hW _ 12 0 ha0 (by decide) (by decide) (by decide)) (by decide))) hI.2.2.2.2.1), (IF.q (hU_9.2 _ (th_ne ha0 (hW _ 12 0 ha0 (by decide) (by decide) (by decide)) (by decide))) hI.2.2.2.2.2)⟩ (by rw [(AU.o hU_9 (by decide) (by decide))]; omega)
set_option maxHeartbeats 4000000 in
set_option maxRecDepth 100000 in
/-- the reference: dropsAndBreaks -/
theorem y_dropsAndBreaks_v3 (l : Launch) (D : va_G) (cI cS : ClassId) (τ : Nat → Option Nat) (ρ : Nat → Nat → Nat) (hW : WF τ ρ) (H : Heap) (hT : TH D cI cS τ ρ H) (a0 : Nat) (ha0 : τ a0 = some 12) (N : Int) (hN0 : 0 ≤ N) (hN1 : N ≤ 600) (hI : IM D ρ N H a0) : MI l D cI cS τ ρ yX12_dropsAndBreaks cX12_dropsAndBreaks 3 (some .int) 3 67 H [.ref a0, .int 0, .int 3] (fun (r : Int32) (u : Heap) => (IM D ρ N u a0) ∧ ((ai H (ρ a0 0) 976).toInt ≤ (ai u (ρ a0 0) 976).toInt)) (fun q => q = ρ a0 2 ∨ q = ρ a0 0) := by
  refine MI.of (by decide) (Nat.le_of_ble_eq_true rfl) ?_
  intro p e s m args below meth c E hml hr hlk hs ls hl
  have hx := E.1
  have hb := E.2.1
  have hown := E.2.2.1
  have hts := E.2.2.2.1
  have hS : SS (fun q => q = ρ a0 2 ∨ q = ρ a0 0) H H [] := SS.rf
  have hl : lv_has ls 3 [(0, .ref a0), (1, .int 0), (2, .int 3)] := hl
  have n01 := hI.2.2.2.2.2.1
  have n23 := hI.2.2.2.2.2.2.1
  refine lv_aload_n hx hb dX12_dropsAndBreaks_0 rfl (lv_at hl 0 rfl) ?_
  refine lv_iload_n hx hb dX12_dropsAndBreaks_1 rfl (lv_at hl 1 rfl) ?_
  refine th_Vv (As := [.int 0]) (rest := []) E hml hl.1 (y_breaksIt_v2 l D cI cS τ ρ hW H hT a0 ha0 N hN0 hN1 ⟨hI.1, hI.2.1, hI.2.2.1, hI.2.2.2.1, hI.2.2.2.2.1, hI.2.2.2.2.2⟩) lk_X12_196 yd_X12_breaksIt hT ha0 rfl (by decide) hS (fun q => (fun h => h.elim (fun h => (Or.inl h)) (fun h => (Or.inr h)))) ⟨by decide, by decide⟩ (Nat.le_of_ble_eq_true rfl) ⟨by decide, by decide⟩ rfl dX12_dropsAndBreaks_2 (fun H_1 locs_1 p_1 hT_1 hk_1 hS_1 => ?_)
  have p_1 : (IM D ρ N H_1 a0) ∧ ((ai H (ρ a0 0) 976).toInt ≤ (ai H_1 (ρ a0 0) 976).toInt) := p_1
  obtain ⟨p_1_0, p_1_1⟩ := p_1
  have mn_1 : (ai H (ρ a0 0) 976).toInt ≤ (ai H_1 (ρ a0 0) 976).toInt := by exact p_1_1
  refine lv_aload_n hx hb dX12_dropsAndBreaks_5 rfl (lv_at hl 0 rfl) ?_
  refine lv_iload_n hx hb dX12_dropsAndBreaks_6 rfl (lv_at hl 2 rfl) ?_
  refine lv_iconst (v := 0) hx hb dX12_dropsAndBreaks_7 (by decide) ?_
  refine th_Vi (As := [.int 3, .int 0]) (rest := []) E hml hl.1 (y_drops_v7 l D cI cS τ ρ hW H_1 hT_1 a0 ha0 N hN0 hN1 ⟨p_1_0.1, p_1_0.2.1, p_1_0.2.2.1, p_1_0.2.2.2.1, p_1_0.2.2.2.2.1, p_1_0.2.2.2.2.2⟩) lk_X12_199 yd_X12_drops hT_1 ha0 rfl (by decide) hS_1 (fun q h => (Or.inr h)) ⟨by decide, by decide⟩ (Nat.le_of_ble_eq_true rfl) ⟨by decide, by decide⟩ rfl dX12_dropsAndBreaks_8 (fun r_2 H_2 locs_2 p_2 hT_2 hk_2 hS_2 => ?_)
  have p_2 : (IM D ρ N H_2 a0) ∧ ((ai H_1 (ρ a0 0) 976).toInt ≤ (ai H_2 (ρ a0 0) 976).toInt) := p_2
  obtain ⟨p_2_0, p_2_1⟩ := p_2
  have mn_2 : (ai H_1 (ρ a0 0) 976).toInt ≤ (ai H_2 (ρ a0 0) 976).toInt := by exact p_2_1
  exact th_iret E hr hlk hs hT_2 hS_2 ⟨⟨p_2_0.1, p_2_0.2.1, p_2_0.2.2.1, p_2_0.2.2.2.1, p_2_0.2.2.2.2.1, p_2_0.2.2.2.2.2⟩, (by omega)⟩ dX12_dropsAndBreaks_11
set_option maxHeartbeats 4000000 in
set_option maxRecDepth 100000 in
/-- the reference: inWaiting -/
theorem y_inWaiting (l : Launch) (D : va_G) (cI cS : ClassId) (τ : Nat → Option Nat) (ρ : Nat → Nat → Nat) (hW : WF τ ρ) (H : Heap) (hT : TH D cI cS τ ρ H) (a0 : Nat) (ha0 : τ a0 = some 12) (N : Int) (hN0 : 0 ≤ N) (hN1 : N ≤ 600) (hI : IM D ρ N H a0) (hp0 : (ai H (ρ a0 0) 0).toInt = 1) : MI l D cI cS τ ρ yX12_inWaiting cX12_inWaiting 2 (some .int) 7 157 H [.ref a0, .int 0] (fun (r : Int32) (u : Heap) => (IM D ρ N u a0) ∧ ((ai H (ρ a0 0) 976).toInt ≤ (ai u (ρ a0 0) 976).toInt)) (fun q => q = ρ a0 0 ∨ q = ρ a0 2) := by
  refine MI.of (by decide) (Nat.le_of_ble_eq_true rfl) ?_
  intro p e s m args below meth c E hml hr hlk hs ls hl
  have hx := E.1
  have hb := E.2.1
  have hown := E.2.2.1
  have hts := E.2.2.2.1
  have hS : SS (fun q => q = ρ a0 0 ∨ q = ρ a0 2) H H [] := SS.rf
  have hl : lv_has ls 2 [(0, .ref a0), (1, .int 0)] := hl
  have n01 := hI.2.2.2.2.2.1
  have n23 := hI.2.2.2.2.2.2.1
  refine lv_aload_n hx hb dX12_inWaiting_0 rfl (lv_at hl 0 rfl) ?_
  refine lv_bipush (v := 8) hx hb dX12_inWaiting_1 (by decide) ?_
  refine th_Vi (As := [.int 8]) (rest := []) E hml hl.1 (y_has_v3 l D cI cS τ ρ hW H hT a0 ha0) lk_X12_202 yd_X12_has hT ha0 rfl (by decide) hS (fun _ h => h.elim) ⟨by decide, by decide⟩ (Nat.le_of_ble_eq_true rfl) ⟨by decide, by decide⟩ rfl dX12_inWaiting_3 (fun r_1 H_1 locs_1 p_1 hT_1 hk_1 hS_1 => ?_)
  have p_1 : H = H_1 ∧ (r_1 = 0 ∨ r_1 = 1) := p_1
  obtain ⟨rfl, p_1_0⟩ := p_1
  have z_1 := b_iv p_1_0
  refine lv_if_eq (tgt := 16) hx hb dX12_inWaiting_6 (by decide) (fun c_2 => ?_) (fun c_2 => ?_)
  · have f_2 : r_1.toInt = 0 := r_eq rfl (by decide) c_2
    refine lv_aload_n hx hb dX12_inWaiting_16 rfl (lv_at hl 0 rfl) ?_
    refine lv_iconst (v := 4) hx hb dX12_inWaiting_17 (by decide) ?_
    refine th_Vi (As := [.int 4]) (rest := []) E hml hl.1 (y_has_v2 l D cI cS τ ρ hW H hT_1 a0 ha0) lk_X12_202 yd_X12_has hT_1 ha0 rfl (by decide) hS_1 (fun _ h => h.elim) ⟨by decide, by decide⟩ (Nat.le_of_ble_eq_true rfl) ⟨by decide, by decide⟩ rfl dX12_inWaiting_18 (fun r_3 H_3 locs_3 p_3 hT_3 hk_3 hS_3 => ?_)
    have p_3 : H = H_3 ∧ (r_3 = 0 ∨ r_3 = 1) := p_3
    obtain ⟨rfl, p_3_0⟩ := p_3
    have z_3 := b_iv p_3_0
    refine lv_if_eq (tgt := 31) hx hb dX12_inWaiting_21 (by decide) (fun c_4 => ?_) (fun c_4 => ?_)
    · have f_4 : r_3.toInt = 0 := r_eq rfl (by decide) c_4
      refine lv_aload_n hx hb dX12_inWaiting_31 rfl (lv_at hl 0 rfl) ?_
      refine lv_iconst (v := 1) hx hb dX12_inWaiting_32 (by decide) ?_
      refine th_Vi (As := [.int 1]) (rest := []) E hml hl.1 (y_has_v4 l D cI cS τ ρ hW H hT_3 a0 ha0) lk_X12_202 yd_X12_has hT_3 ha0 rfl (by decide) hS_3 (fun _ h => h.elim) ⟨by decide, by decide⟩ (Nat.le_of_ble_eq_true rfl) ⟨by decide, by decide⟩ rfl dX12_inWaiting_33 (fun r_5 H_5 locs_5 p_5 hT_5 hk_5 hS_5 => ?_)
      have p_5 : H = H_5 ∧ (r_5 = 0 ∨ r_5 = 1) := p_5
      obtain ⟨rfl, p_5_0⟩ := p_5
      have z_5 := b_iv p_5_0
      refine lv_if_ne (tgt := 46) hx hb dX12_inWaiting_36 (by decide) (fun c_6 => ?_) (fun c_6 => ?_)
      · have f_6 : ¬ r_5.toInt = 0 := r_ne rfl (by decide) c_6
        have nz_r_5 : ¬ r_5 = 0 := c_6
        refine lv_aload_n hx hb dX12_inWaiting_46 rfl (lv_at hl 0 rfl) ?_
        refine lv_iload_n hx hb dX12_inWaiting_47 rfl (lv_at hl 1 rfl) ?_
        refine lv_iconst (v := 5) hx hb dX12_inWaiting_48 (by decide) ?_
        refine lv_iconst (v := 1) hx hb dX12_inWaiting_49 (by decide) ?_
        refine th_Vv (As := [.int 0, .int 5, .int 1]) (rest := []) E hml hl.1 (y_set_v56 l D cI cS τ ρ hW H hT_5 a0 ha0) lk_X12_95 yd_X12_set hT_5 ha0 rfl (by decide) hS_5 (fun q h => (Or.inl h)) ⟨by decide, by decide⟩ (Nat.le_of_ble_eq_true rfl) ⟨by decide, by decide⟩ rfl dX12_inWaiting_50 (fun H_7 locs_7 p_7 hT_7 hk_7 hS_7 => ?_)
        have p_7 : (AU 985 H H_7 (ρ a0 0) 5 (1)) := p_7
        have hW_7 : PW N H_7 (ρ a0 0) := PW.put hI.1 p_7 (by show (0 : Int) ≤ (1 : Int32).toInt; have : (1 : Int32).toInt = 1 := (by decide); omega) (by show (1 : Int32).toInt ≤ (N + 33 : Int); have : (1 : Int32).toInt = 1 := (by decide); omega)
        refine lv_aload_n hx hb dX12_inWaiting_53 rfl (lv_at hl 0 rfl) ?_
        refine lv_iload_n hx hb dX12_inWaiting_54 rfl (lv_at hl 1 rfl) ?_
        refine lv_iconst (v := 0) hx hb dX12_inWaiting_55 (by decide) ?_
        refine lv_iconst (v := 3) hx hb dX12_inWaiting_56 (by decide) ?_
        refine th_Vv (As := [.int 0, .int 0, .int 3]) (rest := []) E hml hl.1 (y_set_v57 l D cI cS τ ρ hW H_7 hT_7 a0 ha0) lk_X12_95 yd_X12_set hT_7 ha0 rfl (by decide) hS_7 (fun q h => (Or.inl h)) ⟨by decide, by decide⟩ (Nat.le_of_ble_eq_true rfl) ⟨by decide, by decide⟩ rfl dX12_inWaiting_57 (fun H_8 locs_8 p_8 hT_8 hk_8 hS_8 => ?_)
        have p_8 : (AU 985 H_7 H_8 (ρ a0 0) 0 (3)) := p_8
        have hW_8 : PW N H_8 (ρ a0 0) := PW.put hW_7 p_8 (by show (-2147483648 : Int) ≤ _; exact i_min _) (by show _ ≤ (2147483647 : Int); exact i_max _)
        refine lv_aload_n hx hb dX12_inWaiting_60 rfl (lv_at hl 0 rfl) ?_
        refine lv_iload_n hx hb dX12_inWaiting_61 rfl (lv_at hl 1 rfl) ?_
        refine th_Vv (As := [.int 0]) (rest := []) E hml hl.1 (y_callsOut l D cI cS τ ρ hW H_8 hT_8 a0 ha0 N hN0 hN1 ⟨hW_8, (QS.of (s := (3 : Int32)) (t := (ai H (ρ a0 0) 2 : Int32)) (AU.s p_8 (by decide)) (Eq.trans (AU.o p_8 (by decide) (by decide)) (AU.o p_7 (by decide) (by decide))) (by have j := hI.2.1; unfold QS at j; have : (3 : Int32).toInt = 3 := (by decide); omega)), (QS.same (Eq.trans (AU.o p_8 (by decide) (by decide)) (AU.o p_7 (by decide) (by decide))) (Eq.trans (AU.o p_8 (by decide) (by decide)) (AU.o p_7 (by decide) (by decide))) hI.2.2.1), (PL.q (p_8.2 _ (th_ne (hW _ 12 2 ha0 (by decide) (by decide) (by decide)) (hW _ 12 0 ha0 (by decide) (by decide) (by decide)) (by decide))) (PL.q (p_7.2 _ (th_ne (hW _ 12 2 ha0 (by decide) (by decide) (by decide)) (hW _ 12 0 ha0 (by decide) (by decide) (by decide)) (by decide))) hI.2.2.2.1)), (PL.q (p_8.2 _ (th_ne (hW _ 12 3 ha0 (by decide) (by decide) (by decide)) (hW _ 12 0 ha0 (by decide) (by decide) (by decide)) (by decide))) (PL.q (p_7.2 _ (th_ne (hW _ 12 3 ha0 (by decide) (by decide) (by decide)) (hW _ 12 0 ha0 (by decide) (by decide) (by decide)) (by decide))) hI.2.2.2.2.1)), (IF.q (p_8.2 _ (th_ne ha0 (hW _ 12 0 ha0 (by decide) (by decide) (by decide)) (by decide))) (IF.q (p_7.2 _ (th_ne ha0 (hW _ 12 0 ha0 (by decide) (by decide) (by decide)) (by decide))) hI.2.2.2.2.2))⟩) lk_X12_163 yd_X12_callsOut hT_8 ha0 rfl (by decide) hS_8 (fun q => (fun h => h.elim (fun h => (Or.inr h)) (fun h => (Or.inl h)))) ⟨by decide, by decide⟩ (Nat.le_of_ble_eq_true rfl) ⟨by decide, by decide⟩ rfl dX12_inWaiting_62 (fun H_9 locs_9 p_9 hT_9 hk_9 hS_9 => ?_)
        have p_9 : (IM D ρ N H_9 a0) ∧ ((ai H_8 (ρ a0 0) 976).toInt ≤ (ai H_9 (ρ a0 0) 976).toInt) := p_9
        obtain ⟨p_9_0, p_9_1⟩ := p_9
        have mn_9 : (ai H (ρ a0 0) 976).toInt ≤ (ai H_9 (ρ a0 0) 976).toInt := by have h := p_9_1; rw [(Eq.trans (AU.o p_8 (by decide) (by decide)) (AU.o p_7 (by decide) (by decide)))] at h; exact h
        refine lv_iconst (v := 1) hx hb dX12_inWaiting_65 (by decide) ?_
        exact th_iret E hr hlk hs hT_9 hS_9 ⟨⟨p_9_0.1, p_9_0.2.1, p_9_0.2.2.1, p_9_0.2.2.2.1, p_9_0.2.2.2.2.1, p_9_0.2.2.2.2.2⟩, (by omega)⟩ dX12_inWaiting_66
      · have f_6 : r_5.toInt = 0 := r_eq rfl (by decide) c_6
        refine lv_aload_n hx hb dX12_inWaiting_39 rfl (lv_at hl 0 rfl) ?_
        refine lv_iconst (v := 4) hx hb dX12_inWaiting_40 (by decide) ?_
        refine lv_iconst (v := 0) hx hb dX12_inWaiting_41 (by decide) ?_
        refine th_Vi (As := [.int 4, .int 0]) (rest := []) E hml hl.1 (y_drops l D cI cS τ ρ hW H hT_5 a0 ha0 N hN0 hN1 ⟨hI.1, hI.2.1, hI.2.2.1, hI.2.2.2.1, hI.2.2.2.2.1, hI.2.2.2.2.2⟩) lk_X12_199 yd_X12_drops hT_5 ha0 rfl (by decide) hS_5 (fun q h => (Or.inl h)) ⟨by decide, by decide⟩ (Nat.le_of_ble_eq_true rfl) ⟨by decide, by decide⟩ rfl dX12_inWaiting_42 (fun r_10 H_10 locs_10 p_10 hT_10 hk_10 hS_10 => ?_)
        have p_10 : (IM D ρ N H_10 a0) ∧ ((ai H (ρ a0 0) 976).toInt ≤ (ai H_10 (ρ a0 0) 976).toInt) := p_10
        obtain ⟨p_10_0, p_10_1⟩ := p_10
        have mn_10 : (ai H (ρ a0 0) 976).toInt ≤ (ai H_10 (ρ a0 0) 976).toInt := by exact p_10_1
        exact th_iret E hr hlk hs hT_10 hS_10 ⟨⟨p_10_0.1, p_10_0.2.1, p_10_0.2.2.1, p_10_0.2.2.2.1, p_10_0.2.2.2.2.1, p_10_0.2.2.2.2.2⟩, (by omega)⟩ dX12_inWaiting_45
    · have f_4 : ¬ r_3.toInt = 0 := r_ne rfl (by decide) c_4
      have nz_r_3 : ¬ r_3 = 0 := c_4
      refine lv_aload_n hx hb dX12_inWaiting_24 rfl (lv_at hl 0 rfl) ?_
      refine lv_iload_n hx hb dX12_inWaiting_25 rfl (lv_at hl 1 rfl) ?_
      refine lv_iconst (v := 3) hx hb dX12_inWaiting_26 (by decide) ?_
      refine th_Vi (As := [.int 0, .int 3]) (rest := []) E hml hl.1 (y_dropsAndBreaks_v3 l D cI cS τ ρ hW H hT_3 a0 ha0 N hN0 hN1 ⟨hI.1, hI.2.1, hI.2.2.1, hI.2.2.2.1, hI.2.2.2.2.1, hI.2.2.2.2.2⟩) lk_X12_205 yd_X12_dropsAndBreaks hT_3 ha0 rfl (by decide) hS_3 (fun q => (fun h => h.elim (fun h => (Or.inr h)) (fun h => (Or.inl h)))) ⟨by decide, by decide⟩ (Nat.le_of_ble_eq_true rfl) ⟨by decide, by decide⟩ rfl dX12_inWaiting_27 (fun r_11 H_11 locs_11 p_11 hT_11 hk_11 hS_11 => ?_)
      have p_11 : (IM D ρ N H_11 a0) ∧ ((ai H (ρ a0 0) 976).toInt ≤ (ai H_11 (ρ a0 0) 976).toInt) := p_11
      obtain ⟨p_11_0, p_11_1⟩ := p_11
      have mn_11 : (ai H (ρ a0 0) 976).toInt ≤ (ai H_11 (ρ a0 0) 976).toInt := by exact p_11_1
      exact th_iret E hr hlk hs hT_11 hS_11 ⟨⟨p_11_0.1, p_11_0.2.1, p_11_0.2.2.1, p_11_0.2.2.2.1, p_11_0.2.2.2.2.1, p_11_0.2.2.2.2.2⟩, (by omega)⟩ dX12_inWaiting_30
  · have f_2 : ¬ r_1.toInt = 0 := r_ne rfl (by decide) c_2
    have nz_r_1 : ¬ r_1 = 0 := c_2
    refine lv_aload_n hx hb dX12_inWaiting_9 rfl (lv_at hl 0 rfl) ?_
    refine lv_iconst (v := 2) hx hb dX12_inWaiting_10 (by decide) ?_
    refine lv_iconst (v := 0) hx hb dX12_inWaiting_11 (by decide) ?_
    refine th_Vi (As := [.int 2, .int 0]) (rest := []) E hml hl.1 (y_drops_v2 l D cI cS τ ρ hW H hT_1 a0 ha0 N hN0 hN1 ⟨hI.1, hI.2.1, hI.2.2.1, hI.2.2.2.1, hI.2.2.2.2.1, hI.2.2.2.2.2⟩) lk_X12_199 yd_X12_drops hT_1 ha0 rfl (by decide) hS_1 (fun q h => (Or.inl h)) ⟨by decide, by decide⟩ (Nat.le_of_ble_eq_true rfl) ⟨by decide, by decide⟩ rfl dX12_inWaiting_12 (fun r_12 H_12 locs_12 p_12 hT_12 hk_12 hS_12 => ?_)
    have p_12 : (IM D ρ N H_12 a0) ∧ ((ai H (ρ a0 0) 976).toInt ≤ (ai H_12 (ρ a0 0) 976).toInt) := p_12
    obtain ⟨p_12_0, p_12_1⟩ := p_12
    have mn_12 : (ai H (ρ a0 0) 976).toInt ≤ (ai H_12 (ρ a0 0) 976).toInt := by exact p_12_1
    exact th_iret E hr hlk hs hT_12 hS_12 ⟨⟨p_12_0.1, p_12_0.2.1, p_12_0.2.2.1, p_12_0.2.2.2.1, p_12_0.2.2.2.2.1, p_12_0.2.2.2.2.2⟩, (by omega)⟩ dX12_inWaiting_15
set_option maxHeartbeats 4000000 in
set_option maxRecDepth 100000 in
/-- the reference: drops -/
theorem y_drops_v8 (l : Launch) (D : va_G) (cI cS : ClassId) (τ : Nat → Option Nat) (ρ : Nat → Nat → Nat) (hW : WF τ ρ) (H : Heap) (hT : TH D cI cS τ ρ H) (a0 : Nat) (ha0 : τ a0 = some 12) (N : Int) (hN0 : 0 ≤ N) (hN1 : N ≤ 600) (hI : IM D ρ N H a0) : MI l D cI cS τ ρ yX12_drops cX12_drops 3 (some .int) 0 0 H [.ref a0, .int 1, .int 0] (fun (r : Int32) (u : Heap) => (IM D ρ N u a0) ∧ ((ai H (ρ a0 0) 976).toInt ≤ (ai u (ρ a0 0) 976).toInt)) (fun q => q = ρ a0 0) := by
  refine MI.of (by decide) (Nat.le_of_ble_eq_true rfl) ?_
  intro p e s m args below meth c E hml hr hlk hs ls hl
  have hx := E.1
  have hb := E.2.1
  have hown := E.2.2.1
  have hts := E.2.2.2.1
  have hS : SS (fun q => q = ρ a0 0) H H [] := SS.rf
  have hl : lv_has ls 3 [(0, .ref a0), (1, .int 1), (2, .int 0)] := hl
  have n01 := hI.2.2.2.2.2.1
  have n23 := hI.2.2.2.2.2.2.1
  have J_28 : ∀ (H_c28 : Heap) (lc_c28 : List Loc) (ls : Array Slot), TH D cI cS τ ρ H_c28 → SS (fun q => q = ρ a0 0) H H_c28 lc_c28 → lv_has ls 3 [(0, .ref a0), (1, .int 1), (2, .int 0)] → IM D ρ N H_c28 a0 → (ai H (ρ a0 0) 976).toInt ≤ (ai H_c28 (ρ a0 0) 976).toInt → W p l e (rmO 0 0) s m args below meth c H_c28 lc_c28 0 0 (MQ below (va_Qi (fun (r : Int32) (u : Heap) => (IM D ρ N u a0) ∧ ((ai H (ρ a0 0) 976).toInt ≤ (ai u (ρ a0 0) 976).toInt)) (Bt D cI cS τ ρ H) (fun q => q = ρ a0 0)) args s 0 0 (fun q => q = ρ a0 0)) (F0 m 28 ls [.int 1, .int 982, .ref (ρ a0 0)]) := by
    intro H_c28 lc_c28 ls hT_c28 hS_c28 hl hI_c28 hmn_c28
    refine th_iast E hT_c28 hS_c28 (hW _ 12 0 ha0 (by decide) (by decide) (by decide)) rfl (by decide) (vp_in_iff.mpr ⟨by decide, by decide⟩) dX12_drops_28 (fun H_1 locs_1 hT_1 hU_1 hS_1 => ?_)
    have hU_1 : AU 985 H_c28 H_1 (ρ a0 0) 982 (1) := hU_1
    have hW_1 : PW N H_1 (ρ a0 0) := PW.put hI_c28.1 hU_1 (by show (-2147483648 : Int) ≤ _; exact i_min _) (by show (1 : Int32).toInt ≤ (2 : Int); have : (1 : Int32).toInt = 1 := (by decide); omega)
    refine lv_aload_n hx hb dX12_drops_29 rfl (lv_at hl 0 rfl) ?_
    refine gf_X12_7 E hT_1 hW ha0 dX12_drops_30 (fun h_2 => ?_)
    refine lv_sipush (v := 983) hx hb dX12_drops_33 (by decide) ?_
    refine lv_iload_n hx hb dX12_drops_36 rfl (lv_at hl 1 rfl) ?_
    refine th_iast E hT_1 hS_1 h_2 rfl (by decide) (vp_in_iff.mpr ⟨by decide, by decide⟩) dX12_drops_37 (fun H_3 locs_3 hT_3 hU_3 hS_3 => ?_)
    have hU_3 : AU 985 H_1 H_3 (ρ a0 0) 983 (1) := hU_3
    have hW_3 : PW N H_3 (ρ a0 0) := PW.put hW_1 hU_3 (by show (-2147483648 : Int) ≤ _; exact i_min _) (by show _ ≤ (2147483647 : Int); exact i_max _)
    refine lv_aload_n hx hb dX12_drops_38 rfl (lv_at hl 0 rfl) ?_
    refine gf_X12_7 E hT_3 hW ha0 dX12_drops_39 (fun h_4 => ?_)
    refine lv_sipush (v := 984) hx hb dX12_drops_42 (by decide) ?_
    refine lv_iload_n hx hb dX12_drops_45 rfl (lv_at hl 2 rfl) ?_
    refine th_iast E hT_3 hS_3 h_4 rfl (by decide) (vp_in_iff.mpr ⟨by decide, by decide⟩) dX12_drops_46 (fun H_5 locs_5 hT_5 hU_5 hS_5 => ?_)
    have hU_5 : AU 985 H_3 H_5 (ρ a0 0) 984 (0) := hU_5
    have hW_5 : PW N H_5 (ρ a0 0) := PW.put hW_3 hU_5 (by show (-2147483648 : Int) ≤ _; exact i_min _) (by show _ ≤ (2147483647 : Int); exact i_max _)
    refine lv_iconst (v := 0) hx hb dX12_drops_47 (by decide) ?_
    exact th_iret E hr hlk hs hT_5 hS_5 ⟨⟨hW_5, (QS.same (Eq.trans (AU.o hU_5 (by decide) (by decide)) (Eq.trans (AU.o hU_3 (by decide) (by decide)) (AU.o hU_1 (by decide) (by decide)))) (Eq.trans (AU.o hU_5 (by decide) (by decide)) (Eq.trans (AU.o hU_3 (by decide) (by decide)) (AU.o hU_1 (by decide) (by decide)))) hI_c28.2.1), (QS.same (Eq.trans (AU.o hU_5 (by decide) (by decide)) (Eq.trans (AU.o hU_3 (by decide) (by decide)) (AU.o hU_1 (by decide) (by decide)))) (Eq.trans (AU.o hU_5 (by decide) (by decide)) (Eq.trans (AU.o hU_3 (by decide) (by decide)) (AU.o hU_1 (by decide) (by decide)))) hI_c28.2.2.1), (PL.q (hU_5.2 _ (th_ne (hW _ 12 2 ha0 (by decide) (by decide) (by decide)) (hW _ 12 0 ha0 (by decide) (by decide) (by decide)) (by decide))) (PL.q (hU_3.2 _ (th_ne (hW _ 12 2 ha0 (by decide) (by decide) (by decide)) (hW _ 12 0 ha0 (by decide) (by decide) (by decide)) (by decide))) (PL.q (hU_1.2 _ (th_ne (hW _ 12 2 ha0 (by decide) (by decide) (by decide)) (hW _ 12 0 ha0 (by decide) (by decide) (by decide)) (by decide))) hI_c28.2.2.2.1))), (PL.q (hU_5.2 _ (th_ne (hW _ 12 3 ha0 (by decide) (by decide) (by decide)) (hW _ 12 0 ha0 (by decide) (by decide) (by decide)) (by decide))) (PL.q (hU_3.2 _ (th_ne (hW _ 12 3 ha0 (by decide) (by decide) (by decide)) (hW _ 12 0 ha0 (by decide) (by decide) (by decide)) (by decide))) (PL.q (hU_1.2 _ (th_ne (hW _ 12 3 ha0 (by decide) (by decide) (by decide)) (hW _ 12 0 ha0 (by decide) (by decide) (by decide)) (by decide))) hI_c28.2.2.2.2.1))), (IF.q (hU_5.2 _ (th_ne ha0 (hW _ 12 0 ha0 (by decide) (by decide) (by decide)) (by decide))) (IF.q (hU_3.2 _ (th_ne ha0 (hW _ 12 0 ha0 (by decide) (by decide) (by decide)) (by decide))) (IF.q (hU_1.2 _ (th_ne ha0 (hW _ 12 0 ha0 (by decide) (by decide) (by decide)) (by decide))) hI_c28.2.2.2.2.2)))⟩, (by rw [(Eq.trans (AU.o hU_5 (by decide) (by decide)) (Eq.trans (AU.o hU_3 (by decide) (by decide)) (AU.o hU_1 (by decide) (by decide))))]; omega)⟩ dX12_drops_48
  refine lv_aload_n hx hb dX12_drops_0 rfl (lv_at hl 0 rfl) ?_
  refine gf_X12_7 E hT hW ha0 dX12_drops_1 (fun h_6 => ?_)
  refine lv_sipush (v := 981) hx hb dX12_drops_4 (by decide) ?_
  refine lv_dup2_11 hx hb dX12_drops_7 rfl rfl ?_
  refine th_iald E hT h_6 (by decide) (vp_in_iff.mpr ⟨by decide, by decide⟩) dX12_drops_8 ?_
  refine th_topi (y := ai H (ρ a0 0) 981) rfl ?_
  refine lv_topi (fun x_7 ex_7 => ?_)
  have c_x_7 := congrArg Int32.toInt ex_7.symm
  refine lv_iconst (v := 1) hx hb dX12_drops_9 (by decide) ?_
  refine lv_iadd hx hb dX12_drops_10 ?_
  refine lv_topi (fun x_8 ex_8 => ?_)
  refine th_iast E hT hS h_6 rfl (by decide) (vp_in_iff.mpr ⟨by decide, by decide⟩) dX12_drops_11 (fun H_9 locs_9 hT_9 hU_9 hS_9 => ?_)
  have hU_9 : AU 985 H H_9 (ρ a0 0) 981 x_8 := hU_9
  have hW_9 : PW N H_9 (ρ a0 0) := PW.put hI.1 hU_9 (by show (-2147483648 : Int) ≤ _; exact i_min _) (by show _ ≤ (2147483647 : Int); exact i_max _)
  refine lv_aload_n hx hb dX12_drops_12 rfl (lv_at hl 0 rfl) ?_
  refine gf_X12_7 E hT_9 hW ha0 dX12_drops_13 (fun h_10 => ?_)
  refine lv_sipush (v := 982) hx hb dX12_drops_16 (by decide) ?_
  refine lv_iload_n hx hb dX12_drops_19 rfl (lv_at hl 2 rfl) ?_
  refine lv_if_le (tgt := 27) hx hb dX12_drops_20 (by decide) (fun c_11 => ?_) (fun c_11 => absurd (by decide) c_11)
  refine lv_iconst (v := 1) hx hb dX12_drops_27 (by decide) ?_
  exact J_28 H_9 locs_9 _ hT_9 hS_9 hl ⟨hW_9, (QS.same (AU.o hU_9 (by decide) (by decide)) (AU.o hU_9 (by decide) (by decide)) hI.2.1), (QS.same (AU.o hU_9 (by decide) (by decide)) (AU.o hU_9 (by decide) (by decide)) hI.2.2.1), (PL.q (hU_9.2 _ (th_ne (hW _ 12 2 ha0 (by decide) (by decide) (by decide)) (hW _ 12 0 ha0 (by decide) (by decide) (by decide)) (by decide))) hI.2.2.2.1), (PL.q (hU_9.2 _ (th_ne (hW _ 12 3 ha0 (by decide) (by decide) (by decide)) (hW _ 12 0 ha0 (by decide) (by decide) (by decide)) (by decide))) hI.2.2.2.2.1), (IF.q (hU_9.2 _ (th_ne ha0 (hW _ 12 0 ha0 (by decide) (by decide) (by decide)) (by decide))) hI.2.2.2.2.2)⟩ (by rw [(AU.o hU_9 (by decide) (by decide))]; omega)
set_option maxHeartbeats 4000000 in
set_option maxRecDepth 100000 in
/-- the reference: inShut -/
theorem y_inShut (l : Launch) (D : va_G) (cI cS : ClassId) (τ : Nat → Option Nat) (ρ : Nat → Nat → Nat) (hW : WF τ ρ) (H : Heap) (hT : TH D cI cS τ ρ H) (a0 : Nat) (ha0 : τ a0 = some 12) (N : Int) (hN0 : 0 ≤ N) (hN1 : N ≤ 600) (hI : IM D ρ N H a0) : MI l D cI cS τ ρ yX12_inShut cX12_inShut 2 (some .int) 3 67 H [.ref a0, .int 0] (fun (r : Int32) (u : Heap) => (IM D ρ N u a0) ∧ ((ai H (ρ a0 0) 976).toInt ≤ (ai u (ρ a0 0) 976).toInt)) (fun q => q = ρ a0 2 ∨ q = ρ a0 0) := by
  refine MI.of (by decide) (Nat.le_of_ble_eq_true rfl) ?_
  intro p e s m args below meth c E hml hr hlk hs ls hl
  have hx := E.1
  have hb := E.2.1
  have hown := E.2.2.1
  have hts := E.2.2.2.1
  have hS : SS (fun q => q = ρ a0 2 ∨ q = ρ a0 0) H H [] := SS.rf
  have hl : lv_has ls 2 [(0, .ref a0), (1, .int 0)] := hl
  have n01 := hI.2.2.2.2.2.1
  have n23 := hI.2.2.2.2.2.2.1
  have J_14 : ∀ (H_c14 : Heap) (lc_c14 : List Loc) (ls : Array Slot), TH D cI cS τ ρ H_c14 → SS (fun q => q = ρ a0 2 ∨ q = ρ a0 0) H H_c14 lc_c14 → lv_has ls 2 [(0, .ref a0), (1, .int 0)] → IM D ρ N H_c14 a0 → (ai H (ρ a0 0) 976).toInt ≤ (ai H_c14 (ρ a0 0) 976).toInt → W p l e (rmO 3 67) s m args below meth c H_c14 lc_c14 0 0 (MQ below (va_Qi (fun (r : Int32) (u : Heap) => (IM D ρ N u a0) ∧ ((ai H (ρ a0 0) 976).toInt ≤ (ai u (ρ a0 0) 976).toInt)) (Bt D cI cS τ ρ H) (fun q => q = ρ a0 2 ∨ q = ρ a0 0)) args s 0 0 (fun q => q = ρ a0 2 ∨ q = ρ a0 0)) (F0 m 14 ls []) := by
    intro H_c14 lc_c14 ls hT_c14 hS_c14 hl hI_c14 hmn_c14
    refine lv_aload_n hx hb dX12_inShut_14 rfl (lv_at hl 0 rfl) ?_
    refine lv_iconst (v := 1) hx hb dX12_inShut_15 (by decide) ?_
    refine lv_iconst (v := 0) hx hb dX12_inShut_16 (by decide) ?_
    refine th_Vi (As := [.int 1, .int 0]) (rest := []) E hml hl.1 (y_drops_v8 l D cI cS τ ρ hW H_c14 hT_c14 a0 ha0 N hN0 hN1 ⟨hI_c14.1, hI_c14.2.1, hI_c14.2.2.1, hI_c14.2.2.2.1, hI_c14.2.2.2.2.1, hI_c14.2.2.2.2.2⟩) lk_X12_199 yd_X12_drops hT_c14 ha0 rfl (by decide) hS_c14 (fun q h => (Or.inr h)) ⟨by decide, by decide⟩ (Nat.le_of_ble_eq_true rfl) ⟨by decide, by decide⟩ rfl dX12_inShut_17 (fun r_1 H_1 locs_1 p_1 hT_1 hk_1 hS_1 => ?_)
    have p_1 : (IM D ρ N H_1 a0) ∧ ((ai H_c14 (ρ a0 0) 976).toInt ≤ (ai H_1 (ρ a0 0) 976).toInt) := p_1
    obtain ⟨p_1_0, p_1_1⟩ := p_1
    have mn_1 : (ai H_c14 (ρ a0 0) 976).toInt ≤ (ai H_1 (ρ a0 0) 976).toInt := by exact p_1_1
    exact th_iret E hr hlk hs hT_1 hS_1 ⟨⟨p_1_0.1, p_1_0.2.1, p_1_0.2.2.1, p_1_0.2.2.2.1, p_1_0.2.2.2.2.1, p_1_0.2.2.2.2.2⟩, (by omega)⟩ dX12_inShut_20
  refine lv_aload_n hx hb dX12_inShut_0 rfl (lv_at hl 0 rfl) ?_
  refine lv_bipush (v := 8) hx hb dX12_inShut_1 (by decide) ?_
  refine th_Vi (As := [.int 8]) (rest := []) E hml hl.1 (y_has_v3 l D cI cS τ ρ hW H hT a0 ha0) lk_X12_202 yd_X12_has hT ha0 rfl (by decide) hS (fun _ h => h.elim) ⟨by decide, by decide⟩ (Nat.le_of_ble_eq_true rfl) ⟨by decide, by decide⟩ rfl dX12_inShut_3 (fun r_2 H_2 locs_2 p_2 hT_2 hk_2 hS_2 => ?_)
  have p_2 : H = H_2 ∧ (r_2 = 0 ∨ r_2 = 1) := p_2
  obtain ⟨rfl, p_2_0⟩ := p_2
  have z_2 := b_iv p_2_0
  refine lv_if_ne (tgt := 14) hx hb dX12_inShut_6 (by decide) (fun c_3 => ?_) (fun c_3 => ?_)
  · have f_3 : ¬ r_2.toInt = 0 := r_ne rfl (by decide) c_3
    have nz_r_2 : ¬ r_2 = 0 := c_3
    exact J_14 H locs_2 _ hT_2 hS_2 hl ⟨hI.1, hI.2.1, hI.2.2.1, hI.2.2.2.1, hI.2.2.2.2.1, hI.2.2.2.2.2⟩ (by omega)
  · have f_3 : r_2.toInt = 0 := r_eq rfl (by decide) c_3
    refine lv_aload_n hx hb dX12_inShut_9 rfl (lv_at hl 0 rfl) ?_
    refine lv_iload_n hx hb dX12_inShut_10 rfl (lv_at hl 1 rfl) ?_
    refine th_Vv (As := [.int 0]) (rest := []) E hml hl.1 (y_breaksIt_v2 l D cI cS τ ρ hW H hT_2 a0 ha0 N hN0 hN1 ⟨hI.1, hI.2.1, hI.2.2.1, hI.2.2.2.1, hI.2.2.2.2.1, hI.2.2.2.2.2⟩) lk_X12_196 yd_X12_breaksIt hT_2 ha0 rfl (by decide) hS_2 (fun q => (fun h => h.elim (fun h => (Or.inl h)) (fun h => (Or.inr h)))) ⟨by decide, by decide⟩ (Nat.le_of_ble_eq_true rfl) ⟨by decide, by decide⟩ rfl dX12_inShut_11 (fun H_4 locs_4 p_4 hT_4 hk_4 hS_4 => ?_)
    have p_4 : (IM D ρ N H_4 a0) ∧ ((ai H (ρ a0 0) 976).toInt ≤ (ai H_4 (ρ a0 0) 976).toInt) := p_4
    obtain ⟨p_4_0, p_4_1⟩ := p_4
    have mn_4 : (ai H (ρ a0 0) 976).toInt ≤ (ai H_4 (ρ a0 0) 976).toInt := by exact p_4_1
    exact J_14 H_4 locs_4 _ hT_4 hS_4 hl ⟨p_4_0.1, p_4_0.2.1, p_4_0.2.2.1, p_4_0.2.2.2.1, p_4_0.2.2.2.2.1, p_4_0.2.2.2.2.2⟩ (by omega)
set_option maxHeartbeats 4000000 in
set_option maxRecDepth 100000 in
/-- the reference: fits -/
theorem y_fits_v2 (l : Launch) (D : va_G) (cI cS : ClassId) (τ : Nat → Option Nat) (ρ : Nat → Nat → Nat) (hW : WF τ ρ) (H : Heap) (hT : TH D cI cS τ ρ H) (a0 : Nat) (x1 : Int32) (ha0 : τ a0 = some 12) (N : Int) (hN0 : 0 ≤ N) (hN1 : N ≤ 600) (hI : IM D ρ N H a0) : MI l D cI cS τ ρ yX12_fits cX12_fits 6 (some .boolean) 2 47 H [.ref a0, .int 1, .int x1] (fun (r : Int32) (u : Heap) => (H = u) ∧ (r = 0 ∨ r = 1)) (fun q => False) := by
  refine MI.of (by decide) (Nat.le_of_ble_eq_true rfl) ?_
  intro p e s m args below meth c E hml hr hlk hs ls hl
  have hx := E.1
  have hb := E.2.1
  have hown := E.2.2.1
  have hts := E.2.2.2.1
  have hS : SS (fun q => False) H H [] := SS.rf
  have hl : lv_has ls 6 [(0, .ref a0), (1, .int 1), (2, .int x1)] := hl
  have n01 := hI.2.2.2.2.2.1
  have n23 := hI.2.2.2.2.2.2.1
  have L_38 : ∀ (n : Nat) (lc_c38 : List Loc) (ls : Array Slot) (y38_3 : Int32) (y38_4 : Int32) (y38_5 : Int32), SS (fun q => False) H H lc_c38 → lv_has ls 6 [(0, .ref a0), (1, .int 1), (2, .int x1), (3, .int y38_3), (4, .int y38_4), (5, .int y38_5)] → y38_4 = 0 ∨ y38_4 = 1 → 0 ≤ y38_5.toInt → (y38_3.toInt - y38_5.toInt).toNat < n → W p l e (rmO 2 47) s m args below meth c H lc_c38 0 0 (MQ below (va_Qi (fun (r : Int32) (u : Heap) => (H = u) ∧ (r = 0 ∨ r = 1)) (Bt D cI cS τ ρ H) (fun q => False)) args s 0 0 (fun q => False)) (F0 m 38 ls []) := by
    intro n
    induction n with
    | zero => intro lc_c38 ls y38_3 y38_4 y38_5 hS_c38 hl by38_4 ly38_5 hm; exact absurd hm (Nat.not_lt_zero _)
    | succ n ih_38 =>
      intro lc_c38 ls y38_3 y38_4 y38_5 hS_c38 hl by38_4 ly38_5 hm_38
      have z_y38_4 := b_iv by38_4
      refine lv_iload hx hb dX12_fits_38 (lv_at hl 5 rfl) ?_
      refine lv_iload_n hx hb dX12_fits_40 rfl (lv_at hl 3 rfl) ?_
      refine lv_icmp_ge (tgt := 74) hx hb dX12_fits_41 (by decide) (fun c_1 => ?_) (fun c_1 => ?_)
      · have f_1 : y38_3.toInt ≤ y38_5.toInt := r_le rfl rfl c_1
        refine lv_iload hx hb dX12_fits_74 (lv_at hl 4 rfl) ?_
        exact th_zret E hr hlk hs by38_4 hT hS_c38 ⟨rfl, by38_4⟩ dX12_fits_76
      · have f_1 : y38_5.toInt < y38_3.toInt := r_nle rfl rfl c_1
        refine lv_iload hx hb dX12_fits_44 (lv_at hl 4 rfl) ?_
        refine lv_if_ne (tgt := 61) hx hb dX12_fits_46 (by decide) (fun c_2 => ?_) (fun c_2 => ?_)
        · have f_2 : ¬ y38_4.toInt = 0 := r_ne rfl (by decide) c_2
          have nz_y38_4 : ¬ y38_4 = 0 := c_2
          refine lv_iconst (v := 1) hx hb dX12_fits_61 (by decide) ?_
          refine lv_goto (tgt := 66) hx hb dX12_fits_62 (by decide) ?_
          refine lv_istore (lv' := [(4, .int 1), (0, .ref a0), (1, .int 1), (2, .int x1), (3, .int y38_3), (5, .int y38_5)]) hx hb dX12_fits_66 hl (by decide) rfl (fun ls hl => ?_)
          obtain ⟨x_3, ex_3⟩ : ∃ y : Int32, y38_5 + 1 = y := ⟨_, rfl⟩
          have q_x_3 : x_3.toInt = y38_5.toInt + 1 := i_add (k := 1) (by decide) ex_3 (by have := i_min y38_5; omega) (by have := i_max y38_5; have := i_max y38_3; omega)
          refine lv_iinc (v := x_3) (lv' := [(5, .int x_3), (4, .int 1), (0, .ref a0), (1, .int 1), (2, .int x1), (3, .int y38_3)]) hx hb dX12_fits_68 hl (k := 5) rfl (by rw [← ex_3]; rfl) (by decide) rfl (fun ls hl => ?_)
          refine lv_goto (tgt := 38) hx hb dX12_fits_71 (by decide) ?_
          exact ih_38 lc_c38 _ y38_3 1 x_3 hS_c38 (lv_sub hl [2, 3, 4, 5, 1, 0] rfl) (Or.inr rfl) (by omega) (by omega)
        · have f_2 : y38_4.toInt = 0 := r_eq rfl (by decide) c_2
          refine lv_aload_n hx hb dX12_fits_49 rfl (lv_at hl 0 rfl) ?_
          refine lv_iload_n hx hb dX12_fits_50 rfl (lv_at hl 1 rfl) ?_
          refine lv_iload_n hx hb dX12_fits_51 rfl (lv_at hl 2 rfl) ?_
          refine lv_iload hx hb dX12_fits_52 (lv_at hl 5 rfl) ?_
          refine lv_iadd hx hb dX12_fits_54 ?_
          refine lv_topi (fun x_4 ex_4 => ?_)
          refine th_Vi (As := [.int 1, .int x_4]) (rest := []) E hml hl.1 (y_isWanted l D cI cS τ ρ hW H hT a0 x_4 ha0 N hN0 hN1 ⟨hI.1, hI.2.1, hI.2.2.1, hI.2.2.2.1, hI.2.2.2.2.1, hI.2.2.2.2.2⟩) lk_X12_218 yd_X12_isWanted hT ha0 rfl (by decide) hS_c38 (fun _ h => h.elim) ⟨by decide, by decide⟩ (Nat.le_of_ble_eq_true rfl) ⟨by decide, by decide⟩ rfl dX12_fits_55 (fun r_5 H_5 locs_5 p_5 hT_5 hk_5 hS_5 => ?_)
          have p_5 : H = H_5 ∧ (r_5 = 0 ∨ r_5 = 1) ∧ (r_5.toInt = 1 → (0 ≤ x_4.toInt ∧ (ai H (ρ a0 0) 293).toInt ≤ x_4.toInt ∧ x_4.toInt ≤ N + 32)) := p_5
          obtain ⟨rfl, p_5_0, p_5_1⟩ := p_5
          have z_5 := b_iv p_5_0
          refine lv_if_eq (tgt := 65) hx hb dX12_fits_58 (by decide) (fun c_6 => ?_) (fun c_6 => ?_)
          · have f_6 : r_5.toInt = 0 := r_eq rfl (by decide) c_6
            refine lv_iconst (v := 0) hx hb dX12_fits_65 (by decide) ?_
            refine lv_istore (lv' := [(4, .int 0), (0, .ref a0), (1, .int 1), (2, .int x1), (3, .int y38_3), (5, .int y38_5)]) hx hb dX12_fits_66 hl (by decide) rfl (fun ls hl => ?_)
            obtain ⟨x_7, ex_7⟩ : ∃ y : Int32, y38_5 + 1 = y := ⟨_, rfl⟩
            have q_x_7 : x_7.toInt = y38_5.toInt + 1 := i_add (k := 1) (by decide) ex_7 (by have := i_min y38_5; omega) (by have := i_max y38_5; have := i_max y38_3; omega)
            refine lv_iinc (v := x_7) (lv' := [(5, .int x_7), (4, .int 0), (0, .ref a0), (1, .int 1), (2, .int x1), (3, .int y38_3)]) hx hb dX12_fits_68 hl (k := 5) rfl (by rw [← ex_7]; rfl) (by decide) rfl (fun ls hl => ?_)
            refine lv_goto (tgt := 38) hx hb dX12_fits_71 (by decide) ?_
            exact ih_38 locs_5 _ y38_3 0 x_7 hS_5 (lv_sub hl [2, 3, 4, 5, 1, 0] rfl) (Or.inl rfl) (by omega) (by omega)
          · have f_6 : ¬ r_5.toInt = 0 := r_ne rfl (by decide) c_6
            have nz_r_5 : ¬ r_5 = 0 := c_6
            refine lv_iconst (v := 1) hx hb dX12_fits_61 (by decide) ?_
            refine lv_goto (tgt := 66) hx hb dX12_fits_62 (by decide) ?_
            refine lv_istore (lv' := [(4, .int 1), (0, .ref a0), (1, .int 1), (2, .int x1), (3, .int y38_3), (5, .int y38_5)]) hx hb dX12_fits_66 hl (by decide) rfl (fun ls hl => ?_)
            obtain ⟨x_8, ex_8⟩ : ∃ y : Int32, y38_5 + 1 = y := ⟨_, rfl⟩
            have q_x_8 : x_8.toInt = y38_5.toInt + 1 := i_add (k := 1) (by decide) ex_8 (by have := i_min y38_5; omega) (by have := i_max y38_5; have := i_max y38_3; omega)
            refine lv_iinc (v := x_8) (lv' := [(5, .int x_8), (4, .int 1), (0, .ref a0), (1, .int 1), (2, .int x1), (3, .int y38_3)]) hx hb dX12_fits_68 hl (k := 5) rfl (by rw [← ex_8]; rfl) (by decide) rfl (fun ls hl => ?_)
            refine lv_goto (tgt := 38) hx hb dX12_fits_71 (by decide) ?_
            exact ih_38 locs_5 _ y38_3 1 x_8 hS_5 (lv_sub hl [2, 3, 4, 5, 1, 0] rfl) (Or.inr rfl) (by omega) (by omega)
  have J_33 : ∀ (lc_c33 : List Loc) (ls : Array Slot) (y33_3 : Int32) (z33_0 : Int32), SS (fun q => False) H H lc_c33 → lv_has ls 6 [(0, .ref a0), (1, .int 1), (2, .int x1), (3, .int y33_3)] → z33_0 = 0 ∨ z33_0 = 1 → W p l e (rmO 2 47) s m args below meth c H lc_c33 0 0 (MQ below (va_Qi (fun (r : Int32) (u : Heap) => (H = u) ∧ (r = 0 ∨ r = 1)) (Bt D cI cS τ ρ H) (fun q => False)) args s 0 0 (fun q => False)) (F0 m 33 ls [.int z33_0]) := by
    intro lc_c33 ls y33_3 z33_0 hS_c33 hl bz33_0
    have z_z33_0 := b_iv bz33_0
    refine lv_istore (lv' := [(4, .int z33_0), (0, .ref a0), (1, .int 1), (2, .int x1), (3, .int y33_3)]) hx hb dX12_fits_33 hl (by decide) rfl (fun ls hl => ?_)
    refine lv_iconst (v := 0) hx hb dX12_fits_35 (by decide) ?_
    refine lv_istore (lv' := [(5, .int 0), (4, .int z33_0), (0, .ref a0), (1, .int 1), (2, .int x1), (3, .int y33_3)]) hx hb dX12_fits_36 hl (by decide) rfl (fun ls hl => ?_)
    exact L_38 _ lc_c33 _ y33_3 z33_0 0 hS_c33 (lv_sub hl [2, 3, 4, 5, 1, 0] rfl) bz33_0 (by decide) (Nat.lt_succ_self _)
  have J_32 : ∀ (lc_c32 : List Loc) (ls : Array Slot) (y32_3 : Int32), SS (fun q => False) H H lc_c32 → lv_has ls 6 [(0, .ref a0), (1, .int 1), (2, .int x1), (3, .int y32_3)] → W p l e (rmO 2 47) s m args below meth c H lc_c32 0 0 (MQ below (va_Qi (fun (r : Int32) (u : Heap) => (H = u) ∧ (r = 0 ∨ r = 1)) (Bt D cI cS τ ρ H) (fun q => False)) args s 0 0 (fun q => False)) (F0 m 32 ls []) := by
    intro lc_c32 ls y32_3 hS_c32 hl
    refine lv_iconst (v := 0) hx hb dX12_fits_32 (by decide) ?_
    exact J_33 lc_c32 _ y32_3 0 hS_c32 hl (Or.inl rfl)
  have J_28 : ∀ (lc_c28 : List Loc) (ls : Array Slot) (y28_3 : Int32), SS (fun q => False) H H lc_c28 → lv_has ls 6 [(0, .ref a0), (1, .int 1), (2, .int x1), (3, .int y28_3)] → 0 ≤ y28_3.toInt → y28_3.toInt ≤ 0 → W p l e (rmO 2 47) s m args below meth c H lc_c28 0 0 (MQ below (va_Qi (fun (r : Int32) (u : Heap) => (H = u) ∧ (r = 0 ∨ r = 1)) (Bt D cI cS τ ρ H) (fun q => False)) args s 0 0 (fun q => False)) (F0 m 28 ls []) := by
    intro lc_c28 ls y28_3 hS_c28 hl ly28_3 uy28_3
    refine lv_iconst (v := 1) hx hb dX12_fits_28 (by decide) ?_
    refine lv_goto (tgt := 33) hx hb dX12_fits_29 (by decide) ?_
    exact J_33 lc_c28 _ y28_3 1 hS_c28 hl (Or.inr rfl)
  refine lv_aload_n hx hb dX12_fits_0 rfl (lv_at hl 0 rfl) ?_
  refine th_Vi (As := []) (rest := []) E hml hl.1 (y_lengthOfIt l D cI cS τ ρ hW H hT a0 ha0) lk_X12_136 yd_X12_lengthOfIt hT ha0 rfl (by decide) hS (fun _ h => h.elim) ⟨by decide, by decide⟩ (Nat.le_of_ble_eq_true rfl) ⟨by decide, by decide⟩ rfl dX12_fits_1 (fun r_9 H_9 locs_9 p_9 hT_9 hk_9 hS_9 => ?_)
  have p_9 : H = H_9 := p_9
  obtain rfl := p_9
  refine lv_istore_n (lv' := [(3, .int r_9), (0, .ref a0), (1, .int 1), (2, .int x1)]) hx hb dX12_fits_4 rfl hl (by decide) rfl (fun ls hl => ?_)
  refine lv_iload_n hx hb dX12_fits_5 rfl (lv_at hl 0 rfl) ?_
  refine lv_if_ne (tgt := 32) hx hb dX12_fits_6 (by decide) (fun c_10 => ?_) (fun c_10 => ?_)
  · have f_10 : ¬ r_9.toInt = 0 := r_ne rfl (by decide) c_10
    have nz_r_9 : ¬ r_9 = 0 := c_10
    exact J_32 locs_9 _ r_9 hS_9 (lv_sub hl [1, 2, 3, 0] rfl)
  · have f_10 : r_9.toInt = 0 := r_eq rfl (by decide) c_10
    refine lv_iload_n hx hb dX12_fits_9 rfl (lv_at hl 3 rfl) ?_
    refine lv_aload_n hx hb dX12_fits_10 rfl (lv_at hl 1 rfl) ?_
    refine lv_iload_n hx hb dX12_fits_11 rfl (lv_at hl 2 rfl) ?_
    refine lv_iconst (v := 5) hx hb dX12_fits_12 (by decide) ?_
    refine th_Vi (As := [.int 1, .int 5]) (rest := [.int x1]) E hml hl.1 (y_get_v18 l D cI cS τ ρ hW H hT_9 a0 ha0) lk_X12_99 yd_X12_get hT_9 ha0 rfl (by decide) hS_9 (fun _ h => h.elim) ⟨by decide, by decide⟩ (Nat.le_of_ble_eq_true rfl) ⟨by decide, by decide⟩ rfl dX12_fits_13 (fun r_11 H_11 locs_11 p_11 hT_11 hk_11 hS_11 => ?_)
    have p_11 : H = H_11 ∧ (ai H (ρ a0 0) 293 = r_11) := p_11
    obtain ⟨rfl, p_11_0⟩ := p_11
    have b_r_11 : 0 ≤ r_11.toInt ∧ r_11.toInt ≤ N + 33 := by rw [← p_11_0]; exact hI.1 293 (by decide)
    have c_r_11 := congrArg Int32.toInt p_11_0
    refine lv_icmp_eq (tgt := 28) hx hb dX12_fits_16 (by decide) (fun c_12 => ?_) (fun c_12 => ?_)
    · have f_12 : x1.toInt = r_11.toInt := r_eq rfl rfl c_12
      exact J_28 locs_11 _ r_9 hS_11 (lv_sub hl [1, 2, 3, 0] rfl) (by omega) (by omega)
    · have f_12 : ¬ x1.toInt = r_11.toInt := r_ne rfl rfl c_12
      refine lv_aload_n hx hb dX12_fits_19 rfl (lv_at hl 1 rfl) ?_
      refine lv_iload_n hx hb dX12_fits_20 rfl (lv_at hl 2 rfl) ?_
      refine lv_iload_n hx hb dX12_fits_21 rfl (lv_at hl 3 rfl) ?_
      refine th_Vi (As := [.int 1, .int x1]) (rest := []) E hml hl.1 (y_isWanted l D cI cS τ ρ hW H hT_11 a0 x1 ha0 N hN0 hN1 ⟨hI.1, hI.2.1, hI.2.2.1, hI.2.2.2.1, hI.2.2.2.2.1, hI.2.2.2.2.2⟩) lk_X12_218 yd_X12_isWanted hT_11 ha0 rfl (by decide) hS_11 (fun _ h => h.elim) ⟨by decide, by decide⟩ (Nat.le_of_ble_eq_true rfl) ⟨by decide, by decide⟩ rfl dX12_fits_22 (fun r_13 H_13 locs_13 p_13 hT_13 hk_13 hS_13 => ?_)
      have p_13 : H = H_13 ∧ (r_13 = 0 ∨ r_13 = 1) ∧ (r_13.toInt = 1 → (0 ≤ x1.toInt ∧ (ai H (ρ a0 0) 293).toInt ≤ x1.toInt ∧ x1.toInt ≤ N + 32)) := p_13
      obtain ⟨rfl, p_13_0, p_13_1⟩ := p_13
      have z_13 := b_iv p_13_0
      refine lv_if_eq (tgt := 32) hx hb dX12_fits_25 (by decide) (fun c_14 => ?_) (fun c_14 => ?_)
      · have f_14 : r_13.toInt = 0 := r_eq rfl (by decide) c_14
        exact J_32 locs_13 _ r_9 hS_13 (lv_sub hl [1, 2, 3, 0] rfl)
      · have f_14 : ¬ r_13.toInt = 0 := r_ne rfl (by decide) c_14
        have nz_r_13 : ¬ r_13 = 0 := c_14
        exact J_28 locs_13 _ r_9 hS_13 (lv_sub hl [1, 2, 3, 0] rfl) (by omega) (by omega)
set_option maxHeartbeats 4000000 in
set_option maxRecDepth 100000 in
/-- the reference: dropsAndSays -/
theorem y_dropsAndSays_v3 (l : Launch) (D : va_G) (cI cS : ClassId) (τ : Nat → Option Nat) (ρ : Nat → Nat → Nat) (hW : WF τ ρ) (H : Heap) (hT : TH D cI cS τ ρ H) (a0 : Nat) (x2 : Int32) (ha0 : τ a0 = some 12) (N : Int) (hN0 : 0 ≤ N) (hN1 : N ≤ 600) (hI : IM D ρ N H a0) : MI l D cI cS τ ρ yX12_dropsAndSays cX12_dropsAndSays 4 (some .int) 6 136 H [.ref a0, .int 1, .int 6, .int x2] (fun (r : Int32) (u : Heap) => (IM D ρ N u a0) ∧ ((ai H (ρ a0 0) 976).toInt ≤ (ai u (ρ a0 0) 976).toInt)) (fun q => q = ρ a0 2 ∨ q = ρ a0 0) := by
  refine MI.of (by decide) (Nat.le_of_ble_eq_true rfl) ?_
  intro p e s m args below meth c E hml hr hlk hs ls hl
  have hx := E.1
  have hb := E.2.1
  have hown := E.2.2.1
  have hts := E.2.2.2.1
  have hS : SS (fun q => q = ρ a0 2 ∨ q = ρ a0 0) H H [] := SS.rf
  have hl : lv_has ls 4 [(0, .ref a0), (1, .int 1), (2, .int 6), (3, .int x2)] := hl
  have n01 := hI.2.2.2.2.2.1
  have n23 := hI.2.2.2.2.2.2.1
  have J_14 : ∀ (H_c14 : Heap) (lc_c14 : List Loc) (ls : Array Slot), TH D cI cS τ ρ H_c14 → SS (fun q => q = ρ a0 2 ∨ q = ρ a0 0) H H_c14 lc_c14 → lv_has ls 4 [(0, .ref a0), (1, .int 1), (2, .int 6), (3, .int x2)] → IM D ρ N H_c14 a0 → (ai H (ρ a0 0) 976).toInt ≤ (ai H_c14 (ρ a0 0) 976).toInt → W p l e (rmO 6 136) s m args below meth c H_c14 lc_c14 0 0 (MQ below (va_Qi (fun (r : Int32) (u : Heap) => (IM D ρ N u a0) ∧ ((ai H (ρ a0 0) 976).toInt ≤ (ai u (ρ a0 0) 976).toInt)) (Bt D cI cS τ ρ H) (fun q => q = ρ a0 2 ∨ q = ρ a0 0)) args s 0 0 (fun q => q = ρ a0 2 ∨ q = ρ a0 0)) (F0 m 14 ls []) := by
    intro H_c14 lc_c14 ls hT_c14 hS_c14 hl hI_c14 hmn_c14
    refine lv_aload_n hx hb dX12_dropsAndSays_14 rfl (lv_at hl 0 rfl) ?_
    refine lv_iload_n hx hb dX12_dropsAndSays_15 rfl (lv_at hl 2 rfl) ?_
    refine lv_iload_n hx hb dX12_dropsAndSays_16 rfl (lv_at hl 3 rfl) ?_
    refine th_Vi (As := [.int 6, .int x2]) (rest := []) E hml hl.1 (y_drops_v6 l D cI cS τ ρ hW H_c14 hT_c14 a0 x2 ha0 N hN0 hN1 ⟨hI_c14.1, hI_c14.2.1, hI_c14.2.2.1, hI_c14.2.2.2.1, hI_c14.2.2.2.2.1, hI_c14.2.2.2.2.2⟩) lk_X12_199 yd_X12_drops hT_c14 ha0 rfl (by decide) hS_c14 (fun q h => (Or.inr h)) ⟨by decide, by decide⟩ (Nat.le_of_ble_eq_true rfl) ⟨by decide, by decide⟩ rfl dX12_dropsAndSays_17 (fun r_1 H_1 locs_1 p_1 hT_1 hk_1 hS_1 => ?_)
    have p_1 : (IM D ρ N H_1 a0) ∧ ((ai H_c14 (ρ a0 0) 976).toInt ≤ (ai H_1 (ρ a0 0) 976).toInt) := p_1
    obtain ⟨p_1_0, p_1_1⟩ := p_1
    have mn_1 : (ai H_c14 (ρ a0 0) 976).toInt ≤ (ai H_1 (ρ a0 0) 976).toInt := by exact p_1_1
    exact th_iret E hr hlk hs hT_1 hS_1 ⟨⟨p_1_0.1, p_1_0.2.1, p_1_0.2.2.1, p_1_0.2.2.2.1, p_1_0.2.2.2.2.1, p_1_0.2.2.2.2.2⟩, (by omega)⟩ dX12_dropsAndSays_20
  refine lv_aload_n hx hb dX12_dropsAndSays_0 rfl (lv_at hl 0 rfl) ?_
  refine lv_bipush (v := 8) hx hb dX12_dropsAndSays_1 (by decide) ?_
  refine th_Vi (As := [.int 8]) (rest := []) E hml hl.1 (y_has_v3 l D cI cS τ ρ hW H hT a0 ha0) lk_X12_202 yd_X12_has hT ha0 rfl (by decide) hS (fun _ h => h.elim) ⟨by decide, by decide⟩ (Nat.le_of_ble_eq_true rfl) ⟨by decide, by decide⟩ rfl dX12_dropsAndSays_3 (fun r_2 H_2 locs_2 p_2 hT_2 hk_2 hS_2 => ?_)
  have p_2 : H = H_2 ∧ (r_2 = 0 ∨ r_2 = 1) := p_2
  obtain ⟨rfl, p_2_0⟩ := p_2
  have z_2 := b_iv p_2_0
  refine lv_if_ne (tgt := 14) hx hb dX12_dropsAndSays_6 (by decide) (fun c_3 => ?_) (fun c_3 => ?_)
  · have f_3 : ¬ r_2.toInt = 0 := r_ne rfl (by decide) c_3
    have nz_r_2 : ¬ r_2 = 0 := c_3
    exact J_14 H locs_2 _ hT_2 hS_2 hl ⟨hI.1, hI.2.1, hI.2.2.1, hI.2.2.2.1, hI.2.2.2.2.1, hI.2.2.2.2.2⟩ (by omega)
  · have f_3 : r_2.toInt = 0 := r_eq rfl (by decide) c_3
    refine lv_aload_n hx hb dX12_dropsAndSays_9 rfl (lv_at hl 0 rfl) ?_
    refine lv_iload_n hx hb dX12_dropsAndSays_10 rfl (lv_at hl 1 rfl) ?_
    refine th_Vv (As := [.int 1]) (rest := []) E hml hl.1 (y_yes_v2 l D cI cS τ ρ hW H hT_2 a0 ha0 N hN0 hN1 ⟨hI.1, hI.2.1, hI.2.2.1, hI.2.2.2.1, hI.2.2.2.2.1, hI.2.2.2.2.2⟩) lk_X12_193 yd_X12_yes hT_2 ha0 rfl (by decide) hS_2 (fun q => (fun h => h.elim (fun h => (Or.inl h)) (fun h => (Or.inr h)))) ⟨by decide, by decide⟩ (Nat.le_of_ble_eq_true rfl) ⟨by decide, by decide⟩ rfl dX12_dropsAndSays_11 (fun H_4 locs_4 p_4 hT_4 hk_4 hS_4 => ?_)
    have p_4 : (IM D ρ N H_4 a0) ∧ ((ai H (ρ a0 0) 976).toInt ≤ (ai H_4 (ρ a0 0) 976).toInt) := p_4
    obtain ⟨p_4_0, p_4_1⟩ := p_4
    have mn_4 : (ai H (ρ a0 0) 976).toInt ≤ (ai H_4 (ρ a0 0) 976).toInt := by exact p_4_1
    exact J_14 H_4 locs_4 _ hT_4 hS_4 hl ⟨p_4_0.1, p_4_0.2.1, p_4_0.2.2.1, p_4_0.2.2.2.1, p_4_0.2.2.2.2.1, p_4_0.2.2.2.2.2⟩ (by omega)
set_option maxHeartbeats 4000000 in
set_option maxRecDepth 100000 in
/-- the reference: set -/
theorem y_set_v60 (l : Launch) (D : va_G) (cI cS : ClassId) (τ : Nat → Option Nat) (ρ : Nat → Nat → Nat) (hW : WF τ ρ) (H : Heap) (hT : TH D cI cS τ ρ H) (a0 : Nat) (x2 : Int32) (ha0 : τ a0 = some 12) : MV l D cI cS τ ρ yX12_set cX12_set 4 none 0 0 H [.ref a0, .int 1, .int 12, .int x2] (fun (u : Heap) => (AU 985 H u (ρ a0 0) 300 x2)) (fun q => q = ρ a0 0) := by
  refine MV.of (by decide) (Nat.le_of_ble_eq_true rfl) ?_
  intro p e s m args below meth c E hml hr hlk hs ls hl
  have hx := E.1
  have hb := E.2.1
  have hown := E.2.2.1
  have hts := E.2.2.2.1
  have hS : SS (fun q => q = ρ a0 0) H H [] := SS.rf
  have hl : lv_has ls 4 [(0, .ref a0), (1, .int 1), (2, .int 12), (3, .int x2)] := hl
  refine lv_aload_n hx hb dX12_set_0 rfl (lv_at hl 0 rfl) ?_
  refine gf_X12_7 E hT hW ha0 dX12_set_1 (fun h_1 => ?_)
  refine lv_sipush (v := 288) hx hb dX12_set_4 (by decide) ?_
  refine lv_iload_n hx hb dX12_set_7 rfl (lv_at hl 1 rfl) ?_
  refine lv_imul hx hb dX12_set_8 ?_
  refine th_topi (y := 288) (by decide) ?_
  refine lv_iload_n hx hb dX12_set_9 rfl (lv_at hl 2 rfl) ?_
  refine lv_iadd hx hb dX12_set_10 ?_
  refine th_topi (y := 300) (by decide) ?_
  refine lv_iload_n hx hb dX12_set_11 rfl (lv_at hl 3 rfl) ?_
  refine th_iast E hT hS h_1 rfl (by decide) (vp_in_iff.mpr ⟨by decide, by decide⟩) dX12_set_12 (fun H_2 locs_2 hT_2 hU_2 hS_2 => ?_)
  have hU_2 : AU 985 H H_2 (ρ a0 0) 300 x2 := hU_2
  exact th_vret E hr hlk hs hT_2 hS_2 hU_2 dX12_set_13
set_option maxHeartbeats 4000000 in
set_option maxRecDepth 100000 in
/-- the reference: set -/
theorem y_set_v61 (l : Launch) (D : va_G) (cI cS : ClassId) (τ : Nat → Option Nat) (ρ : Nat → Nat → Nat) (hW : WF τ ρ) (H : Heap) (hT : TH D cI cS τ ρ H) (a0 : Nat) (x2 : Int32) (ha0 : τ a0 = some 12) : MV l D cI cS τ ρ yX12_set cX12_set 4 none 0 0 H [.ref a0, .int 1, .int 0, .int x2] (fun (u : Heap) => (AU 985 H u (ρ a0 0) 288 x2)) (fun q => q = ρ a0 0) := by
  refine MV.of (by decide) (Nat.le_of_ble_eq_true rfl) ?_
  intro p e s m args below meth c E hml hr hlk hs ls hl
  have hx := E.1
  have hb := E.2.1
  have hown := E.2.2.1
  have hts := E.2.2.2.1
  have hS : SS (fun q => q = ρ a0 0) H H [] := SS.rf
  have hl : lv_has ls 4 [(0, .ref a0), (1, .int 1), (2, .int 0), (3, .int x2)] := hl
  refine lv_aload_n hx hb dX12_set_0 rfl (lv_at hl 0 rfl) ?_
  refine gf_X12_7 E hT hW ha0 dX12_set_1 (fun h_1 => ?_)
  refine lv_sipush (v := 288) hx hb dX12_set_4 (by decide) ?_
  refine lv_iload_n hx hb dX12_set_7 rfl (lv_at hl 1 rfl) ?_
  refine lv_imul hx hb dX12_set_8 ?_
  refine th_topi (y := 288) (by decide) ?_
  refine lv_iload_n hx hb dX12_set_9 rfl (lv_at hl 2 rfl) ?_
  refine lv_iadd hx hb dX12_set_10 ?_
  refine th_topi (y := 288) (by decide) ?_
  refine lv_iload_n hx hb dX12_set_11 rfl (lv_at hl 3 rfl) ?_
  refine th_iast E hT hS h_1 rfl (by decide) (vp_in_iff.mpr ⟨by decide, by decide⟩) dX12_set_12 (fun H_2 locs_2 hT_2 hU_2 hS_2 => ?_)
  have hU_2 : AU 985 H H_2 (ρ a0 0) 288 x2 := hU_2
  exact th_vret E hr hlk hs hT_2 hS_2 hU_2 dX12_set_13
set_option maxHeartbeats 4000000 in
set_option maxRecDepth 100000 in
/-- the reference: isByeSent -/
theorem y_isByeSent_v2 (l : Launch) (D : va_G) (cI cS : ClassId) (τ : Nat → Option Nat) (ρ : Nat → Nat → Nat) (hW : WF τ ρ) (H : Heap) (hT : TH D cI cS τ ρ H) (a0 : Nat) (ha0 : τ a0 = some 12) (N : Int) (hN0 : 0 ≤ N) (hN1 : N ≤ 600) (hI : IM D ρ N H a0) : MI l D cI cS τ ρ yX12_isByeSent cX12_isByeSent 2 (some .boolean) 1 22 H [.ref a0, .int 1] (fun (r : Int32) (u : Heap) => (H = u) ∧ (r = 0 ∨ r = 1)) (fun q => False) := by
  refine MI.of (by decide) (Nat.le_of_ble_eq_true rfl) ?_
  intro p e s m args below meth c E hml hr hlk hs ls hl
  have hx := E.1
  have hb := E.2.1
  have hown := E.2.2.1
  have hts := E.2.2.2.1
  have hS : SS (fun q => False) H H [] := SS.rf
  have hl : lv_has ls 2 [(0, .ref a0), (1, .int 1)] := hl
  have n01 := hI.2.2.2.2.2.1
  have n23 := hI.2.2.2.2.2.2.1
  refine lv_aload_n hx hb dX12_isByeSent_0 rfl (lv_at hl 0 rfl) ?_
  refine lv_iload_n hx hb dX12_isByeSent_1 rfl (lv_at hl 1 rfl) ?_
  refine lv_bipush (v := 13) hx hb dX12_isByeSent_2 (by decide) ?_
  refine th_Vi (As := [.int 1, .int 13]) (rest := []) E hml hl.1 (y_get_v34 l D cI cS τ ρ hW H hT a0 ha0) lk_X12_99 yd_X12_get hT ha0 rfl (by decide) hS (fun _ h => h.elim) ⟨by decide, by decide⟩ (Nat.le_of_ble_eq_true rfl) ⟨by decide, by decide⟩ rfl dX12_isByeSent_4 (fun r_1 H_1 locs_1 p_1 hT_1 hk_1 hS_1 => ?_)
  have p_1 : H = H_1 ∧ (ai H (ρ a0 0) 301 = r_1) := p_1
  obtain ⟨rfl, p_1_0⟩ := p_1
  have c_r_1 := congrArg Int32.toInt p_1_0
  refine lv_iconst (v := 1) hx hb dX12_isByeSent_7 (by decide) ?_
  refine lv_icmp_ne (tgt := 32) hx hb dX12_isByeSent_8 (by decide) (fun c_2 => ?_) (fun c_2 => ?_)
  · have f_2 : ¬ r_1.toInt = 1 := r_ne rfl (by decide) c_2
    refine lv_iconst (v := 0) hx hb dX12_isByeSent_32 (by decide) ?_
    exact th_zret E hr hlk hs (Or.inl rfl) hT_1 hS_1 ⟨rfl, (Or.inl rfl)⟩ dX12_isByeSent_33
  · have f_2 : r_1.toInt = 1 := r_eq rfl (by decide) c_2
    refine lv_aload_n hx hb dX12_isByeSent_11 rfl (lv_at hl 0 rfl) ?_
    refine lv_iload_n hx hb dX12_isByeSent_12 rfl (lv_at hl 1 rfl) ?_
    refine lv_iconst (v := 2) hx hb dX12_isByeSent_13 (by decide) ?_
    refine th_Vi (As := [.int 1, .int 2]) (rest := []) E hml hl.1 (y_get_v32 l D cI cS τ ρ hW H hT_1 a0 ha0) lk_X12_99 yd_X12_get hT_1 ha0 rfl (by decide) hS_1 (fun _ h => h.elim) ⟨by decide, by decide⟩ (Nat.le_of_ble_eq_true rfl) ⟨by decide, by decide⟩ rfl dX12_isByeSent_14 (fun r_3 H_3 locs_3 p_3 hT_3 hk_3 hS_3 => ?_)
    have p_3 : H = H_3 ∧ (ai H (ρ a0 0) 290 = r_3) := p_3
    obtain ⟨rfl, p_3_0⟩ := p_3
    have b_r_3 : 0 ≤ r_3.toInt ∧ r_3.toInt ≤ N + 2 := by rw [← p_3_0]; exact hI.1 290 (by decide)
    have c_r_3 := congrArg Int32.toInt p_3_0
    refine lv_aload_n hx hb dX12_isByeSent_17 rfl (lv_at hl 0 rfl) ?_
    refine lv_iload_n hx hb dX12_isByeSent_18 rfl (lv_at hl 1 rfl) ?_
    refine lv_iconst (v := 4) hx hb dX12_isByeSent_19 (by decide) ?_
    refine th_Vi (As := [.int 1, .int 4]) (rest := [.int r_3]) E hml hl.1 (y_get_v33 l D cI cS τ ρ hW H hT_3 a0 ha0) lk_X12_99 yd_X12_get hT_3 ha0 rfl (by decide) hS_3 (fun _ h => h.elim) ⟨by decide, by decide⟩ (Nat.le_of_ble_eq_true rfl) ⟨by decide, by decide⟩ rfl dX12_isByeSent_20 (fun r_4 H_4 locs_4 p_4 hT_4 hk_4 hS_4 => ?_)
    have p_4 : H = H_4 ∧ (ai H (ρ a0 0) 292 = r_4) := p_4
    obtain ⟨rfl, p_4_0⟩ := p_4
    have b_r_4 : 0 ≤ r_4.toInt ∧ r_4.toInt ≤ N := by rw [← p_4_0]; exact hI.1 292 (by decide)
    have c_r_4 := congrArg Int32.toInt p_4_0
    refine lv_iconst (v := 2) hx hb dX12_isByeSent_23 (by decide) ?_
    refine lv_iadd hx hb dX12_isByeSent_24 ?_
    refine lv_topi (fun x_5 ex_5 => ?_)
    have q_5 : x_5.toInt = r_4.toInt + 2 := i_pl rfl (by decide) ex_5 (by omega) (by omega)
    refine lv_icmp_ne (tgt := 32) hx hb dX12_isByeSent_25 (by decide) (fun c_6 => ?_) (fun c_6 => ?_)
    · have f_6 : ¬ r_3.toInt = x_5.toInt := r_ne rfl rfl c_6
      refine lv_iconst (v := 0) hx hb dX12_isByeSent_32 (by decide) ?_
      exact th_zret E hr hlk hs (Or.inl rfl) hT_4 hS_4 ⟨rfl, (Or.inl rfl)⟩ dX12_isByeSent_33
    · have f_6 : r_3.toInt = x_5.toInt := r_eq rfl rfl c_6
      refine lv_iconst (v := 1) hx hb dX12_isByeSent_28 (by decide) ?_
      refine lv_goto (tgt := 33) hx hb dX12_isByeSent_29 (by decide) ?_
      exact th_zret E hr hlk hs (Or.inr rfl) hT_4 hS_4 ⟨rfl, (Or.inr rfl)⟩ dX12_isByeSent_33
set_option maxHeartbeats 4000000 in
set_option maxRecDepth 100000 in
/-- the reference: set -/
theorem y_set_v62 (l : Launch) (D : va_G) (cI cS : ClassId) (τ : Nat → Option Nat) (ρ : Nat → Nat → Nat) (hW : WF τ ρ) (H : Heap) (hT : TH D cI cS τ ρ H) (a0 : Nat) (ha0 : τ a0 = some 12) : MV l D cI cS τ ρ yX12_set cX12_set 4 none 0 0 H [.ref a0, .int 1, .int 0, .int 6] (fun (u : Heap) => (AU 985 H u (ρ a0 0) 288 (6))) (fun q => q = ρ a0 0) := by
  refine MV.of (by decide) (Nat.le_of_ble_eq_true rfl) ?_
  intro p e s m args below meth c E hml hr hlk hs ls hl
  have hx := E.1
  have hb := E.2.1
  have hown := E.2.2.1
  have hts := E.2.2.2.1
  have hS : SS (fun q => q = ρ a0 0) H H [] := SS.rf
  have hl : lv_has ls 4 [(0, .ref a0), (1, .int 1), (2, .int 0), (3, .int 6)] := hl
  refine lv_aload_n hx hb dX12_set_0 rfl (lv_at hl 0 rfl) ?_
  refine gf_X12_7 E hT hW ha0 dX12_set_1 (fun h_1 => ?_)
  refine lv_sipush (v := 288) hx hb dX12_set_4 (by decide) ?_
  refine lv_iload_n hx hb dX12_set_7 rfl (lv_at hl 1 rfl) ?_
  refine lv_imul hx hb dX12_set_8 ?_
  refine th_topi (y := 288) (by decide) ?_
  refine lv_iload_n hx hb dX12_set_9 rfl (lv_at hl 2 rfl) ?_
  refine lv_iadd hx hb dX12_set_10 ?_
  refine th_topi (y := 288) (by decide) ?_
  refine lv_iload_n hx hb dX12_set_11 rfl (lv_at hl 3 rfl) ?_
  refine th_iast E hT hS h_1 rfl (by decide) (vp_in_iff.mpr ⟨by decide, by decide⟩) dX12_set_12 (fun H_2 locs_2 hT_2 hU_2 hS_2 => ?_)
  have hU_2 : AU 985 H H_2 (ρ a0 0) 288 (6) := hU_2
  exact th_vret E hr hlk hs hT_2 hS_2 hU_2 dX12_set_13
set_option maxHeartbeats 4000000 in
set_option maxRecDepth 100000 in
/-- the reference: get -/
theorem y_get_v38 (l : Launch) (D : va_G) (cI cS : ClassId) (τ : Nat → Option Nat) (ρ : Nat → Nat → Nat) (hW : WF τ ρ) (H : Heap) (hT : TH D cI cS τ ρ H) (a0 : Nat) (ha0 : τ a0 = some 12) : MI l D cI cS τ ρ yX12_get cX12_get 3 (some .int) 0 0 H [.ref a0, .int 1, .int 15] (fun (r : Int32) (u : Heap) => (H = u) ∧ (ai H (ρ a0 0) 303 = r)) (fun q => False) := by
  refine MI.of (by decide) (Nat.le_of_ble_eq_true rfl) ?_
  intro p e s m args below meth c E hml hr hlk hs ls hl
  have hx := E.1
  have hb := E.2.1
  have hown := E.2.2.1
  have hts := E.2.2.2.1
  have hS : SS (fun q => False) H H [] := SS.rf
  have hl : lv_has ls 3 [(0, .ref a0), (1, .int 1), (2, .int 15)] := hl
  refine lv_aload_n hx hb dX12_get_0 rfl (lv_at hl 0 rfl) ?_
  refine gf_X12_7 E hT hW ha0 dX12_get_1 (fun h_1 => ?_)
  refine lv_sipush (v := 288) hx hb dX12_get_4 (by decide) ?_
  refine lv_iload_n hx hb dX12_get_7 rfl (lv_at hl 1 rfl) ?_
  refine lv_imul hx hb dX12_get_8 ?_
  refine th_topi (y := 288) (by decide) ?_
  refine lv_iload_n hx hb dX12_get_9 rfl (lv_at hl 2 rfl) ?_
  refine lv_iadd hx hb dX12_get_10 ?_
  refine th_topi (y := 303) (by decide) ?_
  refine th_iald E hT h_1 (by decide) (vp_in_iff.mpr ⟨by decide, by decide⟩) dX12_get_11 ?_
  refine th_topi (y := ai H (ρ a0 0) 303) rfl ?_
  refine lv_topi (fun x_2 ex_2 => ?_)
  have c_x_2 := congrArg Int32.toInt ex_2.symm
  exact th_iret E hr hlk hs hT hS ⟨rfl, ex_2.symm⟩ dX12_get_12
set_option maxHeartbeats 4000000 in
set_option maxRecDepth 100000 in
/-- the reference: set -/
theorem y_set_v63 (l : Launch) (D : va_G) (cI cS : ClassId) (τ : Nat → Option Nat) (ρ : Nat → Nat → Nat) (hW : WF τ ρ) (H : Heap) (hT : TH D cI cS τ ρ H) (a0 : Nat) (x2 : Int32) (ha0 : τ a0 = some 12) : MV l D cI cS τ ρ yX12_set cX12_set 4 none 0 0 H [.ref a0, .int 1, .int 15, .int x2] (fun (u : Heap) => (AU 985 H u (ρ a0 0) 303 x2)) (fun q => q = ρ a0 0) := by
  refine MV.of (by decide) (Nat.le_of_ble_eq_true rfl) ?_
  intro p e s m args below meth c E hml hr hlk hs ls hl
  have hx := E.1
  have hb := E.2.1
  have hown := E.2.2.1
  have hts := E.2.2.2.1
  have hS : SS (fun q => q = ρ a0 0) H H [] := SS.rf
  have hl : lv_has ls 4 [(0, .ref a0), (1, .int 1), (2, .int 15), (3, .int x2)] := hl
  refine lv_aload_n hx hb dX12_set_0 rfl (lv_at hl 0 rfl) ?_
  refine gf_X12_7 E hT hW ha0 dX12_set_1 (fun h_1 => ?_)
  refine lv_sipush (v := 288) hx hb dX12_set_4 (by decide) ?_
  refine lv_iload_n hx hb dX12_set_7 rfl (lv_at hl 1 rfl) ?_
  refine lv_imul hx hb dX12_set_8 ?_
  refine th_topi (y := 288) (by decide) ?_
  refine lv_iload_n hx hb dX12_set_9 rfl (lv_at hl 2 rfl) ?_
  refine lv_iadd hx hb dX12_set_10 ?_
  refine th_topi (y := 303) (by decide) ?_
  refine lv_iload_n hx hb dX12_set_11 rfl (lv_at hl 3 rfl) ?_
  refine th_iast E hT hS h_1 rfl (by decide) (vp_in_iff.mpr ⟨by decide, by decide⟩) dX12_set_12 (fun H_2 locs_2 hT_2 hU_2 hS_2 => ?_)
  have hU_2 : AU 985 H H_2 (ρ a0 0) 303 x2 := hU_2
  exact th_vret E hr hlk hs hT_2 hS_2 hU_2 dX12_set_13
set_option maxHeartbeats 4000000 in
set_option maxRecDepth 100000 in
/-- the reference: takesIn -/
theorem y_takesIn_v2 (l : Launch) (D : va_G) (cI cS : ClassId) (τ : Nat → Option Nat) (ρ : Nat → Nat → Nat) (hW : WF τ ρ) (H : Heap) (hT : TH D cI cS τ ρ H) (a0 : Nat) (x1 : Int32) (x2 : Int32) (ha0 : τ a0 = some 12) (N : Int) (hN0 : 0 ≤ N) (hN1 : N ≤ 600) (hI : IM D ρ N H a0) (hp0 : -128 ≤ x1.toInt ∧ x1.toInt ≤ 827) (hp1 : -1000 ≤ x2.toInt ∧ x2.toInt ≤ N + 2) : MI l D cI cS τ ρ yX12_takesIn cX12_takesIn 6 (some .int) 9 212 H [.ref a0, .int 1, .int x1, .int x2] (fun (r : Int32) (u : Heap) => (IM D ρ N u a0) ∧ ((ai H (ρ a0 0) 976).toInt ≤ (ai u (ρ a0 0) 976).toInt)) (fun q => q = ρ a0 0 ∨ q = ρ a0 2) := by
  refine MI.of (by decide) (Nat.le_of_ble_eq_true rfl) ?_
  intro p e s m args below meth c E hml hr hlk hs ls hl
  have hx := E.1
  have hb := E.2.1
  have hown := E.2.2.1
  have hts := E.2.2.2.1
  have hS : SS (fun q => q = ρ a0 0 ∨ q = ρ a0 2) H H [] := SS.rf
  have hl : lv_has ls 6 [(0, .ref a0), (1, .int 1), (2, .int x1), (3, .int x2)] := hl
  have n01 := hI.2.2.2.2.2.1
  have n23 := hI.2.2.2.2.2.2.1
  have J_243 : ∀ (H_c243 : Heap) (lc_c243 : List Loc) (ls : Array Slot) (y243_4 : Int32), TH D cI cS τ ρ H_c243 → SS (fun q => q = ρ a0 0 ∨ q = ρ a0 2) H H_c243 lc_c243 → lv_has ls 6 [(0, .ref a0), (1, .int 1), (2, .int x1), (3, .int x2), (4, .int y243_4)] → -128 ≤ x1.toInt → x1.toInt ≤ 827 → -1000 ≤ x2.toInt → x2.toInt ≤ 602 → y243_4 = 0 ∨ y243_4 = 1 → IM D ρ N H_c243 a0 → (ai H (ρ a0 0) 976).toInt ≤ (ai H_c243 (ρ a0 0) 976).toInt → W p l e (rmO 9 212) s m args below meth c H_c243 lc_c243 0 0 (MQ below (va_Qi (fun (r : Int32) (u : Heap) => (IM D ρ N u a0) ∧ ((ai H (ρ a0 0) 976).toInt ≤ (ai u (ρ a0 0) 976).toInt)) (Bt D cI cS τ ρ H) (fun q => q = ρ a0 0 ∨ q = ρ a0 2)) args s 0 0 (fun q => q = ρ a0 0 ∨ q = ρ a0 2)) (F0 m 243 ls []) := by
    intro H_c243 lc_c243 ls y243_4 hT_c243 hS_c243 hl ly243_2 uy243_2 ly243_3 uy243_3 by243_4 hI_c243 hmn_c243
    have z_y243_4 := b_iv by243_4
    refine lv_aload_n hx hb dX12_takesIn_243 rfl (lv_at hl 0 rfl) ?_
    refine lv_iload_n hx hb dX12_takesIn_244 rfl (lv_at hl 1 rfl) ?_
    refine th_Vv (As := [.int 1]) (rest := []) E hml hl.1 (y_goesOn_v2 l D cI cS τ ρ hW H_c243 hT_c243 a0 ha0 N hN0 hN1 ⟨hI_c243.1, hI_c243.2.1, hI_c243.2.2.1, hI_c243.2.2.2.1, hI_c243.2.2.2.2.1, hI_c243.2.2.2.2.2⟩) lk_X12_177 yd_X12_goesOn hT_c243 ha0 rfl (by decide) hS_c243 (fun q => (fun h => h.elim (fun h => (Or.inr h)) (fun h => (Or.inl h)))) ⟨by decide, by decide⟩ (Nat.le_of_ble_eq_true rfl) ⟨by decide, by decide⟩ rfl dX12_takesIn_245 (fun H_1 locs_1 p_1 hT_1 hk_1 hS_1 => ?_)
    have p_1 : (IM D ρ N H_1 a0) ∧ ((ai H_c243 (ρ a0 0) 976).toInt ≤ (ai H_1 (ρ a0 0) 976).toInt) := p_1
    obtain ⟨p_1_0, p_1_1⟩ := p_1
    have mn_1 : (ai H_c243 (ρ a0 0) 976).toInt ≤ (ai H_1 (ρ a0 0) 976).toInt := by exact p_1_1
    refine lv_iconst (v := 1) hx hb dX12_takesIn_248 (by decide) ?_
    exact th_iret E hr hlk hs hT_1 hS_1 ⟨⟨p_1_0.1, p_1_0.2.1, p_1_0.2.2.1, p_1_0.2.2.2.1, p_1_0.2.2.2.2.1, p_1_0.2.2.2.2.2⟩, (by omega)⟩ dX12_takesIn_249
  have J_231 : ∀ (H_c231 : Heap) (lc_c231 : List Loc) (ls : Array Slot) (y231_4 : Int32), TH D cI cS τ ρ H_c231 → SS (fun q => q = ρ a0 0 ∨ q = ρ a0 2) H H_c231 lc_c231 → lv_has ls 6 [(0, .ref a0), (1, .int 1), (2, .int x1), (3, .int x2), (4, .int y231_4)] → -128 ≤ x1.toInt → x1.toInt ≤ 827 → -1000 ≤ x2.toInt → x2.toInt ≤ 602 → y231_4 = 0 ∨ y231_4 = 1 → IM D ρ N H_c231 a0 → (ai H (ρ a0 0) 976).toInt ≤ (ai H_c231 (ρ a0 0) 976).toInt → W p l e (rmO 9 212) s m args below meth c H_c231 lc_c231 0 0 (MQ below (va_Qi (fun (r : Int32) (u : Heap) => (IM D ρ N u a0) ∧ ((ai H (ρ a0 0) 976).toInt ≤ (ai u (ρ a0 0) 976).toInt)) (Bt D cI cS τ ρ H) (fun q => q = ρ a0 0 ∨ q = ρ a0 2)) args s 0 0 (fun q => q = ρ a0 0 ∨ q = ρ a0 2)) (F0 m 231 ls []) := by
    intro H_c231 lc_c231 ls y231_4 hT_c231 hS_c231 hl ly231_2 uy231_2 ly231_3 uy231_3 by231_4 hI_c231 hmn_c231
    have z_y231_4 := b_iv by231_4
    refine lv_aload_n hx hb dX12_takesIn_231 rfl (lv_at hl 0 rfl) ?_
    refine th_Vi (As := []) (rest := []) E hml hl.1 (y_lengthOfIt l D cI cS τ ρ hW H_c231 hT_c231 a0 ha0) lk_X12_136 yd_X12_lengthOfIt hT_c231 ha0 rfl (by decide) hS_c231 (fun _ h => h.elim) ⟨by decide, by decide⟩ (Nat.le_of_ble_eq_true rfl) ⟨by decide, by decide⟩ rfl dX12_takesIn_232 (fun r_2 H_2 locs_2 p_2 hT_2 hk_2 hS_2 => ?_)
    have p_2 : H_c231 = H_2 := p_2
    obtain rfl := p_2
    refine lv_if_le (tgt := 243) hx hb dX12_takesIn_235 (by decide) (fun c_3 => ?_) (fun c_3 => ?_)
    · have f_3 : r_2.toInt ≤ 0 := r_le rfl (by decide) c_3
      exact J_243 H_c231 locs_2 _ y231_4 hT_2 hS_2 hl (by omega) (by omega) (by omega) (by omega) by231_4 ⟨hI_c231.1, hI_c231.2.1, hI_c231.2.2.1, hI_c231.2.2.2.1, hI_c231.2.2.2.2.1, hI_c231.2.2.2.2.2⟩ (by omega)
    · have f_3 : 0 < r_2.toInt := r_nle rfl (by decide) c_3
      refine lv_aload_n hx hb dX12_takesIn_238 rfl (lv_at hl 0 rfl) ?_
      refine lv_iload_n hx hb dX12_takesIn_239 rfl (lv_at hl 1 rfl) ?_
      refine th_Vv (As := [.int 1]) (rest := []) E hml hl.1 (y_yes_v2 l D cI cS τ ρ hW H_c231 hT_2 a0 ha0 N hN0 hN1 ⟨hI_c231.1, hI_c231.2.1, hI_c231.2.2.1, hI_c231.2.2.2.1, hI_c231.2.2.2.2.1, hI_c231.2.2.2.2.2⟩) lk_X12_193 yd_X12_yes hT_2 ha0 rfl (by decide) hS_2 (fun q => (fun h => h.elim (fun h => (Or.inr h)) (fun h => (Or.inl h)))) ⟨by decide, by decide⟩ (Nat.le_of_ble_eq_true rfl) ⟨by decide, by decide⟩ rfl dX12_takesIn_240 (fun H_4 locs_4 p_4 hT_4 hk_4 hS_4 => ?_)
      have p_4 : (IM D ρ N H_4 a0) ∧ ((ai H_c231 (ρ a0 0) 976).toInt ≤ (ai H_4 (ρ a0 0) 976).toInt) := p_4
      obtain ⟨p_4_0, p_4_1⟩ := p_4
      have mn_4 : (ai H_c231 (ρ a0 0) 976).toInt ≤ (ai H_4 (ρ a0 0) 976).toInt := by exact p_4_1
      exact J_243 H_4 locs_4 _ y231_4 hT_4 hS_4 hl (by omega) (by omega) (by omega) (by omega) by231_4 ⟨p_4_0.1, p_4_0.2.1, p_4_0.2.2.1, p_4_0.2.2.2.1, p_4_0.2.2.2.2.1, p_4_0.2.2.2.2.2⟩ (by omega)
  have J_202 : ∀ (H_c202 : Heap) (lc_c202 : List Loc) (ls : Array Slot) (y202_4 : Int32), TH D cI cS τ ρ H_c202 → SS (fun q => q = ρ a0 0 ∨ q = ρ a0 2) H H_c202 lc_c202 → lv_has ls 6 [(0, .ref a0), (1, .int 1), (2, .int x1), (3, .int x2), (4, .int y202_4)] → -128 ≤ x1.toInt → x1.toInt ≤ 827 → -1000 ≤ x2.toInt → x2.toInt ≤ 602 → y202_4 = 0 ∨ y202_4 = 1 → IM D ρ N H_c202 a0 → (ai H (ρ a0 0) 976).toInt ≤ (ai H_c202 (ρ a0 0) 976).toInt → W p l e (rmO 9 212) s m args below meth c H_c202 lc_c202 0 0 (MQ below (va_Qi (fun (r : Int32) (u : Heap) => (IM D ρ N u a0) ∧ ((ai H (ρ a0 0) 976).toInt ≤ (ai u (ρ a0 0) 976).toInt)) (Bt D cI cS τ ρ H) (fun q => q = ρ a0 0 ∨ q = ρ a0 2)) args s 0 0 (fun q => q = ρ a0 0 ∨ q = ρ a0 2)) (F0 m 202 ls []) := by
    intro H_c202 lc_c202 ls y202_4 hT_c202 hS_c202 hl ly202_2 uy202_2 ly202_3 uy202_3 by202_4 hI_c202 hmn_c202
    have z_y202_4 := b_iv by202_4
    refine lv_aload_n hx hb dX12_takesIn_202 rfl (lv_at hl 0 rfl) ?_
    refine lv_iload_n hx hb dX12_takesIn_203 rfl (lv_at hl 1 rfl) ?_
    refine lv_iconst (v := 0) hx hb dX12_takesIn_204 (by decide) ?_
    refine th_Vi (As := [.int 1, .int 0]) (rest := []) E hml hl.1 (y_get_v20 l D cI cS τ ρ hW H_c202 hT_c202 a0 ha0) lk_X12_99 yd_X12_get hT_c202 ha0 rfl (by decide) hS_c202 (fun _ h => h.elim) ⟨by decide, by decide⟩ (Nat.le_of_ble_eq_true rfl) ⟨by decide, by decide⟩ rfl dX12_takesIn_205 (fun r_5 H_5 locs_5 p_5 hT_5 hk_5 hS_5 => ?_)
    have p_5 : H_c202 = H_5 ∧ (ai H_c202 (ρ a0 0) 288 = r_5) := p_5
    obtain ⟨rfl, p_5_0⟩ := p_5
    have c_r_5 := congrArg Int32.toInt p_5_0
    refine lv_bipush (v := 10) hx hb dX12_takesIn_208 (by decide) ?_
    refine lv_icmp_ne (tgt := 231) hx hb dX12_takesIn_210 (by decide) (fun c_6 => ?_) (fun c_6 => ?_)
    · have f_6 : ¬ r_5.toInt = 10 := r_ne rfl (by decide) c_6
      exact J_231 H_c202 locs_5 _ y202_4 hT_5 hS_5 hl (by omega) (by omega) (by omega) (by omega) by202_4 ⟨hI_c202.1, hI_c202.2.1, hI_c202.2.2.1, hI_c202.2.2.2.1, hI_c202.2.2.2.2.1, hI_c202.2.2.2.2.2⟩ (by omega)
    · have f_6 : r_5.toInt = 10 := r_eq rfl (by decide) c_6
      refine lv_iload hx hb dX12_takesIn_213 (lv_at hl 4 rfl) ?_
      refine lv_if_ne (tgt := 231) hx hb dX12_takesIn_215 (by decide) (fun c_7 => ?_) (fun c_7 => ?_)
      · have f_7 : ¬ y202_4.toInt = 0 := r_ne rfl (by decide) c_7
        have nz_y202_4 : ¬ y202_4 = 0 := c_7
        exact J_231 H_c202 locs_5 _ y202_4 hT_5 hS_5 hl (by omega) (by omega) (by omega) (by omega) by202_4 ⟨hI_c202.1, hI_c202.2.1, hI_c202.2.2.1, hI_c202.2.2.2.1, hI_c202.2.2.2.2.1, hI_c202.2.2.2.2.2⟩ (by omega)
      · have f_7 : y202_4.toInt = 0 := r_eq rfl (by decide) c_7
        refine lv_aload_n hx hb dX12_takesIn_218 rfl (lv_at hl 0 rfl) ?_
        refine lv_iload_n hx hb dX12_takesIn_219 rfl (lv_at hl 1 rfl) ?_
        refine lv_bipush (v := 12) hx hb dX12_takesIn_220 (by decide) ?_
        refine lv_iconst (v := 2) hx hb dX12_takesIn_222 (by decide) ?_
        refine lv_aload_n hx hb dX12_takesIn_223 rfl (lv_at hl 0 rfl) ?_
        refine gf_X12_32 E hT_5 ha0 dX12_takesIn_224 ?_
        refine lv_topi (fun x_8 ex_8 => ?_)
        have b_8 : 1 ≤ x_8.toInt ∧ x_8.toInt ≤ 20 := by rw [ex_8]; exact IF.f8 hI_c202.2.2.2.2.2
        refine lv_imul hx hb dX12_takesIn_227 ?_
        refine lv_topi (fun x_9 ex_9 => ?_)
        have q_9 : x_9.toInt = 2 * x_8.toInt := i_ml (by decide) rfl ex_9 (by omega) (by omega)
        refine th_Vv (As := [.int 1, .int 12, .int x_9]) (rest := []) E hml hl.1 (y_set_v60 l D cI cS τ ρ hW H_c202 hT_5 a0 x_9 ha0) lk_X12_95 yd_X12_set hT_5 ha0 rfl (by decide) hS_5 (fun q h => (Or.inl h)) ⟨by decide, by decide⟩ (Nat.le_of_ble_eq_true rfl) ⟨by decide, by decide⟩ rfl dX12_takesIn_228 (fun H_10 locs_10 p_10 hT_10 hk_10 hS_10 => ?_)
        have p_10 : (AU 985 H_c202 H_10 (ρ a0 0) 300 x_9) := p_10
        have hW_10 : PW N H_10 (ρ a0 0) := PW.put hI_c202.1 p_10 (by show (-2147483648 : Int) ≤ _; exact i_min _) (by show _ ≤ (2147483647 : Int); exact i_max _)
        exact J_231 H_10 locs_10 _ y202_4 hT_10 hS_10 hl (by omega) (by omega) (by omega) (by omega) by202_4 ⟨hW_10, (QS.same (AU.o p_10 (by decide) (by decide)) (AU.o p_10 (by decide) (by decide)) hI_c202.2.1), (QS.same ((Eq.trans (AU.o p_10 (by decide) (by decide)) p_5_0).trans p_5_0.symm) (AU.o p_10 (by decide) (by decide)) hI_c202.2.2.1), (PL.q (p_10.2 _ (th_ne (hW _ 12 2 ha0 (by decide) (by decide) (by decide)) (hW _ 12 0 ha0 (by decide) (by decide) (by decide)) (by decide))) hI_c202.2.2.2.1), (PL.q (p_10.2 _ (th_ne (hW _ 12 3 ha0 (by decide) (by decide) (by decide)) (hW _ 12 0 ha0 (by decide) (by decide) (by decide)) (by decide))) hI_c202.2.2.2.2.1), (IF.q (p_10.2 _ (th_ne ha0 (hW _ 12 0 ha0 (by decide) (by decide) (by decide)) (by decide))) hI_c202.2.2.2.2.2)⟩ (by rw [(AU.o p_10 (by decide) (by decide))]; omega)
  have J_177 : ∀ (H_c177 : Heap) (lc_c177 : List Loc) (ls : Array Slot) (y177_4 : Int32), TH D cI cS τ ρ H_c177 → SS (fun q => q = ρ a0 0 ∨ q = ρ a0 2) H H_c177 lc_c177 → lv_has ls 6 [(0, .ref a0), (1, .int 1), (2, .int x1), (3, .int x2), (4, .int y177_4)] → -128 ≤ x1.toInt → x1.toInt ≤ 827 → -1000 ≤ x2.toInt → x2.toInt ≤ 602 → y177_4 = 0 ∨ y177_4 = 1 → IM D ρ N H_c177 a0 → (ai H (ρ a0 0) 976).toInt ≤ (ai H_c177 (ρ a0 0) 976).toInt → W p l e (rmO 9 212) s m args below meth c H_c177 lc_c177 0 0 (MQ below (va_Qi (fun (r : Int32) (u : Heap) => (IM D ρ N u a0) ∧ ((ai H (ρ a0 0) 976).toInt ≤ (ai u (ρ a0 0) 976).toInt)) (Bt D cI cS τ ρ H) (fun q => q = ρ a0 0 ∨ q = ρ a0 2)) args s 0 0 (fun q => q = ρ a0 0 ∨ q = ρ a0 2)) (F0 m 177 ls []) := by
    intro H_c177 lc_c177 ls y177_4 hT_c177 hS_c177 hl ly177_2 uy177_2 ly177_3 uy177_3 by177_4 hI_c177 hmn_c177
    have z_y177_4 := b_iv by177_4
    refine lv_aload_n hx hb dX12_takesIn_177 rfl (lv_at hl 0 rfl) ?_
    refine lv_iload_n hx hb dX12_takesIn_178 rfl (lv_at hl 1 rfl) ?_
    refine lv_iconst (v := 0) hx hb dX12_takesIn_179 (by decide) ?_
    refine th_Vi (As := [.int 1, .int 0]) (rest := []) E hml hl.1 (y_get_v20 l D cI cS τ ρ hW H_c177 hT_c177 a0 ha0) lk_X12_99 yd_X12_get hT_c177 ha0 rfl (by decide) hS_c177 (fun _ h => h.elim) ⟨by decide, by decide⟩ (Nat.le_of_ble_eq_true rfl) ⟨by decide, by decide⟩ rfl dX12_takesIn_180 (fun r_11 H_11 locs_11 p_11 hT_11 hk_11 hS_11 => ?_)
    have p_11 : H_c177 = H_11 ∧ (ai H_c177 (ρ a0 0) 288 = r_11) := p_11
    obtain ⟨rfl, p_11_0⟩ := p_11
    have c_r_11 := congrArg Int32.toInt p_11_0
    obtain ⟨x_12, ex_12⟩ : ∃ y : Int64, r_11.toInt64 = y := ⟨_, rfl⟩
    refine lv_i2l (v := x_12) hx hb dX12_takesIn_183 ex_12 ?_
    have q_12 : x_12.toInt = r_11.toInt := by rw [← ex_12]; exact Int32.toInt_toInt64 _
    refine lv_ldc2 (v := 4) hx hb hown (hts _ qw_1211) dX12_takesIn_184 ?_
    refine lv_ldc2 (v := 6) hx hb hown (hts _ qw_1212) dX12_takesIn_187 ?_
    refine th_Si (As := [.long x_12, .long 4, .long 6]) (rest := []) E hml hl.1 (y_in_v2 l D cI cS τ ρ hW H_c177 hT_11 x_12) lk_X12_54 yd_X12_in hS_11 (fun _ h => h.elim) ⟨by decide, by decide⟩ (Nat.le_of_ble_eq_true rfl) ⟨by decide, by decide⟩ rfl dX12_takesIn_190 (fun r_13 H_13 locs_13 p_13 hT_13 hk_13 hS_13 => ?_)
    have p_13 : H_c177 = H_13 ∧ (r_13 = 0 ∨ r_13 = 1) ∧ ((r_13.toInt = 1 ∧ 4 ≤ x_12.toInt ∧ x_12.toInt ≤ 6) ∨ (r_13.toInt = 0 ∧ (x_12.toInt < 4 ∨ 6 < x_12.toInt))) := p_13
    obtain ⟨rfl, p_13_0, p_13_1⟩ := p_13
    have z_13 := b_iv p_13_0
    refine lv_if_eq (tgt := 202) hx hb dX12_takesIn_193 (by decide) (fun c_14 => ?_) (fun c_14 => ?_)
    · have f_14 : r_13.toInt = 0 := r_eq rfl (by decide) c_14
      exact J_202 H_c177 locs_13 _ y177_4 hT_13 hS_13 hl (by omega) (by omega) (by omega) (by omega) by177_4 ⟨hI_c177.1, hI_c177.2.1, hI_c177.2.2.1, hI_c177.2.2.2.1, hI_c177.2.2.2.2.1, hI_c177.2.2.2.2.2⟩ (by omega)
    · have f_14 : ¬ r_13.toInt = 0 := r_ne rfl (by decide) c_14
      have nz_r_13 : ¬ r_13 = 0 := c_14
      refine lv_aload_n hx hb dX12_takesIn_196 rfl (lv_at hl 0 rfl) ?_
      refine lv_iload_n hx hb dX12_takesIn_197 rfl (lv_at hl 1 rfl) ?_
      refine lv_iload_n hx hb dX12_takesIn_198 rfl (lv_at hl 2 rfl) ?_
      refine th_Vv (As := [.int 1, .int x1]) (rest := []) E hml hl.1 (y_keeps l D cI cS τ ρ hW H_c177 hT_13 a0 x1 ha0 N hN0 hN1 ⟨hI_c177.1, hI_c177.2.1, hI_c177.2.2.1, hI_c177.2.2.2.1, hI_c177.2.2.2.2.1, hI_c177.2.2.2.2.2⟩ (by omega)) lk_X12_224 yd_X12_keeps hT_13 ha0 rfl (by decide) hS_13 (fun q h => (Or.inl h)) ⟨by decide, by decide⟩ (Nat.le_of_ble_eq_true rfl) ⟨by decide, by decide⟩ rfl dX12_takesIn_199 (fun H_15 locs_15 p_15 hT_15 hk_15 hS_15 => ?_)
      have p_15 : (IM D ρ N H_15 a0) ∧ ((ai H_c177 (ρ a0 0) 976).toInt ≤ (ai H_15 (ρ a0 0) 976).toInt) := p_15
      obtain ⟨p_15_0, p_15_1⟩ := p_15
      have mn_15 : (ai H_c177 (ρ a0 0) 976).toInt ≤ (ai H_15 (ρ a0 0) 976).toInt := by exact p_15_1
      exact J_202 H_15 locs_15 _ y177_4 hT_15 hS_15 hl (by omega) (by omega) (by omega) (by omega) by177_4 ⟨p_15_0.1, p_15_0.2.1, p_15_0.2.2.1, p_15_0.2.2.2.1, p_15_0.2.2.2.2.1, p_15_0.2.2.2.2.2⟩ (by omega)
  have J_128 : ∀ (H_c128 : Heap) (lc_c128 : List Loc) (ls : Array Slot) (y128_4 : Int32), TH D cI cS τ ρ H_c128 → SS (fun q => q = ρ a0 0 ∨ q = ρ a0 2) H H_c128 lc_c128 → lv_has ls 6 [(0, .ref a0), (1, .int 1), (2, .int x1), (3, .int x2), (4, .int y128_4)] → -128 ≤ x1.toInt → x1.toInt ≤ 827 → -1000 ≤ x2.toInt → x2.toInt ≤ 602 → y128_4 = 0 ∨ y128_4 = 1 → IM D ρ N H_c128 a0 → (ai H (ρ a0 0) 976).toInt ≤ (ai H_c128 (ρ a0 0) 976).toInt → W p l e (rmO 9 212) s m args below meth c H_c128 lc_c128 0 0 (MQ below (va_Qi (fun (r : Int32) (u : Heap) => (IM D ρ N u a0) ∧ ((ai H (ρ a0 0) 976).toInt ≤ (ai u (ρ a0 0) 976).toInt)) (Bt D cI cS τ ρ H) (fun q => q = ρ a0 0 ∨ q = ρ a0 2)) args s 0 0 (fun q => q = ρ a0 0 ∨ q = ρ a0 2)) (F0 m 128 ls []) := by
    intro H_c128 lc_c128 ls y128_4 hT_c128 hS_c128 hl ly128_2 uy128_2 ly128_3 uy128_3 by128_4 hI_c128 hmn_c128
    have z_y128_4 := b_iv by128_4
    refine lv_aload_n hx hb dX12_takesIn_128 rfl (lv_at hl 0 rfl) ?_
    refine gf_X12_19 E hT_c128 hW ha0 dX12_takesIn_129 (fun h_16 => ?_)
    refine lv_bipush (v := 7) hx hb dX12_takesIn_132 (by decide) ?_
    refine th_iald E hT_c128 h_16 (by decide) (vp_in_iff.mpr ⟨by decide, by decide⟩) dX12_takesIn_134 ?_
    refine th_topi (y := ai H_c128 (ρ a0 3) 7) rfl ?_
    refine lv_topi (fun x_17 ex_17 => ?_)
    have c_x_17 := congrArg Int32.toInt ex_17.symm
    refine lv_bipush (v := (-4)) hx hb dX12_takesIn_135 (by decide) ?_
    refine lv_icmp_eq (tgt := 177) hx hb dX12_takesIn_137 (by decide) (fun c_18 => ?_) (fun c_18 => ?_)
    · have f_18 : x_17.toInt = -4 := r_eq rfl (by decide) c_18
      exact J_177 H_c128 lc_c128 _ y128_4 hT_c128 hS_c128 hl (by omega) (by omega) (by omega) (by omega) by128_4 ⟨hI_c128.1, hI_c128.2.1, hI_c128.2.2.1, hI_c128.2.2.2.1, hI_c128.2.2.2.2.1, hI_c128.2.2.2.2.2⟩ (by omega)
    · have f_18 : ¬ x_17.toInt = -4 := r_ne rfl (by decide) c_18
      refine lv_aload_n hx hb dX12_takesIn_140 rfl (lv_at hl 0 rfl) ?_
      refine lv_iload_n hx hb dX12_takesIn_141 rfl (lv_at hl 1 rfl) ?_
      refine lv_bipush (v := 15) hx hb dX12_takesIn_142 (by decide) ?_
      refine lv_aload_n hx hb dX12_takesIn_144 rfl (lv_at hl 0 rfl) ?_
      refine lv_iload_n hx hb dX12_takesIn_145 rfl (lv_at hl 1 rfl) ?_
      refine lv_bipush (v := 15) hx hb dX12_takesIn_146 (by decide) ?_
      refine th_Vi (As := [.int 1, .int 15]) (rest := [.int 15, .int 1, .ref a0]) E hml hl.1 (y_get_v38 l D cI cS τ ρ hW H_c128 hT_c128 a0 ha0) lk_X12_99 yd_X12_get hT_c128 ha0 rfl (by decide) hS_c128 (fun _ h => h.elim) ⟨by decide, by decide⟩ (Nat.le_of_ble_eq_true rfl) ⟨by decide, by decide⟩ rfl dX12_takesIn_148 (fun r_19 H_19 locs_19 p_19 hT_19 hk_19 hS_19 => ?_)
      have p_19 : H_c128 = H_19 ∧ (ai H_c128 (ρ a0 0) 303 = r_19) := p_19
      obtain ⟨rfl, p_19_0⟩ := p_19
      have c_r_19 := congrArg Int32.toInt p_19_0
      refine lv_aload_n hx hb dX12_takesIn_151 rfl (lv_at hl 0 rfl) ?_
      refine lv_iconst (v := 1) hx hb dX12_takesIn_152 (by decide) ?_
      refine lv_iload_n hx hb dX12_takesIn_153 rfl (lv_at hl 1 rfl) ?_
      refine lv_isub hx hb dX12_takesIn_154 ?_
      refine th_topi (y := 0) (by decide) ?_
      refine lv_aload_n hx hb dX12_takesIn_155 rfl (lv_at hl 0 rfl) ?_
      refine gf_X12_19 E hT_19 hW ha0 dX12_takesIn_156 (fun h_20 => ?_)
      refine lv_bipush (v := 7) hx hb dX12_takesIn_159 (by decide) ?_
      refine th_iald E hT_19 h_20 (by decide) (vp_in_iff.mpr ⟨by decide, by decide⟩) dX12_takesIn_161 ?_
      refine th_topi (y := ai H_c128 (ρ a0 3) 7) rfl ?_
      refine th_topi (y := x_17) ex_17.symm ?_
      refine lv_aload_n hx hb dX12_takesIn_162 rfl (lv_at hl 0 rfl) ?_
      refine lv_iload_n hx hb dX12_takesIn_163 rfl (lv_at hl 1 rfl) ?_
      refine lv_iconst (v := 5) hx hb dX12_takesIn_164 (by decide) ?_
      refine th_Vi (As := [.int 1, .int 5]) (rest := [.int x_17, .int 0, .ref a0, .int r_19, .int 15, .int 1, .ref a0]) E hml hl.1 (y_get_v18 l D cI cS τ ρ hW H_c128 hT_19 a0 ha0) lk_X12_99 yd_X12_get hT_19 ha0 rfl (by decide) hS_19 (fun _ h => h.elim) ⟨by decide, by decide⟩ (Nat.le_of_ble_eq_true rfl) ⟨by decide, by decide⟩ rfl dX12_takesIn_165 (fun r_22 H_22 locs_22 p_22 hT_22 hk_22 hS_22 => ?_)
      have p_22 : H_c128 = H_22 ∧ (ai H_c128 (ρ a0 0) 293 = r_22) := p_22
      obtain ⟨rfl, p_22_0⟩ := p_22
      have b_r_22 : 0 ≤ r_22.toInt ∧ r_22.toInt ≤ N + 33 := by rw [← p_22_0]; exact hI_c128.1 293 (by decide)
      have c_r_22 := congrArg Int32.toInt p_22_0
      refine th_Vi (As := [.int 0, .int x_17, .int r_22]) (rest := [.int r_19, .int 15, .int 1, .ref a0]) E hml hl.1 (y_means l D cI cS τ ρ hW H_c128 hT_22 a0 x_17 r_22 ha0 (by omega)) lk_X12_208 yd_X12_means hT_22 ha0 rfl (by decide) hS_22 (fun _ h => h.elim) ⟨by decide, by decide⟩ (Nat.le_of_ble_eq_true rfl) ⟨by decide, by decide⟩ rfl dX12_takesIn_168 (fun r_23 H_23 locs_23 p_23 hT_23 hk_23 hS_23 => ?_)
      have p_23 : H_c128 = H_23 ∧ (r_22.toInt - 128 ≤ r_23.toInt ∧ r_23.toInt ≤ r_22.toInt + 127) := p_23
      obtain ⟨rfl, p_23_0⟩ := p_23
      refine th_Si (As := [.int r_19, .int r_23]) (rest := [.int 15, .int 1, .ref a0]) E hml hl.1 (y_greater_v3 l D cI cS τ ρ hW H_c128 hT_23 r_19 r_23) lk_X12_103 yd_X12_greater hS_23 (fun _ h => h.elim) ⟨by decide, by decide⟩ (Nat.le_of_ble_eq_true rfl) ⟨by decide, by decide⟩ rfl dX12_takesIn_171 (fun r_24 H_24 locs_24 p_24 hT_24 hk_24 hS_24 => ?_)
      have p_24 : H_c128 = H_24 ∧ (r_19.toInt ≤ r_24.toInt ∧ r_23.toInt ≤ r_24.toInt ∧ (r_24.toInt = r_19.toInt ∨ r_24.toInt = r_23.toInt)) := p_24
      obtain ⟨rfl, p_24_0⟩ := p_24
      refine th_Vv (As := [.int 1, .int 15, .int r_24]) (rest := []) E hml hl.1 (y_set_v63 l D cI cS τ ρ hW H_c128 hT_24 a0 r_24 ha0) lk_X12_95 yd_X12_set hT_24 ha0 rfl (by decide) hS_24 (fun q h => (Or.inl h)) ⟨by decide, by decide⟩ (Nat.le_of_ble_eq_true rfl) ⟨by decide, by decide⟩ rfl dX12_takesIn_174 (fun H_25 locs_25 p_25 hT_25 hk_25 hS_25 => ?_)
      have p_25 : (AU 985 H_c128 H_25 (ρ a0 0) 303 r_24) := p_25
      have hW_25 : PW N H_25 (ρ a0 0) := PW.put hI_c128.1 p_25 (by show (-2147483648 : Int) ≤ _; exact i_min _) (by show _ ≤ (2147483647 : Int); exact i_max _)
      exact J_177 H_25 locs_25 _ y128_4 hT_25 hS_25 hl (by omega) (by omega) (by omega) (by omega) by128_4 ⟨hW_25, (QS.same (AU.o p_25 (by decide) (by decide)) (AU.o p_25 (by decide) (by decide)) hI_c128.2.1), (QS.same (AU.o p_25 (by decide) (by decide)) (AU.o p_25 (by decide) (by decide)) hI_c128.2.2.1), (PL.q (p_25.2 _ (th_ne (hW _ 12 2 ha0 (by decide) (by decide) (by decide)) (hW _ 12 0 ha0 (by decide) (by decide) (by decide)) (by decide))) hI_c128.2.2.2.1), (PL.q (p_25.2 _ (th_ne (hW _ 12 3 ha0 (by decide) (by decide) (by decide)) (hW _ 12 0 ha0 (by decide) (by decide) (by decide)) (by decide))) hI_c128.2.2.2.2.1), (IF.q (p_25.2 _ (th_ne ha0 (hW _ 12 0 ha0 (by decide) (by decide) (by decide)) (by decide))) hI_c128.2.2.2.2.2)⟩ (by rw [(AU.o p_25 (by decide) (by decide))]; omega)
  have J_42 : ∀ (H_c42 : Heap) (lc_c42 : List Loc) (ls : Array Slot) (z42_0 : Int32), TH D cI cS τ ρ H_c42 → SS (fun q => q = ρ a0 0 ∨ q = ρ a0 2) H H_c42 lc_c42 → lv_has ls 6 [(0, .ref a0), (1, .int 1), (2, .int x1), (3, .int x2)] → -128 ≤ x1.toInt → x1.toInt ≤ 827 → -1000 ≤ x2.toInt → x2.toInt ≤ 602 → z42_0 = 0 ∨ z42_0 = 1 → IM D ρ N H_c42 a0 → (ai H (ρ a0 0) 976).toInt ≤ (ai H_c42 (ρ a0 0) 976).toInt → W p l e (rmO 9 212) s m args below meth c H_c42 lc_c42 0 0 (MQ below (va_Qi (fun (r : Int32) (u : Heap) => (IM D ρ N u a0) ∧ ((ai H (ρ a0 0) 976).toInt ≤ (ai u (ρ a0 0) 976).toInt)) (Bt D cI cS τ ρ H) (fun q => q = ρ a0 0 ∨ q = ρ a0 2)) args s 0 0 (fun q => q = ρ a0 0 ∨ q = ρ a0 2)) (F0 m 42 ls [.int z42_0]) := by
    intro H_c42 lc_c42 ls z42_0 hT_c42 hS_c42 hl ly42_2 uy42_2 ly42_3 uy42_3 bz42_0 hI_c42 hmn_c42
    have z_z42_0 := b_iv bz42_0
    refine lv_istore (lv' := [(4, .int z42_0), (0, .ref a0), (1, .int 1), (2, .int x1), (3, .int x2)]) hx hb dX12_takesIn_42 hl (by decide) rfl (fun ls hl => ?_)
    refine lv_aload_n hx hb dX12_takesIn_44 rfl (lv_at hl 1 rfl) ?_
    refine lv_iload_n hx hb dX12_takesIn_45 rfl (lv_at hl 2 rfl) ?_
    refine lv_iload_n hx hb dX12_takesIn_46 rfl (lv_at hl 4 rfl) ?_
    refine th_Vv (As := [.int 1, .int x2]) (rest := []) E hml hl.1 (y_hears_v2 l D cI cS τ ρ hW H_c42 hT_c42 a0 x2 ha0 N hN0 hN1 ⟨hI_c42.1, hI_c42.2.1, hI_c42.2.2.1, hI_c42.2.2.2.1, hI_c42.2.2.2.2.1, hI_c42.2.2.2.2.2⟩ (by omega)) lk_X12_212 yd_X12_hears hT_c42 ha0 rfl (by decide) hS_c42 (fun q h => (Or.inl h)) ⟨by decide, by decide⟩ (Nat.le_of_ble_eq_true rfl) ⟨by decide, by decide⟩ rfl dX12_takesIn_47 (fun H_26 locs_26 p_26 hT_26 hk_26 hS_26 => ?_)
    have p_26 : (IM D ρ N H_26 a0) ∧ ((ai H_c42 (ρ a0 0) 976).toInt ≤ (ai H_26 (ρ a0 0) 976).toInt) ∧ (ai H_26 (ρ a0 0) 288 = ai H_c42 (ρ a0 0) 288) ∧ (ai H_26 (ρ a0 0) 290 = ai H_c42 (ρ a0 0) 290) := p_26
    obtain ⟨p_26_0, p_26_1, p_26_2, p_26_3⟩ := p_26
    have mn_26 : (ai H_c42 (ρ a0 0) 976).toInt ≤ (ai H_26 (ρ a0 0) 976).toInt := by exact p_26_1
    refine lv_aload_n hx hb dX12_takesIn_50 rfl (lv_at hl 1 rfl) ?_
    refine lv_iload_n hx hb dX12_takesIn_51 rfl (lv_at hl 2 rfl) ?_
    refine th_Vi (As := [.int 1]) (rest := []) E hml hl.1 (y_isByeSent_v2 l D cI cS τ ρ hW H_26 hT_26 a0 ha0 N hN0 hN1 ⟨p_26_0.1, p_26_0.2.1, p_26_0.2.2.1, p_26_0.2.2.2.1, p_26_0.2.2.2.2.1, p_26_0.2.2.2.2.2⟩) lk_X12_221 yd_X12_isByeSent hT_26 ha0 rfl (by decide) hS_26 (fun _ h => h.elim) ⟨by decide, by decide⟩ (Nat.le_of_ble_eq_true rfl) ⟨by decide, by decide⟩ rfl dX12_takesIn_52 (fun r_27 H_27 locs_27 p_27 hT_27 hk_27 hS_27 => ?_)
    have p_27 : H_26 = H_27 ∧ (r_27 = 0 ∨ r_27 = 1) := p_27
    obtain ⟨rfl, p_27_0⟩ := p_27
    have z_27 := b_iv p_27_0
    refine lv_if_eq (tgt := 128) hx hb dX12_takesIn_55 (by decide) (fun c_28 => ?_) (fun c_28 => ?_)
    · have f_28 : r_27.toInt = 0 := r_eq rfl (by decide) c_28
      exact J_128 H_26 locs_27 _ z42_0 hT_27 hS_27 (lv_sub hl [1, 2, 3, 4, 0] rfl) (by omega) (by omega) (by omega) (by omega) bz42_0 ⟨p_26_0.1, p_26_0.2.1, p_26_0.2.2.1, p_26_0.2.2.2.1, p_26_0.2.2.2.2.1, p_26_0.2.2.2.2.2⟩ (by omega)
    · have f_28 : ¬ r_27.toInt = 0 := r_ne rfl (by decide) c_28
      have nz_r_27 : ¬ r_27 = 0 := c_28
      refine lv_aload_n hx hb dX12_takesIn_58 rfl (lv_at hl 1 rfl) ?_
      refine lv_iload_n hx hb dX12_takesIn_59 rfl (lv_at hl 2 rfl) ?_
      refine lv_iconst (v := 1) hx hb dX12_takesIn_60 (by decide) ?_
      refine th_Vi (As := [.int 1, .int 1]) (rest := []) E hml hl.1 (y_get_v29 l D cI cS τ ρ hW H_26 hT_27 a0 ha0) lk_X12_99 yd_X12_get hT_27 ha0 rfl (by decide) hS_27 (fun _ h => h.elim) ⟨by decide, by decide⟩ (Nat.le_of_ble_eq_true rfl) ⟨by decide, by decide⟩ rfl dX12_takesIn_61 (fun r_29 H_29 locs_29 p_29 hT_29 hk_29 hS_29 => ?_)
      have p_29 : H_26 = H_29 ∧ (ai H_26 (ρ a0 0) 289 = r_29) := p_29
      obtain ⟨rfl, p_29_0⟩ := p_29
      have b_r_29 : 0 ≤ r_29.toInt ∧ r_29.toInt ≤ N + 2 := by rw [← p_29_0]; exact p_26_0.1 289 (by decide)
      have c_r_29 := congrArg Int32.toInt p_29_0
      refine lv_aload_n hx hb dX12_takesIn_64 rfl (lv_at hl 1 rfl) ?_
      refine lv_iload_n hx hb dX12_takesIn_65 rfl (lv_at hl 2 rfl) ?_
      refine lv_iconst (v := 4) hx hb dX12_takesIn_66 (by decide) ?_
      refine th_Vi (As := [.int 1, .int 4]) (rest := [.int r_29]) E hml hl.1 (y_get_v33 l D cI cS τ ρ hW H_26 hT_29 a0 ha0) lk_X12_99 yd_X12_get hT_29 ha0 rfl (by decide) hS_29 (fun _ h => h.elim) ⟨by decide, by decide⟩ (Nat.le_of_ble_eq_true rfl) ⟨by decide, by decide⟩ rfl dX12_takesIn_67 (fun r_30 H_30 locs_30 p_30 hT_30 hk_30 hS_30 => ?_)
      have p_30 : H_26 = H_30 ∧ (ai H_26 (ρ a0 0) 292 = r_30) := p_30
      obtain ⟨rfl, p_30_0⟩ := p_30
      have b_r_30 : 0 ≤ r_30.toInt ∧ r_30.toInt ≤ N := by rw [← p_30_0]; exact p_26_0.1 292 (by decide)
      have c_r_30 := congrArg Int32.toInt p_30_0
      refine lv_iconst (v := 1) hx hb dX12_takesIn_70 (by decide) ?_
      refine lv_iadd hx hb dX12_takesIn_71 ?_
      refine lv_topi (fun x_31 ex_31 => ?_)
      have q_31 : x_31.toInt = r_30.toInt + 1 := i_pl rfl (by decide) ex_31 (by omega) (by omega)
      refine lv_icmp_le (tgt := 128) hx hb dX12_takesIn_72 (by decide) (fun c_32 => ?_) (fun c_32 => ?_)
      · have f_32 : r_29.toInt ≤ x_31.toInt := r_le rfl rfl c_32
        exact J_128 H_26 locs_30 _ z42_0 hT_30 hS_30 (lv_sub hl [1, 2, 3, 4, 0] rfl) (by omega) (by omega) (by omega) (by omega) bz42_0 ⟨p_26_0.1, p_26_0.2.1, p_26_0.2.2.1, p_26_0.2.2.2.1, p_26_0.2.2.2.2.1, p_26_0.2.2.2.2.2⟩ (by omega)
      · have f_32 : x_31.toInt < r_29.toInt := r_nle rfl rfl c_32
        refine lv_aload_n hx hb dX12_takesIn_75 rfl (lv_at hl 1 rfl) ?_
        refine lv_iload_n hx hb dX12_takesIn_76 rfl (lv_at hl 2 rfl) ?_
        refine lv_iconst (v := 0) hx hb dX12_takesIn_77 (by decide) ?_
        refine th_Vi (As := [.int 1, .int 0]) (rest := []) E hml hl.1 (y_get_v20 l D cI cS τ ρ hW H_26 hT_30 a0 ha0) lk_X12_99 yd_X12_get hT_30 ha0 rfl (by decide) hS_30 (fun _ h => h.elim) ⟨by decide, by decide⟩ (Nat.le_of_ble_eq_true rfl) ⟨by decide, by decide⟩ rfl dX12_takesIn_78 (fun r_33 H_33 locs_33 p_33 hT_33 hk_33 hS_33 => ?_)
        have p_33 : H_26 = H_33 ∧ (ai H_26 (ρ a0 0) 288 = r_33) := p_33
        obtain ⟨rfl, p_33_0⟩ := p_33
        have t_33 : ai H_c42 (ρ a0 0) 288 = r_33 := p_26_2.symm.trans p_33_0
        have c_r_33 := congrArg Int32.toInt t_33
        refine lv_istore (lv' := [(5, .int r_33), (4, .int z42_0), (0, .ref a0), (1, .int 1), (2, .int x1), (3, .int x2)]) hx hb dX12_takesIn_81 hl (by decide) rfl (fun ls hl => ?_)
        refine lv_iload hx hb dX12_takesIn_83 (lv_at hl 0 rfl) ?_
        refine lv_bipush (v := 9) hx hb dX12_takesIn_85 (by decide) ?_
        refine lv_icmp_ne (tgt := 97) hx hb dX12_takesIn_87 (by decide) (fun c_34 => ?_) (fun c_34 => ?_)
        · have f_34 : ¬ r_33.toInt = 9 := r_ne rfl (by decide) c_34
          refine lv_aload_n hx hb dX12_takesIn_97 rfl (lv_at hl 2 rfl) ?_
          refine lv_iload_n hx hb dX12_takesIn_98 rfl (lv_at hl 3 rfl) ?_
          refine lv_iconst (v := 0) hx hb dX12_takesIn_99 (by decide) ?_
          refine lv_iload hx hb dX12_takesIn_100 (lv_at hl 0 rfl) ?_
          refine lv_iconst (v := 5) hx hb dX12_takesIn_102 (by decide) ?_
          refine lv_icmp_ne (tgt := 111) hx hb dX12_takesIn_103 (by decide) (fun c_35 => ?_) (fun c_35 => ?_)
          · have f_35 : ¬ r_33.toInt = 5 := r_ne rfl (by decide) c_35
            refine lv_iload hx hb dX12_takesIn_111 (lv_at hl 0 rfl) ?_
            refine lv_bipush (v := 8) hx hb dX12_takesIn_113 (by decide) ?_
            refine lv_icmp_ne (tgt := 123) hx hb dX12_takesIn_115 (by decide) (fun c_36 => ?_) (fun c_36 => ?_)
            · have f_36 : ¬ r_33.toInt = 8 := r_ne rfl (by decide) c_36
              refine lv_iload hx hb dX12_takesIn_123 (lv_at hl 0 rfl) ?_
              refine th_Vv (As := [.int 1, .int 0, .int r_33]) (rest := []) E hml hl.1 (y_set_v61 l D cI cS τ ρ hW H_26 hT_33 a0 r_33 ha0) lk_X12_95 yd_X12_set hT_33 ha0 rfl (by decide) hS_33 (fun q h => (Or.inl h)) ⟨by decide, by decide⟩ (Nat.le_of_ble_eq_true rfl) ⟨by decide, by decide⟩ rfl dX12_takesIn_125 (fun H_37 locs_37 p_37 hT_37 hk_37 hS_37 => ?_)
              have p_37 : (AU 985 H_26 H_37 (ρ a0 0) 288 r_33) := p_37
              have hW_37 : PW N H_37 (ρ a0 0) := PW.put p_26_0.1 p_37 (by show (-2147483648 : Int) ≤ _; exact i_min _) (by show _ ≤ (2147483647 : Int); exact i_max _)
              exact J_128 H_37 locs_37 _ z42_0 hT_37 hS_37 (lv_sub hl [2, 3, 4, 5, 1] rfl) (by omega) (by omega) (by omega) (by omega) bz42_0 ⟨hW_37, (QS.same (AU.o p_37 (by decide) (by decide)) (AU.o p_37 (by decide) (by decide)) p_26_0.2.1), (QS.same ((AU.s p_37 (by decide)).trans (p_26_2.trans t_33).symm) ((Eq.trans (AU.o p_37 (by decide) (by decide)) p_26_3).trans p_26_3.symm) p_26_0.2.2.1), (PL.q (p_37.2 _ (th_ne (hW _ 12 2 ha0 (by decide) (by decide) (by decide)) (hW _ 12 0 ha0 (by decide) (by decide) (by decide)) (by decide))) p_26_0.2.2.2.1), (PL.q (p_37.2 _ (th_ne (hW _ 12 3 ha0 (by decide) (by decide) (by decide)) (hW _ 12 0 ha0 (by decide) (by decide) (by decide)) (by decide))) p_26_0.2.2.2.2.1), (IF.q (p_37.2 _ (th_ne ha0 (hW _ 12 0 ha0 (by decide) (by decide) (by decide)) (by decide))) p_26_0.2.2.2.2.2)⟩ (by rw [(AU.o p_37 (by decide) (by decide))]; omega)
            · have f_36 : r_33.toInt = 8 := r_eq rfl (by decide) c_36
              refine lv_bipush (v := 10) hx hb dX12_takesIn_118 (by decide) ?_
              refine lv_goto (tgt := 125) hx hb dX12_takesIn_120 (by decide) ?_
              refine th_Vv (As := [.int 1, .int 0, .int 10]) (rest := []) E hml hl.1 (y_set_v22 l D cI cS τ ρ hW H_26 hT_33 a0 ha0) lk_X12_95 yd_X12_set hT_33 ha0 rfl (by decide) hS_33 (fun q h => (Or.inl h)) ⟨by decide, by decide⟩ (Nat.le_of_ble_eq_true rfl) ⟨by decide, by decide⟩ rfl dX12_takesIn_125 (fun H_38 locs_38 p_38 hT_38 hk_38 hS_38 => ?_)
              have p_38 : (AU 985 H_26 H_38 (ρ a0 0) 288 (10)) := p_38
              have hW_38 : PW N H_38 (ρ a0 0) := PW.put p_26_0.1 p_38 (by show (-2147483648 : Int) ≤ _; exact i_min _) (by show _ ≤ (2147483647 : Int); exact i_max _)
              exact J_128 H_38 locs_38 _ z42_0 hT_38 hS_38 (lv_sub hl [2, 3, 4, 5, 1] rfl) (by omega) (by omega) (by omega) (by omega) bz42_0 ⟨hW_38, (QS.same (AU.o p_38 (by decide) (by decide)) (AU.o p_38 (by decide) (by decide)) p_26_0.2.1), (QS.of (s := (10 : Int32)) (t := (ai H_c42 (ρ a0 0) 290 : Int32)) (AU.s p_38 (by decide)) (Eq.trans (AU.o p_38 (by decide) (by decide)) p_26_3) (by have j := p_26_0.2.2.1; unfold QS at j; have : (ai H_26 (ρ a0 0) 288).toInt = (r_33 : Int32).toInt := congrArg Int32.toInt (p_26_2.trans t_33); have : (ai H_26 (ρ a0 0) 290).toInt = (ai H_c42 (ρ a0 0) 290 : Int32).toInt := congrArg Int32.toInt p_26_3; have : (10 : Int32).toInt = 10 := (by decide); omega)), (PL.q (p_38.2 _ (th_ne (hW _ 12 2 ha0 (by decide) (by decide) (by decide)) (hW _ 12 0 ha0 (by decide) (by decide) (by decide)) (by decide))) p_26_0.2.2.2.1), (PL.q (p_38.2 _ (th_ne (hW _ 12 3 ha0 (by decide) (by decide) (by decide)) (hW _ 12 0 ha0 (by decide) (by decide) (by decide)) (by decide))) p_26_0.2.2.2.2.1), (IF.q (p_38.2 _ (th_ne ha0 (hW _ 12 0 ha0 (by decide) (by decide) (by decide)) (by decide))) p_26_0.2.2.2.2.2)⟩ (by rw [(AU.o p_38 (by decide) (by decide))]; omega)
          · have f_35 : r_33.toInt = 5 := r_eq rfl (by decide) c_35
            refine lv_bipush (v := 6) hx hb dX12_takesIn_106 (by decide) ?_
            refine lv_goto (tgt := 125) hx hb dX12_takesIn_108 (by decide) ?_
            refine th_Vv (As := [.int 1, .int 0, .int 6]) (rest := []) E hml hl.1 (y_set_v62 l D cI cS τ ρ hW H_26 hT_33 a0 ha0) lk_X12_95 yd_X12_set hT_33 ha0 rfl (by decide) hS_33 (fun q h => (Or.inl h)) ⟨by decide, by decide⟩ (Nat.le_of_ble_eq_true rfl) ⟨by decide, by decide⟩ rfl dX12_takesIn_125 (fun H_39 locs_39 p_39 hT_39 hk_39 hS_39 => ?_)
            have p_39 : (AU 985 H_26 H_39 (ρ a0 0) 288 (6)) := p_39
            have hW_39 : PW N H_39 (ρ a0 0) := PW.put p_26_0.1 p_39 (by show (-2147483648 : Int) ≤ _; exact i_min _) (by show _ ≤ (2147483647 : Int); exact i_max _)
            exact J_128 H_39 locs_39 _ z42_0 hT_39 hS_39 (lv_sub hl [2, 3, 4, 5, 1] rfl) (by omega) (by omega) (by omega) (by omega) bz42_0 ⟨hW_39, (QS.same (AU.o p_39 (by decide) (by decide)) (AU.o p_39 (by decide) (by decide)) p_26_0.2.1), (QS.of (s := (6 : Int32)) (t := (ai H_c42 (ρ a0 0) 290 : Int32)) (AU.s p_39 (by decide)) (Eq.trans (AU.o p_39 (by decide) (by decide)) p_26_3) (by have j := p_26_0.2.2.1; unfold QS at j; have : (ai H_26 (ρ a0 0) 288).toInt = (r_33 : Int32).toInt := congrArg Int32.toInt (p_26_2.trans t_33); have : (ai H_26 (ρ a0 0) 290).toInt = (ai H_c42 (ρ a0 0) 290 : Int32).toInt := congrArg Int32.toInt p_26_3; have : (6 : Int32).toInt = 6 := (by decide); omega)), (PL.q (p_39.2 _ (th_ne (hW _ 12 2 ha0 (by decide) (by decide) (by decide)) (hW _ 12 0 ha0 (by decide) (by decide) (by decide)) (by decide))) p_26_0.2.2.2.1), (PL.q (p_39.2 _ (th_ne (hW _ 12 3 ha0 (by decide) (by decide) (by decide)) (hW _ 12 0 ha0 (by decide) (by decide) (by decide)) (by decide))) p_26_0.2.2.2.2.1), (IF.q (p_39.2 _ (th_ne ha0 (hW _ 12 0 ha0 (by decide) (by decide) (by decide)) (by decide))) p_26_0.2.2.2.2.2)⟩ (by rw [(AU.o p_39 (by decide) (by decide))]; omega)
        · have f_34 : r_33.toInt = 9 := r_eq rfl (by decide) c_34
          refine lv_aload_n hx hb dX12_takesIn_90 rfl (lv_at hl 2 rfl) ?_
          refine lv_iload_n hx hb dX12_takesIn_91 rfl (lv_at hl 3 rfl) ?_
          refine th_Vv (As := [.int 1]) (rest := []) E hml hl.1 (y_shuts_v2 l D cI cS τ ρ hW H_26 hT_33 a0 ha0 N hN0 hN1 ⟨p_26_0.1, p_26_0.2.1, p_26_0.2.2.1, p_26_0.2.2.2.1, p_26_0.2.2.2.2.1, p_26_0.2.2.2.2.2⟩) lk_X12_180 yd_X12_shuts hT_33 ha0 rfl (by decide) hS_33 (fun q h => (Or.inl h)) ⟨by decide, by decide⟩ (Nat.le_of_ble_eq_true rfl) ⟨by decide, by decide⟩ rfl dX12_takesIn_92 (fun H_40 locs_40 p_40 hT_40 hk_40 hS_40 => ?_)
          have p_40 : (IM D ρ N H_40 a0) ∧ ((ai H_26 (ρ a0 0) 976).toInt ≤ (ai H_40 (ρ a0 0) 976).toInt) := p_40
          obtain ⟨p_40_0, p_40_1⟩ := p_40
          have mn_40 : (ai H_26 (ρ a0 0) 976).toInt ≤ (ai H_40 (ρ a0 0) 976).toInt := by exact p_40_1
          refine lv_iconst (v := 1) hx hb dX12_takesIn_95 (by decide) ?_
          exact th_iret E hr hlk hs hT_40 hS_40 ⟨⟨p_40_0.1, p_40_0.2.1, p_40_0.2.2.1, p_40_0.2.2.2.1, p_40_0.2.2.2.2.1, p_40_0.2.2.2.2.2⟩, (by omega)⟩ dX12_takesIn_96
  refine lv_aload_n hx hb dX12_takesIn_0 rfl (lv_at hl 0 rfl) ?_
  refine lv_iload_n hx hb dX12_takesIn_1 rfl (lv_at hl 1 rfl) ?_
  refine lv_iconst (v := 0) hx hb dX12_takesIn_2 (by decide) ?_
  refine lv_aload_n hx hb dX12_takesIn_3 rfl (lv_at hl 0 rfl) ?_
  refine lv_iload_n hx hb dX12_takesIn_4 rfl (lv_at hl 1 rfl) ?_
  refine lv_iconst (v := 0) hx hb dX12_takesIn_5 (by decide) ?_
  refine th_Vi (As := [.int 1, .int 0]) (rest := [.int 0, .int 1, .ref a0]) E hml hl.1 (y_get_v20 l D cI cS τ ρ hW H hT a0 ha0) lk_X12_99 yd_X12_get hT ha0 rfl (by decide) hS (fun _ h => h.elim) ⟨by decide, by decide⟩ (Nat.le_of_ble_eq_true rfl) ⟨by decide, by decide⟩ rfl dX12_takesIn_6 (fun r_41 H_41 locs_41 p_41 hT_41 hk_41 hS_41 => ?_)
  have p_41 : H = H_41 ∧ (ai H (ρ a0 0) 288 = r_41) := p_41
  obtain ⟨rfl, p_41_0⟩ := p_41
  have c_r_41 := congrArg Int32.toInt p_41_0
  refine lv_iconst (v := 3) hx hb dX12_takesIn_9 (by decide) ?_
  refine lv_icmp_ne (tgt := 17) hx hb dX12_takesIn_10 (by decide) (fun c_42 => ?_) (fun c_42 => ?_)
  · have f_42 : ¬ r_41.toInt = 3 := r_ne rfl (by decide) c_42
    refine lv_aload_n hx hb dX12_takesIn_17 rfl (lv_at hl 0 rfl) ?_
    refine lv_iload_n hx hb dX12_takesIn_18 rfl (lv_at hl 1 rfl) ?_
    refine lv_iconst (v := 0) hx hb dX12_takesIn_19 (by decide) ?_
    refine th_Vi (As := [.int 1, .int 0]) (rest := [.int 0, .int 1, .ref a0]) E hml hl.1 (y_get_v20 l D cI cS τ ρ hW H hT_41 a0 ha0) lk_X12_99 yd_X12_get hT_41 ha0 rfl (by decide) hS_41 (fun _ h => h.elim) ⟨by decide, by decide⟩ (Nat.le_of_ble_eq_true rfl) ⟨by decide, by decide⟩ rfl dX12_takesIn_20 (fun r_43 H_43 locs_43 p_43 hT_43 hk_43 hS_43 => ?_)
    have p_43 : H = H_43 ∧ (ai H (ρ a0 0) 288 = r_43) := p_43
    obtain ⟨rfl, p_43_0⟩ := p_43
    have s_43 : r_43 = r_41 := p_43_0.symm.trans p_41_0
    refine th_topi s_43 ?_
    refine th_Vv (As := [.int 1, .int 0, .int r_41]) (rest := []) E hml hl.1 (y_set_v61 l D cI cS τ ρ hW H hT_43 a0 r_41 ha0) lk_X12_95 yd_X12_set hT_43 ha0 rfl (by decide) hS_43 (fun q h => (Or.inl h)) ⟨by decide, by decide⟩ (Nat.le_of_ble_eq_true rfl) ⟨by decide, by decide⟩ rfl dX12_takesIn_23 (fun H_44 locs_44 p_44 hT_44 hk_44 hS_44 => ?_)
    have p_44 : (AU 985 H H_44 (ρ a0 0) 288 r_41) := p_44
    have hW_44 : PW N H_44 (ρ a0 0) := PW.put hI.1 p_44 (by show (-2147483648 : Int) ≤ _; exact i_min _) (by show _ ≤ (2147483647 : Int); exact i_max _)
    refine lv_aload_n hx hb dX12_takesIn_26 rfl (lv_at hl 0 rfl) ?_
    refine lv_iload_n hx hb dX12_takesIn_27 rfl (lv_at hl 1 rfl) ?_
    refine lv_iconst (v := 0) hx hb dX12_takesIn_28 (by decide) ?_
    refine th_Vi (As := [.int 1, .int 0]) (rest := []) E hml hl.1 (y_get_v20 l D cI cS τ ρ hW H_44 hT_44 a0 ha0) lk_X12_99 yd_X12_get hT_44 ha0 rfl (by decide) hS_44 (fun _ h => h.elim) ⟨by decide, by decide⟩ (Nat.le_of_ble_eq_true rfl) ⟨by decide, by decide⟩ rfl dX12_takesIn_29 (fun r_45 H_45 locs_45 p_45 hT_45 hk_45 hS_45 => ?_)
    have p_45 : H_44 = H_45 ∧ (ai H_44 (ρ a0 0) 288 = r_45) := p_45
    obtain ⟨rfl, p_45_0⟩ := p_45
    have s_45 : r_45 = r_41 := p_45_0.symm.trans (AU.s p_44 (by decide))
    refine th_topi s_45 ?_
    refine lv_bipush (v := 10) hx hb dX12_takesIn_32 (by decide) ?_
    refine lv_icmp_ne (tgt := 41) hx hb dX12_takesIn_34 (by decide) (fun c_46 => ?_) (fun c_46 => ?_)
    · have f_46 : ¬ r_41.toInt = 10 := r_ne rfl (by decide) c_46
      refine lv_iconst (v := 0) hx hb dX12_takesIn_41 (by decide) ?_
      exact J_42 H_44 locs_45 _ 0 hT_45 hS_45 hl (by omega) (by omega) (by omega) (by omega) (Or.inl rfl) ⟨hW_44, (QS.same (AU.o p_44 (by decide) (by decide)) (AU.o p_44 (by decide) (by decide)) hI.2.1), (QS.same ((AU.s p_44 (by decide)).trans p_41_0.symm) (AU.o p_44 (by decide) (by decide)) hI.2.2.1), (PL.q (p_44.2 _ (th_ne (hW _ 12 2 ha0 (by decide) (by decide) (by decide)) (hW _ 12 0 ha0 (by decide) (by decide) (by decide)) (by decide))) hI.2.2.2.1), (PL.q (p_44.2 _ (th_ne (hW _ 12 3 ha0 (by decide) (by decide) (by decide)) (hW _ 12 0 ha0 (by decide) (by decide) (by decide)) (by decide))) hI.2.2.2.2.1), (IF.q (p_44.2 _ (th_ne ha0 (hW _ 12 0 ha0 (by decide) (by decide) (by decide)) (by decide))) hI.2.2.2.2.2)⟩ (by rw [(AU.o p_44 (by decide) (by decide))]; omega)
    · have f_46 : r_41.toInt = 10 := r_eq rfl (by decide) c_46
      refine lv_iconst (v := 1) hx hb dX12_takesIn_37 (by decide) ?_
      refine lv_goto (tgt := 42) hx hb dX12_takesIn_38 (by decide) ?_
      exact J_42 H_44 locs_45 _ 1 hT_45 hS_45 hl (by omega) (by omega) (by omega) (by omega) (Or.inr rfl) ⟨hW_44, (QS.same (AU.o p_44 (by decide) (by decide)) (AU.o p_44 (by decide) (by decide)) hI.2.1), (QS.same ((AU.s p_44 (by decide)).trans p_41_0.symm) (AU.o p_44 (by decide) (by decide)) hI.2.2.1), (PL.q (p_44.2 _ (th_ne (hW _ 12 2 ha0 (by decide) (by decide) (by decide)) (hW _ 12 0 ha0 (by decide) (by decide) (by decide)) (by decide))) hI.2.2.2.1), (PL.q (p_44.2 _ (th_ne (hW _ 12 3 ha0 (by decide) (by decide) (by decide)) (hW _ 12 0 ha0 (by decide) (by decide) (by decide)) (by decide))) hI.2.2.2.2.1), (IF.q (p_44.2 _ (th_ne ha0 (hW _ 12 0 ha0 (by decide) (by decide) (by decide)) (by decide))) hI.2.2.2.2.2)⟩ (by rw [(AU.o p_44 (by decide) (by decide))]; omega)
  · have f_42 : r_41.toInt = 3 := r_eq rfl (by decide) c_42
    refine lv_iconst (v := 4) hx hb dX12_takesIn_13 (by decide) ?_
    refine lv_goto (tgt := 23) hx hb dX12_takesIn_14 (by decide) ?_
    refine th_Vv (As := [.int 1, .int 0, .int 4]) (rest := []) E hml hl.1 (y_set_v47 l D cI cS τ ρ hW H hT_41 a0 ha0) lk_X12_95 yd_X12_set hT_41 ha0 rfl (by decide) hS_41 (fun q h => (Or.inl h)) ⟨by decide, by decide⟩ (Nat.le_of_ble_eq_true rfl) ⟨by decide, by decide⟩ rfl dX12_takesIn_23 (fun H_47 locs_47 p_47 hT_47 hk_47 hS_47 => ?_)
    have p_47 : (AU 985 H H_47 (ρ a0 0) 288 (4)) := p_47
    have hW_47 : PW N H_47 (ρ a0 0) := PW.put hI.1 p_47 (by show (-2147483648 : Int) ≤ _; exact i_min _) (by show _ ≤ (2147483647 : Int); exact i_max _)
    refine lv_aload_n hx hb dX12_takesIn_26 rfl (lv_at hl 0 rfl) ?_
    refine lv_iload_n hx hb dX12_takesIn_27 rfl (lv_at hl 1 rfl) ?_
    refine lv_iconst (v := 0) hx hb dX12_takesIn_28 (by decide) ?_
    refine th_Vi (As := [.int 1, .int 0]) (rest := []) E hml hl.1 (y_get_v20 l D cI cS τ ρ hW H_47 hT_47 a0 ha0) lk_X12_99 yd_X12_get hT_47 ha0 rfl (by decide) hS_47 (fun _ h => h.elim) ⟨by decide, by decide⟩ (Nat.le_of_ble_eq_true rfl) ⟨by decide, by decide⟩ rfl dX12_takesIn_29 (fun r_48 H_48 locs_48 p_48 hT_48 hk_48 hS_48 => ?_)
    have p_48 : H_47 = H_48 ∧ (ai H_47 (ρ a0 0) 288 = r_48) := p_48
    obtain ⟨rfl, p_48_0⟩ := p_48
    have s_48 : r_48 = 4 := p_48_0.symm.trans (AU.s p_47 (by decide))
    refine th_topi s_48 ?_
    refine lv_bipush (v := 10) hx hb dX12_takesIn_32 (by decide) ?_
    refine lv_icmp_ne (tgt := 41) hx hb dX12_takesIn_34 (by decide) (fun c_49 => ?_) (fun c_49 => absurd c_49 (by decide))
    refine lv_iconst (v := 0) hx hb dX12_takesIn_41 (by decide) ?_
    exact J_42 H_47 locs_48 _ 0 hT_48 hS_48 hl (by omega) (by omega) (by omega) (by omega) (Or.inl rfl) ⟨hW_47, (QS.same (AU.o p_47 (by decide) (by decide)) (AU.o p_47 (by decide) (by decide)) hI.2.1), (QS.of (s := (4 : Int32)) (t := (ai H (ρ a0 0) 290 : Int32)) (AU.s p_47 (by decide)) (AU.o p_47 (by decide) (by decide)) (by have j := hI.2.2.1; unfold QS at j; have : (ai H (ρ a0 0) 288).toInt = (r_41 : Int32).toInt := congrArg Int32.toInt p_41_0; have : (4 : Int32).toInt = 4 := (by decide); omega)), (PL.q (p_47.2 _ (th_ne (hW _ 12 2 ha0 (by decide) (by decide) (by decide)) (hW _ 12 0 ha0 (by decide) (by decide) (by decide)) (by decide))) hI.2.2.2.1), (PL.q (p_47.2 _ (th_ne (hW _ 12 3 ha0 (by decide) (by decide) (by decide)) (hW _ 12 0 ha0 (by decide) (by decide) (by decide)) (by decide))) hI.2.2.2.2.1), (IF.q (p_47.2 _ (th_ne ha0 (hW _ 12 0 ha0 (by decide) (by decide) (by decide)) (by decide))) hI.2.2.2.2.2)⟩ (by rw [(AU.o p_47 (by decide) (by decide))]; omega)
set_option maxHeartbeats 4000000 in
set_option maxRecDepth 100000 in
/-- the reference: dropsAndSays -/
theorem y_dropsAndSays_v4 (l : Launch) (D : va_G) (cI cS : ClassId) (τ : Nat → Option Nat) (ρ : Nat → Nat → Nat) (hW : WF τ ρ) (H : Heap) (hT : TH D cI cS τ ρ H) (a0 : Nat) (ha0 : τ a0 = some 12) (N : Int) (hN0 : 0 ≤ N) (hN1 : N ≤ 600) (hI : IM D ρ N H a0) : MI l D cI cS τ ρ yX12_dropsAndSays cX12_dropsAndSays 4 (some .int) 6 136 H [.ref a0, .int 1, .int 5, .int 0] (fun (r : Int32) (u : Heap) => (IM D ρ N u a0) ∧ ((ai H (ρ a0 0) 976).toInt ≤ (ai u (ρ a0 0) 976).toInt)) (fun q => q = ρ a0 2 ∨ q = ρ a0 0) := by
  refine MI.of (by decide) (Nat.le_of_ble_eq_true rfl) ?_
  intro p e s m args below meth c E hml hr hlk hs ls hl
  have hx := E.1
  have hb := E.2.1
  have hown := E.2.2.1
  have hts := E.2.2.2.1
  have hS : SS (fun q => q = ρ a0 2 ∨ q = ρ a0 0) H H [] := SS.rf
  have hl : lv_has ls 4 [(0, .ref a0), (1, .int 1), (2, .int 5), (3, .int 0)] := hl
  have n01 := hI.2.2.2.2.2.1
  have n23 := hI.2.2.2.2.2.2.1
  have J_14 : ∀ (H_c14 : Heap) (lc_c14 : List Loc) (ls : Array Slot), TH D cI cS τ ρ H_c14 → SS (fun q => q = ρ a0 2 ∨ q = ρ a0 0) H H_c14 lc_c14 → lv_has ls 4 [(0, .ref a0), (1, .int 1), (2, .int 5), (3, .int 0)] → IM D ρ N H_c14 a0 → (ai H (ρ a0 0) 976).toInt ≤ (ai H_c14 (ρ a0 0) 976).toInt → W p l e (rmO 6 136) s m args below meth c H_c14 lc_c14 0 0 (MQ below (va_Qi (fun (r : Int32) (u : Heap) => (IM D ρ N u a0) ∧ ((ai H (ρ a0 0) 976).toInt ≤ (ai u (ρ a0 0) 976).toInt)) (Bt D cI cS τ ρ H) (fun q => q = ρ a0 2 ∨ q = ρ a0 0)) args s 0 0 (fun q => q = ρ a0 2 ∨ q = ρ a0 0)) (F0 m 14 ls []) := by
    intro H_c14 lc_c14 ls hT_c14 hS_c14 hl hI_c14 hmn_c14
    refine lv_aload_n hx hb dX12_dropsAndSays_14 rfl (lv_at hl 0 rfl) ?_
    refine lv_iload_n hx hb dX12_dropsAndSays_15 rfl (lv_at hl 2 rfl) ?_
    refine lv_iload_n hx hb dX12_dropsAndSays_16 rfl (lv_at hl 3 rfl) ?_
    refine th_Vi (As := [.int 5, .int 0]) (rest := []) E hml hl.1 (y_drops_v3 l D cI cS τ ρ hW H_c14 hT_c14 a0 ha0 N hN0 hN1 ⟨hI_c14.1, hI_c14.2.1, hI_c14.2.2.1, hI_c14.2.2.2.1, hI_c14.2.2.2.2.1, hI_c14.2.2.2.2.2⟩) lk_X12_199 yd_X12_drops hT_c14 ha0 rfl (by decide) hS_c14 (fun q h => (Or.inr h)) ⟨by decide, by decide⟩ (Nat.le_of_ble_eq_true rfl) ⟨by decide, by decide⟩ rfl dX12_dropsAndSays_17 (fun r_1 H_1 locs_1 p_1 hT_1 hk_1 hS_1 => ?_)
    have p_1 : (IM D ρ N H_1 a0) ∧ ((ai H_c14 (ρ a0 0) 976).toInt ≤ (ai H_1 (ρ a0 0) 976).toInt) := p_1
    obtain ⟨p_1_0, p_1_1⟩ := p_1
    have mn_1 : (ai H_c14 (ρ a0 0) 976).toInt ≤ (ai H_1 (ρ a0 0) 976).toInt := by exact p_1_1
    exact th_iret E hr hlk hs hT_1 hS_1 ⟨⟨p_1_0.1, p_1_0.2.1, p_1_0.2.2.1, p_1_0.2.2.2.1, p_1_0.2.2.2.2.1, p_1_0.2.2.2.2.2⟩, (by omega)⟩ dX12_dropsAndSays_20
  refine lv_aload_n hx hb dX12_dropsAndSays_0 rfl (lv_at hl 0 rfl) ?_
  refine lv_bipush (v := 8) hx hb dX12_dropsAndSays_1 (by decide) ?_
  refine th_Vi (As := [.int 8]) (rest := []) E hml hl.1 (y_has_v3 l D cI cS τ ρ hW H hT a0 ha0) lk_X12_202 yd_X12_has hT ha0 rfl (by decide) hS (fun _ h => h.elim) ⟨by decide, by decide⟩ (Nat.le_of_ble_eq_true rfl) ⟨by decide, by decide⟩ rfl dX12_dropsAndSays_3 (fun r_2 H_2 locs_2 p_2 hT_2 hk_2 hS_2 => ?_)
  have p_2 : H = H_2 ∧ (r_2 = 0 ∨ r_2 = 1) := p_2
  obtain ⟨rfl, p_2_0⟩ := p_2
  have z_2 := b_iv p_2_0
  refine lv_if_ne (tgt := 14) hx hb dX12_dropsAndSays_6 (by decide) (fun c_3 => ?_) (fun c_3 => ?_)
  · have f_3 : ¬ r_2.toInt = 0 := r_ne rfl (by decide) c_3
    have nz_r_2 : ¬ r_2 = 0 := c_3
    exact J_14 H locs_2 _ hT_2 hS_2 hl ⟨hI.1, hI.2.1, hI.2.2.1, hI.2.2.2.1, hI.2.2.2.2.1, hI.2.2.2.2.2⟩ (by omega)
  · have f_3 : r_2.toInt = 0 := r_eq rfl (by decide) c_3
    refine lv_aload_n hx hb dX12_dropsAndSays_9 rfl (lv_at hl 0 rfl) ?_
    refine lv_iload_n hx hb dX12_dropsAndSays_10 rfl (lv_at hl 1 rfl) ?_
    refine th_Vv (As := [.int 1]) (rest := []) E hml hl.1 (y_yes_v2 l D cI cS τ ρ hW H hT_2 a0 ha0 N hN0 hN1 ⟨hI.1, hI.2.1, hI.2.2.1, hI.2.2.2.1, hI.2.2.2.2.1, hI.2.2.2.2.2⟩) lk_X12_193 yd_X12_yes hT_2 ha0 rfl (by decide) hS_2 (fun q => (fun h => h.elim (fun h => (Or.inl h)) (fun h => (Or.inr h)))) ⟨by decide, by decide⟩ (Nat.le_of_ble_eq_true rfl) ⟨by decide, by decide⟩ rfl dX12_dropsAndSays_11 (fun H_4 locs_4 p_4 hT_4 hk_4 hS_4 => ?_)
    have p_4 : (IM D ρ N H_4 a0) ∧ ((ai H (ρ a0 0) 976).toInt ≤ (ai H_4 (ρ a0 0) 976).toInt) := p_4
    obtain ⟨p_4_0, p_4_1⟩ := p_4
    have mn_4 : (ai H (ρ a0 0) 976).toInt ≤ (ai H_4 (ρ a0 0) 976).toInt := by exact p_4_1
    exact J_14 H_4 locs_4 _ hT_4 hS_4 hl ⟨p_4_0.1, p_4_0.2.1, p_4_0.2.2.1, p_4_0.2.2.2.1, p_4_0.2.2.2.2.1, p_4_0.2.2.2.2.2⟩ (by omega)
set_option maxHeartbeats 4000000 in
set_option maxRecDepth 100000 in
/-- the reference: inOthers -/
theorem y_inOthers_v2 (l : Launch) (D : va_G) (cI cS : ClassId) (τ : Nat → Option Nat) (ρ : Nat → Nat → Nat) (hW : WF τ ρ) (H : Heap) (hT : TH D cI cS τ ρ H) (a0 : Nat) (ha0 : τ a0 = some 12) (N : Int) (hN0 : 0 ≤ N) (hN1 : N ≤ 600) (hI : IM D ρ N H a0) : MI l D cI cS τ ρ yX12_inOthers cX12_inOthers 5 (some .int) 10 237 H [.ref a0, .int 1] (fun (r : Int32) (u : Heap) => (IM D ρ N u a0) ∧ ((ai H (ρ a0 0) 976).toInt ≤ (ai u (ρ a0 0) 976).toInt)) (fun q => q = ρ a0 2 ∨ q = ρ a0 0) := by
  refine MI.of (by decide) (Nat.le_of_ble_eq_true rfl) ?_
  intro p e s m args below meth c E hml hr hlk hs ls hl
  have hx := E.1
  have hb := E.2.1
  have hown := E.2.2.1
  have hts := E.2.2.2.1
  have hS : SS (fun q => q = ρ a0 2 ∨ q = ρ a0 0) H H [] := SS.rf
  have hl : lv_has ls 5 [(0, .ref a0), (1, .int 1)] := hl
  have n01 := hI.2.2.2.2.2.1
  have n23 := hI.2.2.2.2.2.2.1
  have J_186 : ∀ (H_c186 : Heap) (lc_c186 : List Loc) (ls : Array Slot) (y186_2 : Int32) (y186_3 : Int32) (y186_4 : Int32), TH D cI cS τ ρ H_c186 → SS (fun q => q = ρ a0 2 ∨ q = ρ a0 0) H H_c186 lc_c186 → lv_has ls 5 [(0, .ref a0), (1, .int 1), (2, .int y186_2), (3, .int y186_3), (4, .int y186_4)] → -128 ≤ y186_2.toInt → y186_2.toInt ≤ 760 → -128 ≤ y186_4.toInt → y186_4.toInt ≤ 729 → IM D ρ N H_c186 a0 → (ai H (ρ a0 0) 976).toInt ≤ (ai H_c186 (ρ a0 0) 976).toInt → W p l e (rmO 10 237) s m args below meth c H_c186 lc_c186 0 0 (MQ below (va_Qi (fun (r : Int32) (u : Heap) => (IM D ρ N u a0) ∧ ((ai H (ρ a0 0) 976).toInt ≤ (ai u (ρ a0 0) 976).toInt)) (Bt D cI cS τ ρ H) (fun q => q = ρ a0 2 ∨ q = ρ a0 0)) args s 0 0 (fun q => q = ρ a0 2 ∨ q = ρ a0 0)) (F0 m 186 ls []) := by
    intro H_c186 lc_c186 ls y186_2 y186_3 y186_4 hT_c186 hS_c186 hl ly186_2 uy186_2 ly186_4 uy186_4 hI_c186 hmn_c186
    refine lv_iload hx hb dX12_inOthers_186 (lv_at hl 4 rfl) ?_
    refine lv_aload_n hx hb dX12_inOthers_188 rfl (lv_at hl 0 rfl) ?_
    refine lv_iload_n hx hb dX12_inOthers_189 rfl (lv_at hl 1 rfl) ?_
    refine lv_iconst (v := 2) hx hb dX12_inOthers_190 (by decide) ?_
    refine th_Vi (As := [.int 1, .int 2]) (rest := [.int y186_4]) E hml hl.1 (y_get_v32 l D cI cS τ ρ hW H_c186 hT_c186 a0 ha0) lk_X12_99 yd_X12_get hT_c186 ha0 rfl (by decide) hS_c186 (fun _ h => h.elim) ⟨by decide, by decide⟩ (Nat.le_of_ble_eq_true rfl) ⟨by decide, by decide⟩ rfl dX12_inOthers_191 (fun r_1 H_1 locs_1 p_1 hT_1 hk_1 hS_1 => ?_)
    have p_1 : H_c186 = H_1 ∧ (ai H_c186 (ρ a0 0) 290 = r_1) := p_1
    obtain ⟨rfl, p_1_0⟩ := p_1
    have b_r_1 : 0 ≤ r_1.toInt ∧ r_1.toInt ≤ N + 2 := by rw [← p_1_0]; exact hI_c186.1 290 (by decide)
    have c_r_1 := congrArg Int32.toInt p_1_0
    refine lv_icmp_le (tgt := 205) hx hb dX12_inOthers_194 (by decide) (fun c_2 => ?_) (fun c_2 => ?_)
    · have f_2 : y186_4.toInt ≤ r_1.toInt := r_le rfl rfl c_2
      refine lv_aload_n hx hb dX12_inOthers_205 rfl (lv_at hl 0 rfl) ?_
      refine lv_iload_n hx hb dX12_inOthers_206 rfl (lv_at hl 1 rfl) ?_
      refine lv_iload_n hx hb dX12_inOthers_207 rfl (lv_at hl 2 rfl) ?_
      refine lv_iload hx hb dX12_inOthers_208 (lv_at hl 4 rfl) ?_
      refine th_Vi (As := [.int 1, .int y186_2, .int y186_4]) (rest := []) E hml hl.1 (y_takesIn_v2 l D cI cS τ ρ hW H_c186 hT_1 a0 y186_2 y186_4 ha0 N hN0 hN1 ⟨hI_c186.1, hI_c186.2.1, hI_c186.2.2.1, hI_c186.2.2.2.1, hI_c186.2.2.2.2.1, hI_c186.2.2.2.2.2⟩ (by omega) (by omega)) lk_X12_233 yd_X12_takesIn hT_1 ha0 rfl (by decide) hS_1 (fun q => (fun h => h.elim (fun h => (Or.inr h)) (fun h => (Or.inl h)))) ⟨by decide, by decide⟩ (Nat.le_of_ble_eq_true rfl) ⟨by decide, by decide⟩ rfl dX12_inOthers_210 (fun r_3 H_3 locs_3 p_3 hT_3 hk_3 hS_3 => ?_)
      have p_3 : (IM D ρ N H_3 a0) ∧ ((ai H_c186 (ρ a0 0) 976).toInt ≤ (ai H_3 (ρ a0 0) 976).toInt) := p_3
      obtain ⟨p_3_0, p_3_1⟩ := p_3
      have mn_3 : (ai H_c186 (ρ a0 0) 976).toInt ≤ (ai H_3 (ρ a0 0) 976).toInt := by exact p_3_1
      exact th_iret E hr hlk hs hT_3 hS_3 ⟨⟨p_3_0.1, p_3_0.2.1, p_3_0.2.2.1, p_3_0.2.2.2.1, p_3_0.2.2.2.2.1, p_3_0.2.2.2.2.2⟩, (by omega)⟩ dX12_inOthers_213
    · have f_2 : r_1.toInt < y186_4.toInt := r_nle rfl rfl c_2
      refine lv_aload_n hx hb dX12_inOthers_197 rfl (lv_at hl 0 rfl) ?_
      refine lv_iload_n hx hb dX12_inOthers_198 rfl (lv_at hl 1 rfl) ?_
      refine lv_iconst (v := 5) hx hb dX12_inOthers_199 (by decide) ?_
      refine lv_iconst (v := 0) hx hb dX12_inOthers_200 (by decide) ?_
      refine th_Vi (As := [.int 1, .int 5, .int 0]) (rest := []) E hml hl.1 (y_dropsAndSays_v4 l D cI cS τ ρ hW H_c186 hT_1 a0 ha0 N hN0 hN1 ⟨hI_c186.1, hI_c186.2.1, hI_c186.2.2.1, hI_c186.2.2.2.1, hI_c186.2.2.2.2.1, hI_c186.2.2.2.2.2⟩) lk_X12_230 yd_X12_dropsAndSays hT_1 ha0 rfl (by decide) hS_1 (fun q => (fun h => h.elim (fun h => (Or.inl h)) (fun h => (Or.inr h)))) ⟨by decide, by decide⟩ (Nat.le_of_ble_eq_true rfl) ⟨by decide, by decide⟩ rfl dX12_inOthers_201 (fun r_4 H_4 locs_4 p_4 hT_4 hk_4 hS_4 => ?_)
      have p_4 : (IM D ρ N H_4 a0) ∧ ((ai H_c186 (ρ a0 0) 976).toInt ≤ (ai H_4 (ρ a0 0) 976).toInt) := p_4
      obtain ⟨p_4_0, p_4_1⟩ := p_4
      have mn_4 : (ai H_c186 (ρ a0 0) 976).toInt ≤ (ai H_4 (ρ a0 0) 976).toInt := by exact p_4_1
      exact th_iret E hr hlk hs hT_4 hS_4 ⟨⟨p_4_0.1, p_4_0.2.1, p_4_0.2.2.1, p_4_0.2.2.2.1, p_4_0.2.2.2.2.1, p_4_0.2.2.2.2.2⟩, (by omega)⟩ dX12_inOthers_204
  have J_79 : ∀ (H_c79 : Heap) (lc_c79 : List Loc) (ls : Array Slot) (y79_2 : Int32) (y79_3 : Int32) (z79_3 : Int32), TH D cI cS τ ρ H_c79 → SS (fun q => q = ρ a0 2 ∨ q = ρ a0 0) H H_c79 lc_c79 → lv_has ls 5 [(0, .ref a0), (1, .int 1), (2, .int y79_2), (3, .int y79_3)] → -128 ≤ y79_2.toInt → y79_2.toInt ≤ 760 → 7 ≤ z79_3.toInt → z79_3.toInt ≤ 9 → IM D ρ N H_c79 a0 → (ai H (ρ a0 0) 976).toInt ≤ (ai H_c79 (ρ a0 0) 976).toInt → W p l e (rmO 10 237) s m args below meth c H_c79 lc_c79 0 0 (MQ below (va_Qi (fun (r : Int32) (u : Heap) => (IM D ρ N u a0) ∧ ((ai H (ρ a0 0) 976).toInt ≤ (ai u (ρ a0 0) 976).toInt)) (Bt D cI cS τ ρ H) (fun q => q = ρ a0 2 ∨ q = ρ a0 0)) args s 0 0 (fun q => q = ρ a0 2 ∨ q = ρ a0 0)) (F0 m 79 ls [.int z79_3, .int 6, .int 1, .ref a0]) := by
    intro H_c79 lc_c79 ls y79_2 y79_3 z79_3 hT_c79 hS_c79 hl ly79_2 uy79_2 lz79_3 uz79_3 hI_c79 hmn_c79
    refine th_Vi (As := [.int 1, .int 6, .int z79_3]) (rest := []) E hml hl.1 (y_dropsAndSays_v3 l D cI cS τ ρ hW H_c79 hT_c79 a0 z79_3 ha0 N hN0 hN1 ⟨hI_c79.1, hI_c79.2.1, hI_c79.2.2.1, hI_c79.2.2.2.1, hI_c79.2.2.2.2.1, hI_c79.2.2.2.2.2⟩) lk_X12_230 yd_X12_dropsAndSays hT_c79 ha0 rfl (by decide) hS_c79 (fun q => (fun h => h.elim (fun h => (Or.inl h)) (fun h => (Or.inr h)))) ⟨by decide, by decide⟩ (Nat.le_of_ble_eq_true rfl) ⟨by decide, by decide⟩ rfl dX12_inOthers_79 (fun r_5 H_5 locs_5 p_5 hT_5 hk_5 hS_5 => ?_)
    have p_5 : (IM D ρ N H_5 a0) ∧ ((ai H_c79 (ρ a0 0) 976).toInt ≤ (ai H_5 (ρ a0 0) 976).toInt) := p_5
    obtain ⟨p_5_0, p_5_1⟩ := p_5
    have mn_5 : (ai H_c79 (ρ a0 0) 976).toInt ≤ (ai H_5 (ρ a0 0) 976).toInt := by exact p_5_1
    refine lv_istore (lv' := [(4, .int r_5), (0, .ref a0), (1, .int 1), (2, .int y79_2), (3, .int y79_3)]) hx hb dX12_inOthers_82 hl (by decide) rfl (fun ls hl => ?_)
    refine lv_iload_n hx hb dX12_inOthers_84 rfl (lv_at hl 4 rfl) ?_
    refine lv_bipush (v := 10) hx hb dX12_inOthers_85 (by decide) ?_
    refine lv_icmp_ne (tgt := 103) hx hb dX12_inOthers_87 (by decide) (fun c_6 => ?_) (fun c_6 => ?_)
    · have f_6 : ¬ y79_3.toInt = 10 := r_ne rfl (by decide) c_6
      refine lv_iload hx hb dX12_inOthers_103 (lv_at hl 0 rfl) ?_
      exact th_iret E hr hlk hs hT_5 hS_5 ⟨⟨p_5_0.1, p_5_0.2.1, p_5_0.2.2.1, p_5_0.2.2.2.1, p_5_0.2.2.2.2.1, p_5_0.2.2.2.2.2⟩, (by omega)⟩ dX12_inOthers_105
    · have f_6 : y79_3.toInt = 10 := r_eq rfl (by decide) c_6
      refine lv_aload_n hx hb dX12_inOthers_90 rfl (lv_at hl 1 rfl) ?_
      refine lv_iload_n hx hb dX12_inOthers_91 rfl (lv_at hl 2 rfl) ?_
      refine lv_bipush (v := 12) hx hb dX12_inOthers_92 (by decide) ?_
      refine lv_iconst (v := 2) hx hb dX12_inOthers_94 (by decide) ?_
      refine lv_aload_n hx hb dX12_inOthers_95 rfl (lv_at hl 1 rfl) ?_
      refine gf_X12_32 E hT_5 ha0 dX12_inOthers_96 ?_
      refine th_topi (y := fi D 12 8 H_c79 a0) (fi_q (hk_5 _ (fun h => h.elim (th_ne ha0 (hW _ 12 2 ha0 (by decide) (by decide) (by decide)) (by decide)) (th_ne ha0 (hW _ 12 0 ha0 (by decide) (by decide) (by decide)) (by decide))))) ?_
      refine lv_topi (fun x_7 ex_7 => ?_)
      have b_7 : 1 ≤ x_7.toInt ∧ x_7.toInt ≤ 20 := by rw [ex_7]; exact IF.f8 hI_c79.2.2.2.2.2
      refine lv_imul hx hb dX12_inOthers_99 ?_
      refine lv_topi (fun x_8 ex_8 => ?_)
      have q_8 : x_8.toInt = 2 * x_7.toInt := i_ml (by decide) rfl ex_8 (by omega) (by omega)
      refine th_Vv (As := [.int 1, .int 12, .int x_8]) (rest := []) E hml hl.1 (y_set_v60 l D cI cS τ ρ hW H_5 hT_5 a0 x_8 ha0) lk_X12_95 yd_X12_set hT_5 ha0 rfl (by decide) hS_5 (fun q h => (Or.inr h)) ⟨by decide, by decide⟩ (Nat.le_of_ble_eq_true rfl) ⟨by decide, by decide⟩ rfl dX12_inOthers_100 (fun H_9 locs_9 p_9 hT_9 hk_9 hS_9 => ?_)
      have p_9 : (AU 985 H_5 H_9 (ρ a0 0) 300 x_8) := p_9
      have hW_9 : PW N H_9 (ρ a0 0) := PW.put p_5_0.1 p_9 (by show (-2147483648 : Int) ≤ _; exact i_min _) (by show _ ≤ (2147483647 : Int); exact i_max _)
      refine lv_iload hx hb dX12_inOthers_103 (lv_at hl 0 rfl) ?_
      exact th_iret E hr hlk hs hT_9 hS_9 ⟨⟨hW_9, (QS.same (AU.o p_9 (by decide) (by decide)) (AU.o p_9 (by decide) (by decide)) p_5_0.2.1), (QS.same (AU.o p_9 (by decide) (by decide)) (AU.o p_9 (by decide) (by decide)) p_5_0.2.2.1), (PL.q (p_9.2 _ (th_ne (hW _ 12 2 ha0 (by decide) (by decide) (by decide)) (hW _ 12 0 ha0 (by decide) (by decide) (by decide)) (by decide))) p_5_0.2.2.2.1), (PL.q (p_9.2 _ (th_ne (hW _ 12 3 ha0 (by decide) (by decide) (by decide)) (hW _ 12 0 ha0 (by decide) (by decide) (by decide)) (by decide))) p_5_0.2.2.2.2.1), (IF.q (p_9.2 _ (th_ne ha0 (hW _ 12 0 ha0 (by decide) (by decide) (by decide)) (by decide))) p_5_0.2.2.2.2.2)⟩, (by rw [(AU.o p_9 (by decide) (by decide))]; omega)⟩ dX12_inOthers_105
  refine lv_aload_n hx hb dX12_inOthers_0 rfl (lv_at hl 0 rfl) ?_
  refine lv_iconst (v := 1) hx hb dX12_inOthers_1 (by decide) ?_
  refine lv_iload_n hx hb dX12_inOthers_2 rfl (lv_at hl 1 rfl) ?_
  refine lv_isub hx hb dX12_inOthers_3 ?_
  refine th_topi (y := 0) (by decide) ?_
  refine lv_aload_n hx hb dX12_inOthers_4 rfl (lv_at hl 0 rfl) ?_
  refine gf_X12_19 E hT hW ha0 dX12_inOthers_5 (fun h_10 => ?_)
  refine lv_iconst (v := 2) hx hb dX12_inOthers_8 (by decide) ?_
  refine th_iald E hT h_10 (by decide) (vp_in_iff.mpr ⟨by decide, by decide⟩) dX12_inOthers_9 ?_
  refine th_topi (y := ai H (ρ a0 3) 2) rfl ?_
  refine lv_topi (fun x_11 ex_11 => ?_)
  have c_x_11 := congrArg Int32.toInt ex_11.symm
  refine lv_aload_n hx hb dX12_inOthers_10 rfl (lv_at hl 0 rfl) ?_
  refine lv_iload_n hx hb dX12_inOthers_11 rfl (lv_at hl 1 rfl) ?_
  refine lv_iconst (v := 5) hx hb dX12_inOthers_12 (by decide) ?_
  refine th_Vi (As := [.int 1, .int 5]) (rest := [.int x_11, .int 0, .ref a0]) E hml hl.1 (y_get_v18 l D cI cS τ ρ hW H hT a0 ha0) lk_X12_99 yd_X12_get hT ha0 rfl (by decide) hS (fun _ h => h.elim) ⟨by decide, by decide⟩ (Nat.le_of_ble_eq_true rfl) ⟨by decide, by decide⟩ rfl dX12_inOthers_13 (fun r_12 H_12 locs_12 p_12 hT_12 hk_12 hS_12 => ?_)
  have p_12 : H = H_12 ∧ (ai H (ρ a0 0) 293 = r_12) := p_12
  obtain ⟨rfl, p_12_0⟩ := p_12
  have b_r_12 : 0 ≤ r_12.toInt ∧ r_12.toInt ≤ N + 33 := by rw [← p_12_0]; exact hI.1 293 (by decide)
  have c_r_12 := congrArg Int32.toInt p_12_0
  refine th_Vi (As := [.int 0, .int x_11, .int r_12]) (rest := []) E hml hl.1 (y_means l D cI cS τ ρ hW H hT_12 a0 x_11 r_12 ha0 (by omega)) lk_X12_208 yd_X12_means hT_12 ha0 rfl (by decide) hS_12 (fun _ h => h.elim) ⟨by decide, by decide⟩ (Nat.le_of_ble_eq_true rfl) ⟨by decide, by decide⟩ rfl dX12_inOthers_16 (fun r_13 H_13 locs_13 p_13 hT_13 hk_13 hS_13 => ?_)
  have p_13 : H = H_13 ∧ (r_12.toInt - 128 ≤ r_13.toInt ∧ r_13.toInt ≤ r_12.toInt + 127) := p_13
  obtain ⟨rfl, p_13_0⟩ := p_13
  refine lv_istore_n (lv' := [(2, .int r_13), (0, .ref a0), (1, .int 1)]) hx hb dX12_inOthers_19 rfl hl (by decide) rfl (fun ls hl => ?_)
  refine lv_aload_n hx hb dX12_inOthers_20 rfl (lv_at hl 1 rfl) ?_
  refine lv_iload_n hx hb dX12_inOthers_21 rfl (lv_at hl 2 rfl) ?_
  refine lv_iconst (v := 0) hx hb dX12_inOthers_22 (by decide) ?_
  refine th_Vi (As := [.int 1, .int 0]) (rest := []) E hml hl.1 (y_get_v20 l D cI cS τ ρ hW H hT_13 a0 ha0) lk_X12_99 yd_X12_get hT_13 ha0 rfl (by decide) hS_13 (fun _ h => h.elim) ⟨by decide, by decide⟩ (Nat.le_of_ble_eq_true rfl) ⟨by decide, by decide⟩ rfl dX12_inOthers_23 (fun r_14 H_14 locs_14 p_14 hT_14 hk_14 hS_14 => ?_)
  have p_14 : H = H_14 ∧ (ai H (ρ a0 0) 288 = r_14) := p_14
  obtain ⟨rfl, p_14_0⟩ := p_14
  have c_r_14 := congrArg Int32.toInt p_14_0
  refine lv_istore_n (lv' := [(3, .int r_14), (2, .int r_13), (0, .ref a0), (1, .int 1)]) hx hb dX12_inOthers_26 rfl hl (by decide) rfl (fun ls hl => ?_)
  refine lv_aload_n hx hb dX12_inOthers_27 rfl (lv_at hl 2 rfl) ?_
  refine lv_iload_n hx hb dX12_inOthers_28 rfl (lv_at hl 3 rfl) ?_
  refine lv_iload_n hx hb dX12_inOthers_29 rfl (lv_at hl 1 rfl) ?_
  refine th_Vi (As := [.int 1, .int r_13]) (rest := []) E hml hl.1 (y_fits_v2 l D cI cS τ ρ hW H hT_14 a0 r_13 ha0 N hN0 hN1 ⟨hI.1, hI.2.1, hI.2.2.1, hI.2.2.2.1, hI.2.2.2.2.1, hI.2.2.2.2.2⟩) lk_X12_227 yd_X12_fits hT_14 ha0 rfl (by decide) hS_14 (fun _ h => h.elim) ⟨by decide, by decide⟩ (Nat.le_of_ble_eq_true rfl) ⟨by decide, by decide⟩ rfl dX12_inOthers_30 (fun r_15 H_15 locs_15 p_15 hT_15 hk_15 hS_15 => ?_)
  have p_15 : H = H_15 ∧ (r_15 = 0 ∨ r_15 = 1) := p_15
  obtain ⟨rfl, p_15_0⟩ := p_15
  have z_15 := b_iv p_15_0
  refine lv_if_ne (tgt := 106) hx hb dX12_inOthers_33 (by decide) (fun c_16 => ?_) (fun c_16 => ?_)
  · have f_16 : ¬ r_15.toInt = 0 := r_ne rfl (by decide) c_16
    have nz_r_15 : ¬ r_15 = 0 := c_16
    refine lv_aload_n hx hb dX12_inOthers_106 rfl (lv_at hl 2 rfl) ?_
    refine lv_bipush (v := 8) hx hb dX12_inOthers_107 (by decide) ?_
    refine th_Vi (As := [.int 8]) (rest := []) E hml hl.1 (y_has_v3 l D cI cS τ ρ hW H hT_15 a0 ha0) lk_X12_202 yd_X12_has hT_15 ha0 rfl (by decide) hS_15 (fun _ h => h.elim) ⟨by decide, by decide⟩ (Nat.le_of_ble_eq_true rfl) ⟨by decide, by decide⟩ rfl dX12_inOthers_109 (fun r_17 H_17 locs_17 p_17 hT_17 hk_17 hS_17 => ?_)
    have p_17 : H = H_17 ∧ (r_17 = 0 ∨ r_17 = 1) := p_17
    obtain ⟨rfl, p_17_0⟩ := p_17
    have z_17 := b_iv p_17_0
    refine lv_if_eq (tgt := 122) hx hb dX12_inOthers_112 (by decide) (fun c_18 => ?_) (fun c_18 => ?_)
    · have f_18 : r_17.toInt = 0 := r_eq rfl (by decide) c_18
      refine lv_aload_n hx hb dX12_inOthers_122 rfl (lv_at hl 2 rfl) ?_
      refine lv_iconst (v := 4) hx hb dX12_inOthers_123 (by decide) ?_
      refine th_Vi (As := [.int 4]) (rest := []) E hml hl.1 (y_has_v2 l D cI cS τ ρ hW H hT_17 a0 ha0) lk_X12_202 yd_X12_has hT_17 ha0 rfl (by decide) hS_17 (fun _ h => h.elim) ⟨by decide, by decide⟩ (Nat.le_of_ble_eq_true rfl) ⟨by decide, by decide⟩ rfl dX12_inOthers_124 (fun r_19 H_19 locs_19 p_19 hT_19 hk_19 hS_19 => ?_)
      have p_19 : H = H_19 ∧ (r_19 = 0 ∨ r_19 = 1) := p_19
      obtain ⟨rfl, p_19_0⟩ := p_19
      have z_19 := b_iv p_19_0
      refine lv_if_ne (tgt := 138) hx hb dX12_inOthers_127 (by decide) (fun c_20 => ?_) (fun c_20 => ?_)
      · have f_20 : ¬ r_19.toInt = 0 := r_ne rfl (by decide) c_20
        have nz_r_19 : ¬ r_19 = 0 := c_20
        refine lv_aload_n hx hb dX12_inOthers_138 rfl (lv_at hl 2 rfl) ?_
        refine lv_iload_n hx hb dX12_inOthers_139 rfl (lv_at hl 3 rfl) ?_
        refine lv_aload_n hx hb dX12_inOthers_140 rfl (lv_at hl 2 rfl) ?_
        refine gf_X12_19 E hT_19 hW ha0 dX12_inOthers_141 (fun h_21 => ?_)
        refine lv_iconst (v := 3) hx hb dX12_inOthers_144 (by decide) ?_
        refine th_iald E hT_19 h_21 (by decide) (vp_in_iff.mpr ⟨by decide, by decide⟩) dX12_inOthers_145 ?_
        refine th_topi (y := ai H (ρ a0 3) 3) rfl ?_
        refine lv_topi (fun x_22 ex_22 => ?_)
        have c_x_22 := congrArg Int32.toInt ex_22.symm
        refine lv_aload_n hx hb dX12_inOthers_146 rfl (lv_at hl 2 rfl) ?_
        refine lv_iload_n hx hb dX12_inOthers_147 rfl (lv_at hl 3 rfl) ?_
        refine lv_iconst (v := 1) hx hb dX12_inOthers_148 (by decide) ?_
        refine th_Vi (As := [.int 1, .int 1]) (rest := [.int x_22, .int 1, .ref a0]) E hml hl.1 (y_get_v29 l D cI cS τ ρ hW H hT_19 a0 ha0) lk_X12_99 yd_X12_get hT_19 ha0 rfl (by decide) hS_19 (fun _ h => h.elim) ⟨by decide, by decide⟩ (Nat.le_of_ble_eq_true rfl) ⟨by decide, by decide⟩ rfl dX12_inOthers_149 (fun r_23 H_23 locs_23 p_23 hT_23 hk_23 hS_23 => ?_)
        have p_23 : H = H_23 ∧ (ai H (ρ a0 0) 289 = r_23) := p_23
        obtain ⟨rfl, p_23_0⟩ := p_23
        have b_r_23 : 0 ≤ r_23.toInt ∧ r_23.toInt ≤ N + 2 := by rw [← p_23_0]; exact hI.1 289 (by decide)
        have c_r_23 := congrArg Int32.toInt p_23_0
        refine th_Vi (As := [.int 1, .int x_22, .int r_23]) (rest := []) E hml hl.1 (y_means_v2 l D cI cS τ ρ hW H hT_23 a0 x_22 r_23 ha0 (by omega)) lk_X12_208 yd_X12_means hT_23 ha0 rfl (by decide) hS_23 (fun _ h => h.elim) ⟨by decide, by decide⟩ (Nat.le_of_ble_eq_true rfl) ⟨by decide, by decide⟩ rfl dX12_inOthers_152 (fun r_24 H_24 locs_24 p_24 hT_24 hk_24 hS_24 => ?_)
        have p_24 : H = H_24 ∧ (r_23.toInt - 128 ≤ r_24.toInt ∧ r_24.toInt ≤ r_23.toInt + 127) := p_24
        obtain ⟨rfl, p_24_0⟩ := p_24
        refine lv_istore (lv' := [(4, .int r_24), (3, .int r_14), (2, .int r_13), (0, .ref a0), (1, .int 1)]) hx hb dX12_inOthers_155 hl (by decide) rfl (fun ls hl => ?_)
        refine lv_iload_n hx hb dX12_inOthers_157 rfl (lv_at hl 1 rfl) ?_
        refine lv_iconst (v := 3) hx hb dX12_inOthers_158 (by decide) ?_
        refine lv_icmp_ne (tgt := 186) hx hb dX12_inOthers_159 (by decide) (fun c_25 => ?_) (fun c_25 => ?_)
        · have f_25 : ¬ r_14.toInt = 3 := r_ne rfl (by decide) c_25
          exact J_186 H locs_24 _ r_13 r_14 r_24 hT_24 hS_24 (lv_sub hl [3, 4, 2, 1, 0] rfl) (by omega) (by omega) (by omega) (by omega) ⟨hI.1, hI.2.1, hI.2.2.1, hI.2.2.2.1, hI.2.2.2.2.1, hI.2.2.2.2.2⟩ (by omega)
        · have f_25 : r_14.toInt = 3 := r_eq rfl (by decide) c_25
          refine lv_iload hx hb dX12_inOthers_162 (lv_at hl 0 rfl) ?_
          obtain ⟨x_26, ex_26⟩ : ∃ y : Int64, r_24.toInt64 = y := ⟨_, rfl⟩
          refine lv_i2l (v := x_26) hx hb dX12_inOthers_164 ex_26 ?_
          have q_26 : x_26.toInt = r_24.toInt := by rw [← ex_26]; exact Int32.toInt_toInt64 _
          refine lv_lconst (v := 1) hx hb dX12_inOthers_165 (by decide) ?_
          refine lv_aload_n hx hb dX12_inOthers_166 rfl (lv_at hl 3 rfl) ?_
          refine lv_iload_n hx hb dX12_inOthers_167 rfl (lv_at hl 4 rfl) ?_
          refine lv_iconst (v := 2) hx hb dX12_inOthers_168 (by decide) ?_
          refine th_Vi (As := [.int 1, .int 2]) (rest := [.long 1, .long x_26]) E hml hl.1 (y_get_v32 l D cI cS τ ρ hW H hT_24 a0 ha0) lk_X12_99 yd_X12_get hT_24 ha0 rfl (by decide) hS_24 (fun _ h => h.elim) ⟨by decide, by decide⟩ (Nat.le_of_ble_eq_true rfl) ⟨by decide, by decide⟩ rfl dX12_inOthers_169 (fun r_27 H_27 locs_27 p_27 hT_27 hk_27 hS_27 => ?_)
          have p_27 : H = H_27 ∧ (ai H (ρ a0 0) 290 = r_27) := p_27
          obtain ⟨rfl, p_27_0⟩ := p_27
          have b_r_27 : 0 ≤ r_27.toInt ∧ r_27.toInt ≤ N + 2 := by rw [← p_27_0]; exact hI.1 290 (by decide)
          have c_r_27 := congrArg Int32.toInt p_27_0
          obtain ⟨x_28, ex_28⟩ : ∃ y : Int64, r_27.toInt64 = y := ⟨_, rfl⟩
          refine lv_i2l (v := x_28) hx hb dX12_inOthers_172 ex_28 ?_
          have q_28 : x_28.toInt = r_27.toInt := by rw [← ex_28]; exact Int32.toInt_toInt64 _
          refine th_Si (As := [.long x_26, .long 1, .long x_28]) (rest := []) E hml hl.1 (y_in_v3 l D cI cS τ ρ hW H hT_27 x_26 x_28) lk_X12_54 yd_X12_in hS_27 (fun _ h => h.elim) ⟨by decide, by decide⟩ (Nat.le_of_ble_eq_true rfl) ⟨by decide, by decide⟩ rfl dX12_inOthers_173 (fun r_29 H_29 locs_29 p_29 hT_29 hk_29 hS_29 => ?_)
          have p_29 : H = H_29 ∧ (r_29 = 0 ∨ r_29 = 1) ∧ ((r_29.toInt = 1 ∧ 1 ≤ x_26.toInt ∧ x_26.toInt ≤ x_28.toInt) ∨ (r_29.toInt = 0 ∧ (x_26.toInt < 1 ∨ x_28.toInt < x_26.toInt))) := p_29
          obtain ⟨rfl, p_29_0, p_29_1⟩ := p_29
          have z_29 := b_iv p_29_0
          refine lv_if_ne (tgt := 186) hx hb dX12_inOthers_176 (by decide) (fun c_30 => ?_) (fun c_30 => ?_)
          · have f_30 : ¬ r_29.toInt = 0 := r_ne rfl (by decide) c_30
            have nz_r_29 : ¬ r_29 = 0 := c_30
            exact J_186 H locs_29 _ r_13 r_14 r_24 hT_29 hS_29 (lv_sub hl [3, 4, 2, 1, 0] rfl) (by omega) (by omega) (by omega) (by omega) ⟨hI.1, hI.2.1, hI.2.2.1, hI.2.2.2.1, hI.2.2.2.2.1, hI.2.2.2.2.2⟩ (by omega)
          · have f_30 : r_29.toInt = 0 := r_eq rfl (by decide) c_30
            refine lv_aload_n hx hb dX12_inOthers_179 rfl (lv_at hl 3 rfl) ?_
            refine lv_iload_n hx hb dX12_inOthers_180 rfl (lv_at hl 4 rfl) ?_
            refine lv_iconst (v := 5) hx hb dX12_inOthers_181 (by decide) ?_
            refine th_Vi (As := [.int 1, .int 5]) (rest := []) E hml hl.1 (y_dropsAndBreaks l D cI cS τ ρ hW H hT_29 a0 ha0 N hN0 hN1 ⟨hI.1, hI.2.1, hI.2.2.1, hI.2.2.2.1, hI.2.2.2.2.1, hI.2.2.2.2.2⟩) lk_X12_205 yd_X12_dropsAndBreaks hT_29 ha0 rfl (by decide) hS_29 (fun q => (fun h => h.elim (fun h => (Or.inl h)) (fun h => (Or.inr h)))) ⟨by decide, by decide⟩ (Nat.le_of_ble_eq_true rfl) ⟨by decide, by decide⟩ rfl dX12_inOthers_182 (fun r_31 H_31 locs_31 p_31 hT_31 hk_31 hS_31 => ?_)
            have p_31 : (IM D ρ N H_31 a0) ∧ ((ai H (ρ a0 0) 976).toInt ≤ (ai H_31 (ρ a0 0) 976).toInt) := p_31
            obtain ⟨p_31_0, p_31_1⟩ := p_31
            have mn_31 : (ai H (ρ a0 0) 976).toInt ≤ (ai H_31 (ρ a0 0) 976).toInt := by exact p_31_1
            exact th_iret E hr hlk hs hT_31 hS_31 ⟨⟨p_31_0.1, p_31_0.2.1, p_31_0.2.2.1, p_31_0.2.2.2.1, p_31_0.2.2.2.2.1, p_31_0.2.2.2.2.2⟩, (by omega)⟩ dX12_inOthers_185
      · have f_20 : r_19.toInt = 0 := r_eq rfl (by decide) c_20
        refine lv_aload_n hx hb dX12_inOthers_130 rfl (lv_at hl 2 rfl) ?_
        refine lv_bipush (v := 10) hx hb dX12_inOthers_131 (by decide) ?_
        refine lv_iconst (v := 0) hx hb dX12_inOthers_133 (by decide) ?_
        refine th_Vi (As := [.int 10, .int 0]) (rest := []) E hml hl.1 (y_drops_v5 l D cI cS τ ρ hW H hT_19 a0 ha0 N hN0 hN1 ⟨hI.1, hI.2.1, hI.2.2.1, hI.2.2.2.1, hI.2.2.2.2.1, hI.2.2.2.2.2⟩) lk_X12_199 yd_X12_drops hT_19 ha0 rfl (by decide) hS_19 (fun q h => (Or.inr h)) ⟨by decide, by decide⟩ (Nat.le_of_ble_eq_true rfl) ⟨by decide, by decide⟩ rfl dX12_inOthers_134 (fun r_32 H_32 locs_32 p_32 hT_32 hk_32 hS_32 => ?_)
        have p_32 : (IM D ρ N H_32 a0) ∧ ((ai H (ρ a0 0) 976).toInt ≤ (ai H_32 (ρ a0 0) 976).toInt) := p_32
        obtain ⟨p_32_0, p_32_1⟩ := p_32
        have mn_32 : (ai H (ρ a0 0) 976).toInt ≤ (ai H_32 (ρ a0 0) 976).toInt := by exact p_32_1
        exact th_iret E hr hlk hs hT_32 hS_32 ⟨⟨p_32_0.1, p_32_0.2.1, p_32_0.2.2.1, p_32_0.2.2.2.1, p_32_0.2.2.2.2.1, p_32_0.2.2.2.2.2⟩, (by omega)⟩ dX12_inOthers_137
    · have f_18 : ¬ r_17.toInt = 0 := r_ne rfl (by decide) c_18
      have nz_r_17 : ¬ r_17 = 0 := c_18
      refine lv_aload_n hx hb dX12_inOthers_115 rfl (lv_at hl 2 rfl) ?_
      refine lv_iload_n hx hb dX12_inOthers_116 rfl (lv_at hl 3 rfl) ?_
      refine th_Vv (As := [.int 1]) (rest := []) E hml hl.1 (y_shuts_v2 l D cI cS τ ρ hW H hT_17 a0 ha0 N hN0 hN1 ⟨hI.1, hI.2.1, hI.2.2.1, hI.2.2.2.1, hI.2.2.2.2.1, hI.2.2.2.2.2⟩) lk_X12_180 yd_X12_shuts hT_17 ha0 rfl (by decide) hS_17 (fun q h => (Or.inr h)) ⟨by decide, by decide⟩ (Nat.le_of_ble_eq_true rfl) ⟨by decide, by decide⟩ rfl dX12_inOthers_117 (fun H_33 locs_33 p_33 hT_33 hk_33 hS_33 => ?_)
      have p_33 : (IM D ρ N H_33 a0) ∧ ((ai H (ρ a0 0) 976).toInt ≤ (ai H_33 (ρ a0 0) 976).toInt) := p_33
      obtain ⟨p_33_0, p_33_1⟩ := p_33
      have mn_33 : (ai H (ρ a0 0) 976).toInt ≤ (ai H_33 (ρ a0 0) 976).toInt := by exact p_33_1
      refine lv_iconst (v := 1) hx hb dX12_inOthers_120 (by decide) ?_
      exact th_iret E hr hlk hs hT_33 hS_33 ⟨⟨p_33_0.1, p_33_0.2.1, p_33_0.2.2.1, p_33_0.2.2.2.1, p_33_0.2.2.2.2.1, p_33_0.2.2.2.2.2⟩, (by omega)⟩ dX12_inOthers_121
  · have f_16 : r_15.toInt = 0 := r_eq rfl (by decide) c_16
    refine lv_aload_n hx hb dX12_inOthers_36 rfl (lv_at hl 2 rfl) ?_
    refine lv_iload_n hx hb dX12_inOthers_37 rfl (lv_at hl 3 rfl) ?_
    refine lv_bipush (v := 6) hx hb dX12_inOthers_38 (by decide) ?_
    refine lv_aload_n hx hb dX12_inOthers_40 rfl (lv_at hl 2 rfl) ?_
    refine lv_iload_n hx hb dX12_inOthers_41 rfl (lv_at hl 3 rfl) ?_
    refine lv_bipush (v := 7) hx hb dX12_inOthers_42 (by decide) ?_
    refine th_Vi (As := [.int 1, .int 7]) (rest := [.int 6, .int 1, .ref a0]) E hml hl.1 (y_get_v19 l D cI cS τ ρ hW H hT_15 a0 ha0) lk_X12_99 yd_X12_get hT_15 ha0 rfl (by decide) hS_15 (fun _ h => h.elim) ⟨by decide, by decide⟩ (Nat.le_of_ble_eq_true rfl) ⟨by decide, by decide⟩ rfl dX12_inOthers_44 (fun r_34 H_34 locs_34 p_34 hT_34 hk_34 hS_34 => ?_)
    have p_34 : H = H_34 ∧ (ai H (ρ a0 0) 295 = r_34) := p_34
    obtain ⟨rfl, p_34_0⟩ := p_34
    have b_r_34 : 0 ≤ r_34.toInt ∧ r_34.toInt ≤ N + 33 := by rw [← p_34_0]; exact hI.1 295 (by decide)
    have c_r_34 := congrArg Int32.toInt p_34_0
    refine lv_aload_n hx hb dX12_inOthers_47 rfl (lv_at hl 2 rfl) ?_
    refine lv_iload_n hx hb dX12_inOthers_48 rfl (lv_at hl 3 rfl) ?_
    refine lv_iconst (v := 5) hx hb dX12_inOthers_49 (by decide) ?_
    refine th_Vi (As := [.int 1, .int 5]) (rest := [.int r_34, .int 6, .int 1, .ref a0]) E hml hl.1 (y_get_v18 l D cI cS τ ρ hW H hT_34 a0 ha0) lk_X12_99 yd_X12_get hT_34 ha0 rfl (by decide) hS_34 (fun _ h => h.elim) ⟨by decide, by decide⟩ (Nat.le_of_ble_eq_true rfl) ⟨by decide, by decide⟩ rfl dX12_inOthers_50 (fun r_35 H_35 locs_35 p_35 hT_35 hk_35 hS_35 => ?_)
    have p_35 : H = H_35 ∧ (ai H (ρ a0 0) 293 = r_35) := p_35
    obtain ⟨rfl, p_35_0⟩ := p_35
    have s_35 : r_35 = r_12 := p_35_0.symm.trans p_12_0
    refine th_topi s_35 ?_
    refine lv_icmp_ne (tgt := 61) hx hb dX12_inOthers_53 (by decide) (fun c_36 => ?_) (fun c_36 => ?_)
    · have f_36 : ¬ r_34.toInt = r_12.toInt := r_ne rfl rfl c_36
      refine lv_iload_n hx hb dX12_inOthers_61 rfl (lv_at hl 1 rfl) ?_
      refine lv_aload_n hx hb dX12_inOthers_62 rfl (lv_at hl 2 rfl) ?_
      refine lv_iload_n hx hb dX12_inOthers_63 rfl (lv_at hl 3 rfl) ?_
      refine lv_bipush (v := 7) hx hb dX12_inOthers_64 (by decide) ?_
      refine th_Vi (As := [.int 1, .int 7]) (rest := [.int r_13, .int 6, .int 1, .ref a0]) E hml hl.1 (y_get_v19 l D cI cS τ ρ hW H hT_35 a0 ha0) lk_X12_99 yd_X12_get hT_35 ha0 rfl (by decide) hS_35 (fun _ h => h.elim) ⟨by decide, by decide⟩ (Nat.le_of_ble_eq_true rfl) ⟨by decide, by decide⟩ rfl dX12_inOthers_66 (fun r_37 H_37 locs_37 p_37 hT_37 hk_37 hS_37 => ?_)
      have p_37 : H = H_37 ∧ (ai H (ρ a0 0) 295 = r_37) := p_37
      obtain ⟨rfl, p_37_0⟩ := p_37
      have s_37 : r_37 = r_34 := p_37_0.symm.trans p_34_0
      refine th_topi s_37 ?_
      refine lv_icmp_lt (tgt := 77) hx hb dX12_inOthers_69 (by decide) (fun c_38 => ?_) (fun c_38 => ?_)
      · have f_38 : r_13.toInt < r_34.toInt := r_lt rfl rfl c_38
        refine lv_bipush (v := 9) hx hb dX12_inOthers_77 (by decide) ?_
        exact J_79 H locs_37 _ r_13 r_14 9 hT_37 hS_37 (lv_sub hl [2, 3, 1, 0] rfl) (by omega) (by omega) (by decide) (by decide) ⟨hI.1, hI.2.1, hI.2.2.1, hI.2.2.2.1, hI.2.2.2.2.1, hI.2.2.2.2.2⟩ (by omega)
      · have f_38 : r_34.toInt ≤ r_13.toInt := r_nlt rfl rfl c_38
        refine lv_bipush (v := 8) hx hb dX12_inOthers_72 (by decide) ?_
        refine lv_goto (tgt := 79) hx hb dX12_inOthers_74 (by decide) ?_
        exact J_79 H locs_37 _ r_13 r_14 8 hT_37 hS_37 (lv_sub hl [2, 3, 1, 0] rfl) (by omega) (by omega) (by decide) (by decide) ⟨hI.1, hI.2.1, hI.2.2.1, hI.2.2.2.1, hI.2.2.2.2.1, hI.2.2.2.2.2⟩ (by omega)
    · have f_36 : r_34.toInt = r_12.toInt := r_eq rfl rfl c_36
      refine lv_bipush (v := 7) hx hb dX12_inOthers_56 (by decide) ?_
      refine lv_goto (tgt := 79) hx hb dX12_inOthers_58 (by decide) ?_
      exact J_79 H locs_35 _ r_13 r_14 7 hT_35 hS_35 (lv_sub hl [2, 3, 1, 0] rfl) (by omega) (by omega) (by decide) (by decide) ⟨hI.1, hI.2.1, hI.2.2.1, hI.2.2.2.1, hI.2.2.2.2.1, hI.2.2.2.2.2⟩ (by omega)
set_option maxHeartbeats 4000000 in
set_option maxRecDepth 100000 in
/-- the reference: isBlocked -/
theorem y_isBlocked_v2 (l : Launch) (D : va_G) (cI cS : ClassId) (τ : Nat → Option Nat) (ρ : Nat → Nat → Nat) (hW : WF τ ρ) (H : Heap) (hT : TH D cI cS τ ρ H) (a0 : Nat) (ha0 : τ a0 = some 12) (N : Int) (hN0 : 0 ≤ N) (hN1 : N ≤ 600) (hI : IM D ρ N H a0) : MI l D cI cS τ ρ yX12_isBlocked cX12_isBlocked 2 (some .boolean) 2 45 H [.ref a0, .int 1] (fun (r : Int32) (u : Heap) => (H = u) ∧ (r = 0 ∨ r = 1) ∧ (r.toInt = 1 → ((ai H (ρ a0 0) 288).toInt = 4 ∨ (ai H (ρ a0 0) 288).toInt = 7))) (fun q => False) := by
  refine MI.of (by decide) (Nat.le_of_ble_eq_true rfl) ?_
  intro p e s m args below meth c E hml hr hlk hs ls hl
  have hx := E.1
  have hb := E.2.1
  have hown := E.2.2.1
  have hts := E.2.2.2.1
  have hS : SS (fun q => False) H H [] := SS.rf
  have hl : lv_has ls 2 [(0, .ref a0), (1, .int 1)] := hl
  have n01 := hI.2.2.2.2.2.1
  have n23 := hI.2.2.2.2.2.2.1
  refine lv_aload_n hx hb dX12_isBlocked_0 rfl (lv_at hl 0 rfl) ?_
  refine lv_iload_n hx hb dX12_isBlocked_1 rfl (lv_at hl 1 rfl) ?_
  refine lv_iconst (v := 4) hx hb dX12_isBlocked_2 (by decide) ?_
  refine lv_bipush (v := 7) hx hb dX12_isBlocked_3 (by decide) ?_
  refine th_Vi (As := [.int 1, .int 4, .int 7]) (rest := []) E hml hl.1 (y_isIn_v2 l D cI cS τ ρ hW H hT a0 ha0) lk_X12_106 yd_X12_isIn hT ha0 rfl (by decide) hS (fun _ h => h.elim) ⟨by decide, by decide⟩ (Nat.le_of_ble_eq_true rfl) ⟨by decide, by decide⟩ rfl dX12_isBlocked_5 (fun r_1 H_1 locs_1 p_1 hT_1 hk_1 hS_1 => ?_)
  have p_1 : H = H_1 ∧ (r_1 = 0 ∨ r_1 = 1) ∧ ((r_1.toInt = 1 ∧ ((ai H (ρ a0 0) 288).toInt = 4 ∨ (ai H (ρ a0 0) 288).toInt = 7)) ∨ (r_1.toInt = 0 ∧ ¬ (ai H (ρ a0 0) 288).toInt = 4 ∧ ¬ (ai H (ρ a0 0) 288).toInt = 7)) := p_1
  obtain ⟨rfl, p_1_0, p_1_1⟩ := p_1
  have z_1 := b_iv p_1_0
  refine lv_if_eq (tgt := 55) hx hb dX12_isBlocked_8 (by decide) (fun c_2 => ?_) (fun c_2 => ?_)
  · have f_2 : r_1.toInt = 0 := r_eq rfl (by decide) c_2
    refine lv_iconst (v := 0) hx hb dX12_isBlocked_55 (by decide) ?_
    exact th_zret E hr hlk hs (Or.inl rfl) hT_1 hS_1 ⟨rfl, (Or.inl rfl), (by have : (0 : Int32).toInt = 0 := (by decide); omega)⟩ dX12_isBlocked_56
  · have f_2 : ¬ r_1.toInt = 0 := r_ne rfl (by decide) c_2
    have nz_r_1 : ¬ r_1 = 0 := c_2
    refine lv_aload_n hx hb dX12_isBlocked_11 rfl (lv_at hl 0 rfl) ?_
    refine lv_iload_n hx hb dX12_isBlocked_12 rfl (lv_at hl 1 rfl) ?_
    refine lv_iconst (v := 1) hx hb dX12_isBlocked_13 (by decide) ?_
    refine th_Vi (As := [.int 1, .int 1]) (rest := []) E hml hl.1 (y_get_v29 l D cI cS τ ρ hW H hT_1 a0 ha0) lk_X12_99 yd_X12_get hT_1 ha0 rfl (by decide) hS_1 (fun _ h => h.elim) ⟨by decide, by decide⟩ (Nat.le_of_ble_eq_true rfl) ⟨by decide, by decide⟩ rfl dX12_isBlocked_14 (fun r_3 H_3 locs_3 p_3 hT_3 hk_3 hS_3 => ?_)
    have p_3 : H = H_3 ∧ (ai H (ρ a0 0) 289 = r_3) := p_3
    obtain ⟨rfl, p_3_0⟩ := p_3
    have b_r_3 : 0 ≤ r_3.toInt ∧ r_3.toInt ≤ N + 2 := by rw [← p_3_0]; exact hI.1 289 (by decide)
    have c_r_3 := congrArg Int32.toInt p_3_0
    refine lv_aload_n hx hb dX12_isBlocked_17 rfl (lv_at hl 0 rfl) ?_
    refine lv_iload_n hx hb dX12_isBlocked_18 rfl (lv_at hl 1 rfl) ?_
    refine lv_iconst (v := 2) hx hb dX12_isBlocked_19 (by decide) ?_
    refine th_Vi (As := [.int 1, .int 2]) (rest := [.int r_3]) E hml hl.1 (y_get_v32 l D cI cS τ ρ hW H hT_3 a0 ha0) lk_X12_99 yd_X12_get hT_3 ha0 rfl (by decide) hS_3 (fun _ h => h.elim) ⟨by decide, by decide⟩ (Nat.le_of_ble_eq_true rfl) ⟨by decide, by decide⟩ rfl dX12_isBlocked_20 (fun r_4 H_4 locs_4 p_4 hT_4 hk_4 hS_4 => ?_)
    have p_4 : H = H_4 ∧ (ai H (ρ a0 0) 290 = r_4) := p_4
    obtain ⟨rfl, p_4_0⟩ := p_4
    have b_r_4 : 0 ≤ r_4.toInt ∧ r_4.toInt ≤ N + 2 := by rw [← p_4_0]; exact hI.1 290 (by decide)
    have c_r_4 := congrArg Int32.toInt p_4_0
    refine lv_icmp_ne (tgt := 55) hx hb dX12_isBlocked_23 (by decide) (fun c_5 => ?_) (fun c_5 => ?_)
    · have f_5 : ¬ r_3.toInt = r_4.toInt := r_ne rfl rfl c_5
      refine lv_iconst (v := 0) hx hb dX12_isBlocked_55 (by decide) ?_
      exact th_zret E hr hlk hs (Or.inl rfl) hT_4 hS_4 ⟨rfl, (Or.inl rfl), (by have : (0 : Int32).toInt = 0 := (by decide); omega)⟩ dX12_isBlocked_56
    · have f_5 : r_3.toInt = r_4.toInt := r_eq rfl rfl c_5
      refine lv_aload_n hx hb dX12_isBlocked_26 rfl (lv_at hl 0 rfl) ?_
      refine lv_iload_n hx hb dX12_isBlocked_27 rfl (lv_at hl 1 rfl) ?_
      refine lv_aload_n hx hb dX12_isBlocked_28 rfl (lv_at hl 0 rfl) ?_
      refine lv_iload_n hx hb dX12_isBlocked_29 rfl (lv_at hl 1 rfl) ?_
      refine lv_iconst (v := 2) hx hb dX12_isBlocked_30 (by decide) ?_
      refine th_Vi (As := [.int 1, .int 2]) (rest := [.int 1, .ref a0]) E hml hl.1 (y_get_v32 l D cI cS τ ρ hW H hT_4 a0 ha0) lk_X12_99 yd_X12_get hT_4 ha0 rfl (by decide) hS_4 (fun _ h => h.elim) ⟨by decide, by decide⟩ (Nat.le_of_ble_eq_true rfl) ⟨by decide, by decide⟩ rfl dX12_isBlocked_31 (fun r_6 H_6 locs_6 p_6 hT_6 hk_6 hS_6 => ?_)
      have p_6 : H = H_6 ∧ (ai H (ρ a0 0) 290 = r_6) := p_6
      obtain ⟨rfl, p_6_0⟩ := p_6
      have s_6 : r_6 = r_4 := p_6_0.symm.trans p_4_0
      refine th_topi s_6 ?_
      refine th_Vi (As := [.int 1, .int r_4]) (rest := []) E hml hl.1 (y_saidFrom_v2 l D cI cS τ ρ hW H hT_6 a0 r_4 ha0 N hN0 hN1 ⟨hI.1, hI.2.1, hI.2.2.1, hI.2.2.2.1, hI.2.2.2.2.1, hI.2.2.2.2.2⟩ (by omega)) lk_X12_109 yd_X12_saidFrom hT_6 ha0 rfl (by decide) hS_6 (fun _ h => h.elim) ⟨by decide, by decide⟩ (Nat.le_of_ble_eq_true rfl) ⟨by decide, by decide⟩ rfl dX12_isBlocked_34 (fun r_7 H_7 locs_7 p_7 hT_7 hk_7 hS_7 => ?_)
      have p_7 : H = H_7 ∧ (0 ≤ r_7.toInt ∧ (r_7.toInt = 0 ∨ (1 ≤ r_4.toInt ∧ r_7.toInt = (ai H (ρ a0 0) 292).toInt + 1 - r_4.toInt) ∨ (r_4.toInt < 1 ∧ r_7.toInt = (ai H (ρ a0 0) 292).toInt)) ∧ (ai H (ρ a0 0) 292).toInt ≤ N) := p_7
      obtain ⟨rfl, p_7_0⟩ := p_7
      refine lv_if_gt (tgt := 51) hx hb dX12_isBlocked_37 (by decide) (fun c_8 => ?_) (fun c_8 => ?_)
      · have f_8 : 0 < r_7.toInt := r_lt (by decide) rfl c_8
        refine lv_iconst (v := 1) hx hb dX12_isBlocked_51 (by decide) ?_
        refine lv_goto (tgt := 56) hx hb dX12_isBlocked_52 (by decide) ?_
        exact th_zret E hr hlk hs (Or.inr rfl) hT_7 hS_7 ⟨rfl, (Or.inr rfl), (by have : (1 : Int32).toInt = 1 := (by decide); omega)⟩ dX12_isBlocked_56
      · have f_8 : r_7.toInt ≤ 0 := r_nlt (by decide) rfl c_8
        refine lv_aload_n hx hb dX12_isBlocked_40 rfl (lv_at hl 0 rfl) ?_
        refine lv_iload_n hx hb dX12_isBlocked_41 rfl (lv_at hl 1 rfl) ?_
        refine lv_bipush (v := 13) hx hb dX12_isBlocked_42 (by decide) ?_
        refine th_Vi (As := [.int 1, .int 13]) (rest := []) E hml hl.1 (y_get_v34 l D cI cS τ ρ hW H hT_7 a0 ha0) lk_X12_99 yd_X12_get hT_7 ha0 rfl (by decide) hS_7 (fun _ h => h.elim) ⟨by decide, by decide⟩ (Nat.le_of_ble_eq_true rfl) ⟨by decide, by decide⟩ rfl dX12_isBlocked_44 (fun r_9 H_9 locs_9 p_9 hT_9 hk_9 hS_9 => ?_)
        have p_9 : H = H_9 ∧ (ai H (ρ a0 0) 301 = r_9) := p_9
        obtain ⟨rfl, p_9_0⟩ := p_9
        have c_r_9 := congrArg Int32.toInt p_9_0
        refine lv_iconst (v := 1) hx hb dX12_isBlocked_47 (by decide) ?_
        refine lv_icmp_ne (tgt := 55) hx hb dX12_isBlocked_48 (by decide) (fun c_10 => ?_) (fun c_10 => ?_)
        · have f_10 : ¬ r_9.toInt = 1 := r_ne rfl (by decide) c_10
          refine lv_iconst (v := 0) hx hb dX12_isBlocked_55 (by decide) ?_
          exact th_zret E hr hlk hs (Or.inl rfl) hT_9 hS_9 ⟨rfl, (Or.inl rfl), (by have : (0 : Int32).toInt = 0 := (by decide); omega)⟩ dX12_isBlocked_56
        · have f_10 : r_9.toInt = 1 := r_eq rfl (by decide) c_10
          refine lv_iconst (v := 1) hx hb dX12_isBlocked_51 (by decide) ?_
          refine lv_goto (tgt := 56) hx hb dX12_isBlocked_52 (by decide) ?_
          exact th_zret E hr hlk hs (Or.inr rfl) hT_9 hS_9 ⟨rfl, (Or.inr rfl), (by have : (1 : Int32).toInt = 1 := (by decide); omega)⟩ dX12_isBlocked_56
set_option maxHeartbeats 4000000 in
set_option maxRecDepth 100000 in
/-- the reference: get -/
theorem y_get_v39 (l : Launch) (D : va_G) (cI cS : ClassId) (τ : Nat → Option Nat) (ρ : Nat → Nat → Nat) (hW : WF τ ρ) (H : Heap) (hT : TH D cI cS τ ρ H) (a0 : Nat) (ha0 : τ a0 = some 12) : MI l D cI cS τ ρ yX12_get cX12_get 3 (some .int) 0 0 H [.ref a0, .int 1, .int 11] (fun (r : Int32) (u : Heap) => (H = u) ∧ (ai H (ρ a0 0) 299 = r)) (fun q => False) := by
  refine MI.of (by decide) (Nat.le_of_ble_eq_true rfl) ?_
  intro p e s m args below meth c E hml hr hlk hs ls hl
  have hx := E.1
  have hb := E.2.1
  have hown := E.2.2.1
  have hts := E.2.2.2.1
  have hS : SS (fun q => False) H H [] := SS.rf
  have hl : lv_has ls 3 [(0, .ref a0), (1, .int 1), (2, .int 11)] := hl
  refine lv_aload_n hx hb dX12_get_0 rfl (lv_at hl 0 rfl) ?_
  refine gf_X12_7 E hT hW ha0 dX12_get_1 (fun h_1 => ?_)
  refine lv_sipush (v := 288) hx hb dX12_get_4 (by decide) ?_
  refine lv_iload_n hx hb dX12_get_7 rfl (lv_at hl 1 rfl) ?_
  refine lv_imul hx hb dX12_get_8 ?_
  refine th_topi (y := 288) (by decide) ?_
  refine lv_iload_n hx hb dX12_get_9 rfl (lv_at hl 2 rfl) ?_
  refine lv_iadd hx hb dX12_get_10 ?_
  refine th_topi (y := 299) (by decide) ?_
  refine th_iald E hT h_1 (by decide) (vp_in_iff.mpr ⟨by decide, by decide⟩) dX12_get_11 ?_
  refine th_topi (y := ai H (ρ a0 0) 299) rfl ?_
  refine lv_topi (fun x_2 ex_2 => ?_)
  have c_x_2 := congrArg Int32.toInt ex_2.symm
  exact th_iret E hr hlk hs hT hS ⟨rfl, ex_2.symm⟩ dX12_get_12
set_option maxHeartbeats 4000000 in
set_option maxRecDepth 100000 in
/-- the reference: get -/
theorem y_get_v40 (l : Launch) (D : va_G) (cI cS : ClassId) (τ : Nat → Option Nat) (ρ : Nat → Nat → Nat) (hW : WF τ ρ) (H : Heap) (hT : TH D cI cS τ ρ H) (a0 : Nat) (ha0 : τ a0 = some 12) : MI l D cI cS τ ρ yX12_get cX12_get 3 (some .int) 0 0 H [.ref a0, .int 1, .int 8] (fun (r : Int32) (u : Heap) => (H = u) ∧ (ai H (ρ a0 0) 296 = r)) (fun q => False) := by
  refine MI.of (by decide) (Nat.le_of_ble_eq_true rfl) ?_
  intro p e s m args below meth c E hml hr hlk hs ls hl
  have hx := E.1
  have hb := E.2.1
  have hown := E.2.2.1
  have hts := E.2.2.2.1
  have hS : SS (fun q => False) H H [] := SS.rf
  have hl : lv_has ls 3 [(0, .ref a0), (1, .int 1), (2, .int 8)] := hl
  refine lv_aload_n hx hb dX12_get_0 rfl (lv_at hl 0 rfl) ?_
  refine gf_X12_7 E hT hW ha0 dX12_get_1 (fun h_1 => ?_)
  refine lv_sipush (v := 288) hx hb dX12_get_4 (by decide) ?_
  refine lv_iload_n hx hb dX12_get_7 rfl (lv_at hl 1 rfl) ?_
  refine lv_imul hx hb dX12_get_8 ?_
  refine th_topi (y := 288) (by decide) ?_
  refine lv_iload_n hx hb dX12_get_9 rfl (lv_at hl 2 rfl) ?_
  refine lv_iadd hx hb dX12_get_10 ?_
  refine th_topi (y := 296) (by decide) ?_
  refine th_iald E hT h_1 (by decide) (vp_in_iff.mpr ⟨by decide, by decide⟩) dX12_get_11 ?_
  refine th_topi (y := ai H (ρ a0 0) 296) rfl ?_
  refine lv_topi (fun x_2 ex_2 => ?_)
  have c_x_2 := congrArg Int32.toInt ex_2.symm
  exact th_iret E hr hlk hs hT hS ⟨rfl, ex_2.symm⟩ dX12_get_12
set_option maxHeartbeats 4000000 in
set_option maxRecDepth 100000 in
/-- the reference: set -/
theorem y_set_v64 (l : Launch) (D : va_G) (cI cS : ClassId) (τ : Nat → Option Nat) (ρ : Nat → Nat → Nat) (hW : WF τ ρ) (H : Heap) (hT : TH D cI cS τ ρ H) (a0 : Nat) (x2 : Int32) (ha0 : τ a0 = some 12) : MV l D cI cS τ ρ yX12_set cX12_set 4 none 0 0 H [.ref a0, .int 1, .int 11, .int x2] (fun (u : Heap) => (AU 985 H u (ρ a0 0) 299 x2)) (fun q => q = ρ a0 0) := by
  refine MV.of (by decide) (Nat.le_of_ble_eq_true rfl) ?_
  intro p e s m args below meth c E hml hr hlk hs ls hl
  have hx := E.1
  have hb := E.2.1
  have hown := E.2.2.1
  have hts := E.2.2.2.1
  have hS : SS (fun q => q = ρ a0 0) H H [] := SS.rf
  have hl : lv_has ls 4 [(0, .ref a0), (1, .int 1), (2, .int 11), (3, .int x2)] := hl
  refine lv_aload_n hx hb dX12_set_0 rfl (lv_at hl 0 rfl) ?_
  refine gf_X12_7 E hT hW ha0 dX12_set_1 (fun h_1 => ?_)
  refine lv_sipush (v := 288) hx hb dX12_set_4 (by decide) ?_
  refine lv_iload_n hx hb dX12_set_7 rfl (lv_at hl 1 rfl) ?_
  refine lv_imul hx hb dX12_set_8 ?_
  refine th_topi (y := 288) (by decide) ?_
  refine lv_iload_n hx hb dX12_set_9 rfl (lv_at hl 2 rfl) ?_
  refine lv_iadd hx hb dX12_set_10 ?_
  refine th_topi (y := 299) (by decide) ?_
  refine lv_iload_n hx hb dX12_set_11 rfl (lv_at hl 3 rfl) ?_
  refine th_iast E hT hS h_1 rfl (by decide) (vp_in_iff.mpr ⟨by decide, by decide⟩) dX12_set_12 (fun H_2 locs_2 hT_2 hU_2 hS_2 => ?_)
  have hU_2 : AU 985 H H_2 (ρ a0 0) 299 x2 := hU_2
  exact th_vret E hr hlk hs hT_2 hS_2 hU_2 dX12_set_13
set_option maxHeartbeats 4000000 in
set_option maxRecDepth 100000 in
/-- the reference: settles -/
theorem y_settles_v2 (l : Launch) (D : va_G) (cI cS : ClassId) (τ : Nat → Option Nat) (ρ : Nat → Nat → Nat) (hW : WF τ ρ) (H : Heap) (hT : TH D cI cS τ ρ H) (a0 : Nat) (ha0 : τ a0 = some 12) (N : Int) (hN0 : 0 ≤ N) (hN1 : N ≤ 600) (hI : IM D ρ N H a0) : MV l D cI cS τ ρ yX12_settles cX12_settles 3 none 3 66 H [.ref a0, .int 1] (fun (u : Heap) => (IM D ρ N u a0) ∧ ((ai H (ρ a0 0) 976).toInt ≤ (ai u (ρ a0 0) 976).toInt)) (fun q => q = ρ a0 0) := by
  refine MV.of (by decide) (Nat.le_of_ble_eq_true rfl) ?_
  intro p e s m args below meth c E hml hr hlk hs ls hl
  have hx := E.1
  have hb := E.2.1
  have hown := E.2.2.1
  have hts := E.2.2.2.1
  have hS : SS (fun q => q = ρ a0 0) H H [] := SS.rf
  have hl : lv_has ls 3 [(0, .ref a0), (1, .int 1)] := hl
  have n01 := hI.2.2.2.2.2.1
  have n23 := hI.2.2.2.2.2.2.1
  have J_38 : ∀ (H_c38 : Heap) (lc_c38 : List Loc) (ls : Array Slot) (z38_0 : Int32), TH D cI cS τ ρ H_c38 → SS (fun q => q = ρ a0 0) H H_c38 lc_c38 → lv_has ls 3 [(0, .ref a0), (1, .int 1)] → z38_0 = 0 ∨ z38_0 = 1 → IM D ρ N H_c38 a0 → (ai H (ρ a0 0) 976).toInt ≤ (ai H_c38 (ρ a0 0) 976).toInt → W p l e (rmO 3 66) s m args below meth c H_c38 lc_c38 0 0 (MQ below (va_Qv (fun (u : Heap) => (IM D ρ N u a0) ∧ ((ai H (ρ a0 0) 976).toInt ≤ (ai u (ρ a0 0) 976).toInt)) (Bt D cI cS τ ρ H) (fun q => q = ρ a0 0)) args s 0 0 (fun q => q = ρ a0 0)) (F0 m 38 ls [.int z38_0]) := by
    intro H_c38 lc_c38 ls z38_0 hT_c38 hS_c38 hl bz38_0 hI_c38 hmn_c38
    have z_z38_0 := b_iv bz38_0
    refine lv_istore_n (lv' := [(2, .int z38_0), (0, .ref a0), (1, .int 1)]) hx hb dX12_settles_38 rfl hl (by decide) rfl (fun ls hl => ?_)
    refine lv_iload_n hx hb dX12_settles_39 rfl (lv_at hl 0 rfl) ?_
    refine lv_if_ne (tgt := 54) hx hb dX12_settles_40 (by decide) (fun c_1 => ?_) (fun c_1 => ?_)
    · have f_1 : ¬ z38_0.toInt = 0 := r_ne rfl (by decide) c_1
      have nz_z38_0 : ¬ z38_0 = 0 := c_1
      refine lv_aload_n hx hb dX12_settles_54 rfl (lv_at hl 1 rfl) ?_
      refine lv_iload_n hx hb dX12_settles_55 rfl (lv_at hl 2 rfl) ?_
      refine lv_bipush (v := 11) hx hb dX12_settles_56 (by decide) ?_
      refine th_Vi (As := [.int 1, .int 11]) (rest := []) E hml hl.1 (y_get_v39 l D cI cS τ ρ hW H_c38 hT_c38 a0 ha0) lk_X12_99 yd_X12_get hT_c38 ha0 rfl (by decide) hS_c38 (fun _ h => h.elim) ⟨by decide, by decide⟩ (Nat.le_of_ble_eq_true rfl) ⟨by decide, by decide⟩ rfl dX12_settles_58 (fun r_2 H_2 locs_2 p_2 hT_2 hk_2 hS_2 => ?_)
      have p_2 : H_c38 = H_2 ∧ (ai H_c38 (ρ a0 0) 299 = r_2) := p_2
      obtain ⟨rfl, p_2_0⟩ := p_2
      have c_r_2 := congrArg Int32.toInt p_2_0
      refine lv_if_ne (tgt := 78) hx hb dX12_settles_61 (by decide) (fun c_3 => ?_) (fun c_3 => ?_)
      · have f_3 : ¬ r_2.toInt = 0 := r_ne rfl (by decide) c_3
        have nz_r_2 : ¬ r_2 = 0 := c_3
        exact th_vret E hr hlk hs hT_2 hS_2 ⟨⟨hI_c38.1, hI_c38.2.1, hI_c38.2.2.1, hI_c38.2.2.2.1, hI_c38.2.2.2.2.1, hI_c38.2.2.2.2.2⟩, (by omega)⟩ dX12_settles_78
      · have f_3 : r_2.toInt = 0 := r_eq rfl (by decide) c_3
        refine lv_aload_n hx hb dX12_settles_64 rfl (lv_at hl 1 rfl) ?_
        refine lv_iload_n hx hb dX12_settles_65 rfl (lv_at hl 2 rfl) ?_
        refine lv_bipush (v := 11) hx hb dX12_settles_66 (by decide) ?_
        refine lv_aload_n hx hb dX12_settles_68 rfl (lv_at hl 1 rfl) ?_
        refine lv_iload_n hx hb dX12_settles_69 rfl (lv_at hl 2 rfl) ?_
        refine lv_bipush (v := 8) hx hb dX12_settles_70 (by decide) ?_
        refine th_Vi (As := [.int 1, .int 8]) (rest := [.int 11, .int 1, .ref a0]) E hml hl.1 (y_get_v40 l D cI cS τ ρ hW H_c38 hT_2 a0 ha0) lk_X12_99 yd_X12_get hT_2 ha0 rfl (by decide) hS_2 (fun _ h => h.elim) ⟨by decide, by decide⟩ (Nat.le_of_ble_eq_true rfl) ⟨by decide, by decide⟩ rfl dX12_settles_72 (fun r_4 H_4 locs_4 p_4 hT_4 hk_4 hS_4 => ?_)
        have p_4 : H_c38 = H_4 ∧ (ai H_c38 (ρ a0 0) 296 = r_4) := p_4
        obtain ⟨rfl, p_4_0⟩ := p_4
        have c_r_4 := congrArg Int32.toInt p_4_0
        refine th_Vv (As := [.int 1, .int 11, .int r_4]) (rest := []) E hml hl.1 (y_set_v64 l D cI cS τ ρ hW H_c38 hT_4 a0 r_4 ha0) lk_X12_95 yd_X12_set hT_4 ha0 rfl (by decide) hS_4 (fun q h => h) ⟨by decide, by decide⟩ (Nat.le_of_ble_eq_true rfl) ⟨by decide, by decide⟩ rfl dX12_settles_75 (fun H_5 locs_5 p_5 hT_5 hk_5 hS_5 => ?_)
        have p_5 : (AU 985 H_c38 H_5 (ρ a0 0) 299 r_4) := p_5
        have hW_5 : PW N H_5 (ρ a0 0) := PW.put hI_c38.1 p_5 (by show (-2147483648 : Int) ≤ _; exact i_min _) (by show _ ≤ (2147483647 : Int); exact i_max _)
        exact th_vret E hr hlk hs hT_5 hS_5 ⟨⟨hW_5, (QS.same (AU.o p_5 (by decide) (by decide)) (AU.o p_5 (by decide) (by decide)) hI_c38.2.1), (QS.same (AU.o p_5 (by decide) (by decide)) (AU.o p_5 (by decide) (by decide)) hI_c38.2.2.1), (PL.q (p_5.2 _ (th_ne (hW _ 12 2 ha0 (by decide) (by decide) (by decide)) (hW _ 12 0 ha0 (by decide) (by decide) (by decide)) (by decide))) hI_c38.2.2.2.1), (PL.q (p_5.2 _ (th_ne (hW _ 12 3 ha0 (by decide) (by decide) (by decide)) (hW _ 12 0 ha0 (by decide) (by decide) (by decide)) (by decide))) hI_c38.2.2.2.2.1), (IF.q (p_5.2 _ (th_ne ha0 (hW _ 12 0 ha0 (by decide) (by decide) (by decide)) (by decide))) hI_c38.2.2.2.2.2)⟩, (by rw [(AU.o p_5 (by decide) (by decide))]; omega)⟩ dX12_settles_78
    · have f_1 : z38_0.toInt = 0 := r_eq rfl (by decide) c_1
      refine lv_aload_n hx hb dX12_settles_43 rfl (lv_at hl 1 rfl) ?_
      refine lv_iload_n hx hb dX12_settles_44 rfl (lv_at hl 2 rfl) ?_
      refine lv_bipush (v := 11) hx hb dX12_settles_45 (by decide) ?_
      refine lv_iconst (v := 0) hx hb dX12_settles_47 (by decide) ?_
      refine th_Vv (As := [.int 1, .int 11, .int 0]) (rest := []) E hml hl.1 (y_set_v45 l D cI cS τ ρ hW H_c38 hT_c38 a0 ha0) lk_X12_95 yd_X12_set hT_c38 ha0 rfl (by decide) hS_c38 (fun q h => h) ⟨by decide, by decide⟩ (Nat.le_of_ble_eq_true rfl) ⟨by decide, by decide⟩ rfl dX12_settles_48 (fun H_6 locs_6 p_6 hT_6 hk_6 hS_6 => ?_)
      have p_6 : (AU 985 H_c38 H_6 (ρ a0 0) 299 (0)) := p_6
      have hW_6 : PW N H_6 (ρ a0 0) := PW.put hI_c38.1 p_6 (by show (-2147483648 : Int) ≤ _; exact i_min _) (by show _ ≤ (2147483647 : Int); exact i_max _)
      refine lv_goto (tgt := 78) hx hb dX12_settles_51 (by decide) ?_
      exact th_vret E hr hlk hs hT_6 hS_6 ⟨⟨hW_6, (QS.same (AU.o p_6 (by decide) (by decide)) (AU.o p_6 (by decide) (by decide)) hI_c38.2.1), (QS.same (AU.o p_6 (by decide) (by decide)) (AU.o p_6 (by decide) (by decide)) hI_c38.2.2.1), (PL.q (p_6.2 _ (th_ne (hW _ 12 2 ha0 (by decide) (by decide) (by decide)) (hW _ 12 0 ha0 (by decide) (by decide) (by decide)) (by decide))) hI_c38.2.2.2.1), (PL.q (p_6.2 _ (th_ne (hW _ 12 3 ha0 (by decide) (by decide) (by decide)) (hW _ 12 0 ha0 (by decide) (by decide) (by decide)) (by decide))) hI_c38.2.2.2.2.1), (IF.q (p_6.2 _ (th_ne ha0 (hW _ 12 0 ha0 (by decide) (by decide) (by decide)) (by decide))) hI_c38.2.2.2.2.2)⟩, (by rw [(AU.o p_6 (by decide) (by decide))]; omega)⟩ dX12_settles_78
  have J_37 : ∀ (H_c37 : Heap) (lc_c37 : List Loc) (ls : Array Slot), TH D cI cS τ ρ H_c37 → SS (fun q => q = ρ a0 0) H H_c37 lc_c37 → lv_has ls 3 [(0, .ref a0), (1, .int 1)] → IM D ρ N H_c37 a0 → (ai H (ρ a0 0) 976).toInt ≤ (ai H_c37 (ρ a0 0) 976).toInt → W p l e (rmO 3 66) s m args below meth c H_c37 lc_c37 0 0 (MQ below (va_Qv (fun (u : Heap) => (IM D ρ N u a0) ∧ ((ai H (ρ a0 0) 976).toInt ≤ (ai u (ρ a0 0) 976).toInt)) (Bt D cI cS τ ρ H) (fun q => q = ρ a0 0)) args s 0 0 (fun q => q = ρ a0 0)) (F0 m 37 ls []) := by
    intro H_c37 lc_c37 ls hT_c37 hS_c37 hl hI_c37 hmn_c37
    refine lv_iconst (v := 0) hx hb dX12_settles_37 (by decide) ?_
    exact J_38 H_c37 lc_c37 _ 0 hT_c37 hS_c37 hl (Or.inl rfl) ⟨hI_c37.1, hI_c37.2.1, hI_c37.2.2.1, hI_c37.2.2.2.1, hI_c37.2.2.2.2.1, hI_c37.2.2.2.2.2⟩ (by omega)
  have J_33 : ∀ (H_c33 : Heap) (lc_c33 : List Loc) (ls : Array Slot), TH D cI cS τ ρ H_c33 → SS (fun q => q = ρ a0 0) H H_c33 lc_c33 → lv_has ls 3 [(0, .ref a0), (1, .int 1)] → IM D ρ N H_c33 a0 → (ai H (ρ a0 0) 976).toInt ≤ (ai H_c33 (ρ a0 0) 976).toInt → W p l e (rmO 3 66) s m args below meth c H_c33 lc_c33 0 0 (MQ below (va_Qv (fun (u : Heap) => (IM D ρ N u a0) ∧ ((ai H (ρ a0 0) 976).toInt ≤ (ai u (ρ a0 0) 976).toInt)) (Bt D cI cS τ ρ H) (fun q => q = ρ a0 0)) args s 0 0 (fun q => q = ρ a0 0)) (F0 m 33 ls []) := by
    intro H_c33 lc_c33 ls hT_c33 hS_c33 hl hI_c33 hmn_c33
    refine lv_iconst (v := 1) hx hb dX12_settles_33 (by decide) ?_
    refine lv_goto (tgt := 38) hx hb dX12_settles_34 (by decide) ?_
    exact J_38 H_c33 lc_c33 _ 1 hT_c33 hS_c33 hl (Or.inr rfl) ⟨hI_c33.1, hI_c33.2.1, hI_c33.2.2.1, hI_c33.2.2.2.1, hI_c33.2.2.2.2.1, hI_c33.2.2.2.2.2⟩ (by omega)
  refine lv_aload_n hx hb dX12_settles_0 rfl (lv_at hl 0 rfl) ?_
  refine lv_iload_n hx hb dX12_settles_1 rfl (lv_at hl 1 rfl) ?_
  refine lv_iconst (v := 0) hx hb dX12_settles_2 (by decide) ?_
  refine th_Vi (As := [.int 1, .int 0]) (rest := []) E hml hl.1 (y_get_v20 l D cI cS τ ρ hW H hT a0 ha0) lk_X12_99 yd_X12_get hT ha0 rfl (by decide) hS (fun _ h => h.elim) ⟨by decide, by decide⟩ (Nat.le_of_ble_eq_true rfl) ⟨by decide, by decide⟩ rfl dX12_settles_3 (fun r_7 H_7 locs_7 p_7 hT_7 hk_7 hS_7 => ?_)
  have p_7 : H = H_7 ∧ (ai H (ρ a0 0) 288 = r_7) := p_7
  obtain ⟨rfl, p_7_0⟩ := p_7
  have c_r_7 := congrArg Int32.toInt p_7_0
  refine lv_iconst (v := 1) hx hb dX12_settles_6 (by decide) ?_
  refine lv_icmp_le (tgt := 37) hx hb dX12_settles_7 (by decide) (fun c_8 => ?_) (fun c_8 => ?_)
  · have f_8 : r_7.toInt ≤ 1 := r_le rfl (by decide) c_8
    exact J_37 H locs_7 _ hT_7 hS_7 hl ⟨hI.1, hI.2.1, hI.2.2.1, hI.2.2.2.1, hI.2.2.2.2.1, hI.2.2.2.2.2⟩ (by omega)
  · have f_8 : 1 < r_7.toInt := r_nle rfl (by decide) c_8
    refine lv_aload_n hx hb dX12_settles_10 rfl (lv_at hl 0 rfl) ?_
    refine lv_iload_n hx hb dX12_settles_11 rfl (lv_at hl 1 rfl) ?_
    refine lv_iconst (v := 1) hx hb dX12_settles_12 (by decide) ?_
    refine th_Vi (As := [.int 1, .int 1]) (rest := []) E hml hl.1 (y_get_v29 l D cI cS τ ρ hW H hT_7 a0 ha0) lk_X12_99 yd_X12_get hT_7 ha0 rfl (by decide) hS_7 (fun _ h => h.elim) ⟨by decide, by decide⟩ (Nat.le_of_ble_eq_true rfl) ⟨by decide, by decide⟩ rfl dX12_settles_13 (fun r_9 H_9 locs_9 p_9 hT_9 hk_9 hS_9 => ?_)
    have p_9 : H = H_9 ∧ (ai H (ρ a0 0) 289 = r_9) := p_9
    obtain ⟨rfl, p_9_0⟩ := p_9
    have b_r_9 : 0 ≤ r_9.toInt ∧ r_9.toInt ≤ N + 2 := by rw [← p_9_0]; exact hI.1 289 (by decide)
    have c_r_9 := congrArg Int32.toInt p_9_0
    refine lv_aload_n hx hb dX12_settles_16 rfl (lv_at hl 0 rfl) ?_
    refine lv_iload_n hx hb dX12_settles_17 rfl (lv_at hl 1 rfl) ?_
    refine lv_iconst (v := 2) hx hb dX12_settles_18 (by decide) ?_
    refine th_Vi (As := [.int 1, .int 2]) (rest := [.int r_9]) E hml hl.1 (y_get_v32 l D cI cS τ ρ hW H hT_9 a0 ha0) lk_X12_99 yd_X12_get hT_9 ha0 rfl (by decide) hS_9 (fun _ h => h.elim) ⟨by decide, by decide⟩ (Nat.le_of_ble_eq_true rfl) ⟨by decide, by decide⟩ rfl dX12_settles_19 (fun r_10 H_10 locs_10 p_10 hT_10 hk_10 hS_10 => ?_)
    have p_10 : H = H_10 ∧ (ai H (ρ a0 0) 290 = r_10) := p_10
    obtain ⟨rfl, p_10_0⟩ := p_10
    have b_r_10 : 0 ≤ r_10.toInt ∧ r_10.toInt ≤ N + 2 := by rw [← p_10_0]; exact hI.1 290 (by decide)
    have c_r_10 := congrArg Int32.toInt p_10_0
    refine lv_icmp_lt (tgt := 33) hx hb dX12_settles_22 (by decide) (fun c_11 => ?_) (fun c_11 => ?_)
    · have f_11 : r_9.toInt < r_10.toInt := r_lt rfl rfl c_11
      exact J_33 H locs_10 _ hT_10 hS_10 hl ⟨hI.1, hI.2.1, hI.2.2.1, hI.2.2.2.1, hI.2.2.2.2.1, hI.2.2.2.2.2⟩ (by omega)
    · have f_11 : r_10.toInt ≤ r_9.toInt := r_nlt rfl rfl c_11
      refine lv_aload_n hx hb dX12_settles_25 rfl (lv_at hl 0 rfl) ?_
      refine lv_iload_n hx hb dX12_settles_26 rfl (lv_at hl 1 rfl) ?_
      refine th_Vi (As := [.int 1]) (rest := []) E hml hl.1 (y_isBlocked_v2 l D cI cS τ ρ hW H hT_10 a0 ha0 N hN0 hN1 ⟨hI.1, hI.2.1, hI.2.2.1, hI.2.2.2.1, hI.2.2.2.2.1, hI.2.2.2.2.2⟩) lk_X12_157 yd_X12_isBlocked hT_10 ha0 rfl (by decide) hS_10 (fun _ h => h.elim) ⟨by decide, by decide⟩ (Nat.le_of_ble_eq_true rfl) ⟨by decide, by decide⟩ rfl dX12_settles_27 (fun r_12 H_12 locs_12 p_12 hT_12 hk_12 hS_12 => ?_)
      have p_12 : H = H_12 ∧ (r_12 = 0 ∨ r_12 = 1) ∧ (r_12.toInt = 1 → ((ai H (ρ a0 0) 288).toInt = 4 ∨ (ai H (ρ a0 0) 288).toInt = 7)) := p_12
      obtain ⟨rfl, p_12_0, p_12_1⟩ := p_12
      have z_12 := b_iv p_12_0
      refine lv_if_eq (tgt := 37) hx hb dX12_settles_30 (by decide) (fun c_13 => ?_) (fun c_13 => ?_)
      · have f_13 : r_12.toInt = 0 := r_eq rfl (by decide) c_13
        exact J_37 H locs_12 _ hT_12 hS_12 hl ⟨hI.1, hI.2.1, hI.2.2.1, hI.2.2.2.1, hI.2.2.2.2.1, hI.2.2.2.2.2⟩ (by omega)
      · have f_13 : ¬ r_12.toInt = 0 := r_ne rfl (by decide) c_13
        have nz_r_12 : ¬ r_12 = 0 := c_13
        exact J_33 H locs_12 _ hT_12 hS_12 hl ⟨hI.1, hI.2.1, hI.2.2.1, hI.2.2.2.1, hI.2.2.2.2.1, hI.2.2.2.2.2⟩ (by omega)
set_option maxHeartbeats 4000000 in
set_option maxRecDepth 100000 in
/-- the reference: set -/
theorem y_set_v65 (l : Launch) (D : va_G) (cI cS : ClassId) (τ : Nat → Option Nat) (ρ : Nat → Nat → Nat) (hW : WF τ ρ) (H : Heap) (hT : TH D cI cS τ ρ H) (a0 : Nat) (ha0 : τ a0 = some 12) : MV l D cI cS τ ρ yX12_set cX12_set 4 none 0 0 H [.ref a0, .int 1, .int 16, .int 0] (fun (u : Heap) => (AU 985 H u (ρ a0 0) 304 (0))) (fun q => q = ρ a0 0) := by
  refine MV.of (by decide) (Nat.le_of_ble_eq_true rfl) ?_
  intro p e s m args below meth c E hml hr hlk hs ls hl
  have hx := E.1
  have hb := E.2.1
  have hown := E.2.2.1
  have hts := E.2.2.2.1
  have hS : SS (fun q => q = ρ a0 0) H H [] := SS.rf
  have hl : lv_has ls 4 [(0, .ref a0), (1, .int 1), (2, .int 16), (3, .int 0)] := hl
  refine lv_aload_n hx hb dX12_set_0 rfl (lv_at hl 0 rfl) ?_
  refine gf_X12_7 E hT hW ha0 dX12_set_1 (fun h_1 => ?_)
  refine lv_sipush (v := 288) hx hb dX12_set_4 (by decide) ?_
  refine lv_iload_n hx hb dX12_set_7 rfl (lv_at hl 1 rfl) ?_
  refine lv_imul hx hb dX12_set_8 ?_
  refine th_topi (y := 288) (by decide) ?_
  refine lv_iload_n hx hb dX12_set_9 rfl (lv_at hl 2 rfl) ?_
  refine lv_iadd hx hb dX12_set_10 ?_
  refine th_topi (y := 304) (by decide) ?_
  refine lv_iload_n hx hb dX12_set_11 rfl (lv_at hl 3 rfl) ?_
  refine th_iast E hT hS h_1 rfl (by decide) (vp_in_iff.mpr ⟨by decide, by decide⟩) dX12_set_12 (fun H_2 locs_2 hT_2 hU_2 hS_2 => ?_)
  have hU_2 : AU 985 H H_2 (ρ a0 0) 304 (0) := hU_2
  exact th_vret E hr hlk hs hT_2 hS_2 hU_2 dX12_set_13
