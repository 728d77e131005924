/-! the model's constructor, with what m and a begin with -/
theorem qe_qx_16 {B : Nat} : rq B (B + 178) 2 = B + 181 := rq_at
theorem qe_qx_17 {B : Nat} : rq B (B + 178) 3 = B + 182 := rq_at
set_option maxHeartbeats 40000000 in
set_option maxRecDepth 100000 in
/-- the constructor of StreamEndsModel -/
theorem k2_X12_init (l : Launch) (D : va_G) (cI cS : ClassId) (B : Nat) (H : Heap) (hob : t_OB (B + 178) (D.1 12) (nF 12) (D.2 12) H (fun k => defaultValue (tyX12 k))) (hsz : H.size = B + (178 + 1)) (hL : LX12) : MC l D cI cS B 178 yX12_init cX12_init 1 3 66 7 2214 H [.ref (B + 178)] (fun u => u.size = B + 186 ∧ TH D cI cS (tq B 178 186) (rq B) u ∧ fi D 12 5 u (B + 178) = 0 ∧ fi D 12 6 u (B + 178) = 4 ∧ fi D 12 7 u (B + 178) = 12 ∧ fi D 12 8 u (B + 178) = 5 ∧ (∀ j, j < 985 → ai u (rq B (B + 178) 0) j = w0f j) ∧ ai u (rq B (B + 178) 9) 0 = 250 ∧ ai u (rq B (B + 178) 9) 1 = 100 ∧ (∀ k, k < 20 → ai u (rq B (B + 178) 2) k = 0) ∧ (∀ k, k < 20 → ai u (rq B (B + 178) 3) k = 0)) := by
  obtain ⟨ht0, ht179, ht180, ht181, ht182, ht183, ht184, ht185, hr0, hr1, hr2, hr3, hr4, hr9, hr15⟩ := hL
  refine MC.of (by decide) rfl (Nat.le_of_ble_eq_true rfl) ?_
  intro p e s m args below meth c E hNW hin hml hr hlk hs ls hl
  have hWX : WF (tq B 0 178) (rq B) := wfB_ok wfX B
  have hWM : WF (tq B 178 186) (rq B) := wfB_ok wfM B
  have hx := E.1
  have hb := E.2.1
  have hown := E.2.2.1
  have hts := E.2.2.2.1
  have hl : lv_has ls 1 [(0, .ref (B + 178))] := hl
  have S : CS D cI cS 12 B 178 179 179 179 (fun k => defaultValue (tyX12 k)) H H [] := CS.start hob hsz
  refine lv_aload_n hx hb dX12_init_0 rfl (lv_at hl 0 rfl) ?_
  refine W.objInit hx hb hown (hts _ qw_1264) (hts _ qw_1224) (hts _ qw_1225) rfl (by rw [hml]; exact hl.1) rfl dX12_init_1 (Nat.le_of_ble_eq_true rfl) (Nat.le_of_ble_eq_true rfl) ?_
  refine W.eq (g2 := F0 m 4 ls []) rfl ?_
  refine lv_aload_n hx hb dX12_init_4 rfl (lv_at hl 0 rfl) ?_
  refine lv_sipush (v := 985) hx hb dX12_init_5 (by decide) ?_
  refine cr_newa (N := 985) E S (by decide) (by decide) ht179 (by decide) qw_1222 (Nat.le_of_ble_eq_true rfl) (Nat.le_of_ble_eq_true rfl) dX12_init_8 (fun H_5 S oq eb => ?_)
  have S : CS D cI cS 12 B 178 179 180 180 (fun k => defaultValue (tyX12 k)) H H_5 [] := S
  refine cr_putF (k := 0) (ty := .array .int) E S inlX12 rfl rfl (by decide) (th_apart E inlX12 rfl tyX12 tyX12_ok nmX12) qw_156 rfl hin rfl (tyX12_ok 0 (by decide)) rfl rfl dX12_init_10 (fun H_6 locs_6 S oq => ?_)
  have S : CS D cI cS 12 B 178 179 180 180 (updV (fun k => defaultValue (tyX12 k)) 0 (.ref (B + 179))) H H_6 locs_6 := S
  refine lv_aload_n hx hb dX12_init_13 rfl (lv_at hl 0 rfl) ?_
  refine lv_sipush (v := 985) hx hb dX12_init_14 (by decide) ?_
  refine cr_newa (N := 985) E S (by decide) (by decide) ht180 (by decide) qw_1222 (Nat.le_of_ble_eq_true rfl) (Nat.le_of_ble_eq_true rfl) dX12_init_17 (fun H_9 S oq eb => ?_)
  have S : CS D cI cS 12 B 178 179 181 181 (updV (fun k => defaultValue (tyX12 k)) 0 (.ref (B + 179))) H H_9 locs_6 := S
  refine cr_putF (k := 1) (ty := .array .int) E S inlX12 rfl rfl (by decide) (th_apart E inlX12 rfl tyX12 tyX12_ok nmX12) qw_168 rfl hin rfl (tyX12_ok 1 (by decide)) rfl rfl dX12_init_19 (fun H_10 locs_10 S oq => ?_)
  have S : CS D cI cS 12 B 178 179 181 181 (updV (updV (fun k => defaultValue (tyX12 k)) 0 (.ref (B + 179))) 1 (.ref (B + 180))) H H_10 locs_10 := S
  refine lv_aload_n hx hb dX12_init_22 rfl (lv_at hl 0 rfl) ?_
  refine lv_bipush (v := 20) hx hb dX12_init_23 (by decide) ?_
  refine cr_newa (N := 20) E S (by decide) (by decide) ht181 (by decide) qw_1222 (Nat.le_of_ble_eq_true rfl) (Nat.le_of_ble_eq_true rfl) dX12_init_25 (fun H_13 S oq eb => ?_)
  have S : CS D cI cS 12 B 178 179 182 182 (updV (updV (fun k => defaultValue (tyX12 k)) 0 (.ref (B + 179))) 1 (.ref (B + 180))) H H_13 locs_10 := S
  have em181 : H_13[B + 181]? = some (vp_cell cI (20, .inl (fun _ => 0))) := eb
  refine cr_putF (k := 2) (ty := .array .int) E S inlX12 rfl rfl (by decide) (th_apart E inlX12 rfl tyX12 tyX12_ok nmX12) qw_166 rfl hin rfl (tyX12_ok 2 (by decide)) rfl rfl dX12_init_27 (fun H_14 locs_14 S oq => ?_)
  have S : CS D cI cS 12 B 178 179 182 182 (updV (updV (updV (fun k => defaultValue (tyX12 k)) 0 (.ref (B + 179))) 1 (.ref (B + 180))) 2 (.ref (B + 181))) H H_14 locs_14 := S
  have em181 : H_14[B + 181]? = some (vp_cell cI (20, .inl (fun _ => 0))) := (oq _ (by omega)).trans em181
  refine lv_aload_n hx hb dX12_init_30 rfl (lv_at hl 0 rfl) ?_
  refine lv_bipush (v := 20) hx hb dX12_init_31 (by decide) ?_
  refine cr_newa (N := 20) E S (by decide) (by decide) ht182 (by decide) qw_1222 (Nat.le_of_ble_eq_true rfl) (Nat.le_of_ble_eq_true rfl) dX12_init_33 (fun H_17 S oq eb => ?_)
  have em181 : H_17[B + 181]? = some (vp_cell cI (20, .inl (fun _ => 0))) := (oq _ (by omega)).trans em181
  have S : CS D cI cS 12 B 178 179 183 183 (updV (updV (updV (fun k => defaultValue (tyX12 k)) 0 (.ref (B + 179))) 1 (.ref (B + 180))) 2 (.ref (B + 181))) H H_17 locs_14 := S
  have em182 : H_17[B + 182]? = some (vp_cell cI (20, .inl (fun _ => 0))) := eb
  refine cr_putF (k := 3) (ty := .array .int) E S inlX12 rfl rfl (by decide) (th_apart E inlX12 rfl tyX12 tyX12_ok nmX12) qw_167 rfl hin rfl (tyX12_ok 3 (by decide)) rfl rfl dX12_init_35 (fun H_18 locs_18 S oq => ?_)
  have S : CS D cI cS 12 B 178 179 183 183 (updV (updV (updV (updV (fun k => defaultValue (tyX12 k)) 0 (.ref (B + 179))) 1 (.ref (B + 180))) 2 (.ref (B + 181))) 3 (.ref (B + 182))) H H_18 locs_18 := S
  have em181 : H_18[B + 181]? = some (vp_cell cI (20, .inl (fun _ => 0))) := (oq _ (by omega)).trans em181
  have em182 : H_18[B + 182]? = some (vp_cell cI (20, .inl (fun _ => 0))) := (oq _ (by omega)).trans em182
  refine lv_aload_n hx hb dX12_init_38 rfl (lv_at hl 0 rfl) ?_
  refine lv_sipush (v := 200) hx hb dX12_init_39 (by decide) ?_
  refine cr_newa (N := 200) E S (by decide) (by decide) ht183 (by decide) qw_1222 (Nat.le_of_ble_eq_true rfl) (Nat.le_of_ble_eq_true rfl) dX12_init_42 (fun H_21 S oq eb => ?_)
  have em181 : H_21[B + 181]? = some (vp_cell cI (20, .inl (fun _ => 0))) := (oq _ (by omega)).trans em181
  have em182 : H_21[B + 182]? = some (vp_cell cI (20, .inl (fun _ => 0))) := (oq _ (by omega)).trans em182
  have S : CS D cI cS 12 B 178 179 184 184 (updV (updV (updV (updV (fun k => defaultValue (tyX12 k)) 0 (.ref (B + 179))) 1 (.ref (B + 180))) 2 (.ref (B + 181))) 3 (.ref (B + 182))) H H_21 locs_18 := S
  refine cr_putF (k := 4) (ty := .array .int) E S inlX12 rfl rfl (by decide) (th_apart E inlX12 rfl tyX12 tyX12_ok nmX12) qw_159 rfl hin rfl (tyX12_ok 4 (by decide)) rfl rfl dX12_init_44 (fun H_22 locs_22 S oq => ?_)
  have S : CS D cI cS 12 B 178 179 184 184 (updV (updV (updV (updV (updV (fun k => defaultValue (tyX12 k)) 0 (.ref (B + 179))) 1 (.ref (B + 180))) 2 (.ref (B + 181))) 3 (.ref (B + 182))) 4 (.ref (B + 183))) H H_22 locs_22 := S
  have em181 : H_22[B + 181]? = some (vp_cell cI (20, .inl (fun _ => 0))) := (oq _ (by omega)).trans em181
  have em182 : H_22[B + 182]? = some (vp_cell cI (20, .inl (fun _ => 0))) := (oq _ (by omega)).trans em182
  refine lv_aload_n hx hb dX12_init_47 rfl (lv_at hl 0 rfl) ?_
  refine lv_iconst (v := 4) hx hb dX12_init_48 (by decide) ?_
  refine cr_put (k := 6) (ty := .int) E S inlX12 rfl rfl (by decide) (th_apart E inlX12 rfl tyX12 tyX12_ok nmX12) qw_153 rfl (tyX12_ok 6 (by decide)) rfl rfl dX12_init_49 (fun H_25 locs_25 S oq => ?_)
  have S : CS D cI cS 12 B 178 179 184 184 (updV (updV (updV (updV (updV (updV (fun k => defaultValue (tyX12 k)) 0 (.ref (B + 179))) 1 (.ref (B + 180))) 2 (.ref (B + 181))) 3 (.ref (B + 182))) 4 (.ref (B + 183))) 6 (.int 4)) H H_25 locs_25 := S
  have em181 : H_25[B + 181]? = some (vp_cell cI (20, .inl (fun _ => 0))) := (oq _ (by omega)).trans em181
  have em182 : H_25[B + 182]? = some (vp_cell cI (20, .inl (fun _ => 0))) := (oq _ (by omega)).trans em182
  refine lv_aload_n hx hb dX12_init_52 rfl (lv_at hl 0 rfl) ?_
  refine lv_bipush (v := 12) hx hb dX12_init_53 (by decide) ?_
  refine cr_put (k := 7) (ty := .int) E S inlX12 rfl rfl (by decide) (th_apart E inlX12 rfl tyX12 tyX12_ok nmX12) qw_154 rfl (tyX12_ok 7 (by decide)) rfl rfl dX12_init_55 (fun H_28 locs_28 S oq => ?_)
  have S : CS D cI cS 12 B 178 179 184 184 (updV (updV (updV (updV (updV (updV (updV (fun k => defaultValue (tyX12 k)) 0 (.ref (B + 179))) 1 (.ref (B + 180))) 2 (.ref (B + 181))) 3 (.ref (B + 182))) 4 (.ref (B + 183))) 6 (.int 4)) 7 (.int 12)) H H_28 locs_28 := S
  have em181 : H_28[B + 181]? = some (vp_cell cI (20, .inl (fun _ => 0))) := (oq _ (by omega)).trans em181
  have em182 : H_28[B + 182]? = some (vp_cell cI (20, .inl (fun _ => 0))) := (oq _ (by omega)).trans em182
  refine lv_aload_n hx hb dX12_init_58 rfl (lv_at hl 0 rfl) ?_
  refine lv_iconst (v := 5) hx hb dX12_init_59 (by decide) ?_
  refine cr_put (k := 8) (ty := .int) E S inlX12 rfl rfl (by decide) (th_apart E inlX12 rfl tyX12 tyX12_ok nmX12) qw_155 rfl (tyX12_ok 8 (by decide)) rfl rfl dX12_init_60 (fun H_31 locs_31 S oq => ?_)
  have S : CS D cI cS 12 B 178 179 184 184 (updV (updV (updV (updV (updV (updV (updV (updV (fun k => defaultValue (tyX12 k)) 0 (.ref (B + 179))) 1 (.ref (B + 180))) 2 (.ref (B + 181))) 3 (.ref (B + 182))) 4 (.ref (B + 183))) 6 (.int 4)) 7 (.int 12)) 8 (.int 5)) H H_31 locs_31 := S
  have em181 : H_31[B + 181]? = some (vp_cell cI (20, .inl (fun _ => 0))) := (oq _ (by omega)).trans em181
  have em182 : H_31[B + 182]? = some (vp_cell cI (20, .inl (fun _ => 0))) := (oq _ (by omega)).trans em182
  refine lv_aload_n hx hb dX12_init_63 rfl (lv_at hl 0 rfl) ?_
  refine lv_iconst (v := 2) hx hb dX12_init_64 (by decide) ?_
  refine cr_newa (N := 2) E S (by decide) (by decide) ht184 (by decide) qw_1222 (Nat.le_of_ble_eq_true rfl) (Nat.le_of_ble_eq_true rfl) dX12_init_65 (fun H_34 S oq eb => ?_)
  have em181 : H_34[B + 181]? = some (vp_cell cI (20, .inl (fun _ => 0))) := (oq _ (by omega)).trans em181
  have em182 : H_34[B + 182]? = some (vp_cell cI (20, .inl (fun _ => 0))) := (oq _ (by omega)).trans em182
  have S : CS D cI cS 12 B 178 179 185 185 (updV (updV (updV (updV (updV (updV (updV (updV (fun k => defaultValue (tyX12 k)) 0 (.ref (B + 179))) 1 (.ref (B + 180))) 2 (.ref (B + 181))) 3 (.ref (B + 182))) 4 (.ref (B + 183))) 6 (.int 4)) 7 (.int 12)) 8 (.int 5)) H H_34 locs_31 := S
  have ea : H_34[B + 184]? = some (vp_cell cI (2, .inl (fun _ => 0))) := eb
  refine lv_dup hx hb dX12_init_67 rfl ?_
  refine lv_iconst (v := 0) hx hb dX12_init_68 (by decide) ?_
  refine lv_sipush (v := 250) hx hb dX12_init_69 (by decide) ?_
  refine cr_iast (j := 184) (N := 2) E S ea ht184 (by omega) (by omega) (x := 250) (y := 0) (k := 0) (by decide) (by decide) (by decide) dX12_init_72 (fun H_38 locs_38 S ea oq => ?_)
  have S : CS D cI cS 12 B 178 179 185 185 (updV (updV (updV (updV (updV (updV (updV (updV (fun k => defaultValue (tyX12 k)) 0 (.ref (B + 179))) 1 (.ref (B + 180))) 2 (.ref (B + 181))) 3 (.ref (B + 182))) 4 (.ref (B + 183))) 6 (.int 4)) 7 (.int 12)) 8 (.int 5)) H H_38 locs_38 := S
  have em181 : H_38[B + 181]? = some (vp_cell cI (20, .inl (fun _ => 0))) := (oq _ (by omega)).trans em181
  have em182 : H_38[B + 182]? = some (vp_cell cI (20, .inl (fun _ => 0))) := (oq _ (by omega)).trans em182
  have ea : H_38[B + 184]? = some (vp_cell cI (2, .inl (upd (fun _ => 0) 0 250))) := ea
  refine lv_dup hx hb dX12_init_73 rfl ?_
  refine lv_iconst (v := 1) hx hb dX12_init_74 (by decide) ?_
  refine lv_bipush (v := 100) hx hb dX12_init_75 (by decide) ?_
  refine cr_iast (j := 184) (N := 2) E S ea ht184 (by omega) (by omega) (x := 100) (y := 1) (k := 1) (by decide) (by decide) (by decide) dX12_init_77 (fun H_42 locs_42 S ea oq => ?_)
  have S : CS D cI cS 12 B 178 179 185 185 (updV (updV (updV (updV (updV (updV (updV (updV (fun k => defaultValue (tyX12 k)) 0 (.ref (B + 179))) 1 (.ref (B + 180))) 2 (.ref (B + 181))) 3 (.ref (B + 182))) 4 (.ref (B + 183))) 6 (.int 4)) 7 (.int 12)) 8 (.int 5)) H H_42 locs_42 := S
  have em181 : H_42[B + 181]? = some (vp_cell cI (20, .inl (fun _ => 0))) := (oq _ (by omega)).trans em181
  have em182 : H_42[B + 182]? = some (vp_cell cI (20, .inl (fun _ => 0))) := (oq _ (by omega)).trans em182
  have ea : H_42[B + 184]? = some (vp_cell cI (2, .inl (upd (upd (fun _ => 0) 0 250) 1 100))) := ea
  refine cr_putF (k := 9) (ty := .array .int) E S inlX12 rfl rfl (by decide) (th_apart E inlX12 rfl tyX12 tyX12_ok nmX12) qw_165 rfl hin rfl (tyX12_ok 9 (by decide)) rfl rfl dX12_init_78 (fun H_43 locs_43 S oq => ?_)
  have S : CS D cI cS 12 B 178 179 185 185 (updV (updV (updV (updV (updV (updV (updV (updV (updV (fun k => defaultValue (tyX12 k)) 0 (.ref (B + 179))) 1 (.ref (B + 180))) 2 (.ref (B + 181))) 3 (.ref (B + 182))) 4 (.ref (B + 183))) 6 (.int 4)) 7 (.int 12)) 8 (.int 5)) 9 (.ref (B + 184))) H H_43 locs_43 := S
  have em181 : H_43[B + 181]? = some (vp_cell cI (20, .inl (fun _ => 0))) := (oq _ (by omega)).trans em181
  have em182 : H_43[B + 182]? = some (vp_cell cI (20, .inl (fun _ => 0))) := (oq _ (by omega)).trans em182
  have ea : H_43[B + 184]? = some (vp_cell cI (2, .inl (upd (upd (fun _ => 0) 0 250) 1 100))) := (oq _ (by omega)).trans ea
  refine lv_aload_n hx hb dX12_init_81 rfl (lv_at hl 0 rfl) ?_
  refine lv_iconst (v := 2) hx hb dX12_init_82 (by decide) ?_
  refine cr_newa (N := 2) E S (by decide) (by decide) ht185 (by decide) qw_1222 (Nat.le_of_ble_eq_true rfl) (Nat.le_of_ble_eq_true rfl) dX12_init_83 (fun H_46 S oq eb => ?_)
  have em181 : H_46[B + 181]? = some (vp_cell cI (20, .inl (fun _ => 0))) := (oq _ (by omega)).trans em181
  have em182 : H_46[B + 182]? = some (vp_cell cI (20, .inl (fun _ => 0))) := (oq _ (by omega)).trans em182
  have ea : H_46[B + 184]? = some (vp_cell cI (2, .inl (upd (upd (fun _ => 0) 0 250) 1 100))) := (oq _ (by omega)).trans ea
  have S : CS D cI cS 12 B 178 179 186 186 (updV (updV (updV (updV (updV (updV (updV (updV (updV (fun k => defaultValue (tyX12 k)) 0 (.ref (B + 179))) 1 (.ref (B + 180))) 2 (.ref (B + 181))) 3 (.ref (B + 182))) 4 (.ref (B + 183))) 6 (.int 4)) 7 (.int 12)) 8 (.int 5)) 9 (.ref (B + 184))) H H_46 locs_43 := S
  refine cr_putF (k := 15) (ty := .array .int) E S inlX12 rfl rfl (by decide) (th_apart E inlX12 rfl tyX12 tyX12_ok nmX12) qw_164 rfl hin rfl (tyX12_ok 15 (by decide)) rfl rfl dX12_init_85 (fun H_47 locs_47 S oq => ?_)
  have S : CS D cI cS 12 B 178 179 186 186 (updV (updV (updV (updV (updV (updV (updV (updV (updV (updV (fun k => defaultValue (tyX12 k)) 0 (.ref (B + 179))) 1 (.ref (B + 180))) 2 (.ref (B + 181))) 3 (.ref (B + 182))) 4 (.ref (B + 183))) 6 (.int 4)) 7 (.int 12)) 8 (.int 5)) 9 (.ref (B + 184))) 15 (.ref (B + 185))) H H_47 locs_47 := S
  have em181 : H_47[B + 181]? = some (vp_cell cI (20, .inl (fun _ => 0))) := (oq _ (by omega)).trans em181
  have em182 : H_47[B + 182]? = some (vp_cell cI (20, .inl (fun _ => 0))) := (oq _ (by omega)).trans em182
  have ea : H_47[B + 184]? = some (vp_cell cI (2, .inl (upd (upd (fun _ => 0) 0 250) 1 100))) := (oq _ (by omega)).trans ea
  have hok : ∀ k, k < nF 12 → okV (tq B 178 186) (B + RB 178 k) (fT 12 k) ((updV (updV (updV (updV (updV (updV (updV (updV (updV (updV (fun k => defaultValue (tyX12 k)) 0 (.ref (B + 179))) 1 (.ref (B + 180))) 2 (.ref (B + 181))) 3 (.ref (B + 182))) 4 (.ref (B + 183))) 6 (.int 4)) 7 (.int 12)) 8 (.int 5)) 9 (.ref (B + 184))) 15 (.ref (B + 185))) k) := by
    intro k hk
    have hk : k < 16 := hk
    rcases (show k = 0 ∨ k = 1 ∨ k = 2 ∨ k = 3 ∨ k = 4 ∨ k = 5 ∨ k = 6 ∨ k = 7 ∨ k = 8 ∨ k = 9 ∨ k = 10 ∨ k = 11 ∨ k = 12 ∨ k = 13 ∨ k = 14 ∨ k = 15 by omega) with rfl | rfl | rfl | rfl | rfl | rfl | rfl | rfl | rfl | rfl | rfl | rfl | rfl | rfl | rfl | rfl
    · exact Or.inr (Or.inr (Or.inr (Or.inl ⟨by decide, by decide, by rw [hr0]; rfl⟩)))
    · exact Or.inr (Or.inr (Or.inr (Or.inl ⟨by decide, by decide, by rw [hr1]; rfl⟩)))
    · exact Or.inr (Or.inr (Or.inr (Or.inl ⟨by decide, by decide, by rw [hr2]; rfl⟩)))
    · exact Or.inr (Or.inr (Or.inr (Or.inl ⟨by decide, by decide, by rw [hr3]; rfl⟩)))
    · exact Or.inr (Or.inr (Or.inr (Or.inl ⟨by decide, by decide, by rw [hr4]; rfl⟩)))
    · exact Or.inl ⟨rfl, _, rfl⟩
    · exact Or.inl ⟨rfl, _, rfl⟩
    · exact Or.inl ⟨rfl, _, rfl⟩
    · exact Or.inl ⟨rfl, _, rfl⟩
    · exact Or.inr (Or.inr (Or.inr (Or.inl ⟨by decide, by decide, by rw [hr9]; rfl⟩)))
    · exact Or.inl ⟨rfl, _, rfl⟩
    · exact Or.inl ⟨rfl, _, rfl⟩
    · exact Or.inl ⟨rfl, _, rfl⟩
    · exact Or.inl ⟨rfl, _, rfl⟩
    · exact Or.inl ⟨rfl, _, rfl⟩
    · exact Or.inr (Or.inr (Or.inr (Or.inl ⟨by decide, by decide, by rw [hr15]; rfl⟩)))
  have hT : TH D cI cS (tq B 178 186) (rq B) H_47 := by
    intro a u ha
    obtain ⟨j, rfl, h1, h2, h3⟩ := tq_some ha
    by_cases e : j = 178
    · subst e
      rw [← Option.some.inj (ht0.symm.trans h3)]
      exact Or.inl ⟨by decide, _, S.ob, fun k hk => by rw [rq_at]; exact hok k hk⟩
    · refine sh_arr ?_ (S.rg j u (by omega) h2 h3)
      rcases (show j = 179 ∨ j = 180 ∨ j = 181 ∨ j = 182 ∨ j = 183 ∨ j = 184 ∨ j = 185 by omega) with rfl | rfl | rfl | rfl | rfl | rfl | rfl
      · cases (ht179.symm.trans h3); decide
      · cases (ht180.symm.trans h3); decide
      · cases (ht181.symm.trans h3); decide
      · cases (ht182.symm.trans h3); decide
      · cases (ht183.symm.trans h3); decide
      · cases (ht184.symm.trans h3); decide
      · cases (ht185.symm.trans h3); decide
  have hS : SS (fun q => B + 178 ≤ q) H_47 H_47 locs_47 := ⟨rfl, fun _ _ => rfl, S.lc⟩
  have hτ : tq B 178 186 (B + 178) = some 12 := (tq_at (by omega) (by omega)).trans ht0
  have f5 : fi D 12 5 H_47 (B + 178) = 0 := congrArg vI (t_OB_sl S.ob (k := 5) (by decide))
  have f6 : fi D 12 6 H_47 (B + 178) = 4 := congrArg vI (t_OB_sl S.ob (k := 6) (by decide))
  have f7 : fi D 12 7 H_47 (B + 178) = 12 := congrArg vI (t_OB_sl S.ob (k := 7) (by decide))
  have f8 : fi D 12 8 H_47 (B + 178) = 5 := congrArg vI (t_OB_sl S.ob (k := 8) (by decide))
  have g0 : ai H_47 (rq B (B + 178) 9) 0 = 250 := by
    rw [qx_15]
    simp only [ai, sl, ea, vp_cell_i, Option.bind_some, arrV_read _ _ (show 0 < 2 by decide), Option.getD_some, vI]
    rfl
  have g1 : ai H_47 (rq B (B + 178) 9) 1 = 100 := by
    rw [qx_15]
    simp only [ai, sl, ea, vp_cell_i, Option.bind_some, arrV_read _ _ (show 1 < 2 by decide), Option.getD_some, vI]
    rfl
  have m2 : ∀ k, k < 20 → ai H_47 (rq B (B + 178) 2) k = 0 := by
    intro k hk
    rw [qe_qx_16]
    simp only [ai, sl, em181, vp_cell_i, Option.bind_some, arrV_read _ _ hk, Option.getD_some, vI]
  have m3 : ∀ k, k < 20 → ai H_47 (rq B (B + 178) 3) k = 0 := by
    intro k hk
    rw [qe_qx_17]
    simp only [ai, sl, em182, vp_cell_i, Option.bind_some, arrV_read _ _ hk, Option.getD_some, vI]
  refine lv_aload_n hx hb dX12_init_88 rfl (lv_at hl 0 rfl) ?_
  refine th_Vv (As := []) (rest := []) E hml hl.1 (c_X12_begins_v2 l D cI cS (tq B 178 186) (rq B) hWM H_47 hT (B + 178) hτ (by rw [qx_14]; omega) f7) lk_X12_41 yd_X12_begins hT hτ rfl (by decide) hS (fun q h => by simp only [qx_14] at h; show B + 178 ≤ q; omega) ⟨by decide, by decide⟩ (Nat.le_of_ble_eq_true rfl) ⟨Nat.le_of_ble_eq_true rfl, Nat.le_of_ble_eq_true rfl⟩ rfl dX12_init_89 (fun G_9 glocs_9 p hT9 hk hS9 => ?_)
  have hk9 : ∀ q, q < B + 178 → G_9[q]? = H[q]? := fun q hq => (hS9.2.1 q (by omega)).trans (S.kp q hq)
  have hz9 : G_9.size = B + 186 := hS9.1.trans S.sz
  have f5 := (fi_q (D := D) (t := 12) (k := 5) (hk (B + 178) (fun h => by simp only [qx_14] at h; omega))).trans f5
  have f6 := (fi_q (D := D) (t := 12) (k := 6) (hk (B + 178) (fun h => by simp only [qx_14] at h; omega))).trans f6
  have f7 := (fi_q (D := D) (t := 12) (k := 7) (hk (B + 178) (fun h => by simp only [qx_14] at h; omega))).trans f7
  have f8 := (fi_q (D := D) (t := 12) (k := 8) (hk (B + 178) (fun h => by simp only [qx_14] at h; omega))).trans f8
  have g0 := (ai_q (j := 0) (hk (rq B (B + 178) 9) (fun h => by simp only [qx_14, qx_15] at h; omega))).trans g0
  have g1 := (ai_q (j := 1) (hk (rq B (B + 178) 9) (fun h => by simp only [qx_14, qx_15] at h; omega))).trans g1
  have m2 : ∀ k, k < 20 → ai G_9 (rq B (B + 178) 2) k = 0 := fun k hk2 => (ai_q (hk (rq B (B + 178) 2) (fun h => by simp only [qx_14, qe_qx_16] at h; omega))).trans (m2 k hk2)
  have m3 : ∀ k, k < 20 → ai G_9 (rq B (B + 178) 3) k = 0 := fun k hk2 => (ai_q (hk (rq B (B + 178) 3) (fun h => by simp only [qx_14, qe_qx_17] at h; omega))).trans (m3 k hk2)
  exact W.vret hx hb hr (fun t2 ht2 hW => ⟨⟨G_9, rfl, ⟨hz9, hT9, f5, f6, f7, f8, p, g0, g1, m2, m3⟩, ht2⟩, by rw [ht2, hs, hz9, hsz]; omega, fun q h1 h2 => by rw [ht2, hs]; exact hk9 q (by omega)⟩) hS9.2.2 dX12_init_92 hlk
