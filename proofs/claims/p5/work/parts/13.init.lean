/-! CONSTRUCTORS -/
theorem qw_1223 : Cond.methodLink RX8 3 objectInit ∈ TT := q_in (List.mem_append_right _ (List.mem_append_left _ (List.mem_of_getElem? (i := 94) (by decide +kernel)))) rfl
theorem qw_1224 : Cond.instanceMethod objectInit ∈ TT := q_in (List.mem_append_right _ (List.mem_append_left _ (List.mem_of_getElem? (i := 22) (by decide +kernel)))) rfl
theorem qw_1225 : Cond.code objectInit ⟨#[0xb1]⟩ 1 none ∈ TT := q_in (List.mem_append_right _ (List.mem_append_left _ (List.mem_of_getElem? (i := 23) (by decide +kernel)))) rfl
theorem qw_1226 : Cond.methodLink RX0 1 objectInit ∈ TT := q_in (List.mem_append_right _ (List.mem_append_left _ (List.mem_of_getElem? (i := 168) (by decide +kernel)))) rfl
theorem qw_1227 : Cond.methodLink RX5 3 objectInit ∈ TT := q_in (List.mem_append_right _ (List.mem_append_left _ (List.mem_of_getElem? (i := 187) (by decide +kernel)))) rfl
theorem qw_1228 : Cond.methodLink RX3 3 objectInit ∈ TT := q_in (List.mem_append_right _ (List.mem_append_left _ (List.mem_of_getElem? (i := 230) (by decide +kernel)))) rfl
theorem qw_1229 : Cond.methodLink RX7 3 objectInit ∈ TT := q_in (List.mem_append_right _ (List.mem_append_right _ (List.mem_append_left _ (List.mem_of_getElem? (i := 29) (by decide +kernel))))) rfl
theorem qw_1230 : Cond.methodLink RX6 3 objectInit ∈ TT := q_in (List.mem_append_right _ (List.mem_append_right _ (List.mem_append_left _ (List.mem_of_getElem? (i := 104) (by decide +kernel))))) rfl
theorem qw_1231 : Cond.methodLink RX9 3 objectInit ∈ TT := q_in (List.mem_append_right _ (List.mem_append_left _ (List.mem_of_getElem? (i := 29) (by decide +kernel)))) rfl
theorem qw_1232 : Cond.methodLink RX1 3 objectInit ∈ TT := q_in (List.mem_append_right _ (List.mem_append_left _ (List.mem_of_getElem? (i := 45) (by decide +kernel)))) rfl
theorem qw_1233 : Cond.methodLink RX2 3 objectInit ∈ TT := q_in (List.mem_append_right _ (List.mem_append_left _ (List.mem_of_getElem? (i := 181) (by decide +kernel)))) rfl
theorem qw_1234 : Cond.code yX5_init cX5_init 1 none ∈ TT := q_in (List.mem_append_right _ (List.mem_append_left _ (List.mem_of_getElem? (i := 186) (by decide +kernel)))) rfl
theorem qw_1235 : Cond.instanceMethod yX5_init ∈ TT := q_in (List.mem_append_right _ (List.mem_append_left _ (List.mem_of_getElem? (i := 185) (by decide +kernel)))) rfl
theorem qw_1236 : Cond.code yX3_init cX3_init 1 none ∈ TT := q_in (List.mem_append_right _ (List.mem_append_left _ (List.mem_of_getElem? (i := 229) (by decide +kernel)))) rfl
theorem qw_1237 : Cond.instanceMethod yX3_init ∈ TT := q_in (List.mem_append_right _ (List.mem_append_left _ (List.mem_of_getElem? (i := 228) (by decide +kernel)))) rfl
theorem qw_1238 : Cond.code yX7_init cX7_init 1 none ∈ TT := q_in (List.mem_append_right _ (List.mem_append_right _ (List.mem_append_left _ (List.mem_of_getElem? (i := 28) (by decide +kernel))))) rfl
theorem qw_1239 : Cond.instanceMethod yX7_init ∈ TT := q_in (List.mem_append_right _ (List.mem_append_right _ (List.mem_append_left _ (List.mem_of_getElem? (i := 27) (by decide +kernel))))) rfl
theorem qw_1240 : Cond.methodLink RX10 3 objectInit ∈ TT := q_in (List.mem_append_right _ (List.mem_append_left _ (List.mem_of_getElem? (i := 87) (by decide +kernel)))) rfl
theorem qw_1241 : Cond.code yX8_init cX8_init 1 none ∈ TT := q_in (List.mem_append_right _ (List.mem_append_left _ (List.mem_of_getElem? (i := 93) (by decide +kernel)))) rfl
theorem qw_1242 : Cond.instanceMethod yX8_init ∈ TT := q_in (List.mem_append_right _ (List.mem_append_left _ (List.mem_of_getElem? (i := 92) (by decide +kernel)))) rfl
theorem qw_1243 : Cond.methodLink RX4 3 objectInit ∈ TT := q_in (List.mem_append_right _ (List.mem_append_left _ (List.mem_of_getElem? (i := 79) (by decide +kernel)))) rfl
theorem qw_1244 : Cond.code yX1_init cX1_init 1 none ∈ TT := q_in (List.mem_append_right _ (List.mem_append_left _ (List.mem_of_getElem? (i := 44) (by decide +kernel)))) rfl
theorem qw_1245 : Cond.methodLink RX4 11 yX1_init ∈ TT := q_in (List.mem_append_right _ (List.mem_append_left _ (List.mem_of_getElem? (i := 81) (by decide +kernel)))) rfl
theorem qw_1246 : Cond.instanceMethod yX1_init ∈ TT := q_in (List.mem_append_right _ (List.mem_append_left _ (List.mem_of_getElem? (i := 43) (by decide +kernel)))) rfl
theorem qw_1247 : Cond.code yX10_init cX10_init 2 none ∈ TT := q_in (List.mem_append_right _ (List.mem_append_left _ (List.mem_of_getElem? (i := 86) (by decide +kernel)))) rfl
theorem qw_1248 : Cond.methodLink RX4 20 yX10_init ∈ TT := q_in (List.mem_append_right _ (List.mem_append_left _ (List.mem_of_getElem? (i := 84) (by decide +kernel)))) rfl
theorem qw_1249 : Cond.instanceMethod yX10_init ∈ TT := q_in (List.mem_append_right _ (List.mem_append_left _ (List.mem_of_getElem? (i := 85) (by decide +kernel)))) rfl
theorem qw_1250 : Cond.code yX0_init cX0_init 1 none ∈ TT := q_in (List.mem_append_right _ (List.mem_append_left _ (List.mem_of_getElem? (i := 167) (by decide +kernel)))) rfl
theorem qw_1251 : Cond.instanceMethod yX0_init ∈ TT := q_in (List.mem_append_right _ (List.mem_append_left _ (List.mem_of_getElem? (i := 166) (by decide +kernel)))) rfl
theorem qw_1252 : Cond.code yX2_init cX2_init 5 none ∈ TT := q_in (List.mem_append_right _ (List.mem_append_left _ (List.mem_of_getElem? (i := 180) (by decide +kernel)))) rfl
theorem qw_1253 : Cond.methodLink RX4 34 yX2_init ∈ TT := q_in (List.mem_append_right _ (List.mem_append_left _ (List.mem_of_getElem? (i := 178) (by decide +kernel)))) rfl
theorem qw_1254 : Cond.instanceMethod yX2_init ∈ TT := q_in (List.mem_append_right _ (List.mem_append_left _ (List.mem_of_getElem? (i := 179) (by decide +kernel)))) rfl
theorem qw_1255 : Cond.code yX6_init cX6_init 2 none ∈ TT := q_in (List.mem_append_right _ (List.mem_append_right _ (List.mem_append_left _ (List.mem_of_getElem? (i := 103) (by decide +kernel))))) rfl
theorem qw_1256 : Cond.methodLink RX4 46 yX6_init ∈ TT := q_in (List.mem_append_right _ (List.mem_append_right _ (List.mem_append_left _ (List.mem_of_getElem? (i := 101) (by decide +kernel))))) rfl
theorem qw_1257 : Cond.instanceMethod yX6_init ∈ TT := q_in (List.mem_append_right _ (List.mem_append_right _ (List.mem_append_left _ (List.mem_of_getElem? (i := 102) (by decide +kernel))))) rfl
theorem qw_1258 : Cond.methodLink RX11 1 objectInit ∈ TT := q_in (List.mem_append_right _ (List.mem_append_left _ (List.mem_of_getElem? (i := 21) (by decide +kernel)))) rfl
theorem qw_1259 : Cond.code yX9_init cX9_init 1 none ∈ TT := q_in (List.mem_append_right _ (List.mem_append_left _ (List.mem_of_getElem? (i := 28) (by decide +kernel)))) rfl
theorem qw_1260 : Cond.instanceMethod yX9_init ∈ TT := q_in (List.mem_append_right _ (List.mem_append_left _ (List.mem_of_getElem? (i := 27) (by decide +kernel)))) rfl
theorem qw_1261 : Cond.methodLink RX11 18 yX1_init ∈ TT := q_in (List.mem_append_right _ (List.mem_append_left _ (List.mem_of_getElem? (i := 42) (by decide +kernel)))) rfl
theorem qw_1262 : Cond.code yX4_init cX4_init 1 none ∈ TT := q_in (List.mem_append_right _ (List.mem_append_left _ (List.mem_of_getElem? (i := 78) (by decide +kernel)))) rfl
theorem qw_1263 : Cond.instanceMethod yX4_init ∈ TT := q_in (List.mem_append_right _ (List.mem_append_left _ (List.mem_of_getElem? (i := 77) (by decide +kernel)))) rfl
theorem qw_1264 : Cond.methodLink RX12 1 objectInit ∈ TT := q_in (List.mem_append_right _ (List.mem_append_right _ (List.mem_append_right _ (List.mem_append_right _ (List.mem_append_right _ (List.mem_append_left _ (List.mem_of_getElem? (i := 18) (by decide +kernel)))))))) rfl
def wfB (lo hi : Nat) : Bool := (List.range (hi - lo)).all fun j => match TB (lo + j) with
  | none => true
  | some t => (List.range (nF t)).all fun k => !(decide (3 ≤ fT t k) && decide (fT t k < 2000)) || (decide (TB (RB (lo + j) k) = some (fT t k - 3)) && decide (lo ≤ RB (lo + j) k) && decide (RB (lo + j) k < hi))
theorem wfB_ok {lo hi : Nat} (h : wfB lo hi = true) (B : Nat) : WF (tq B lo hi) (rq B) := by
  intro a t k ha hk h1 h2
  obtain ⟨j, rfl, g1, g2, g3⟩ := tq_some ha
  have q := List.all_eq_true.mp h (j - lo) (List.mem_range.mpr (by omega))
  rw [show lo + (j - lo) = j by omega, g3] at q
  have q2 := List.all_eq_true.mp q k (List.mem_range.mpr hk)
  rw [rq_at]
  simp only [h1, h2, decide_true, Bool.and_self, Bool.not_true, Bool.false_or, Bool.and_eq_true, decide_eq_true_eq] at q2
  rw [tq_at q2.1.2 q2.2]
  exact q2.1.1
set_option maxRecDepth 100000 in
theorem wfX : wfB 0 178 = true := by decide +kernel
set_option maxRecDepth 100000 in
theorem wfM : wfB 178 186 = true := by decide +kernel
abbrev LX8 (i : Nat) : Prop := TB i = some 8 ∧ TB (i + 1) = some 108 ∧ TB (i + 2) = some 104 ∧ RB i 7 = (i + 1) ∧ RB i 9 = (i + 2)
set_option maxHeartbeats 40000000 in
set_option maxRecDepth 100000 in
/-- the constructor of StreamEnds$Segment -/
theorem k_X8_init (l : Launch) (D : va_G) (cI cS : ClassId) (B i : Nat) (H : Heap) (hob : t_OB (B + i) (D.1 8) (nF 8) (D.2 8) H (fun k => defaultValue (tyX8 k))) (hsz : H.size = B + (i + 1)) (hL : LX8 i) : MC l D cI cS B i yX8_init cX8_init 1 1 12 2 12 H [.ref (B + i)] (PF D cI cS B i (i + 3)) := by
  obtain ⟨ht0, ht1, ht2, hr7, hr9⟩ := hL
  refine MC.of (by decide) rfl (Nat.le_of_ble_eq_true rfl) ?_
  intro p e s m args below meth c E hNW hin hml hr hlk hs ls hl
  have hx := E.1
  have hb := E.2.1
  have hown := E.2.2.1
  have hts := E.2.2.2.1
  have hl : lv_has ls 1 [(0, .ref (B + i))] := hl
  have S : CS D cI cS 8 B i (i + 1) (i + 1) (i + 1) (fun k => defaultValue (tyX8 k)) H H [] := CS.start hob hsz
  refine lv_aload_n hx hb dX8_init_0 rfl (lv_at hl 0 rfl) ?_
  refine W.objInit hx hb hown (hts _ qw_1223) (hts _ qw_1224) (hts _ qw_1225) rfl (by rw [hml]; exact hl.1) rfl dX8_init_1 (Nat.le_of_ble_eq_true rfl) (Nat.le_of_ble_eq_true rfl) ?_
  refine W.eq (g2 := F0 m 4 ls []) rfl ?_
  refine lv_aload_n hx hb dX8_init_4 rfl (lv_at hl 0 rfl) ?_
  refine lv_bipush (v := 8) hx hb dX8_init_5 (by decide) ?_
  refine cr_newa (N := 8) E S (by decide) (by decide) ht1 (by decide) qw_1222 (Nat.le_of_ble_eq_true rfl) (Nat.le_of_ble_eq_true rfl) dX8_init_7 (fun H_5 S oq eb => ?_)
  have S : CS D cI cS 8 B i (i + 1) (i + 2) (i + 2) (fun k => defaultValue (tyX8 k)) H H_5 [] := S
  refine cr_putF (k := 7) (ty := .array .int) E S inlX8 rfl rfl (by decide) (th_apart E inlX8 rfl tyX8 tyX8_ok nmX8) qw_110 rfl hin rfl (tyX8_ok 7 (by decide)) rfl rfl dX8_init_9 (fun H_6 locs_6 S oq => ?_)
  have S : CS D cI cS 8 B i (i + 1) (i + 2) (i + 2) (updV (fun k => defaultValue (tyX8 k)) 7 (.ref (B + (i + 1)))) H H_6 locs_6 := S
  refine lv_aload_n hx hb dX8_init_12 rfl (lv_at hl 0 rfl) ?_
  refine lv_iconst (v := 4) hx hb dX8_init_13 (by decide) ?_
  refine cr_newa (N := 4) E S (by decide) (by decide) ht2 (by decide) qw_1222 (Nat.le_of_ble_eq_true rfl) (Nat.le_of_ble_eq_true rfl) dX8_init_14 (fun H_9 S oq eb => ?_)
  have S : CS D cI cS 8 B i (i + 1) (i + 3) (i + 3) (updV (fun k => defaultValue (tyX8 k)) 7 (.ref (B + (i + 1)))) H H_9 locs_6 := S
  refine cr_putF (k := 9) (ty := .array .int) E S inlX8 rfl rfl (by decide) (th_apart E inlX8 rfl tyX8 tyX8_ok nmX8) qw_111 rfl hin rfl (tyX8_ok 9 (by decide)) rfl rfl dX8_init_16 (fun H_10 locs_10 S oq => ?_)
  have S : CS D cI cS 8 B i (i + 1) (i + 3) (i + 3) (updV (updV (fun k => defaultValue (tyX8 k)) 7 (.ref (B + (i + 1)))) 9 (.ref (B + (i + 2)))) H H_10 locs_10 := S
  have hok : ∀ k, k < nF 8 → okV (tq B 0 178) (B + RB i k) (fT 8 k) ((updV (updV (fun k => defaultValue (tyX8 k)) 7 (.ref (B + (i + 1)))) 9 (.ref (B + (i + 2)))) k) := by
    intro k hk
    have hk : k < 10 := hk
    rcases (show k = 0 ∨ k = 1 ∨ k = 2 ∨ k = 3 ∨ k = 4 ∨ k = 5 ∨ k = 6 ∨ k = 7 ∨ k = 8 ∨ k = 9 by omega) with rfl | rfl | rfl | rfl | rfl | rfl | rfl | rfl | rfl | rfl
    · exact Or.inl ⟨rfl, _, rfl⟩
    · exact Or.inl ⟨rfl, _, rfl⟩
    · exact Or.inl ⟨rfl, _, rfl⟩
    · exact Or.inl ⟨rfl, _, rfl⟩
    · exact Or.inl ⟨rfl, _, rfl⟩
    · exact Or.inl ⟨rfl, _, rfl⟩
    · exact Or.inl ⟨rfl, _, rfl⟩
    · exact Or.inr (Or.inr (Or.inr (Or.inl ⟨by decide, by decide, by rw [hr7]; rfl⟩)))
    · exact Or.inl ⟨rfl, _, rfl⟩
    · exact Or.inr (Or.inr (Or.inr (Or.inl ⟨by decide, by decide, by rw [hr9]; rfl⟩)))
  exact cr_ret (n := (i + 3)) (fun h => h) E hr hlk hs hsz S (fun w hw => (Option.some.inj (ht0.symm.trans hw)).symm) (by decide) hok dX8_init_19
abbrev LX0 (i : Nat) : Prop := TB i = some 0
set_option maxHeartbeats 40000000 in
set_option maxRecDepth 100000 in
/-- the constructor of StreamEnds$Clock -/
theorem k_X0_init (l : Launch) (D : va_G) (cI cS : ClassId) (B i : Nat) (H : Heap) (hob : t_OB (B + i) (D.1 0) (nF 0) (D.2 0) H (fun k => defaultValue (tyX0 k))) (hsz : H.size = B + (i + 1)) (hL : LX0 i) : MC l D cI cS B i yX0_init cX0_init 1 1 12 0 0 H [.ref (B + i)] (PF D cI cS B i (i + 1)) := by
  have ht0 := hL
  refine MC.of (by decide) rfl (Nat.le_of_ble_eq_true rfl) ?_
  intro p e s m args below meth c E hNW hin hml hr hlk hs ls hl
  have hx := E.1
  have hb := E.2.1
  have hown := E.2.2.1
  have hts := E.2.2.2.1
  have hl : lv_has ls 1 [(0, .ref (B + i))] := hl
  have S : CS D cI cS 0 B i (i + 1) (i + 1) (i + 1) (fun k => defaultValue (tyX0 k)) H H [] := CS.start hob hsz
  refine lv_aload_n hx hb dX0_init_0 rfl (lv_at hl 0 rfl) ?_
  refine W.objInit hx hb hown (hts _ qw_1226) (hts _ qw_1224) (hts _ qw_1225) rfl (by rw [hml]; exact hl.1) rfl dX0_init_1 (Nat.le_of_ble_eq_true rfl) (Nat.le_of_ble_eq_true rfl) ?_
  refine W.eq (g2 := F0 m 4 ls []) rfl ?_
  have hok : ∀ k, k < nF 0 → okV (tq B 0 178) (B + RB i k) (fT 0 k) ((fun k => defaultValue (tyX0 k)) k) := by
    intro k hk
    have hk : k < 1 := hk
    rcases (show k = 0 by omega) with rfl
    · exact Or.inl ⟨rfl, _, rfl⟩
  exact cr_ret (n := (i + 1)) (fun h => h) E hr hlk hs hsz S (fun w hw => (Option.some.inj (ht0.symm.trans hw)).symm) (by decide) hok dX0_init_4
abbrev LX5 (i : Nat) : Prop := TB i = some 5 ∧ TB (i + 1) = some 164 ∧ RB i 7 = (i + 1)
set_option maxHeartbeats 40000000 in
set_option maxRecDepth 100000 in
/-- the constructor of StreamEnds$Outgoing -/
theorem k_X5_init (l : Launch) (D : va_G) (cI cS : ClassId) (B i : Nat) (H : Heap) (hob : t_OB (B + i) (D.1 5) (nF 5) (D.2 5) H (fun k => defaultValue (tyX5 k))) (hsz : H.size = B + (i + 1)) (hL : LX5 i) : MC l D cI cS B i yX5_init cX5_init 1 1 12 1 64 H [.ref (B + i)] (PF D cI cS B i (i + 2)) := by
  obtain ⟨ht0, ht1, hr7⟩ := hL
  refine MC.of (by decide) rfl (Nat.le_of_ble_eq_true rfl) ?_
  intro p e s m args below meth c E hNW hin hml hr hlk hs ls hl
  have hx := E.1
  have hb := E.2.1
  have hown := E.2.2.1
  have hts := E.2.2.2.1
  have hl : lv_has ls 1 [(0, .ref (B + i))] := hl
  have S : CS D cI cS 5 B i (i + 1) (i + 1) (i + 1) (fun k => defaultValue (tyX5 k)) H H [] := CS.start hob hsz
  refine lv_aload_n hx hb dX5_init_0 rfl (lv_at hl 0 rfl) ?_
  refine W.objInit hx hb hown (hts _ qw_1227) (hts _ qw_1224) (hts _ qw_1225) rfl (by rw [hml]; exact hl.1) rfl dX5_init_1 (Nat.le_of_ble_eq_true rfl) (Nat.le_of_ble_eq_true rfl) ?_
  refine W.eq (g2 := F0 m 4 ls []) rfl ?_
  refine lv_aload_n hx hb dX5_init_4 rfl (lv_at hl 0 rfl) ?_
  refine lv_bipush (v := 64) hx hb dX5_init_5 (by decide) ?_
  refine cr_newa (N := 64) E S (by decide) (by decide) ht1 (by decide) qw_1222 (Nat.le_of_ble_eq_true rfl) (Nat.le_of_ble_eq_true rfl) dX5_init_7 (fun H_5 S oq eb => ?_)
  have S : CS D cI cS 5 B i (i + 1) (i + 2) (i + 2) (fun k => defaultValue (tyX5 k)) H H_5 [] := S
  refine cr_putF (k := 7) (ty := .array .int) E S inlX5 rfl rfl (by decide) (th_apart E inlX5 rfl tyX5 tyX5_ok nmX5) qw_68 rfl hin rfl (tyX5_ok 7 (by decide)) rfl rfl dX5_init_9 (fun H_6 locs_6 S oq => ?_)
  have S : CS D cI cS 5 B i (i + 1) (i + 2) (i + 2) (updV (fun k => defaultValue (tyX5 k)) 7 (.ref (B + (i + 1)))) H H_6 locs_6 := S
  have hok : ∀ k, k < nF 5 → okV (tq B 0 178) (B + RB i k) (fT 5 k) ((updV (fun k => defaultValue (tyX5 k)) 7 (.ref (B + (i + 1)))) k) := by
    intro k hk
    have hk : k < 8 := hk
    rcases (show k = 0 ∨ k = 1 ∨ k = 2 ∨ k = 3 ∨ k = 4 ∨ k = 5 ∨ k = 6 ∨ k = 7 by omega) with rfl | rfl | rfl | rfl | rfl | rfl | rfl | rfl
    · exact Or.inl ⟨rfl, _, rfl⟩
    · exact Or.inl ⟨rfl, _, rfl⟩
    · exact Or.inl ⟨rfl, _, rfl⟩
    · exact Or.inl ⟨rfl, _, rfl⟩
    · exact Or.inl ⟨rfl, _, rfl⟩
    · exact Or.inr (Or.inl ⟨rfl, Or.inl rfl⟩)
    · exact Or.inr (Or.inr (Or.inl ⟨rfl, _, rfl⟩))
    · exact Or.inr (Or.inr (Or.inr (Or.inl ⟨by decide, by decide, by rw [hr7]; rfl⟩)))
  exact cr_ret (n := (i + 2)) (fun h => h) E hr hlk hs hsz S (fun w hw => (Option.some.inj (ht0.symm.trans hw)).symm) (by decide) hok dX5_init_12
abbrev LX3 (i : Nat) : Prop := TB i = some 3 ∧ TB (i + 1) = some 164 ∧ RB i 6 = (i + 1)
set_option maxHeartbeats 40000000 in
set_option maxRecDepth 100000 in
/-- the constructor of StreamEnds$Incoming -/
theorem k_X3_init (l : Launch) (D : va_G) (cI cS : ClassId) (B i : Nat) (H : Heap) (hob : t_OB (B + i) (D.1 3) (nF 3) (D.2 3) H (fun k => defaultValue (tyX3 k))) (hsz : H.size = B + (i + 1)) (hL : LX3 i) : MC l D cI cS B i yX3_init cX3_init 1 1 12 1 64 H [.ref (B + i)] (PF D cI cS B i (i + 2)) := by
  obtain ⟨ht0, ht1, hr6⟩ := hL
  refine MC.of (by decide) rfl (Nat.le_of_ble_eq_true rfl) ?_
  intro p e s m args below meth c E hNW hin hml hr hlk hs ls hl
  have hx := E.1
  have hb := E.2.1
  have hown := E.2.2.1
  have hts := E.2.2.2.1
  have hl : lv_has ls 1 [(0, .ref (B + i))] := hl
  have S : CS D cI cS 3 B i (i + 1) (i + 1) (i + 1) (fun k => defaultValue (tyX3 k)) H H [] := CS.start hob hsz
  refine lv_aload_n hx hb dX3_init_0 rfl (lv_at hl 0 rfl) ?_
  refine W.objInit hx hb hown (hts _ qw_1228) (hts _ qw_1224) (hts _ qw_1225) rfl (by rw [hml]; exact hl.1) rfl dX3_init_1 (Nat.le_of_ble_eq_true rfl) (Nat.le_of_ble_eq_true rfl) ?_
  refine W.eq (g2 := F0 m 4 ls []) rfl ?_
  refine lv_aload_n hx hb dX3_init_4 rfl (lv_at hl 0 rfl) ?_
  refine lv_bipush (v := 64) hx hb dX3_init_5 (by decide) ?_
  refine cr_newa (N := 64) E S (by decide) (by decide) ht1 (by decide) qw_1222 (Nat.le_of_ble_eq_true rfl) (Nat.le_of_ble_eq_true rfl) dX3_init_7 (fun H_5 S oq eb => ?_)
  have S : CS D cI cS 3 B i (i + 1) (i + 2) (i + 2) (fun k => defaultValue (tyX3 k)) H H_5 [] := S
  refine cr_putF (k := 6) (ty := .array .int) E S inlX3 rfl rfl (by decide) (th_apart E inlX3 rfl tyX3 tyX3_ok nmX3) qw_45 rfl hin rfl (tyX3_ok 6 (by decide)) rfl rfl dX3_init_9 (fun H_6 locs_6 S oq => ?_)
  have S : CS D cI cS 3 B i (i + 1) (i + 2) (i + 2) (updV (fun k => defaultValue (tyX3 k)) 6 (.ref (B + (i + 1)))) H H_6 locs_6 := S
  have hok : ∀ k, k < nF 3 → okV (tq B 0 178) (B + RB i k) (fT 3 k) ((updV (fun k => defaultValue (tyX3 k)) 6 (.ref (B + (i + 1)))) k) := by
    intro k hk
    have hk : k < 7 := hk
    rcases (show k = 0 ∨ k = 1 ∨ k = 2 ∨ k = 3 ∨ k = 4 ∨ k = 5 ∨ k = 6 by omega) with rfl | rfl | rfl | rfl | rfl | rfl | rfl
    · exact Or.inl ⟨rfl, _, rfl⟩
    · exact Or.inl ⟨rfl, _, rfl⟩
    · exact Or.inl ⟨rfl, _, rfl⟩
    · exact Or.inl ⟨rfl, _, rfl⟩
    · exact Or.inl ⟨rfl, _, rfl⟩
    · exact Or.inr (Or.inr (Or.inl ⟨rfl, _, rfl⟩))
    · exact Or.inr (Or.inr (Or.inr (Or.inl ⟨by decide, by decide, by rw [hr6]; rfl⟩)))
  exact cr_ret (n := (i + 2)) (fun h => h) E hr hlk hs hsz S (fun w hw => (Option.some.inj (ht0.symm.trans hw)).symm) (by decide) hok dX3_init_12
abbrev LX7 (i : Nat) : Prop := TB i = some 7 ∧ TB (i + 1) = some 106 ∧ RB i 6 = (i + 1)
set_option maxHeartbeats 40000000 in
set_option maxRecDepth 100000 in
/-- the constructor of StreamEnds$RoundTrips -/
theorem k_X7_init (l : Launch) (D : va_G) (cI cS : ClassId) (B i : Nat) (H : Heap) (hob : t_OB (B + i) (D.1 7) (nF 7) (D.2 7) H (fun k => defaultValue (tyX7 k))) (hsz : H.size = B + (i + 1)) (hL : LX7 i) : MC l D cI cS B i yX7_init cX7_init 1 1 12 1 6 H [.ref (B + i)] (PF D cI cS B i (i + 2)) := by
  obtain ⟨ht0, ht1, hr6⟩ := hL
  refine MC.of (by decide) rfl (Nat.le_of_ble_eq_true rfl) ?_
  intro p e s m args below meth c E hNW hin hml hr hlk hs ls hl
  have hx := E.1
  have hb := E.2.1
  have hown := E.2.2.1
  have hts := E.2.2.2.1
  have hl : lv_has ls 1 [(0, .ref (B + i))] := hl
  have S : CS D cI cS 7 B i (i + 1) (i + 1) (i + 1) (fun k => defaultValue (tyX7 k)) H H [] := CS.start hob hsz
  refine lv_aload_n hx hb dX7_init_0 rfl (lv_at hl 0 rfl) ?_
  refine W.objInit hx hb hown (hts _ qw_1229) (hts _ qw_1224) (hts _ qw_1225) rfl (by rw [hml]; exact hl.1) rfl dX7_init_1 (Nat.le_of_ble_eq_true rfl) (Nat.le_of_ble_eq_true rfl) ?_
  refine W.eq (g2 := F0 m 4 ls []) rfl ?_
  refine lv_aload_n hx hb dX7_init_4 rfl (lv_at hl 0 rfl) ?_
  refine lv_bipush (v := 6) hx hb dX7_init_5 (by decide) ?_
  refine cr_newa (N := 6) E S (by decide) (by decide) ht1 (by decide) qw_1222 (Nat.le_of_ble_eq_true rfl) (Nat.le_of_ble_eq_true rfl) dX7_init_7 (fun H_5 S oq eb => ?_)
  have S : CS D cI cS 7 B i (i + 1) (i + 2) (i + 2) (fun k => defaultValue (tyX7 k)) H H_5 [] := S
  refine cr_putF (k := 6) (ty := .array .int) E S inlX7 rfl rfl (by decide) (th_apart E inlX7 rfl tyX7 tyX7_ok nmX7) qw_101 rfl hin rfl (tyX7_ok 6 (by decide)) rfl rfl dX7_init_9 (fun H_6 locs_6 S oq => ?_)
  have S : CS D cI cS 7 B i (i + 1) (i + 2) (i + 2) (updV (fun k => defaultValue (tyX7 k)) 6 (.ref (B + (i + 1)))) H H_6 locs_6 := S
  have hok : ∀ k, k < nF 7 → okV (tq B 0 178) (B + RB i k) (fT 7 k) ((updV (fun k => defaultValue (tyX7 k)) 6 (.ref (B + (i + 1)))) k) := by
    intro k hk
    have hk : k < 7 := hk
    rcases (show k = 0 ∨ k = 1 ∨ k = 2 ∨ k = 3 ∨ k = 4 ∨ k = 5 ∨ k = 6 by omega) with rfl | rfl | rfl | rfl | rfl | rfl | rfl
    · exact Or.inl ⟨rfl, _, rfl⟩
    · exact Or.inl ⟨rfl, _, rfl⟩
    · exact Or.inl ⟨rfl, _, rfl⟩
    · exact Or.inl ⟨rfl, _, rfl⟩
    · exact Or.inl ⟨rfl, _, rfl⟩
    · exact Or.inl ⟨rfl, _, rfl⟩
    · exact Or.inr (Or.inr (Or.inr (Or.inl ⟨by decide, by decide, by rw [hr6]; rfl⟩)))
  exact cr_ret (n := (i + 2)) (fun h => h) E hr hlk hs hsz S (fun w hw => (Option.some.inj (ht0.symm.trans hw)).symm) (by decide) hok dX7_init_12
abbrev LX6 (i : Nat) (c0 : Nat) : Prop := TB i = some 6 ∧ RB i 0 = c0
set_option maxHeartbeats 40000000 in
set_option maxRecDepth 100000 in
/-- the constructor of StreamEnds$Receiver -/
theorem k_X6_init (l : Launch) (D : va_G) (cI cS : ClassId) (B i : Nat) (c0 : Nat) (H : Heap) (hob : t_OB (B + i) (D.1 6) (nF 6) (D.2 6) H (fun k => defaultValue (tyX6 k))) (hsz : H.size = B + (i + 1)) (hL : LX6 i c0) : MC l D cI cS B i yX6_init cX6_init 2 1 12 0 0 H [.ref (B + i), .ref (B + c0)] (PF D cI cS B i (i + 1)) := by
  obtain ⟨ht0, hr0⟩ := hL
  refine MC.of (by decide) rfl (Nat.le_of_ble_eq_true rfl) ?_
  intro p e s m args below meth c E hNW hin hml hr hlk hs ls hl
  have hx := E.1
  have hb := E.2.1
  have hown := E.2.2.1
  have hts := E.2.2.2.1
  have hl : lv_has ls 2 [(0, .ref (B + i)), (1, .ref (B + c0))] := hl
  have S : CS D cI cS 6 B i (i + 1) (i + 1) (i + 1) (fun k => defaultValue (tyX6 k)) H H [] := CS.start hob hsz
  refine lv_aload_n hx hb dX6_init_0 rfl (lv_at hl 0 rfl) ?_
  refine W.objInit hx hb hown (hts _ qw_1230) (hts _ qw_1224) (hts _ qw_1225) rfl (by rw [hml]; exact hl.1) rfl dX6_init_1 (Nat.le_of_ble_eq_true rfl) (Nat.le_of_ble_eq_true rfl) ?_
  refine W.eq (g2 := F0 m 4 ls []) rfl ?_
  refine lv_aload_n hx hb dX6_init_4 rfl (lv_at hl 0 rfl) ?_
  refine lv_bipush (v := (-4)) hx hb dX6_init_5 (by decide) ?_
  refine cr_put (k := 1) (ty := .int) E S inlX6 rfl rfl (by decide) (th_apart E inlX6 rfl tyX6 tyX6_ok nmX6) qw_69 rfl (tyX6_ok 1 (by decide)) rfl rfl dX6_init_7 (fun H_5 locs_5 S oq => ?_)
  have S : CS D cI cS 6 B i (i + 1) (i + 1) (i + 1) (updV (fun k => defaultValue (tyX6 k)) 1 (.int (-4))) H H_5 locs_5 := S
  refine lv_aload_n hx hb dX6_init_10 rfl (lv_at hl 0 rfl) ?_
  refine lv_bipush (v := (-4)) hx hb dX6_init_11 (by decide) ?_
  refine cr_put (k := 2) (ty := .int) E S inlX6 rfl rfl (by decide) (th_apart E inlX6 rfl tyX6 tyX6_ok nmX6) qw_70 rfl (tyX6_ok 2 (by decide)) rfl rfl dX6_init_13 (fun H_8 locs_8 S oq => ?_)
  have S : CS D cI cS 6 B i (i + 1) (i + 1) (i + 1) (updV (updV (fun k => defaultValue (tyX6 k)) 1 (.int (-4))) 2 (.int (-4))) H H_8 locs_8 := S
  refine lv_aload_n hx hb dX6_init_16 rfl (lv_at hl 0 rfl) ?_
  refine lv_aload_n hx hb dX6_init_17 rfl (lv_at hl 1 rfl) ?_
  refine cr_putF (k := 0) (ty := .object "StreamEnds$Endpoint") E S inlX6 rfl rfl (by decide) (th_apart E inlX6 rfl tyX6 tyX6_ok nmX6) qw_71 rfl hin rfl (tyX6_ok 0 (by decide)) rfl rfl dX6_init_18 (fun H_11 locs_11 S oq => ?_)
  have S : CS D cI cS 6 B i (i + 1) (i + 1) (i + 1) (updV (updV (updV (fun k => defaultValue (tyX6 k)) 1 (.int (-4))) 2 (.int (-4))) 0 (.ref (B + c0))) H H_11 locs_11 := S
  have hok : ∀ k, k < nF 6 → okV (tq B 0 178) (B + RB i k) (fT 6 k) ((updV (updV (updV (fun k => defaultValue (tyX6 k)) 1 (.int (-4))) 2 (.int (-4))) 0 (.ref (B + c0))) k) := by
    intro k hk
    have hk : k < 3 := hk
    rcases (show k = 0 ∨ k = 1 ∨ k = 2 by omega) with rfl | rfl | rfl
    · exact Or.inr (Or.inr (Or.inr (Or.inl ⟨by decide, by decide, by rw [hr0]; rfl⟩)))
    · exact Or.inl ⟨rfl, _, rfl⟩
    · exact Or.inl ⟨rfl, _, rfl⟩
  exact cr_ret (n := (i + 1)) (fun h => h) E hr hlk hs hsz S (fun w hw => (Option.some.inj (ht0.symm.trans hw)).symm) (by decide) hok dX6_init_21
abbrev LX9 (i : Nat) : Prop := TB i = some 9 ∧ TB (i + 1) = some 300 ∧ RB i 0 = (i + 1)
set_option maxHeartbeats 40000000 in
set_option maxRecDepth 100000 in
/-- the constructor of StreamEnds$Text -/
theorem k_X9_init (l : Launch) (D : va_G) (cI cS : ClassId) (B i : Nat) (H : Heap) (hob : t_OB (B + i) (D.1 9) (nF 9) (D.2 9) H (fun k => defaultValue (tyX9 k))) (hsz : H.size = B + (i + 1)) (hL : LX9 i) : MC l D cI cS B i yX9_init cX9_init 1 1 12 1 200 H [.ref (B + i)] (fun u => PF D cI cS B i (i + 2) u ∧ fi D 9 1 u (B + i) = 0) := by
  obtain ⟨ht0, ht1, hr0⟩ := hL
  refine MC.of (by decide) rfl (Nat.le_of_ble_eq_true rfl) ?_
  intro p e s m args below meth c E hNW hin hml hr hlk hs ls hl
  have hx := E.1
  have hb := E.2.1
  have hown := E.2.2.1
  have hts := E.2.2.2.1
  have hl : lv_has ls 1 [(0, .ref (B + i))] := hl
  have S : CS D cI cS 9 B i (i + 1) (i + 1) (i + 1) (fun k => defaultValue (tyX9 k)) H H [] := CS.start hob hsz
  refine lv_aload_n hx hb dX9_init_0 rfl (lv_at hl 0 rfl) ?_
  refine W.objInit hx hb hown (hts _ qw_1231) (hts _ qw_1224) (hts _ qw_1225) rfl (by rw [hml]; exact hl.1) rfl dX9_init_1 (Nat.le_of_ble_eq_true rfl) (Nat.le_of_ble_eq_true rfl) ?_
  refine W.eq (g2 := F0 m 4 ls []) rfl ?_
  refine lv_aload_n hx hb dX9_init_4 rfl (lv_at hl 0 rfl) ?_
  refine lv_sipush (v := 200) hx hb dX9_init_5 (by decide) ?_
  refine cr_newa (N := 200) E S (by decide) (by decide) ht1 (by decide) qw_1222 (Nat.le_of_ble_eq_true rfl) (Nat.le_of_ble_eq_true rfl) dX9_init_8 (fun H_5 S oq eb => ?_)
  have S : CS D cI cS 9 B i (i + 1) (i + 2) (i + 2) (fun k => defaultValue (tyX9 k)) H H_5 [] := S
  refine cr_putF (k := 0) (ty := .array .int) E S inlX9 rfl rfl (by decide) (th_apart E inlX9 rfl tyX9 tyX9_ok nmX9) qw_113 rfl hin rfl (tyX9_ok 0 (by decide)) rfl rfl dX9_init_10 (fun H_6 locs_6 S oq => ?_)
  have S : CS D cI cS 9 B i (i + 1) (i + 2) (i + 2) (updV (fun k => defaultValue (tyX9 k)) 0 (.ref (B + (i + 1)))) H H_6 locs_6 := S
  have hok : ∀ k, k < nF 9 → okV (tq B 0 178) (B + RB i k) (fT 9 k) ((updV (fun k => defaultValue (tyX9 k)) 0 (.ref (B + (i + 1)))) k) := by
    intro k hk
    have hk : k < 2 := hk
    rcases (show k = 0 ∨ k = 1 by omega) with rfl | rfl
    · exact Or.inr (Or.inr (Or.inr (Or.inl ⟨by decide, by decide, by rw [hr0]; rfl⟩)))
    · exact Or.inl ⟨rfl, _, rfl⟩
  exact cr_ret (n := (i + 2)) (fun h => ⟨h, congrArg vI (t_OB_sl S.ob (k := 1) (by decide))⟩) E hr hlk hs hsz S (fun w hw => (Option.some.inj (ht0.symm.trans hw)).symm) (by decide) hok dX9_init_13
abbrev LX1 (i : Nat) : Prop := TB i = some 1 ∧ i + 1 ≤ 178
set_option maxHeartbeats 40000000 in
set_option maxRecDepth 100000 in
/-- the constructor of StreamEnds$Config -/
theorem k_X1_init (l : Launch) (D : va_G) (cI cS : ClassId) (B i : Nat) (H : Heap) (hob : t_OB (B + i) (D.1 1) (nF 1) (D.2 1) H (fun k => defaultValue (tyX1 k))) (hsz : H.size = B + (i + 1)) (hL : LX1 i) : MC l D cI cS B i yX1_init cX1_init 1 1 20 0 0 H [.ref (B + i)] (fun u => PF D cI cS B i (i + 1) u ∧ fi D 1 0 u (B + i) = 4 ∧ fi D 1 4 u (B + i) = 5) := by
  obtain ⟨ht0, hbd⟩ := hL
  refine MC.of (by decide) rfl (Nat.le_of_ble_eq_true rfl) ?_
  intro p e s m args below meth c E hNW hin hml hr hlk hs ls hl
  have hx := E.1
  have hb := E.2.1
  have hown := E.2.2.1
  have hts := E.2.2.2.1
  have hl : lv_has ls 1 [(0, .ref (B + i))] := hl
  have S : CS D cI cS 1 B i (i + 1) (i + 1) (i + 1) (fun k => defaultValue (tyX1 k)) H H [] := CS.start hob hsz
  refine lv_aload_n hx hb dX1_init_0 rfl (lv_at hl 0 rfl) ?_
  refine W.objInit hx hb hown (hts _ qw_1232) (hts _ qw_1224) (hts _ qw_1225) rfl (by rw [hml]; exact hl.1) rfl dX1_init_1 (Nat.le_of_ble_eq_true rfl) (Nat.le_of_ble_eq_true rfl) ?_
  refine W.eq (g2 := F0 m 4 ls []) rfl ?_
  refine lv_aload_n hx hb dX1_init_4 rfl (lv_at hl 0 rfl) ?_
  have hok : ∀ k, k < nF 1 → okV (tq B i (i + 1)) (rq B (B + i) k) (fT 1 k) ((fun k => defaultValue (tyX1 k)) k) := by
    intro k hk
    have hk : k < 5 := hk
    rcases (show k = 0 ∨ k = 1 ∨ k = 2 ∨ k = 3 ∨ k = 4 by omega) with rfl | rfl | rfl | rfl | rfl
    · exact Or.inl ⟨rfl, _, rfl⟩
    · exact Or.inl ⟨rfl, _, rfl⟩
    · exact Or.inl ⟨rfl, _, rfl⟩
    · exact Or.inl ⟨rfl, _, rfl⟩
    · exact Or.inl ⟨rfl, _, rfl⟩
  have hT : TH D cI cS (tq B i (i + 1)) (rq B) H := by
    intro a u ha
    obtain ⟨j, rfl, h1, h2, h3⟩ := tq_some ha
    obtain rfl : j = i := by omega
    cases (ht0.symm.trans h3)
    exact Or.inl ⟨by decide, _, S.ob, hok⟩
  have hWF : WF (tq B i (i + 1)) (rq B) := by
    intro a u k ha hk h1 h2
    obtain ⟨j, rfl, g1, g2, g3⟩ := tq_some ha
    obtain rfl : j = i := by omega
    cases (ht0.symm.trans g3)
    have hk : k < 5 := hk
    rcases (show k = 0 ∨ k = 1 ∨ k = 2 ∨ k = 3 ∨ k = 4 by omega) with rfl | rfl | rfl | rfl | rfl <;> exact absurd h1 (by decide)
  have hτ : tq B i (i + 1) (B + i) = some 1 := (tq_at (by omega) (by omega)).trans ht0
  refine th_Vv (As := []) (rest := []) E hml hl.1 (c_X1_setDefaults l D cI cS (tq B i (i + 1)) (rq B) hWF H hT (B + i) hτ) lk_X1_9 yd_X1_setDefaults hT hτ rfl (by decide) (SS.rf (A := fun q => B + i ≤ q)) (fun q h => by rw [h]; exact Nat.le_refl _) ⟨by decide, by decide⟩ (Nat.le_of_ble_eq_true rfl) ⟨by decide, by decide⟩ rfl dX1_init_5 (fun H_1 locs_1 p hT1 hk hS1 => ?_)
  exact W.vret hx hb hr (fun t2 ht2 hW => ⟨⟨H_1, rfl, ⟨⟨hS1.1.trans hsz, CR.one fun w hw => sh_mono (tq_mono (by omega) (by omega)) (hT1 _ _ ((tq_at (by omega) (by omega)).trans hw))⟩, p.1, p.2.2.2.2⟩, ht2⟩, by rw [ht2, hs, hS1.1]; exact Nat.le_refl _, fun q h1 h2 => by rw [ht2, hs]; exact hS1.2.1 q h2⟩) hS1.2.2 dX1_init_8 hlk
abbrev LX2 (i : Nat) (c1 : Nat) (c2 : Nat) (c3 : Nat) : Prop := TB i = some 2 ∧ LX5 (i + 1) ∧ LX3 (i + 3) ∧ LX7 (i + 5) ∧ RB i 1 = c1 ∧ RB i 2 = c2 ∧ RB i 3 = c3 ∧ RB i 4 = (i + 1) ∧ RB i 5 = (i + 3) ∧ RB i 6 = (i + 5)
set_option maxHeartbeats 40000000 in
set_option maxRecDepth 100000 in
/-- the constructor of StreamEnds$Endpoint -/
theorem k_X2_init (l : Launch) (D : va_G) (cI cS : ClassId) (B i : Nat) (x0 : Int32) (c1 : Nat) (c2 : Nat) (c3 : Nat) (H : Heap) (hob : t_OB (B + i) (D.1 2) (nF 2) (D.2 2) H (fun k => defaultValue (tyX2 k))) (hsz : H.size = B + (i + 1)) (hL : LX2 i c1 c2 c3) : MC l D cI cS B i yX2_init cX2_init 5 2 32 6 156 H [.ref (B + i), .int x0, .ref (B + c1), .ref (B + c2), .ref (B + c3)] (PF D cI cS B i (i + 7)) := by
  obtain ⟨ht0, hL1, hL3, hL5, hr1, hr2, hr3, hr4, hr5, hr6⟩ := hL
  refine MC.of (by decide) rfl (Nat.le_of_ble_eq_true rfl) ?_
  intro p e s m args below meth c E hNW hin hml hr hlk hs ls hl
  have hx := E.1
  have hb := E.2.1
  have hown := E.2.2.1
  have hts := E.2.2.2.1
  have hl : lv_has ls 5 [(0, .ref (B + i)), (1, .int x0), (2, .ref (B + c1)), (3, .ref (B + c2)), (4, .ref (B + c3))] := hl
  have S : CS D cI cS 2 B i (i + 1) (i + 1) (i + 1) (fun k => defaultValue (tyX2 k)) H H [] := CS.start hob hsz
  refine lv_aload_n hx hb dX2_init_0 rfl (lv_at hl 0 rfl) ?_
  refine W.objInit hx hb hown (hts _ qw_1233) (hts _ qw_1224) (hts _ qw_1225) rfl (by rw [hml]; exact hl.1) rfl dX2_init_1 (Nat.le_of_ble_eq_true rfl) (Nat.le_of_ble_eq_true rfl) ?_
  refine W.eq (g2 := F0 m 4 ls []) rfl ?_
  refine lv_aload_n hx hb dX2_init_4 rfl (lv_at hl 0 rfl) ?_
  refine cr_new (u := 5) (N := 8) tyX5 E S inlX5 rfl rfl tyX5_ok qw_1175 qw_1176 qw_207 (Nat.le_of_ble_eq_true rfl) (Nat.le_of_ble_eq_true rfl) dX2_init_5 (fun H_4 hz oq ob S => ?_)
  have S : CS D cI cS 2 B i (i + 1) (i + 1) (i + 2) (fun k => defaultValue (tyX2 k)) H H_4 [] := S
  refine lv_dup hx hb dX2_init_8 rfl ?_
  refine cr_callN (As := []) (rest := [.ref (B + (i + 1)), .ref (B + i)]) (fun _ h => h) E hNW hml hl.1 S (k_X5_init l D cI cS B (i + 1) H_4 ob hz hL1) qw_1234 qw_207 hNW.2.2.1 qw_1235 rfl (show yX5_init.cls ≠ "java/lang/invoke/MethodHandle" ∧ yX5_init.cls ≠ "java/lang/invoke/VarHandle" ∧ (parseMethodDescriptor yX5_init.desc).map (fun d => d.parameters.length) = some 0 from by decide +kernel) ⟨Nat.le_of_ble_eq_true rfl, Nat.le_of_ble_eq_true rfl⟩ (Nat.le_of_ble_eq_true rfl) ⟨Nat.le_of_ble_eq_true rfl, Nat.le_of_ble_eq_true rfl⟩ rfl dX2_init_9 (fun H_6 locs_6 S oq hp => ?_)
  have S : CS D cI cS 2 B i (i + 1) (i + 3) (i + 3) (fun k => defaultValue (tyX2 k)) H H_6 locs_6 := S
  refine cr_putF (k := 4) (ty := .object "StreamEnds$Outgoing") E S inlX2 rfl rfl (by decide) (th_apart E inlX2 rfl tyX2 tyX2_ok nmX2) qw_6 rfl hin rfl (tyX2_ok 4 (by decide)) rfl rfl dX2_init_12 (fun H_7 locs_7 S oq => ?_)
  have S : CS D cI cS 2 B i (i + 1) (i + 3) (i + 3) (updV (fun k => defaultValue (tyX2 k)) 4 (.ref (B + (i + 1)))) H H_7 locs_7 := S
  refine lv_aload_n hx hb dX2_init_15 rfl (lv_at hl 0 rfl) ?_
  refine cr_new (u := 3) (N := 7) tyX3 E S inlX3 rfl rfl tyX3_ok qw_1177 qw_1178 qw_212 (Nat.le_of_ble_eq_true rfl) (Nat.le_of_ble_eq_true rfl) dX2_init_16 (fun H_9 hz oq ob S => ?_)
  have S : CS D cI cS 2 B i (i + 1) (i + 3) (i + 4) (updV (fun k => defaultValue (tyX2 k)) 4 (.ref (B + (i + 1)))) H H_9 locs_7 := S
  refine lv_dup hx hb dX2_init_19 rfl ?_
  refine cr_callN (As := []) (rest := [.ref (B + (i + 3)), .ref (B + i)]) (fun _ h => h) E hNW hml hl.1 S (k_X3_init l D cI cS B (i + 3) H_9 ob hz hL3) qw_1236 qw_212 hNW.2.2.2.1 qw_1237 rfl (show yX3_init.cls ≠ "java/lang/invoke/MethodHandle" ∧ yX3_init.cls ≠ "java/lang/invoke/VarHandle" ∧ (parseMethodDescriptor yX3_init.desc).map (fun d => d.parameters.length) = some 0 from by decide +kernel) ⟨Nat.le_of_ble_eq_true rfl, Nat.le_of_ble_eq_true rfl⟩ (Nat.le_of_ble_eq_true rfl) ⟨Nat.le_of_ble_eq_true rfl, Nat.le_of_ble_eq_true rfl⟩ rfl dX2_init_20 (fun H_11 locs_11 S oq hp => ?_)
  have S : CS D cI cS 2 B i (i + 1) (i + 5) (i + 5) (updV (fun k => defaultValue (tyX2 k)) 4 (.ref (B + (i + 1)))) H H_11 locs_11 := S
  refine cr_putF (k := 5) (ty := .object "StreamEnds$Incoming") E S inlX2 rfl rfl (by decide) (th_apart E inlX2 rfl tyX2 tyX2_ok nmX2) qw_7 rfl hin rfl (tyX2_ok 5 (by decide)) rfl rfl dX2_init_23 (fun H_12 locs_12 S oq => ?_)
  have S : CS D cI cS 2 B i (i + 1) (i + 5) (i + 5) (updV (updV (fun k => defaultValue (tyX2 k)) 4 (.ref (B + (i + 1)))) 5 (.ref (B + (i + 3)))) H H_12 locs_12 := S
  refine lv_aload_n hx hb dX2_init_26 rfl (lv_at hl 0 rfl) ?_
  refine cr_new (u := 7) (N := 7) tyX7 E S inlX7 rfl rfl tyX7_ok qw_1179 qw_1180 qw_217 (Nat.le_of_ble_eq_true rfl) (Nat.le_of_ble_eq_true rfl) dX2_init_27 (fun H_14 hz oq ob S => ?_)
  have S : CS D cI cS 2 B i (i + 1) (i + 5) (i + 6) (updV (updV (fun k => defaultValue (tyX2 k)) 4 (.ref (B + (i + 1)))) 5 (.ref (B + (i + 3)))) H H_14 locs_12 := S
  refine lv_dup hx hb dX2_init_30 rfl ?_
  refine cr_callN (As := []) (rest := [.ref (B + (i + 5)), .ref (B + i)]) (fun _ h => h) E hNW hml hl.1 S (k_X7_init l D cI cS B (i + 5) H_14 ob hz hL5) qw_1238 qw_217 hNW.2.2.2.2.1 qw_1239 rfl (show yX7_init.cls ≠ "java/lang/invoke/MethodHandle" ∧ yX7_init.cls ≠ "java/lang/invoke/VarHandle" ∧ (parseMethodDescriptor yX7_init.desc).map (fun d => d.parameters.length) = some 0 from by decide +kernel) ⟨Nat.le_of_ble_eq_true rfl, Nat.le_of_ble_eq_true rfl⟩ (Nat.le_of_ble_eq_true rfl) ⟨Nat.le_of_ble_eq_true rfl, Nat.le_of_ble_eq_true rfl⟩ rfl dX2_init_31 (fun H_16 locs_16 S oq hp => ?_)
  have S : CS D cI cS 2 B i (i + 1) (i + 7) (i + 7) (updV (updV (fun k => defaultValue (tyX2 k)) 4 (.ref (B + (i + 1)))) 5 (.ref (B + (i + 3)))) H H_16 locs_16 := S
  refine cr_putF (k := 6) (ty := .object "StreamEnds$RoundTrips") E S inlX2 rfl rfl (by decide) (th_apart E inlX2 rfl tyX2 tyX2_ok nmX2) qw_10 rfl hin rfl (tyX2_ok 6 (by decide)) rfl rfl dX2_init_34 (fun H_17 locs_17 S oq => ?_)
  have S : CS D cI cS 2 B i (i + 1) (i + 7) (i + 7) (updV (updV (updV (fun k => defaultValue (tyX2 k)) 4 (.ref (B + (i + 1)))) 5 (.ref (B + (i + 3)))) 6 (.ref (B + (i + 5)))) H H_17 locs_17 := S
  refine lv_aload_n hx hb dX2_init_37 rfl (lv_at hl 0 rfl) ?_
  refine lv_iload_n hx hb dX2_init_38 rfl (lv_at hl 1 rfl) ?_
  refine cr_putF (k := 0) (ty := .int) E S inlX2 rfl rfl (by decide) (th_apart E inlX2 rfl tyX2 tyX2_ok nmX2) qw_20 rfl hin rfl (tyX2_ok 0 (by decide)) rfl rfl dX2_init_39 (fun H_20 locs_20 S oq => ?_)
  have S : CS D cI cS 2 B i (i + 1) (i + 7) (i + 7) (updV (updV (updV (updV (fun k => defaultValue (tyX2 k)) 4 (.ref (B + (i + 1)))) 5 (.ref (B + (i + 3)))) 6 (.ref (B + (i + 5)))) 0 (.int x0)) H H_20 locs_20 := S
  refine lv_aload_n hx hb dX2_init_42 rfl (lv_at hl 0 rfl) ?_
  refine lv_aload_n hx hb dX2_init_43 rfl (lv_at hl 2 rfl) ?_
  refine cr_putF (k := 1) (ty := .object "StreamEnds$Config") E S inlX2 rfl rfl (by decide) (th_apart E inlX2 rfl tyX2 tyX2_ok nmX2) qw_8 rfl hin rfl (tyX2_ok 1 (by decide)) rfl rfl dX2_init_44 (fun H_23 locs_23 S oq => ?_)
  have S : CS D cI cS 2 B i (i + 1) (i + 7) (i + 7) (updV (updV (updV (updV (updV (fun k => defaultValue (tyX2 k)) 4 (.ref (B + (i + 1)))) 5 (.ref (B + (i + 3)))) 6 (.ref (B + (i + 5)))) 0 (.int x0)) 1 (.ref (B + c1))) H H_23 locs_23 := S
  refine lv_aload_n hx hb dX2_init_47 rfl (lv_at hl 0 rfl) ?_
  refine lv_aload_n hx hb dX2_init_48 rfl (lv_at hl 3 rfl) ?_
  refine cr_putF (k := 2) (ty := .object "StreamEnds$Wire") E S inlX2 rfl rfl (by decide) (th_apart E inlX2 rfl tyX2 tyX2_ok nmX2) qw_19 rfl hin rfl (tyX2_ok 2 (by decide)) rfl rfl dX2_init_49 (fun H_26 locs_26 S oq => ?_)
  have S : CS D cI cS 2 B i (i + 1) (i + 7) (i + 7) (updV (updV (updV (updV (updV (updV (fun k => defaultValue (tyX2 k)) 4 (.ref (B + (i + 1)))) 5 (.ref (B + (i + 3)))) 6 (.ref (B + (i + 5)))) 0 (.int x0)) 1 (.ref (B + c1))) 2 (.ref (B + c2))) H H_26 locs_26 := S
  refine lv_aload_n hx hb dX2_init_52 rfl (lv_at hl 0 rfl) ?_
  refine lv_aload hx hb dX2_init_53 (lv_at hl 4 rfl) ?_
  refine cr_putF (k := 3) (ty := .object "StreamEnds$Clock") E S inlX2 rfl rfl (by decide) (th_apart E inlX2 rfl tyX2 tyX2_ok nmX2) qw_25 rfl hin rfl (tyX2_ok 3 (by decide)) rfl rfl dX2_init_55 (fun H_29 locs_29 S oq => ?_)
  have S : CS D cI cS 2 B i (i + 1) (i + 7) (i + 7) (updV (updV (updV (updV (updV (updV (updV (fun k => defaultValue (tyX2 k)) 4 (.ref (B + (i + 1)))) 5 (.ref (B + (i + 3)))) 6 (.ref (B + (i + 5)))) 0 (.int x0)) 1 (.ref (B + c1))) 2 (.ref (B + c2))) 3 (.ref (B + c3))) H H_29 locs_29 := S
  have hok : ∀ k, k < nF 2 → okV (tq B 0 178) (B + RB i k) (fT 2 k) ((updV (updV (updV (updV (updV (updV (updV (fun k => defaultValue (tyX2 k)) 4 (.ref (B + (i + 1)))) 5 (.ref (B + (i + 3)))) 6 (.ref (B + (i + 5)))) 0 (.int x0)) 1 (.ref (B + c1))) 2 (.ref (B + c2))) 3 (.ref (B + c3))) k) := by
    intro k hk
    have hk : k < 10 := hk
    rcases (show k = 0 ∨ k = 1 ∨ k = 2 ∨ k = 3 ∨ k = 4 ∨ k = 5 ∨ k = 6 ∨ k = 7 ∨ k = 8 ∨ k = 9 by omega) with rfl | rfl | rfl | rfl | rfl | rfl | rfl | rfl | rfl | rfl
    · exact Or.inl ⟨rfl, _, rfl⟩
    · exact Or.inr (Or.inr (Or.inr (Or.inl ⟨by decide, by decide, by rw [hr1]; rfl⟩)))
    · exact Or.inr (Or.inr (Or.inr (Or.inl ⟨by decide, by decide, by rw [hr2]; rfl⟩)))
    · exact Or.inr (Or.inr (Or.inr (Or.inl ⟨by decide, by decide, by rw [hr3]; rfl⟩)))
    · exact Or.inr (Or.inr (Or.inr (Or.inl ⟨by decide, by decide, by rw [hr4]; rfl⟩)))
    · exact Or.inr (Or.inr (Or.inr (Or.inl ⟨by decide, by decide, by rw [hr5]; rfl⟩)))
    · exact Or.inr (Or.inr (Or.inr (Or.inl ⟨by decide, by decide, by rw [hr6]; rfl⟩)))
    · exact Or.inl ⟨rfl, _, rfl⟩
    · exact Or.inl ⟨rfl, _, rfl⟩
    · exact Or.inl ⟨rfl, _, rfl⟩
  exact cr_ret (n := (i + 7)) (fun h => h) E hr hlk hs hsz S (fun w hw => (Option.some.inj (ht0.symm.trans hw)).symm) (by decide) hok dX2_init_58
abbrev LX10 (i : Nat) : Prop := TB i = some 10 ∧ TB (i + 1) = some 50 ∧ LX8 (i + 2) ∧ LX8 (i + 5) ∧ LX8 (i + 8) ∧ LX8 (i + 11) ∧ LX8 (i + 14) ∧ LX8 (i + 17) ∧ LX8 (i + 20) ∧ LX8 (i + 23) ∧ LX8 (i + 26) ∧ LX8 (i + 29) ∧ LX8 (i + 32) ∧ LX8 (i + 35) ∧ LX8 (i + 38) ∧ LX8 (i + 41) ∧ LX8 (i + 44) ∧ LX8 (i + 47) ∧ LX8 (i + 50) ∧ LX8 (i + 53) ∧ LX8 (i + 56) ∧ LX8 (i + 59) ∧ LX8 (i + 62) ∧ LX8 (i + 65) ∧ RB i 0 = (i + 1) ∧ i + 68 ≤ 178
set_option maxHeartbeats 40000000 in
set_option maxRecDepth 100000 in
/-- the constructor of StreamEnds$Wire -/
theorem k_X10_init (l : Launch) (D : va_G) (cI cS : ClassId) (B i : Nat) (H : Heap) (hob : t_OB (B + i) (D.1 10) (nF 10) (D.2 10) H (fun k => defaultValue (tyX10 k))) (hsz : H.size = B + (i + 1)) (hL : LX10 i) : MC l D cI cS B i yX10_init cX10_init 2 2 32 67 505 H [.ref (B + i)] (PF D cI cS B i (i + 68)) := by
  obtain ⟨ht0, ht1, hL2, hL5, hL8, hL11, hL14, hL17, hL20, hL23, hL26, hL29, hL32, hL35, hL38, hL41, hL44, hL47, hL50, hL53, hL56, hL59, hL62, hL65, hr0, hbd⟩ := hL
  refine MC.of (by decide) rfl (Nat.le_of_ble_eq_true rfl) ?_
  intro p e s m args below meth c E hNW hin hml hr hlk hs ls hl
  have hx := E.1
  have hb := E.2.1
  have hown := E.2.2.1
  have hts := E.2.2.2.1
  have hl : lv_has ls 2 [(0, .ref (B + i))] := hl
  have S : CS D cI cS 10 B i (i + 1) (i + 1) (i + 1) (fun k => defaultValue (tyX10 k)) H H [] := CS.start hob hsz
  refine lv_aload_n hx hb dX10_init_0 rfl (lv_at hl 0 rfl) ?_
  refine W.objInit hx hb hown (hts _ qw_1240) (hts _ qw_1224) (hts _ qw_1225) rfl (by rw [hml]; exact hl.1) rfl dX10_init_1 (Nat.le_of_ble_eq_true rfl) (Nat.le_of_ble_eq_true rfl) ?_
  refine W.eq (g2 := F0 m 4 ls []) rfl ?_
  refine lv_aload_n hx hb dX10_init_4 rfl (lv_at hl 0 rfl) ?_
  refine lv_bipush (v := 21) hx hb dX10_init_5 (by decide) ?_
  refine cr_newq E hNW.2.2.2.2.2.2.2 S qw_1194 (Nat.le_of_ble_eq_true rfl) (Nat.le_of_ble_eq_true rfl) dX10_init_7 (fun H_5 S oq hq => ?_)
  have S := S.skip (lo1 := (i + 2)) (by omega) (by omega)
  have S : CS D cI cS 10 B i (i + 2) (i + 2) (i + 2) (fun k => defaultValue (tyX10 k)) H H_5 [] := S
  have hq : H_5[B + (i + 1)]? = some (sC cS B i 0) := hq
  refine cr_putF (k := 0) (ty := .array (.object "StreamEnds$Segment")) E S inlX10 rfl rfl (by decide) (th_apart E inlX10 rfl tyX10 tyX10_ok nmX10) qw_115 rfl hin rfl (tyX10_ok 0 (by decide)) rfl rfl dX10_init_10 (fun H_6 locs_6 S oq => ?_)
  have S : CS D cI cS 10 B i (i + 2) (i + 2) (i + 2) (updV (fun k => defaultValue (tyX10 k)) 0 (.ref (B + (i + 1)))) H H_6 locs_6 := S
  have hq : H_6[B + (i + 1)]? = some (sC cS B i 0) := (oq _ (fun h => absurd (Nat.add_left_cancel (Nat.add_left_cancel (m := i + 1) (k := i + 0) h)) (by decide))).trans hq
  refine lv_aload_n hx hb dX10_init_13 rfl (lv_at hl 0 rfl) ?_
  refine cr_new (u := 8) (N := 10) tyX8 E S inlX8 rfl rfl tyX8_ok qw_1194 qw_1195 qw_252 (Nat.le_of_ble_eq_true rfl) (Nat.le_of_ble_eq_true rfl) dX10_init_14 (fun H_8 hz oq ob S => ?_)
  have S : CS D cI cS 10 B i (i + 2) (i + 2) (i + 3) (updV (fun k => defaultValue (tyX10 k)) 0 (.ref (B + (i + 1)))) H H_8 locs_6 := S
  have hq : H_8[B + (i + 1)]? = some (sC cS B i 0) := (oq _ (Nat.add_lt_add_left (Nat.add_lt_add_left (by decide) _) _)).trans hq
  refine lv_dup hx hb dX10_init_17 rfl ?_
  refine cr_callN (As := []) (rest := [.ref (B + (i + 2)), .ref (B + i)]) (fun _ h => h) E hNW hml hl.1 S (k_X8_init l D cI cS B (i + 2) H_8 ob hz hL2) qw_1241 qw_252 hNW.2.2.2.2.2.2.1 qw_1242 rfl (show yX8_init.cls ≠ "java/lang/invoke/MethodHandle" ∧ yX8_init.cls ≠ "java/lang/invoke/VarHandle" ∧ (parseMethodDescriptor yX8_init.desc).map (fun d => d.parameters.length) = some 0 from by decide +kernel) ⟨Nat.le_of_ble_eq_true rfl, Nat.le_of_ble_eq_true rfl⟩ (Nat.le_of_ble_eq_true rfl) ⟨Nat.le_of_ble_eq_true rfl, Nat.le_of_ble_eq_true rfl⟩ rfl dX10_init_18 (fun H_10 locs_10 S oq hp => ?_)
  have S : CS D cI cS 10 B i (i + 2) (i + 5) (i + 5) (updV (fun k => defaultValue (tyX10 k)) 0 (.ref (B + (i + 1)))) H H_10 locs_10 := S
  have hq : H_10[B + (i + 1)]? = some (sC cS B i 0) := (oq _ (Nat.add_lt_add_left (Nat.add_lt_add_left (by decide) _) _)).trans hq
  refine cr_put (k := 1) (ty := .object "StreamEnds$Segment") E S inlX10 rfl rfl (by decide) (th_apart E inlX10 rfl tyX10 tyX10_ok nmX10) qw_114 rfl (tyX10_ok 1 (by decide)) rfl rfl dX10_init_21 (fun H_11 locs_11 S oq => ?_)
  have S : CS D cI cS 10 B i (i + 2) (i + 5) (i + 5) (updV (updV (fun k => defaultValue (tyX10 k)) 0 (.ref (B + (i + 1)))) 1 (.ref (B + (i + 2)))) H H_11 locs_11 := S
  have hq : H_11[B + (i + 1)]? = some (sC cS B i 0) := (oq _ (fun h => absurd (Nat.add_left_cancel (Nat.add_left_cancel (m := i + 1) (k := i + 0) h)) (by decide))).trans hq
  refine lv_iconst (v := 0) hx hb dX10_init_24 (by decide) ?_
  refine lv_istore_n (lv' := [(1, .int 0), (0, .ref (B + i))]) hx hb dX10_init_25 rfl hl (by decide) rfl (fun ls hl => ?_)
  refine lv_iload_n hx hb dX10_init_26 rfl (lv_at hl 0 rfl) ?_
  refine lv_aload_n hx hb dX10_init_27 rfl (lv_at hl 1 rfl) ?_
  refine cr_get (k := 0) (v := .ref (B + (i + 1))) E S rfl inlX10 rfl rfl (by decide) qw_115 dX10_init_28 ?_
  refine cr_qlen E hq dX10_init_31 ?_
  refine lv_icmp_ge (tgt := 54) hx hb dX10_init_32 (by decide) (fun c_ => absurd c_ (by decide)) (fun c_ => ?_)
  refine lv_aload_n hx hb dX10_init_35 rfl (lv_at hl 1 rfl) ?_
  refine cr_get (k := 0) (v := .ref (B + (i + 1))) E S rfl inlX10 rfl rfl (by decide) qw_115 dX10_init_36 ?_
  refine lv_iload_n hx hb dX10_init_39 rfl (lv_at hl 0 rfl) ?_
  refine cr_new (u := 8) (N := 10) tyX8 E S inlX8 rfl rfl tyX8_ok qw_1194 qw_1195 qw_252 (Nat.le_of_ble_eq_true rfl) (Nat.le_of_ble_eq_true rfl) dX10_init_40 (fun H_22 hz oq ob S => ?_)
  have S : CS D cI cS 10 B i (i + 2) (i + 5) (i + 6) (updV (updV (fun k => defaultValue (tyX10 k)) 0 (.ref (B + (i + 1)))) 1 (.ref (B + (i + 2)))) H H_22 locs_11 := S
  have hq : H_22[B + (i + 1)]? = some (sC cS B i 0) := (oq _ (Nat.add_lt_add_left (Nat.add_lt_add_left (by decide) _) _)).trans hq
  refine lv_dup hx hb dX10_init_43 rfl ?_
  refine cr_callN (As := []) (rest := [.ref (B + (i + 5)), .int 0, .ref (B + (i + 1))]) (fun _ h => h) E hNW hml hl.1 S (k_X8_init l D cI cS B (i + 5) H_22 ob hz hL5) qw_1241 qw_252 hNW.2.2.2.2.2.2.1 qw_1242 rfl (show yX8_init.cls ≠ "java/lang/invoke/MethodHandle" ∧ yX8_init.cls ≠ "java/lang/invoke/VarHandle" ∧ (parseMethodDescriptor yX8_init.desc).map (fun d => d.parameters.length) = some 0 from by decide +kernel) ⟨Nat.le_of_ble_eq_true rfl, Nat.le_of_ble_eq_true rfl⟩ (Nat.le_of_ble_eq_true rfl) ⟨Nat.le_of_ble_eq_true rfl, Nat.le_of_ble_eq_true rfl⟩ rfl dX10_init_44 (fun H_24 locs_24 S oq hp => ?_)
  have S : CS D cI cS 10 B i (i + 2) (i + 8) (i + 8) (updV (updV (fun k => defaultValue (tyX10 k)) 0 (.ref (B + (i + 1)))) 1 (.ref (B + (i + 2)))) H H_24 locs_24 := S
  have hq : H_24[B + (i + 1)]? = some (sC cS B i 0) := (oq _ (Nat.add_lt_add_left (Nat.add_lt_add_left (by decide) _) _)).trans hq
  refine cr_aast (k := 0) (rest := []) E S hq (by decide) (by decide) (by decide) (hL5.1) (by omega) dX10_init_47 (fun H_25 locs_25 S hq => ?_)
  have S : CS D cI cS 10 B i (i + 2) (i + 8) (i + 8) (updV (updV (fun k => defaultValue (tyX10 k)) 0 (.ref (B + (i + 1)))) 1 (.ref (B + (i + 2)))) H H_25 locs_25 := S
  have hq : H_25[B + (i + 1)]? = some (sC cS B i 1) := hq
  refine lv_iinc (v := 1) (lv' := [(1, .int 1), (0, .ref (B + i))]) hx hb dX10_init_48 hl (k := 0) rfl (by decide) (by decide) rfl (fun ls hl => ?_)
  refine lv_goto (tgt := 26) hx hb dX10_init_51 (by decide) ?_
  refine lv_iload_n hx hb dX10_init_26 rfl (lv_at hl 0 rfl) ?_
  refine lv_aload_n hx hb dX10_init_27 rfl (lv_at hl 1 rfl) ?_
  refine cr_get (k := 0) (v := .ref (B + (i + 1))) E S rfl inlX10 rfl rfl (by decide) qw_115 dX10_init_28 ?_
  refine cr_qlen E hq dX10_init_31 ?_
  refine lv_icmp_ge (tgt := 54) hx hb dX10_init_32 (by decide) (fun c_ => absurd c_ (by decide)) (fun c_ => ?_)
  refine lv_aload_n hx hb dX10_init_35 rfl (lv_at hl 1 rfl) ?_
  refine cr_get (k := 0) (v := .ref (B + (i + 1))) E S rfl inlX10 rfl rfl (by decide) qw_115 dX10_init_36 ?_
  refine lv_iload_n hx hb dX10_init_39 rfl (lv_at hl 0 rfl) ?_
  refine cr_new (u := 8) (N := 10) tyX8 E S inlX8 rfl rfl tyX8_ok qw_1194 qw_1195 qw_252 (Nat.le_of_ble_eq_true rfl) (Nat.le_of_ble_eq_true rfl) dX10_init_40 (fun H_36 hz oq ob S => ?_)
  have S : CS D cI cS 10 B i (i + 2) (i + 8) (i + 9) (updV (updV (fun k => defaultValue (tyX10 k)) 0 (.ref (B + (i + 1)))) 1 (.ref (B + (i + 2)))) H H_36 locs_25 := S
  have hq : H_36[B + (i + 1)]? = some (sC cS B i 1) := (oq _ (Nat.add_lt_add_left (Nat.add_lt_add_left (by decide) _) _)).trans hq
  refine lv_dup hx hb dX10_init_43 rfl ?_
  refine cr_callN (As := []) (rest := [.ref (B + (i + 8)), .int 1, .ref (B + (i + 1))]) (fun _ h => h) E hNW hml hl.1 S (k_X8_init l D cI cS B (i + 8) H_36 ob hz hL8) qw_1241 qw_252 hNW.2.2.2.2.2.2.1 qw_1242 rfl (show yX8_init.cls ≠ "java/lang/invoke/MethodHandle" ∧ yX8_init.cls ≠ "java/lang/invoke/VarHandle" ∧ (parseMethodDescriptor yX8_init.desc).map (fun d => d.parameters.length) = some 0 from by decide +kernel) ⟨Nat.le_of_ble_eq_true rfl, Nat.le_of_ble_eq_true rfl⟩ (Nat.le_of_ble_eq_true rfl) ⟨Nat.le_of_ble_eq_true rfl, Nat.le_of_ble_eq_true rfl⟩ rfl dX10_init_44 (fun H_38 locs_38 S oq hp => ?_)
  have S : CS D cI cS 10 B i (i + 2) (i + 11) (i + 11) (updV (updV (fun k => defaultValue (tyX10 k)) 0 (.ref (B + (i + 1)))) 1 (.ref (B + (i + 2)))) H H_38 locs_38 := S
  have hq : H_38[B + (i + 1)]? = some (sC cS B i 1) := (oq _ (Nat.add_lt_add_left (Nat.add_lt_add_left (by decide) _) _)).trans hq
  refine cr_aast (k := 1) (rest := []) E S hq (by decide) (by decide) (by decide) (hL8.1) (by omega) dX10_init_47 (fun H_39 locs_39 S hq => ?_)
  have S : CS D cI cS 10 B i (i + 2) (i + 11) (i + 11) (updV (updV (fun k => defaultValue (tyX10 k)) 0 (.ref (B + (i + 1)))) 1 (.ref (B + (i + 2)))) H H_39 locs_39 := S
  have hq : H_39[B + (i + 1)]? = some (sC cS B i 2) := hq
  refine lv_iinc (v := 2) (lv' := [(1, .int 2), (0, .ref (B + i))]) hx hb dX10_init_48 hl (k := 0) rfl (by decide) (by decide) rfl (fun ls hl => ?_)
  refine lv_goto (tgt := 26) hx hb dX10_init_51 (by decide) ?_
  refine lv_iload_n hx hb dX10_init_26 rfl (lv_at hl 0 rfl) ?_
  refine lv_aload_n hx hb dX10_init_27 rfl (lv_at hl 1 rfl) ?_
  refine cr_get (k := 0) (v := .ref (B + (i + 1))) E S rfl inlX10 rfl rfl (by decide) qw_115 dX10_init_28 ?_
  refine cr_qlen E hq dX10_init_31 ?_
  refine lv_icmp_ge (tgt := 54) hx hb dX10_init_32 (by decide) (fun c_ => absurd c_ (by decide)) (fun c_ => ?_)
  refine lv_aload_n hx hb dX10_init_35 rfl (lv_at hl 1 rfl) ?_
  refine cr_get (k := 0) (v := .ref (B + (i + 1))) E S rfl inlX10 rfl rfl (by decide) qw_115 dX10_init_36 ?_
  refine lv_iload_n hx hb dX10_init_39 rfl (lv_at hl 0 rfl) ?_
  refine cr_new (u := 8) (N := 10) tyX8 E S inlX8 rfl rfl tyX8_ok qw_1194 qw_1195 qw_252 (Nat.le_of_ble_eq_true rfl) (Nat.le_of_ble_eq_true rfl) dX10_init_40 (fun H_50 hz oq ob S => ?_)
  have S : CS D cI cS 10 B i (i + 2) (i + 11) (i + 12) (updV (updV (fun k => defaultValue (tyX10 k)) 0 (.ref (B + (i + 1)))) 1 (.ref (B + (i + 2)))) H H_50 locs_39 := S
  have hq : H_50[B + (i + 1)]? = some (sC cS B i 2) := (oq _ (Nat.add_lt_add_left (Nat.add_lt_add_left (by decide) _) _)).trans hq
  refine lv_dup hx hb dX10_init_43 rfl ?_
  refine cr_callN (As := []) (rest := [.ref (B + (i + 11)), .int 2, .ref (B + (i + 1))]) (fun _ h => h) E hNW hml hl.1 S (k_X8_init l D cI cS B (i + 11) H_50 ob hz hL11) qw_1241 qw_252 hNW.2.2.2.2.2.2.1 qw_1242 rfl (show yX8_init.cls ≠ "java/lang/invoke/MethodHandle" ∧ yX8_init.cls ≠ "java/lang/invoke/VarHandle" ∧ (parseMethodDescriptor yX8_init.desc).map (fun d => d.parameters.length) = some 0 from by decide +kernel) ⟨Nat.le_of_ble_eq_true rfl, Nat.le_of_ble_eq_true rfl⟩ (Nat.le_of_ble_eq_true rfl) ⟨Nat.le_of_ble_eq_true rfl, Nat.le_of_ble_eq_true rfl⟩ rfl dX10_init_44 (fun H_52 locs_52 S oq hp => ?_)
  have S : CS D cI cS 10 B i (i + 2) (i + 14) (i + 14) (updV (updV (fun k => defaultValue (tyX10 k)) 0 (.ref (B + (i + 1)))) 1 (.ref (B + (i + 2)))) H H_52 locs_52 := S
  have hq : H_52[B + (i + 1)]? = some (sC cS B i 2) := (oq _ (Nat.add_lt_add_left (Nat.add_lt_add_left (by decide) _) _)).trans hq
  refine cr_aast (k := 2) (rest := []) E S hq (by decide) (by decide) (by decide) (hL11.1) (by omega) dX10_init_47 (fun H_53 locs_53 S hq => ?_)
  have S : CS D cI cS 10 B i (i + 2) (i + 14) (i + 14) (updV (updV (fun k => defaultValue (tyX10 k)) 0 (.ref (B + (i + 1)))) 1 (.ref (B + (i + 2)))) H H_53 locs_53 := S
  have hq : H_53[B + (i + 1)]? = some (sC cS B i 3) := hq
  refine lv_iinc (v := 3) (lv' := [(1, .int 3), (0, .ref (B + i))]) hx hb dX10_init_48 hl (k := 0) rfl (by decide) (by decide) rfl (fun ls hl => ?_)
  refine lv_goto (tgt := 26) hx hb dX10_init_51 (by decide) ?_
  refine lv_iload_n hx hb dX10_init_26 rfl (lv_at hl 0 rfl) ?_
  refine lv_aload_n hx hb dX10_init_27 rfl (lv_at hl 1 rfl) ?_
  refine cr_get (k := 0) (v := .ref (B + (i + 1))) E S rfl inlX10 rfl rfl (by decide) qw_115 dX10_init_28 ?_
  refine cr_qlen E hq dX10_init_31 ?_
  refine lv_icmp_ge (tgt := 54) hx hb dX10_init_32 (by decide) (fun c_ => absurd c_ (by decide)) (fun c_ => ?_)
  refine lv_aload_n hx hb dX10_init_35 rfl (lv_at hl 1 rfl) ?_
  refine cr_get (k := 0) (v := .ref (B + (i + 1))) E S rfl inlX10 rfl rfl (by decide) qw_115 dX10_init_36 ?_
  refine lv_iload_n hx hb dX10_init_39 rfl (lv_at hl 0 rfl) ?_
  refine cr_new (u := 8) (N := 10) tyX8 E S inlX8 rfl rfl tyX8_ok qw_1194 qw_1195 qw_252 (Nat.le_of_ble_eq_true rfl) (Nat.le_of_ble_eq_true rfl) dX10_init_40 (fun H_64 hz oq ob S => ?_)
  have S : CS D cI cS 10 B i (i + 2) (i + 14) (i + 15) (updV (updV (fun k => defaultValue (tyX10 k)) 0 (.ref (B + (i + 1)))) 1 (.ref (B + (i + 2)))) H H_64 locs_53 := S
  have hq : H_64[B + (i + 1)]? = some (sC cS B i 3) := (oq _ (Nat.add_lt_add_left (Nat.add_lt_add_left (by decide) _) _)).trans hq
  refine lv_dup hx hb dX10_init_43 rfl ?_
  refine cr_callN (As := []) (rest := [.ref (B + (i + 14)), .int 3, .ref (B + (i + 1))]) (fun _ h => h) E hNW hml hl.1 S (k_X8_init l D cI cS B (i + 14) H_64 ob hz hL14) qw_1241 qw_252 hNW.2.2.2.2.2.2.1 qw_1242 rfl (show yX8_init.cls ≠ "java/lang/invoke/MethodHandle" ∧ yX8_init.cls ≠ "java/lang/invoke/VarHandle" ∧ (parseMethodDescriptor yX8_init.desc).map (fun d => d.parameters.length) = some 0 from by decide +kernel) ⟨Nat.le_of_ble_eq_true rfl, Nat.le_of_ble_eq_true rfl⟩ (Nat.le_of_ble_eq_true rfl) ⟨Nat.le_of_ble_eq_true rfl, Nat.le_of_ble_eq_true rfl⟩ rfl dX10_init_44 (fun H_66 locs_66 S oq hp => ?_)
  have S : CS D cI cS 10 B i (i + 2) (i + 17) (i + 17) (updV (updV (fun k => defaultValue (tyX10 k)) 0 (.ref (B + (i + 1)))) 1 (.ref (B + (i + 2)))) H H_66 locs_66 := S
  have hq : H_66[B + (i + 1)]? = some (sC cS B i 3) := (oq _ (Nat.add_lt_add_left (Nat.add_lt_add_left (by decide) _) _)).trans hq
  refine cr_aast (k := 3) (rest := []) E S hq (by decide) (by decide) (by decide) (hL14.1) (by omega) dX10_init_47 (fun H_67 locs_67 S hq => ?_)
  have S : CS D cI cS 10 B i (i + 2) (i + 17) (i + 17) (updV (updV (fun k => defaultValue (tyX10 k)) 0 (.ref (B + (i + 1)))) 1 (.ref (B + (i + 2)))) H H_67 locs_67 := S
  have hq : H_67[B + (i + 1)]? = some (sC cS B i 4) := hq
  refine lv_iinc (v := 4) (lv' := [(1, .int 4), (0, .ref (B + i))]) hx hb dX10_init_48 hl (k := 0) rfl (by decide) (by decide) rfl (fun ls hl => ?_)
  refine lv_goto (tgt := 26) hx hb dX10_init_51 (by decide) ?_
  refine lv_iload_n hx hb dX10_init_26 rfl (lv_at hl 0 rfl) ?_
  refine lv_aload_n hx hb dX10_init_27 rfl (lv_at hl 1 rfl) ?_
  refine cr_get (k := 0) (v := .ref (B + (i + 1))) E S rfl inlX10 rfl rfl (by decide) qw_115 dX10_init_28 ?_
  refine cr_qlen E hq dX10_init_31 ?_
  refine lv_icmp_ge (tgt := 54) hx hb dX10_init_32 (by decide) (fun c_ => absurd c_ (by decide)) (fun c_ => ?_)
  refine lv_aload_n hx hb dX10_init_35 rfl (lv_at hl 1 rfl) ?_
  refine cr_get (k := 0) (v := .ref (B + (i + 1))) E S rfl inlX10 rfl rfl (by decide) qw_115 dX10_init_36 ?_
  refine lv_iload_n hx hb dX10_init_39 rfl (lv_at hl 0 rfl) ?_
  refine cr_new (u := 8) (N := 10) tyX8 E S inlX8 rfl rfl tyX8_ok qw_1194 qw_1195 qw_252 (Nat.le_of_ble_eq_true rfl) (Nat.le_of_ble_eq_true rfl) dX10_init_40 (fun H_78 hz oq ob S => ?_)
  have S : CS D cI cS 10 B i (i + 2) (i + 17) (i + 18) (updV (updV (fun k => defaultValue (tyX10 k)) 0 (.ref (B + (i + 1)))) 1 (.ref (B + (i + 2)))) H H_78 locs_67 := S
  have hq : H_78[B + (i + 1)]? = some (sC cS B i 4) := (oq _ (Nat.add_lt_add_left (Nat.add_lt_add_left (by decide) _) _)).trans hq
  refine lv_dup hx hb dX10_init_43 rfl ?_
  refine cr_callN (As := []) (rest := [.ref (B + (i + 17)), .int 4, .ref (B + (i + 1))]) (fun _ h => h) E hNW hml hl.1 S (k_X8_init l D cI cS B (i + 17) H_78 ob hz hL17) qw_1241 qw_252 hNW.2.2.2.2.2.2.1 qw_1242 rfl (show yX8_init.cls ≠ "java/lang/invoke/MethodHandle" ∧ yX8_init.cls ≠ "java/lang/invoke/VarHandle" ∧ (parseMethodDescriptor yX8_init.desc).map (fun d => d.parameters.length) = some 0 from by decide +kernel) ⟨Nat.le_of_ble_eq_true rfl, Nat.le_of_ble_eq_true rfl⟩ (Nat.le_of_ble_eq_true rfl) ⟨Nat.le_of_ble_eq_true rfl, Nat.le_of_ble_eq_true rfl⟩ rfl dX10_init_44 (fun H_80 locs_80 S oq hp => ?_)
  have S : CS D cI cS 10 B i (i + 2) (i + 20) (i + 20) (updV (updV (fun k => defaultValue (tyX10 k)) 0 (.ref (B + (i + 1)))) 1 (.ref (B + (i + 2)))) H H_80 locs_80 := S
  have hq : H_80[B + (i + 1)]? = some (sC cS B i 4) := (oq _ (Nat.add_lt_add_left (Nat.add_lt_add_left (by decide) _) _)).trans hq
  refine cr_aast (k := 4) (rest := []) E S hq (by decide) (by decide) (by decide) (hL17.1) (by omega) dX10_init_47 (fun H_81 locs_81 S hq => ?_)
  have S : CS D cI cS 10 B i (i + 2) (i + 20) (i + 20) (updV (updV (fun k => defaultValue (tyX10 k)) 0 (.ref (B + (i + 1)))) 1 (.ref (B + (i + 2)))) H H_81 locs_81 := S
  have hq : H_81[B + (i + 1)]? = some (sC cS B i 5) := hq
  refine lv_iinc (v := 5) (lv' := [(1, .int 5), (0, .ref (B + i))]) hx hb dX10_init_48 hl (k := 0) rfl (by decide) (by decide) rfl (fun ls hl => ?_)
  refine lv_goto (tgt := 26) hx hb dX10_init_51 (by decide) ?_
  refine lv_iload_n hx hb dX10_init_26 rfl (lv_at hl 0 rfl) ?_
  refine lv_aload_n hx hb dX10_init_27 rfl (lv_at hl 1 rfl) ?_
  refine cr_get (k := 0) (v := .ref (B + (i + 1))) E S rfl inlX10 rfl rfl (by decide) qw_115 dX10_init_28 ?_
  refine cr_qlen E hq dX10_init_31 ?_
  refine lv_icmp_ge (tgt := 54) hx hb dX10_init_32 (by decide) (fun c_ => absurd c_ (by decide)) (fun c_ => ?_)
  refine lv_aload_n hx hb dX10_init_35 rfl (lv_at hl 1 rfl) ?_
  refine cr_get (k := 0) (v := .ref (B + (i + 1))) E S rfl inlX10 rfl rfl (by decide) qw_115 dX10_init_36 ?_
  refine lv_iload_n hx hb dX10_init_39 rfl (lv_at hl 0 rfl) ?_
  refine cr_new (u := 8) (N := 10) tyX8 E S inlX8 rfl rfl tyX8_ok qw_1194 qw_1195 qw_252 (Nat.le_of_ble_eq_true rfl) (Nat.le_of_ble_eq_true rfl) dX10_init_40 (fun H_92 hz oq ob S => ?_)
  have S : CS D cI cS 10 B i (i + 2) (i + 20) (i + 21) (updV (updV (fun k => defaultValue (tyX10 k)) 0 (.ref (B + (i + 1)))) 1 (.ref (B + (i + 2)))) H H_92 locs_81 := S
  have hq : H_92[B + (i + 1)]? = some (sC cS B i 5) := (oq _ (Nat.add_lt_add_left (Nat.add_lt_add_left (by decide) _) _)).trans hq
  refine lv_dup hx hb dX10_init_43 rfl ?_
  refine cr_callN (As := []) (rest := [.ref (B + (i + 20)), .int 5, .ref (B + (i + 1))]) (fun _ h => h) E hNW hml hl.1 S (k_X8_init l D cI cS B (i + 20) H_92 ob hz hL20) qw_1241 qw_252 hNW.2.2.2.2.2.2.1 qw_1242 rfl (show yX8_init.cls ≠ "java/lang/invoke/MethodHandle" ∧ yX8_init.cls ≠ "java/lang/invoke/VarHandle" ∧ (parseMethodDescriptor yX8_init.desc).map (fun d => d.parameters.length) = some 0 from by decide +kernel) ⟨Nat.le_of_ble_eq_true rfl, Nat.le_of_ble_eq_true rfl⟩ (Nat.le_of_ble_eq_true rfl) ⟨Nat.le_of_ble_eq_true rfl, Nat.le_of_ble_eq_true rfl⟩ rfl dX10_init_44 (fun H_94 locs_94 S oq hp => ?_)
  have S : CS D cI cS 10 B i (i + 2) (i + 23) (i + 23) (updV (updV (fun k => defaultValue (tyX10 k)) 0 (.ref (B + (i + 1)))) 1 (.ref (B + (i + 2)))) H H_94 locs_94 := S
  have hq : H_94[B + (i + 1)]? = some (sC cS B i 5) := (oq _ (Nat.add_lt_add_left (Nat.add_lt_add_left (by decide) _) _)).trans hq
  refine cr_aast (k := 5) (rest := []) E S hq (by decide) (by decide) (by decide) (hL20.1) (by omega) dX10_init_47 (fun H_95 locs_95 S hq => ?_)
  have S : CS D cI cS 10 B i (i + 2) (i + 23) (i + 23) (updV (updV (fun k => defaultValue (tyX10 k)) 0 (.ref (B + (i + 1)))) 1 (.ref (B + (i + 2)))) H H_95 locs_95 := S
  have hq : H_95[B + (i + 1)]? = some (sC cS B i 6) := hq
  refine lv_iinc (v := 6) (lv' := [(1, .int 6), (0, .ref (B + i))]) hx hb dX10_init_48 hl (k := 0) rfl (by decide) (by decide) rfl (fun ls hl => ?_)
  refine lv_goto (tgt := 26) hx hb dX10_init_51 (by decide) ?_
  refine lv_iload_n hx hb dX10_init_26 rfl (lv_at hl 0 rfl) ?_
  refine lv_aload_n hx hb dX10_init_27 rfl (lv_at hl 1 rfl) ?_
  refine cr_get (k := 0) (v := .ref (B + (i + 1))) E S rfl inlX10 rfl rfl (by decide) qw_115 dX10_init_28 ?_
  refine cr_qlen E hq dX10_init_31 ?_
  refine lv_icmp_ge (tgt := 54) hx hb dX10_init_32 (by decide) (fun c_ => absurd c_ (by decide)) (fun c_ => ?_)
  refine lv_aload_n hx hb dX10_init_35 rfl (lv_at hl 1 rfl) ?_
  refine cr_get (k := 0) (v := .ref (B + (i + 1))) E S rfl inlX10 rfl rfl (by decide) qw_115 dX10_init_36 ?_
  refine lv_iload_n hx hb dX10_init_39 rfl (lv_at hl 0 rfl) ?_
  refine cr_new (u := 8) (N := 10) tyX8 E S inlX8 rfl rfl tyX8_ok qw_1194 qw_1195 qw_252 (Nat.le_of_ble_eq_true rfl) (Nat.le_of_ble_eq_true rfl) dX10_init_40 (fun H_106 hz oq ob S => ?_)
  have S : CS D cI cS 10 B i (i + 2) (i + 23) (i + 24) (updV (updV (fun k => defaultValue (tyX10 k)) 0 (.ref (B + (i + 1)))) 1 (.ref (B + (i + 2)))) H H_106 locs_95 := S
  have hq : H_106[B + (i + 1)]? = some (sC cS B i 6) := (oq _ (Nat.add_lt_add_left (Nat.add_lt_add_left (by decide) _) _)).trans hq
  refine lv_dup hx hb dX10_init_43 rfl ?_
  refine cr_callN (As := []) (rest := [.ref (B + (i + 23)), .int 6, .ref (B + (i + 1))]) (fun _ h => h) E hNW hml hl.1 S (k_X8_init l D cI cS B (i + 23) H_106 ob hz hL23) qw_1241 qw_252 hNW.2.2.2.2.2.2.1 qw_1242 rfl (show yX8_init.cls ≠ "java/lang/invoke/MethodHandle" ∧ yX8_init.cls ≠ "java/lang/invoke/VarHandle" ∧ (parseMethodDescriptor yX8_init.desc).map (fun d => d.parameters.length) = some 0 from by decide +kernel) ⟨Nat.le_of_ble_eq_true rfl, Nat.le_of_ble_eq_true rfl⟩ (Nat.le_of_ble_eq_true rfl) ⟨Nat.le_of_ble_eq_true rfl, Nat.le_of_ble_eq_true rfl⟩ rfl dX10_init_44 (fun H_108 locs_108 S oq hp => ?_)
  have S : CS D cI cS 10 B i (i + 2) (i + 26) (i + 26) (updV (updV (fun k => defaultValue (tyX10 k)) 0 (.ref (B + (i + 1)))) 1 (.ref (B + (i + 2)))) H H_108 locs_108 := S
  have hq : H_108[B + (i + 1)]? = some (sC cS B i 6) := (oq _ (Nat.add_lt_add_left (Nat.add_lt_add_left (by decide) _) _)).trans hq
  refine cr_aast (k := 6) (rest := []) E S hq (by decide) (by decide) (by decide) (hL23.1) (by omega) dX10_init_47 (fun H_109 locs_109 S hq => ?_)
  have S : CS D cI cS 10 B i (i + 2) (i + 26) (i + 26) (updV (updV (fun k => defaultValue (tyX10 k)) 0 (.ref (B + (i + 1)))) 1 (.ref (B + (i + 2)))) H H_109 locs_109 := S
  have hq : H_109[B + (i + 1)]? = some (sC cS B i 7) := hq
  refine lv_iinc (v := 7) (lv' := [(1, .int 7), (0, .ref (B + i))]) hx hb dX10_init_48 hl (k := 0) rfl (by decide) (by decide) rfl (fun ls hl => ?_)
  refine lv_goto (tgt := 26) hx hb dX10_init_51 (by decide) ?_
  refine lv_iload_n hx hb dX10_init_26 rfl (lv_at hl 0 rfl) ?_
  refine lv_aload_n hx hb dX10_init_27 rfl (lv_at hl 1 rfl) ?_
  refine cr_get (k := 0) (v := .ref (B + (i + 1))) E S rfl inlX10 rfl rfl (by decide) qw_115 dX10_init_28 ?_
  refine cr_qlen E hq dX10_init_31 ?_
  refine lv_icmp_ge (tgt := 54) hx hb dX10_init_32 (by decide) (fun c_ => absurd c_ (by decide)) (fun c_ => ?_)
  refine lv_aload_n hx hb dX10_init_35 rfl (lv_at hl 1 rfl) ?_
  refine cr_get (k := 0) (v := .ref (B + (i + 1))) E S rfl inlX10 rfl rfl (by decide) qw_115 dX10_init_36 ?_
  refine lv_iload_n hx hb dX10_init_39 rfl (lv_at hl 0 rfl) ?_
  refine cr_new (u := 8) (N := 10) tyX8 E S inlX8 rfl rfl tyX8_ok qw_1194 qw_1195 qw_252 (Nat.le_of_ble_eq_true rfl) (Nat.le_of_ble_eq_true rfl) dX10_init_40 (fun H_120 hz oq ob S => ?_)
  have S : CS D cI cS 10 B i (i + 2) (i + 26) (i + 27) (updV (updV (fun k => defaultValue (tyX10 k)) 0 (.ref (B + (i + 1)))) 1 (.ref (B + (i + 2)))) H H_120 locs_109 := S
  have hq : H_120[B + (i + 1)]? = some (sC cS B i 7) := (oq _ (Nat.add_lt_add_left (Nat.add_lt_add_left (by decide) _) _)).trans hq
  refine lv_dup hx hb dX10_init_43 rfl ?_
  refine cr_callN (As := []) (rest := [.ref (B + (i + 26)), .int 7, .ref (B + (i + 1))]) (fun _ h => h) E hNW hml hl.1 S (k_X8_init l D cI cS B (i + 26) H_120 ob hz hL26) qw_1241 qw_252 hNW.2.2.2.2.2.2.1 qw_1242 rfl (show yX8_init.cls ≠ "java/lang/invoke/MethodHandle" ∧ yX8_init.cls ≠ "java/lang/invoke/VarHandle" ∧ (parseMethodDescriptor yX8_init.desc).map (fun d => d.parameters.length) = some 0 from by decide +kernel) ⟨Nat.le_of_ble_eq_true rfl, Nat.le_of_ble_eq_true rfl⟩ (Nat.le_of_ble_eq_true rfl) ⟨Nat.le_of_ble_eq_true rfl, Nat.le_of_ble_eq_true rfl⟩ rfl dX10_init_44 (fun H_122 locs_122 S oq hp => ?_)
  have S : CS D cI cS 10 B i (i + 2) (i + 29) (i + 29) (updV (updV (fun k => defaultValue (tyX10 k)) 0 (.ref (B + (i + 1)))) 1 (.ref (B + (i + 2)))) H H_122 locs_122 := S
  have hq : H_122[B + (i + 1)]? = some (sC cS B i 7) := (oq _ (Nat.add_lt_add_left (Nat.add_lt_add_left (by decide) _) _)).trans hq
  refine cr_aast (k := 7) (rest := []) E S hq (by decide) (by decide) (by decide) (hL26.1) (by omega) dX10_init_47 (fun H_123 locs_123 S hq => ?_)
  have S : CS D cI cS 10 B i (i + 2) (i + 29) (i + 29) (updV (updV (fun k => defaultValue (tyX10 k)) 0 (.ref (B + (i + 1)))) 1 (.ref (B + (i + 2)))) H H_123 locs_123 := S
  have hq : H_123[B + (i + 1)]? = some (sC cS B i 8) := hq
  refine lv_iinc (v := 8) (lv' := [(1, .int 8), (0, .ref (B + i))]) hx hb dX10_init_48 hl (k := 0) rfl (by decide) (by decide) rfl (fun ls hl => ?_)
  refine lv_goto (tgt := 26) hx hb dX10_init_51 (by decide) ?_
  refine lv_iload_n hx hb dX10_init_26 rfl (lv_at hl 0 rfl) ?_
  refine lv_aload_n hx hb dX10_init_27 rfl (lv_at hl 1 rfl) ?_
  refine cr_get (k := 0) (v := .ref (B + (i + 1))) E S rfl inlX10 rfl rfl (by decide) qw_115 dX10_init_28 ?_
  refine cr_qlen E hq dX10_init_31 ?_
  refine lv_icmp_ge (tgt := 54) hx hb dX10_init_32 (by decide) (fun c_ => absurd c_ (by decide)) (fun c_ => ?_)
  refine lv_aload_n hx hb dX10_init_35 rfl (lv_at hl 1 rfl) ?_
  refine cr_get (k := 0) (v := .ref (B + (i + 1))) E S rfl inlX10 rfl rfl (by decide) qw_115 dX10_init_36 ?_
  refine lv_iload_n hx hb dX10_init_39 rfl (lv_at hl 0 rfl) ?_
  refine cr_new (u := 8) (N := 10) tyX8 E S inlX8 rfl rfl tyX8_ok qw_1194 qw_1195 qw_252 (Nat.le_of_ble_eq_true rfl) (Nat.le_of_ble_eq_true rfl) dX10_init_40 (fun H_134 hz oq ob S => ?_)
  have S : CS D cI cS 10 B i (i + 2) (i + 29) (i + 30) (updV (updV (fun k => defaultValue (tyX10 k)) 0 (.ref (B + (i + 1)))) 1 (.ref (B + (i + 2)))) H H_134 locs_123 := S
  have hq : H_134[B + (i + 1)]? = some (sC cS B i 8) := (oq _ (Nat.add_lt_add_left (Nat.add_lt_add_left (by decide) _) _)).trans hq
  refine lv_dup hx hb dX10_init_43 rfl ?_
  refine cr_callN (As := []) (rest := [.ref (B + (i + 29)), .int 8, .ref (B + (i + 1))]) (fun _ h => h) E hNW hml hl.1 S (k_X8_init l D cI cS B (i + 29) H_134 ob hz hL29) qw_1241 qw_252 hNW.2.2.2.2.2.2.1 qw_1242 rfl (show yX8_init.cls ≠ "java/lang/invoke/MethodHandle" ∧ yX8_init.cls ≠ "java/lang/invoke/VarHandle" ∧ (parseMethodDescriptor yX8_init.desc).map (fun d => d.parameters.length) = some 0 from by decide +kernel) ⟨Nat.le_of_ble_eq_true rfl, Nat.le_of_ble_eq_true rfl⟩ (Nat.le_of_ble_eq_true rfl) ⟨Nat.le_of_ble_eq_true rfl, Nat.le_of_ble_eq_true rfl⟩ rfl dX10_init_44 (fun H_136 locs_136 S oq hp => ?_)
  have S : CS D cI cS 10 B i (i + 2) (i + 32) (i + 32) (updV (updV (fun k => defaultValue (tyX10 k)) 0 (.ref (B + (i + 1)))) 1 (.ref (B + (i + 2)))) H H_136 locs_136 := S
  have hq : H_136[B + (i + 1)]? = some (sC cS B i 8) := (oq _ (Nat.add_lt_add_left (Nat.add_lt_add_left (by decide) _) _)).trans hq
  refine cr_aast (k := 8) (rest := []) E S hq (by decide) (by decide) (by decide) (hL29.1) (by omega) dX10_init_47 (fun H_137 locs_137 S hq => ?_)
  have S : CS D cI cS 10 B i (i + 2) (i + 32) (i + 32) (updV (updV (fun k => defaultValue (tyX10 k)) 0 (.ref (B + (i + 1)))) 1 (.ref (B + (i + 2)))) H H_137 locs_137 := S
  have hq : H_137[B + (i + 1)]? = some (sC cS B i 9) := hq
  refine lv_iinc (v := 9) (lv' := [(1, .int 9), (0, .ref (B + i))]) hx hb dX10_init_48 hl (k := 0) rfl (by decide) (by decide) rfl (fun ls hl => ?_)
  refine lv_goto (tgt := 26) hx hb dX10_init_51 (by decide) ?_
  refine lv_iload_n hx hb dX10_init_26 rfl (lv_at hl 0 rfl) ?_
  refine lv_aload_n hx hb dX10_init_27 rfl (lv_at hl 1 rfl) ?_
  refine cr_get (k := 0) (v := .ref (B + (i + 1))) E S rfl inlX10 rfl rfl (by decide) qw_115 dX10_init_28 ?_
  refine cr_qlen E hq dX10_init_31 ?_
  refine lv_icmp_ge (tgt := 54) hx hb dX10_init_32 (by decide) (fun c_ => absurd c_ (by decide)) (fun c_ => ?_)
  refine lv_aload_n hx hb dX10_init_35 rfl (lv_at hl 1 rfl) ?_
  refine cr_get (k := 0) (v := .ref (B + (i + 1))) E S rfl inlX10 rfl rfl (by decide) qw_115 dX10_init_36 ?_
  refine lv_iload_n hx hb dX10_init_39 rfl (lv_at hl 0 rfl) ?_
  refine cr_new (u := 8) (N := 10) tyX8 E S inlX8 rfl rfl tyX8_ok qw_1194 qw_1195 qw_252 (Nat.le_of_ble_eq_true rfl) (Nat.le_of_ble_eq_true rfl) dX10_init_40 (fun H_148 hz oq ob S => ?_)
  have S : CS D cI cS 10 B i (i + 2) (i + 32) (i + 33) (updV (updV (fun k => defaultValue (tyX10 k)) 0 (.ref (B + (i + 1)))) 1 (.ref (B + (i + 2)))) H H_148 locs_137 := S
  have hq : H_148[B + (i + 1)]? = some (sC cS B i 9) := (oq _ (Nat.add_lt_add_left (Nat.add_lt_add_left (by decide) _) _)).trans hq
  refine lv_dup hx hb dX10_init_43 rfl ?_
  refine cr_callN (As := []) (rest := [.ref (B + (i + 32)), .int 9, .ref (B + (i + 1))]) (fun _ h => h) E hNW hml hl.1 S (k_X8_init l D cI cS B (i + 32) H_148 ob hz hL32) qw_1241 qw_252 hNW.2.2.2.2.2.2.1 qw_1242 rfl (show yX8_init.cls ≠ "java/lang/invoke/MethodHandle" ∧ yX8_init.cls ≠ "java/lang/invoke/VarHandle" ∧ (parseMethodDescriptor yX8_init.desc).map (fun d => d.parameters.length) = some 0 from by decide +kernel) ⟨Nat.le_of_ble_eq_true rfl, Nat.le_of_ble_eq_true rfl⟩ (Nat.le_of_ble_eq_true rfl) ⟨Nat.le_of_ble_eq_true rfl, Nat.le_of_ble_eq_true rfl⟩ rfl dX10_init_44 (fun H_150 locs_150 S oq hp => ?_)
  have S : CS D cI cS 10 B i (i + 2) (i + 35) (i + 35) (updV (updV (fun k => defaultValue (tyX10 k)) 0 (.ref (B + (i + 1)))) 1 (.ref (B + (i + 2)))) H H_150 locs_150 := S
  have hq : H_150[B + (i + 1)]? = some (sC cS B i 9) := (oq _ (Nat.add_lt_add_left (Nat.add_lt_add_left (by decide) _) _)).trans hq
  refine cr_aast (k := 9) (rest := []) E S hq (by decide) (by decide) (by decide) (hL32.1) (by omega) dX10_init_47 (fun H_151 locs_151 S hq => ?_)
  have S : CS D cI cS 10 B i (i + 2) (i + 35) (i + 35) (updV (updV (fun k => defaultValue (tyX10 k)) 0 (.ref (B + (i + 1)))) 1 (.ref (B + (i + 2)))) H H_151 locs_151 := S
  have hq : H_151[B + (i + 1)]? = some (sC cS B i 10) := hq
  refine lv_iinc (v := 10) (lv' := [(1, .int 10), (0, .ref (B + i))]) hx hb dX10_init_48 hl (k := 0) rfl (by decide) (by decide) rfl (fun ls hl => ?_)
  refine lv_goto (tgt := 26) hx hb dX10_init_51 (by decide) ?_
  refine lv_iload_n hx hb dX10_init_26 rfl (lv_at hl 0 rfl) ?_
  refine lv_aload_n hx hb dX10_init_27 rfl (lv_at hl 1 rfl) ?_
  refine cr_get (k := 0) (v := .ref (B + (i + 1))) E S rfl inlX10 rfl rfl (by decide) qw_115 dX10_init_28 ?_
  refine cr_qlen E hq dX10_init_31 ?_
  refine lv_icmp_ge (tgt := 54) hx hb dX10_init_32 (by decide) (fun c_ => absurd c_ (by decide)) (fun c_ => ?_)
  refine lv_aload_n hx hb dX10_init_35 rfl (lv_at hl 1 rfl) ?_
  refine cr_get (k := 0) (v := .ref (B + (i + 1))) E S rfl inlX10 rfl rfl (by decide) qw_115 dX10_init_36 ?_
  refine lv_iload_n hx hb dX10_init_39 rfl (lv_at hl 0 rfl) ?_
  refine cr_new (u := 8) (N := 10) tyX8 E S inlX8 rfl rfl tyX8_ok qw_1194 qw_1195 qw_252 (Nat.le_of_ble_eq_true rfl) (Nat.le_of_ble_eq_true rfl) dX10_init_40 (fun H_162 hz oq ob S => ?_)
  have S : CS D cI cS 10 B i (i + 2) (i + 35) (i + 36) (updV (updV (fun k => defaultValue (tyX10 k)) 0 (.ref (B + (i + 1)))) 1 (.ref (B + (i + 2)))) H H_162 locs_151 := S
  have hq : H_162[B + (i + 1)]? = some (sC cS B i 10) := (oq _ (Nat.add_lt_add_left (Nat.add_lt_add_left (by decide) _) _)).trans hq
  refine lv_dup hx hb dX10_init_43 rfl ?_
  refine cr_callN (As := []) (rest := [.ref (B + (i + 35)), .int 10, .ref (B + (i + 1))]) (fun _ h => h) E hNW hml hl.1 S (k_X8_init l D cI cS B (i + 35) H_162 ob hz hL35) qw_1241 qw_252 hNW.2.2.2.2.2.2.1 qw_1242 rfl (show yX8_init.cls ≠ "java/lang/invoke/MethodHandle" ∧ yX8_init.cls ≠ "java/lang/invoke/VarHandle" ∧ (parseMethodDescriptor yX8_init.desc).map (fun d => d.parameters.length) = some 0 from by decide +kernel) ⟨Nat.le_of_ble_eq_true rfl, Nat.le_of_ble_eq_true rfl⟩ (Nat.le_of_ble_eq_true rfl) ⟨Nat.le_of_ble_eq_true rfl, Nat.le_of_ble_eq_true rfl⟩ rfl dX10_init_44 (fun H_164 locs_164 S oq hp => ?_)
  have S : CS D cI cS 10 B i (i + 2) (i + 38) (i + 38) (updV (updV (fun k => defaultValue (tyX10 k)) 0 (.ref (B + (i + 1)))) 1 (.ref (B + (i + 2)))) H H_164 locs_164 := S
  have hq : H_164[B + (i + 1)]? = some (sC cS B i 10) := (oq _ (Nat.add_lt_add_left (Nat.add_lt_add_left (by decide) _) _)).trans hq
  refine cr_aast (k := 10) (rest := []) E S hq (by decide) (by decide) (by decide) (hL35.1) (by omega) dX10_init_47 (fun H_165 locs_165 S hq => ?_)
  have S : CS D cI cS 10 B i (i + 2) (i + 38) (i + 38) (updV (updV (fun k => defaultValue (tyX10 k)) 0 (.ref (B + (i + 1)))) 1 (.ref (B + (i + 2)))) H H_165 locs_165 := S
  have hq : H_165[B + (i + 1)]? = some (sC cS B i 11) := hq
  refine lv_iinc (v := 11) (lv' := [(1, .int 11), (0, .ref (B + i))]) hx hb dX10_init_48 hl (k := 0) rfl (by decide) (by decide) rfl (fun ls hl => ?_)
  refine lv_goto (tgt := 26) hx hb dX10_init_51 (by decide) ?_
  refine lv_iload_n hx hb dX10_init_26 rfl (lv_at hl 0 rfl) ?_
  refine lv_aload_n hx hb dX10_init_27 rfl (lv_at hl 1 rfl) ?_
  refine cr_get (k := 0) (v := .ref (B + (i + 1))) E S rfl inlX10 rfl rfl (by decide) qw_115 dX10_init_28 ?_
  refine cr_qlen E hq dX10_init_31 ?_
  refine lv_icmp_ge (tgt := 54) hx hb dX10_init_32 (by decide) (fun c_ => absurd c_ (by decide)) (fun c_ => ?_)
  refine lv_aload_n hx hb dX10_init_35 rfl (lv_at hl 1 rfl) ?_
  refine cr_get (k := 0) (v := .ref (B + (i + 1))) E S rfl inlX10 rfl rfl (by decide) qw_115 dX10_init_36 ?_
  refine lv_iload_n hx hb dX10_init_39 rfl (lv_at hl 0 rfl) ?_
  refine cr_new (u := 8) (N := 10) tyX8 E S inlX8 rfl rfl tyX8_ok qw_1194 qw_1195 qw_252 (Nat.le_of_ble_eq_true rfl) (Nat.le_of_ble_eq_true rfl) dX10_init_40 (fun H_176 hz oq ob S => ?_)
  have S : CS D cI cS 10 B i (i + 2) (i + 38) (i + 39) (updV (updV (fun k => defaultValue (tyX10 k)) 0 (.ref (B + (i + 1)))) 1 (.ref (B + (i + 2)))) H H_176 locs_165 := S
  have hq : H_176[B + (i + 1)]? = some (sC cS B i 11) := (oq _ (Nat.add_lt_add_left (Nat.add_lt_add_left (by decide) _) _)).trans hq
  refine lv_dup hx hb dX10_init_43 rfl ?_
  refine cr_callN (As := []) (rest := [.ref (B + (i + 38)), .int 11, .ref (B + (i + 1))]) (fun _ h => h) E hNW hml hl.1 S (k_X8_init l D cI cS B (i + 38) H_176 ob hz hL38) qw_1241 qw_252 hNW.2.2.2.2.2.2.1 qw_1242 rfl (show yX8_init.cls ≠ "java/lang/invoke/MethodHandle" ∧ yX8_init.cls ≠ "java/lang/invoke/VarHandle" ∧ (parseMethodDescriptor yX8_init.desc).map (fun d => d.parameters.length) = some 0 from by decide +kernel) ⟨Nat.le_of_ble_eq_true rfl, Nat.le_of_ble_eq_true rfl⟩ (Nat.le_of_ble_eq_true rfl) ⟨Nat.le_of_ble_eq_true rfl, Nat.le_of_ble_eq_true rfl⟩ rfl dX10_init_44 (fun H_178 locs_178 S oq hp => ?_)
  have S : CS D cI cS 10 B i (i + 2) (i + 41) (i + 41) (updV (updV (fun k => defaultValue (tyX10 k)) 0 (.ref (B + (i + 1)))) 1 (.ref (B + (i + 2)))) H H_178 locs_178 := S
  have hq : H_178[B + (i + 1)]? = some (sC cS B i 11) := (oq _ (Nat.add_lt_add_left (Nat.add_lt_add_left (by decide) _) _)).trans hq
  refine cr_aast (k := 11) (rest := []) E S hq (by decide) (by decide) (by decide) (hL38.1) (by omega) dX10_init_47 (fun H_179 locs_179 S hq => ?_)
  have S : CS D cI cS 10 B i (i + 2) (i + 41) (i + 41) (updV (updV (fun k => defaultValue (tyX10 k)) 0 (.ref (B + (i + 1)))) 1 (.ref (B + (i + 2)))) H H_179 locs_179 := S
  have hq : H_179[B + (i + 1)]? = some (sC cS B i 12) := hq
  refine lv_iinc (v := 12) (lv' := [(1, .int 12), (0, .ref (B + i))]) hx hb dX10_init_48 hl (k := 0) rfl (by decide) (by decide) rfl (fun ls hl => ?_)
  refine lv_goto (tgt := 26) hx hb dX10_init_51 (by decide) ?_
  refine lv_iload_n hx hb dX10_init_26 rfl (lv_at hl 0 rfl) ?_
  refine lv_aload_n hx hb dX10_init_27 rfl (lv_at hl 1 rfl) ?_
  refine cr_get (k := 0) (v := .ref (B + (i + 1))) E S rfl inlX10 rfl rfl (by decide) qw_115 dX10_init_28 ?_
  refine cr_qlen E hq dX10_init_31 ?_
  refine lv_icmp_ge (tgt := 54) hx hb dX10_init_32 (by decide) (fun c_ => absurd c_ (by decide)) (fun c_ => ?_)
  refine lv_aload_n hx hb dX10_init_35 rfl (lv_at hl 1 rfl) ?_
  refine cr_get (k := 0) (v := .ref (B + (i + 1))) E S rfl inlX10 rfl rfl (by decide) qw_115 dX10_init_36 ?_
  refine lv_iload_n hx hb dX10_init_39 rfl (lv_at hl 0 rfl) ?_
  refine cr_new (u := 8) (N := 10) tyX8 E S inlX8 rfl rfl tyX8_ok qw_1194 qw_1195 qw_252 (Nat.le_of_ble_eq_true rfl) (Nat.le_of_ble_eq_true rfl) dX10_init_40 (fun H_190 hz oq ob S => ?_)
  have S : CS D cI cS 10 B i (i + 2) (i + 41) (i + 42) (updV (updV (fun k => defaultValue (tyX10 k)) 0 (.ref (B + (i + 1)))) 1 (.ref (B + (i + 2)))) H H_190 locs_179 := S
  have hq : H_190[B + (i + 1)]? = some (sC cS B i 12) := (oq _ (Nat.add_lt_add_left (Nat.add_lt_add_left (by decide) _) _)).trans hq
  refine lv_dup hx hb dX10_init_43 rfl ?_
  refine cr_callN (As := []) (rest := [.ref (B + (i + 41)), .int 12, .ref (B + (i + 1))]) (fun _ h => h) E hNW hml hl.1 S (k_X8_init l D cI cS B (i + 41) H_190 ob hz hL41) qw_1241 qw_252 hNW.2.2.2.2.2.2.1 qw_1242 rfl (show yX8_init.cls ≠ "java/lang/invoke/MethodHandle" ∧ yX8_init.cls ≠ "java/lang/invoke/VarHandle" ∧ (parseMethodDescriptor yX8_init.desc).map (fun d => d.parameters.length) = some 0 from by decide +kernel) ⟨Nat.le_of_ble_eq_true rfl, Nat.le_of_ble_eq_true rfl⟩ (Nat.le_of_ble_eq_true rfl) ⟨Nat.le_of_ble_eq_true rfl, Nat.le_of_ble_eq_true rfl⟩ rfl dX10_init_44 (fun H_192 locs_192 S oq hp => ?_)
  have S : CS D cI cS 10 B i (i + 2) (i + 44) (i + 44) (updV (updV (fun k => defaultValue (tyX10 k)) 0 (.ref (B + (i + 1)))) 1 (.ref (B + (i + 2)))) H H_192 locs_192 := S
  have hq : H_192[B + (i + 1)]? = some (sC cS B i 12) := (oq _ (Nat.add_lt_add_left (Nat.add_lt_add_left (by decide) _) _)).trans hq
  refine cr_aast (k := 12) (rest := []) E S hq (by decide) (by decide) (by decide) (hL41.1) (by omega) dX10_init_47 (fun H_193 locs_193 S hq => ?_)
  have S : CS D cI cS 10 B i (i + 2) (i + 44) (i + 44) (updV (updV (fun k => defaultValue (tyX10 k)) 0 (.ref (B + (i + 1)))) 1 (.ref (B + (i + 2)))) H H_193 locs_193 := S
  have hq : H_193[B + (i + 1)]? = some (sC cS B i 13) := hq
  refine lv_iinc (v := 13) (lv' := [(1, .int 13), (0, .ref (B + i))]) hx hb dX10_init_48 hl (k := 0) rfl (by decide) (by decide) rfl (fun ls hl => ?_)
  refine lv_goto (tgt := 26) hx hb dX10_init_51 (by decide) ?_
  refine lv_iload_n hx hb dX10_init_26 rfl (lv_at hl 0 rfl) ?_
  refine lv_aload_n hx hb dX10_init_27 rfl (lv_at hl 1 rfl) ?_
  refine cr_get (k := 0) (v := .ref (B + (i + 1))) E S rfl inlX10 rfl rfl (by decide) qw_115 dX10_init_28 ?_
  refine cr_qlen E hq dX10_init_31 ?_
  refine lv_icmp_ge (tgt := 54) hx hb dX10_init_32 (by decide) (fun c_ => absurd c_ (by decide)) (fun c_ => ?_)
  refine lv_aload_n hx hb dX10_init_35 rfl (lv_at hl 1 rfl) ?_
  refine cr_get (k := 0) (v := .ref (B + (i + 1))) E S rfl inlX10 rfl rfl (by decide) qw_115 dX10_init_36 ?_
  refine lv_iload_n hx hb dX10_init_39 rfl (lv_at hl 0 rfl) ?_
  refine cr_new (u := 8) (N := 10) tyX8 E S inlX8 rfl rfl tyX8_ok qw_1194 qw_1195 qw_252 (Nat.le_of_ble_eq_true rfl) (Nat.le_of_ble_eq_true rfl) dX10_init_40 (fun H_204 hz oq ob S => ?_)
  have S : CS D cI cS 10 B i (i + 2) (i + 44) (i + 45) (updV (updV (fun k => defaultValue (tyX10 k)) 0 (.ref (B + (i + 1)))) 1 (.ref (B + (i + 2)))) H H_204 locs_193 := S
  have hq : H_204[B + (i + 1)]? = some (sC cS B i 13) := (oq _ (Nat.add_lt_add_left (Nat.add_lt_add_left (by decide) _) _)).trans hq
  refine lv_dup hx hb dX10_init_43 rfl ?_
  refine cr_callN (As := []) (rest := [.ref (B + (i + 44)), .int 13, .ref (B + (i + 1))]) (fun _ h => h) E hNW hml hl.1 S (k_X8_init l D cI cS B (i + 44) H_204 ob hz hL44) qw_1241 qw_252 hNW.2.2.2.2.2.2.1 qw_1242 rfl (show yX8_init.cls ≠ "java/lang/invoke/MethodHandle" ∧ yX8_init.cls ≠ "java/lang/invoke/VarHandle" ∧ (parseMethodDescriptor yX8_init.desc).map (fun d => d.parameters.length) = some 0 from by decide +kernel) ⟨Nat.le_of_ble_eq_true rfl, Nat.le_of_ble_eq_true rfl⟩ (Nat.le_of_ble_eq_true rfl) ⟨Nat.le_of_ble_eq_true rfl, Nat.le_of_ble_eq_true rfl⟩ rfl dX10_init_44 (fun H_206 locs_206 S oq hp => ?_)
  have S : CS D cI cS 10 B i (i + 2) (i + 47) (i + 47) (updV (updV (fun k => defaultValue (tyX10 k)) 0 (.ref (B + (i + 1)))) 1 (.ref (B + (i + 2)))) H H_206 locs_206 := S
  have hq : H_206[B + (i + 1)]? = some (sC cS B i 13) := (oq _ (Nat.add_lt_add_left (Nat.add_lt_add_left (by decide) _) _)).trans hq
  refine cr_aast (k := 13) (rest := []) E S hq (by decide) (by decide) (by decide) (hL44.1) (by omega) dX10_init_47 (fun H_207 locs_207 S hq => ?_)
  have S : CS D cI cS 10 B i (i + 2) (i + 47) (i + 47) (updV (updV (fun k => defaultValue (tyX10 k)) 0 (.ref (B + (i + 1)))) 1 (.ref (B + (i + 2)))) H H_207 locs_207 := S
  have hq : H_207[B + (i + 1)]? = some (sC cS B i 14) := hq
  refine lv_iinc (v := 14) (lv' := [(1, .int 14), (0, .ref (B + i))]) hx hb dX10_init_48 hl (k := 0) rfl (by decide) (by decide) rfl (fun ls hl => ?_)
  refine lv_goto (tgt := 26) hx hb dX10_init_51 (by decide) ?_
  refine lv_iload_n hx hb dX10_init_26 rfl (lv_at hl 0 rfl) ?_
  refine lv_aload_n hx hb dX10_init_27 rfl (lv_at hl 1 rfl) ?_
  refine cr_get (k := 0) (v := .ref (B + (i + 1))) E S rfl inlX10 rfl rfl (by decide) qw_115 dX10_init_28 ?_
  refine cr_qlen E hq dX10_init_31 ?_
  refine lv_icmp_ge (tgt := 54) hx hb dX10_init_32 (by decide) (fun c_ => absurd c_ (by decide)) (fun c_ => ?_)
  refine lv_aload_n hx hb dX10_init_35 rfl (lv_at hl 1 rfl) ?_
  refine cr_get (k := 0) (v := .ref (B + (i + 1))) E S rfl inlX10 rfl rfl (by decide) qw_115 dX10_init_36 ?_
  refine lv_iload_n hx hb dX10_init_39 rfl (lv_at hl 0 rfl) ?_
  refine cr_new (u := 8) (N := 10) tyX8 E S inlX8 rfl rfl tyX8_ok qw_1194 qw_1195 qw_252 (Nat.le_of_ble_eq_true rfl) (Nat.le_of_ble_eq_true rfl) dX10_init_40 (fun H_218 hz oq ob S => ?_)
  have S : CS D cI cS 10 B i (i + 2) (i + 47) (i + 48) (updV (updV (fun k => defaultValue (tyX10 k)) 0 (.ref (B + (i + 1)))) 1 (.ref (B + (i + 2)))) H H_218 locs_207 := S
  have hq : H_218[B + (i + 1)]? = some (sC cS B i 14) := (oq _ (Nat.add_lt_add_left (Nat.add_lt_add_left (by decide) _) _)).trans hq
  refine lv_dup hx hb dX10_init_43 rfl ?_
  refine cr_callN (As := []) (rest := [.ref (B + (i + 47)), .int 14, .ref (B + (i + 1))]) (fun _ h => h) E hNW hml hl.1 S (k_X8_init l D cI cS B (i + 47) H_218 ob hz hL47) qw_1241 qw_252 hNW.2.2.2.2.2.2.1 qw_1242 rfl (show yX8_init.cls ≠ "java/lang/invoke/MethodHandle" ∧ yX8_init.cls ≠ "java/lang/invoke/VarHandle" ∧ (parseMethodDescriptor yX8_init.desc).map (fun d => d.parameters.length) = some 0 from by decide +kernel) ⟨Nat.le_of_ble_eq_true rfl, Nat.le_of_ble_eq_true rfl⟩ (Nat.le_of_ble_eq_true rfl) ⟨Nat.le_of_ble_eq_true rfl, Nat.le_of_ble_eq_true rfl⟩ rfl dX10_init_44 (fun H_220 locs_220 S oq hp => ?_)
  have S : CS D cI cS 10 B i (i + 2) (i + 50) (i + 50) (updV (updV (fun k => defaultValue (tyX10 k)) 0 (.ref (B + (i + 1)))) 1 (.ref (B + (i + 2)))) H H_220 locs_220 := S
  have hq : H_220[B + (i + 1)]? = some (sC cS B i 14) := (oq _ (Nat.add_lt_add_left (Nat.add_lt_add_left (by decide) _) _)).trans hq
  refine cr_aast (k := 14) (rest := []) E S hq (by decide) (by decide) (by decide) (hL47.1) (by omega) dX10_init_47 (fun H_221 locs_221 S hq => ?_)
  have S : CS D cI cS 10 B i (i + 2) (i + 50) (i + 50) (updV (updV (fun k => defaultValue (tyX10 k)) 0 (.ref (B + (i + 1)))) 1 (.ref (B + (i + 2)))) H H_221 locs_221 := S
  have hq : H_221[B + (i + 1)]? = some (sC cS B i 15) := hq
  refine lv_iinc (v := 15) (lv' := [(1, .int 15), (0, .ref (B + i))]) hx hb dX10_init_48 hl (k := 0) rfl (by decide) (by decide) rfl (fun ls hl => ?_)
  refine lv_goto (tgt := 26) hx hb dX10_init_51 (by decide) ?_
  refine lv_iload_n hx hb dX10_init_26 rfl (lv_at hl 0 rfl) ?_
  refine lv_aload_n hx hb dX10_init_27 rfl (lv_at hl 1 rfl) ?_
  refine cr_get (k := 0) (v := .ref (B + (i + 1))) E S rfl inlX10 rfl rfl (by decide) qw_115 dX10_init_28 ?_
  refine cr_qlen E hq dX10_init_31 ?_
  refine lv_icmp_ge (tgt := 54) hx hb dX10_init_32 (by decide) (fun c_ => absurd c_ (by decide)) (fun c_ => ?_)
  refine lv_aload_n hx hb dX10_init_35 rfl (lv_at hl 1 rfl) ?_
  refine cr_get (k := 0) (v := .ref (B + (i + 1))) E S rfl inlX10 rfl rfl (by decide) qw_115 dX10_init_36 ?_
  refine lv_iload_n hx hb dX10_init_39 rfl (lv_at hl 0 rfl) ?_
  refine cr_new (u := 8) (N := 10) tyX8 E S inlX8 rfl rfl tyX8_ok qw_1194 qw_1195 qw_252 (Nat.le_of_ble_eq_true rfl) (Nat.le_of_ble_eq_true rfl) dX10_init_40 (fun H_232 hz oq ob S => ?_)
  have S : CS D cI cS 10 B i (i + 2) (i + 50) (i + 51) (updV (updV (fun k => defaultValue (tyX10 k)) 0 (.ref (B + (i + 1)))) 1 (.ref (B + (i + 2)))) H H_232 locs_221 := S
  have hq : H_232[B + (i + 1)]? = some (sC cS B i 15) := (oq _ (Nat.add_lt_add_left (Nat.add_lt_add_left (by decide) _) _)).trans hq
  refine lv_dup hx hb dX10_init_43 rfl ?_
  refine cr_callN (As := []) (rest := [.ref (B + (i + 50)), .int 15, .ref (B + (i + 1))]) (fun _ h => h) E hNW hml hl.1 S (k_X8_init l D cI cS B (i + 50) H_232 ob hz hL50) qw_1241 qw_252 hNW.2.2.2.2.2.2.1 qw_1242 rfl (show yX8_init.cls ≠ "java/lang/invoke/MethodHandle" ∧ yX8_init.cls ≠ "java/lang/invoke/VarHandle" ∧ (parseMethodDescriptor yX8_init.desc).map (fun d => d.parameters.length) = some 0 from by decide +kernel) ⟨Nat.le_of_ble_eq_true rfl, Nat.le_of_ble_eq_true rfl⟩ (Nat.le_of_ble_eq_true rfl) ⟨Nat.le_of_ble_eq_true rfl, Nat.le_of_ble_eq_true rfl⟩ rfl dX10_init_44 (fun H_234 locs_234 S oq hp => ?_)
  have S : CS D cI cS 10 B i (i + 2) (i + 53) (i + 53) (updV (updV (fun k => defaultValue (tyX10 k)) 0 (.ref (B + (i + 1)))) 1 (.ref (B + (i + 2)))) H H_234 locs_234 := S
  have hq : H_234[B + (i + 1)]? = some (sC cS B i 15) := (oq _ (Nat.add_lt_add_left (Nat.add_lt_add_left (by decide) _) _)).trans hq
  refine cr_aast (k := 15) (rest := []) E S hq (by decide) (by decide) (by decide) (hL50.1) (by omega) dX10_init_47 (fun H_235 locs_235 S hq => ?_)
  have S : CS D cI cS 10 B i (i + 2) (i + 53) (i + 53) (updV (updV (fun k => defaultValue (tyX10 k)) 0 (.ref (B + (i + 1)))) 1 (.ref (B + (i + 2)))) H H_235 locs_235 := S
  have hq : H_235[B + (i + 1)]? = some (sC cS B i 16) := hq
  refine lv_iinc (v := 16) (lv' := [(1, .int 16), (0, .ref (B + i))]) hx hb dX10_init_48 hl (k := 0) rfl (by decide) (by decide) rfl (fun ls hl => ?_)
  refine lv_goto (tgt := 26) hx hb dX10_init_51 (by decide) ?_
  refine lv_iload_n hx hb dX10_init_26 rfl (lv_at hl 0 rfl) ?_
  refine lv_aload_n hx hb dX10_init_27 rfl (lv_at hl 1 rfl) ?_
  refine cr_get (k := 0) (v := .ref (B + (i + 1))) E S rfl inlX10 rfl rfl (by decide) qw_115 dX10_init_28 ?_
  refine cr_qlen E hq dX10_init_31 ?_
  refine lv_icmp_ge (tgt := 54) hx hb dX10_init_32 (by decide) (fun c_ => absurd c_ (by decide)) (fun c_ => ?_)
  refine lv_aload_n hx hb dX10_init_35 rfl (lv_at hl 1 rfl) ?_
  refine cr_get (k := 0) (v := .ref (B + (i + 1))) E S rfl inlX10 rfl rfl (by decide) qw_115 dX10_init_36 ?_
  refine lv_iload_n hx hb dX10_init_39 rfl (lv_at hl 0 rfl) ?_
  refine cr_new (u := 8) (N := 10) tyX8 E S inlX8 rfl rfl tyX8_ok qw_1194 qw_1195 qw_252 (Nat.le_of_ble_eq_true rfl) (Nat.le_of_ble_eq_true rfl) dX10_init_40 (fun H_246 hz oq ob S => ?_)
  have S : CS D cI cS 10 B i (i + 2) (i + 53) (i + 54) (updV (updV (fun k => defaultValue (tyX10 k)) 0 (.ref (B + (i + 1)))) 1 (.ref (B + (i + 2)))) H H_246 locs_235 := S
  have hq : H_246[B + (i + 1)]? = some (sC cS B i 16) := (oq _ (Nat.add_lt_add_left (Nat.add_lt_add_left (by decide) _) _)).trans hq
  refine lv_dup hx hb dX10_init_43 rfl ?_
  refine cr_callN (As := []) (rest := [.ref (B + (i + 53)), .int 16, .ref (B + (i + 1))]) (fun _ h => h) E hNW hml hl.1 S (k_X8_init l D cI cS B (i + 53) H_246 ob hz hL53) qw_1241 qw_252 hNW.2.2.2.2.2.2.1 qw_1242 rfl (show yX8_init.cls ≠ "java/lang/invoke/MethodHandle" ∧ yX8_init.cls ≠ "java/lang/invoke/VarHandle" ∧ (parseMethodDescriptor yX8_init.desc).map (fun d => d.parameters.length) = some 0 from by decide +kernel) ⟨Nat.le_of_ble_eq_true rfl, Nat.le_of_ble_eq_true rfl⟩ (Nat.le_of_ble_eq_true rfl) ⟨Nat.le_of_ble_eq_true rfl, Nat.le_of_ble_eq_true rfl⟩ rfl dX10_init_44 (fun H_248 locs_248 S oq hp => ?_)
  have S : CS D cI cS 10 B i (i + 2) (i + 56) (i + 56) (updV (updV (fun k => defaultValue (tyX10 k)) 0 (.ref (B + (i + 1)))) 1 (.ref (B + (i + 2)))) H H_248 locs_248 := S
  have hq : H_248[B + (i + 1)]? = some (sC cS B i 16) := (oq _ (Nat.add_lt_add_left (Nat.add_lt_add_left (by decide) _) _)).trans hq
  refine cr_aast (k := 16) (rest := []) E S hq (by decide) (by decide) (by decide) (hL53.1) (by omega) dX10_init_47 (fun H_249 locs_249 S hq => ?_)
  have S : CS D cI cS 10 B i (i + 2) (i + 56) (i + 56) (updV (updV (fun k => defaultValue (tyX10 k)) 0 (.ref (B + (i + 1)))) 1 (.ref (B + (i + 2)))) H H_249 locs_249 := S
  have hq : H_249[B + (i + 1)]? = some (sC cS B i 17) := hq
  refine lv_iinc (v := 17) (lv' := [(1, .int 17), (0, .ref (B + i))]) hx hb dX10_init_48 hl (k := 0) rfl (by decide) (by decide) rfl (fun ls hl => ?_)
  refine lv_goto (tgt := 26) hx hb dX10_init_51 (by decide) ?_
  refine lv_iload_n hx hb dX10_init_26 rfl (lv_at hl 0 rfl) ?_
  refine lv_aload_n hx hb dX10_init_27 rfl (lv_at hl 1 rfl) ?_
  refine cr_get (k := 0) (v := .ref (B + (i + 1))) E S rfl inlX10 rfl rfl (by decide) qw_115 dX10_init_28 ?_
  refine cr_qlen E hq dX10_init_31 ?_
  refine lv_icmp_ge (tgt := 54) hx hb dX10_init_32 (by decide) (fun c_ => absurd c_ (by decide)) (fun c_ => ?_)
  refine lv_aload_n hx hb dX10_init_35 rfl (lv_at hl 1 rfl) ?_
  refine cr_get (k := 0) (v := .ref (B + (i + 1))) E S rfl inlX10 rfl rfl (by decide) qw_115 dX10_init_36 ?_
  refine lv_iload_n hx hb dX10_init_39 rfl (lv_at hl 0 rfl) ?_
  refine cr_new (u := 8) (N := 10) tyX8 E S inlX8 rfl rfl tyX8_ok qw_1194 qw_1195 qw_252 (Nat.le_of_ble_eq_true rfl) (Nat.le_of_ble_eq_true rfl) dX10_init_40 (fun H_260 hz oq ob S => ?_)
  have S : CS D cI cS 10 B i (i + 2) (i + 56) (i + 57) (updV (updV (fun k => defaultValue (tyX10 k)) 0 (.ref (B + (i + 1)))) 1 (.ref (B + (i + 2)))) H H_260 locs_249 := S
  have hq : H_260[B + (i + 1)]? = some (sC cS B i 17) := (oq _ (Nat.add_lt_add_left (Nat.add_lt_add_left (by decide) _) _)).trans hq
  refine lv_dup hx hb dX10_init_43 rfl ?_
  refine cr_callN (As := []) (rest := [.ref (B + (i + 56)), .int 17, .ref (B + (i + 1))]) (fun _ h => h) E hNW hml hl.1 S (k_X8_init l D cI cS B (i + 56) H_260 ob hz hL56) qw_1241 qw_252 hNW.2.2.2.2.2.2.1 qw_1242 rfl (show yX8_init.cls ≠ "java/lang/invoke/MethodHandle" ∧ yX8_init.cls ≠ "java/lang/invoke/VarHandle" ∧ (parseMethodDescriptor yX8_init.desc).map (fun d => d.parameters.length) = some 0 from by decide +kernel) ⟨Nat.le_of_ble_eq_true rfl, Nat.le_of_ble_eq_true rfl⟩ (Nat.le_of_ble_eq_true rfl) ⟨Nat.le_of_ble_eq_true rfl, Nat.le_of_ble_eq_true rfl⟩ rfl dX10_init_44 (fun H_262 locs_262 S oq hp => ?_)
  have S : CS D cI cS 10 B i (i + 2) (i + 59) (i + 59) (updV (updV (fun k => defaultValue (tyX10 k)) 0 (.ref (B + (i + 1)))) 1 (.ref (B + (i + 2)))) H H_262 locs_262 := S
  have hq : H_262[B + (i + 1)]? = some (sC cS B i 17) := (oq _ (Nat.add_lt_add_left (Nat.add_lt_add_left (by decide) _) _)).trans hq
  refine cr_aast (k := 17) (rest := []) E S hq (by decide) (by decide) (by decide) (hL56.1) (by omega) dX10_init_47 (fun H_263 locs_263 S hq => ?_)
  have S : CS D cI cS 10 B i (i + 2) (i + 59) (i + 59) (updV (updV (fun k => defaultValue (tyX10 k)) 0 (.ref (B + (i + 1)))) 1 (.ref (B + (i + 2)))) H H_263 locs_263 := S
  have hq : H_263[B + (i + 1)]? = some (sC cS B i 18) := hq
  refine lv_iinc (v := 18) (lv' := [(1, .int 18), (0, .ref (B + i))]) hx hb dX10_init_48 hl (k := 0) rfl (by decide) (by decide) rfl (fun ls hl => ?_)
  refine lv_goto (tgt := 26) hx hb dX10_init_51 (by decide) ?_
  refine lv_iload_n hx hb dX10_init_26 rfl (lv_at hl 0 rfl) ?_
  refine lv_aload_n hx hb dX10_init_27 rfl (lv_at hl 1 rfl) ?_
  refine cr_get (k := 0) (v := .ref (B + (i + 1))) E S rfl inlX10 rfl rfl (by decide) qw_115 dX10_init_28 ?_
  refine cr_qlen E hq dX10_init_31 ?_
  refine lv_icmp_ge (tgt := 54) hx hb dX10_init_32 (by decide) (fun c_ => absurd c_ (by decide)) (fun c_ => ?_)
  refine lv_aload_n hx hb dX10_init_35 rfl (lv_at hl 1 rfl) ?_
  refine cr_get (k := 0) (v := .ref (B + (i + 1))) E S rfl inlX10 rfl rfl (by decide) qw_115 dX10_init_36 ?_
  refine lv_iload_n hx hb dX10_init_39 rfl (lv_at hl 0 rfl) ?_
  refine cr_new (u := 8) (N := 10) tyX8 E S inlX8 rfl rfl tyX8_ok qw_1194 qw_1195 qw_252 (Nat.le_of_ble_eq_true rfl) (Nat.le_of_ble_eq_true rfl) dX10_init_40 (fun H_274 hz oq ob S => ?_)
  have S : CS D cI cS 10 B i (i + 2) (i + 59) (i + 60) (updV (updV (fun k => defaultValue (tyX10 k)) 0 (.ref (B + (i + 1)))) 1 (.ref (B + (i + 2)))) H H_274 locs_263 := S
  have hq : H_274[B + (i + 1)]? = some (sC cS B i 18) := (oq _ (Nat.add_lt_add_left (Nat.add_lt_add_left (by decide) _) _)).trans hq
  refine lv_dup hx hb dX10_init_43 rfl ?_
  refine cr_callN (As := []) (rest := [.ref (B + (i + 59)), .int 18, .ref (B + (i + 1))]) (fun _ h => h) E hNW hml hl.1 S (k_X8_init l D cI cS B (i + 59) H_274 ob hz hL59) qw_1241 qw_252 hNW.2.2.2.2.2.2.1 qw_1242 rfl (show yX8_init.cls ≠ "java/lang/invoke/MethodHandle" ∧ yX8_init.cls ≠ "java/lang/invoke/VarHandle" ∧ (parseMethodDescriptor yX8_init.desc).map (fun d => d.parameters.length) = some 0 from by decide +kernel) ⟨Nat.le_of_ble_eq_true rfl, Nat.le_of_ble_eq_true rfl⟩ (Nat.le_of_ble_eq_true rfl) ⟨Nat.le_of_ble_eq_true rfl, Nat.le_of_ble_eq_true rfl⟩ rfl dX10_init_44 (fun H_276 locs_276 S oq hp => ?_)
  have S : CS D cI cS 10 B i (i + 2) (i + 62) (i + 62) (updV (updV (fun k => defaultValue (tyX10 k)) 0 (.ref (B + (i + 1)))) 1 (.ref (B + (i + 2)))) H H_276 locs_276 := S
  have hq : H_276[B + (i + 1)]? = some (sC cS B i 18) := (oq _ (Nat.add_lt_add_left (Nat.add_lt_add_left (by decide) _) _)).trans hq
  refine cr_aast (k := 18) (rest := []) E S hq (by decide) (by decide) (by decide) (hL59.1) (by omega) dX10_init_47 (fun H_277 locs_277 S hq => ?_)
  have S : CS D cI cS 10 B i (i + 2) (i + 62) (i + 62) (updV (updV (fun k => defaultValue (tyX10 k)) 0 (.ref (B + (i + 1)))) 1 (.ref (B + (i + 2)))) H H_277 locs_277 := S
  have hq : H_277[B + (i + 1)]? = some (sC cS B i 19) := hq
  refine lv_iinc (v := 19) (lv' := [(1, .int 19), (0, .ref (B + i))]) hx hb dX10_init_48 hl (k := 0) rfl (by decide) (by decide) rfl (fun ls hl => ?_)
  refine lv_goto (tgt := 26) hx hb dX10_init_51 (by decide) ?_
  refine lv_iload_n hx hb dX10_init_26 rfl (lv_at hl 0 rfl) ?_
  refine lv_aload_n hx hb dX10_init_27 rfl (lv_at hl 1 rfl) ?_
  refine cr_get (k := 0) (v := .ref (B + (i + 1))) E S rfl inlX10 rfl rfl (by decide) qw_115 dX10_init_28 ?_
  refine cr_qlen E hq dX10_init_31 ?_
  refine lv_icmp_ge (tgt := 54) hx hb dX10_init_32 (by decide) (fun c_ => absurd c_ (by decide)) (fun c_ => ?_)
  refine lv_aload_n hx hb dX10_init_35 rfl (lv_at hl 1 rfl) ?_
  refine cr_get (k := 0) (v := .ref (B + (i + 1))) E S rfl inlX10 rfl rfl (by decide) qw_115 dX10_init_36 ?_
  refine lv_iload_n hx hb dX10_init_39 rfl (lv_at hl 0 rfl) ?_
  refine cr_new (u := 8) (N := 10) tyX8 E S inlX8 rfl rfl tyX8_ok qw_1194 qw_1195 qw_252 (Nat.le_of_ble_eq_true rfl) (Nat.le_of_ble_eq_true rfl) dX10_init_40 (fun H_288 hz oq ob S => ?_)
  have S : CS D cI cS 10 B i (i + 2) (i + 62) (i + 63) (updV (updV (fun k => defaultValue (tyX10 k)) 0 (.ref (B + (i + 1)))) 1 (.ref (B + (i + 2)))) H H_288 locs_277 := S
  have hq : H_288[B + (i + 1)]? = some (sC cS B i 19) := (oq _ (Nat.add_lt_add_left (Nat.add_lt_add_left (by decide) _) _)).trans hq
  refine lv_dup hx hb dX10_init_43 rfl ?_
  refine cr_callN (As := []) (rest := [.ref (B + (i + 62)), .int 19, .ref (B + (i + 1))]) (fun _ h => h) E hNW hml hl.1 S (k_X8_init l D cI cS B (i + 62) H_288 ob hz hL62) qw_1241 qw_252 hNW.2.2.2.2.2.2.1 qw_1242 rfl (show yX8_init.cls ≠ "java/lang/invoke/MethodHandle" ∧ yX8_init.cls ≠ "java/lang/invoke/VarHandle" ∧ (parseMethodDescriptor yX8_init.desc).map (fun d => d.parameters.length) = some 0 from by decide +kernel) ⟨Nat.le_of_ble_eq_true rfl, Nat.le_of_ble_eq_true rfl⟩ (Nat.le_of_ble_eq_true rfl) ⟨Nat.le_of_ble_eq_true rfl, Nat.le_of_ble_eq_true rfl⟩ rfl dX10_init_44 (fun H_290 locs_290 S oq hp => ?_)
  have S : CS D cI cS 10 B i (i + 2) (i + 65) (i + 65) (updV (updV (fun k => defaultValue (tyX10 k)) 0 (.ref (B + (i + 1)))) 1 (.ref (B + (i + 2)))) H H_290 locs_290 := S
  have hq : H_290[B + (i + 1)]? = some (sC cS B i 19) := (oq _ (Nat.add_lt_add_left (Nat.add_lt_add_left (by decide) _) _)).trans hq
  refine cr_aast (k := 19) (rest := []) E S hq (by decide) (by decide) (by decide) (hL62.1) (by omega) dX10_init_47 (fun H_291 locs_291 S hq => ?_)
  have S : CS D cI cS 10 B i (i + 2) (i + 65) (i + 65) (updV (updV (fun k => defaultValue (tyX10 k)) 0 (.ref (B + (i + 1)))) 1 (.ref (B + (i + 2)))) H H_291 locs_291 := S
  have hq : H_291[B + (i + 1)]? = some (sC cS B i 20) := hq
  refine lv_iinc (v := 20) (lv' := [(1, .int 20), (0, .ref (B + i))]) hx hb dX10_init_48 hl (k := 0) rfl (by decide) (by decide) rfl (fun ls hl => ?_)
  refine lv_goto (tgt := 26) hx hb dX10_init_51 (by decide) ?_
  refine lv_iload_n hx hb dX10_init_26 rfl (lv_at hl 0 rfl) ?_
  refine lv_aload_n hx hb dX10_init_27 rfl (lv_at hl 1 rfl) ?_
  refine cr_get (k := 0) (v := .ref (B + (i + 1))) E S rfl inlX10 rfl rfl (by decide) qw_115 dX10_init_28 ?_
  refine cr_qlen E hq dX10_init_31 ?_
  refine lv_icmp_ge (tgt := 54) hx hb dX10_init_32 (by decide) (fun c_ => absurd c_ (by decide)) (fun c_ => ?_)
  refine lv_aload_n hx hb dX10_init_35 rfl (lv_at hl 1 rfl) ?_
  refine cr_get (k := 0) (v := .ref (B + (i + 1))) E S rfl inlX10 rfl rfl (by decide) qw_115 dX10_init_36 ?_
  refine lv_iload_n hx hb dX10_init_39 rfl (lv_at hl 0 rfl) ?_
  refine cr_new (u := 8) (N := 10) tyX8 E S inlX8 rfl rfl tyX8_ok qw_1194 qw_1195 qw_252 (Nat.le_of_ble_eq_true rfl) (Nat.le_of_ble_eq_true rfl) dX10_init_40 (fun H_302 hz oq ob S => ?_)
  have S : CS D cI cS 10 B i (i + 2) (i + 65) (i + 66) (updV (updV (fun k => defaultValue (tyX10 k)) 0 (.ref (B + (i + 1)))) 1 (.ref (B + (i + 2)))) H H_302 locs_291 := S
  have hq : H_302[B + (i + 1)]? = some (sC cS B i 20) := (oq _ (Nat.add_lt_add_left (Nat.add_lt_add_left (by decide) _) _)).trans hq
  refine lv_dup hx hb dX10_init_43 rfl ?_
  refine cr_callN (As := []) (rest := [.ref (B + (i + 65)), .int 20, .ref (B + (i + 1))]) (fun _ h => h) E hNW hml hl.1 S (k_X8_init l D cI cS B (i + 65) H_302 ob hz hL65) qw_1241 qw_252 hNW.2.2.2.2.2.2.1 qw_1242 rfl (show yX8_init.cls ≠ "java/lang/invoke/MethodHandle" ∧ yX8_init.cls ≠ "java/lang/invoke/VarHandle" ∧ (parseMethodDescriptor yX8_init.desc).map (fun d => d.parameters.length) = some 0 from by decide +kernel) ⟨Nat.le_of_ble_eq_true rfl, Nat.le_of_ble_eq_true rfl⟩ (Nat.le_of_ble_eq_true rfl) ⟨Nat.le_of_ble_eq_true rfl, Nat.le_of_ble_eq_true rfl⟩ rfl dX10_init_44 (fun H_304 locs_304 S oq hp => ?_)
  have S : CS D cI cS 10 B i (i + 2) (i + 68) (i + 68) (updV (updV (fun k => defaultValue (tyX10 k)) 0 (.ref (B + (i + 1)))) 1 (.ref (B + (i + 2)))) H H_304 locs_304 := S
  have hq : H_304[B + (i + 1)]? = some (sC cS B i 20) := (oq _ (Nat.add_lt_add_left (Nat.add_lt_add_left (by decide) _) _)).trans hq
  refine cr_aast (k := 20) (rest := []) E S hq (by decide) (by decide) (by decide) (hL65.1) (by omega) dX10_init_47 (fun H_305 locs_305 S hq => ?_)
  have S : CS D cI cS 10 B i (i + 2) (i + 68) (i + 68) (updV (updV (fun k => defaultValue (tyX10 k)) 0 (.ref (B + (i + 1)))) 1 (.ref (B + (i + 2)))) H H_305 locs_305 := S
  have hq : H_305[B + (i + 1)]? = some (sC cS B i 21) := hq
  refine lv_iinc (v := 21) (lv' := [(1, .int 21), (0, .ref (B + i))]) hx hb dX10_init_48 hl (k := 0) rfl (by decide) (by decide) rfl (fun ls hl => ?_)
  refine lv_goto (tgt := 26) hx hb dX10_init_51 (by decide) ?_
  refine lv_iload_n hx hb dX10_init_26 rfl (lv_at hl 0 rfl) ?_
  refine lv_aload_n hx hb dX10_init_27 rfl (lv_at hl 1 rfl) ?_
  refine cr_get (k := 0) (v := .ref (B + (i + 1))) E S rfl inlX10 rfl rfl (by decide) qw_115 dX10_init_28 ?_
  refine cr_qlen E hq dX10_init_31 ?_
  refine lv_icmp_ge (tgt := 54) hx hb dX10_init_32 (by decide) (fun c_ => ?_) (fun c_ => absurd (by decide) c_)
  have hT8 : tq B 0 178 (B + (i + 2)) = some 8 := (tq_at (Nat.zero_le _) (Nat.lt_of_lt_of_le (Nat.add_lt_add_left (by decide) _) hbd)).trans hL2.1
  have hok : ∀ k, k < nF 10 → okV (tq B 0 178) (B + RB i k) (fT 10 k) ((updV (updV (fun k => defaultValue (tyX10 k)) 0 (.ref (B + (i + 1)))) 1 (.ref (B + (i + 2)))) k) := by
    intro k hk
    have hk : k < 6 := hk
    rcases (show k = 0 ∨ k = 1 ∨ k = 2 ∨ k = 3 ∨ k = 4 ∨ k = 5 by omega) with rfl | rfl | rfl | rfl | rfl | rfl
    · exact Or.inr (Or.inr (Or.inr (Or.inl ⟨by decide, by decide, by rw [hr0]; rfl⟩)))
    · exact Or.inr (Or.inr (Or.inr (Or.inr ⟨by decide, B + (i + 2), rfl, hT8⟩)))
    · exact Or.inl ⟨rfl, _, rfl⟩
    · exact Or.inl ⟨rfl, _, rfl⟩
    · exact Or.inl ⟨rfl, _, rfl⟩
    · exact Or.inl ⟨rfl, _, rfl⟩
  have h8 : ∀ j, j < 21 → TB (i + 5 + 3 * j) = some 8 := by
    intro j hj
    rcases (show j = 0 ∨ j = 1 ∨ j = 2 ∨ j = 3 ∨ j = 4 ∨ j = 5 ∨ j = 6 ∨ j = 7 ∨ j = 8 ∨ j = 9 ∨ j = 10 ∨ j = 11 ∨ j = 12 ∨ j = 13 ∨ j = 14 ∨ j = 15 ∨ j = 16 ∨ j = 17 ∨ j = 18 ∨ j = 19 ∨ j = 20 by omega) with rfl | rfl | rfl | rfl | rfl | rfl | rfl | rfl | rfl | rfl | rfl | rfl | rfl | rfl | rfl | rfl | rfl | rfl | rfl | rfl | rfl
    · exact hL5.1
    · exact hL8.1
    · exact hL11.1
    · exact hL14.1
    · exact hL17.1
    · exact hL20.1
    · exact hL23.1
    · exact hL26.1
    · exact hL29.1
    · exact hL32.1
    · exact hL35.1
    · exact hL38.1
    · exact hL41.1
    · exact hL44.1
    · exact hL47.1
    · exact hL50.1
    · exact hL53.1
    · exact hL56.1
    · exact hL59.1
    · exact hL62.1
    · exact hL65.1
  exact cr_retq (n := (i + 68)) (fun h => h) E hr hlk hs hsz S hq (fun w hw => (Option.some.inj (ht0.symm.trans hw)).symm) (fun w hw => (Option.some.inj (ht1.symm.trans hw)).symm) h8 hbd (by decide) hok dX10_init_54
abbrev LX4 (i : Nat) : Prop := TB i = some 4 ∧ LX1 (i + 1) ∧ LX10 (i + 2) ∧ LX0 (i + 70) ∧ LX2 (i + 71) (i + 1) (i + 2) (i + 70) ∧ LX2 (i + 78) (i + 1) (i + 2) (i + 70) ∧ LX6 (i + 85) (i + 71) ∧ LX6 (i + 86) (i + 78) ∧ RB i 0 = (i + 1) ∧ RB i 1 = (i + 2) ∧ RB i 2 = (i + 70) ∧ RB i 3 = (i + 71) ∧ RB i 4 = (i + 78) ∧ RB i 5 = (i + 85) ∧ RB i 6 = (i + 86)
set_option maxHeartbeats 40000000 in
set_option maxRecDepth 100000 in
/-- the constructor of StreamEnds$Network -/
theorem k_X4_init (l : Launch) (D : va_G) (cI cS : ClassId) (B i : Nat) (H : Heap) (hob : t_OB (B + i) (D.1 4) (nF 4) (D.2 4) H (fun k => defaultValue (tyX4 k))) (hsz : H.size = B + (i + 1)) (hL : LX4 i) : MC l D cI cS B i yX4_init cX4_init 1 3 56 86 855 H [.ref (B + i)] (PF D cI cS B i (i + 87)) := by
  obtain ⟨ht0, hL1, hL2, hL70, hL71, hL78, hL85, hL86, hr0, hr1, hr2, hr3, hr4, hr5, hr6⟩ := hL
  refine MC.of (by decide) rfl (Nat.le_of_ble_eq_true rfl) ?_
  intro p e s m args below meth c E hNW hin hml hr hlk hs ls hl
  have hx := E.1
  have hb := E.2.1
  have hown := E.2.2.1
  have hts := E.2.2.2.1
  have hl : lv_has ls 1 [(0, .ref (B + i))] := hl
  have S : CS D cI cS 4 B i (i + 1) (i + 1) (i + 1) (fun k => defaultValue (tyX4 k)) H H [] := CS.start hob hsz
  refine lv_aload_n hx hb dX4_init_0 rfl (lv_at hl 0 rfl) ?_
  refine W.objInit hx hb hown (hts _ qw_1243) (hts _ qw_1224) (hts _ qw_1225) rfl (by rw [hml]; exact hl.1) rfl dX4_init_1 (Nat.le_of_ble_eq_true rfl) (Nat.le_of_ble_eq_true rfl) ?_
  refine W.eq (g2 := F0 m 4 ls []) rfl ?_
  refine lv_aload_n hx hb dX4_init_4 rfl (lv_at hl 0 rfl) ?_
  refine cr_new (u := 1) (N := 5) tyX1 E S inlX1 rfl rfl tyX1_ok qw_1182 qw_1183 qw_172 (Nat.le_of_ble_eq_true rfl) (Nat.le_of_ble_eq_true rfl) dX4_init_5 (fun H_4 hz oq ob S => ?_)
  have S : CS D cI cS 4 B i (i + 1) (i + 1) (i + 2) (fun k => defaultValue (tyX4 k)) H H_4 [] := S
  refine lv_dup hx hb dX4_init_8 rfl ?_
  refine cr_call (As := []) (rest := [.ref (B + (i + 1)), .ref (B + i)]) (fun _ h => h.1) E hNW hml hl.1 S (k_X1_init l D cI cS B (i + 1) H_4 ob hz hL1) qw_1244 qw_172 qw_1245 qw_1246 rfl (show yX1_init.cls ≠ "java/lang/invoke/MethodHandle" ∧ yX1_init.cls ≠ "java/lang/invoke/VarHandle" ∧ (parseMethodDescriptor yX1_init.desc).map (fun d => d.parameters.length) = some 0 from by decide +kernel) ⟨Nat.le_of_ble_eq_true rfl, Nat.le_of_ble_eq_true rfl⟩ (Nat.le_of_ble_eq_true rfl) ⟨Nat.le_of_ble_eq_true rfl, Nat.le_of_ble_eq_true rfl⟩ rfl dX4_init_9 (fun H_6 locs_6 S oq hp => ?_)
  have S : CS D cI cS 4 B i (i + 1) (i + 2) (i + 2) (fun k => defaultValue (tyX4 k)) H H_6 locs_6 := S
  refine cr_putF (k := 0) (ty := .object "StreamEnds$Config") E S inlX4 rfl rfl (by decide) (th_apart E inlX4 rfl tyX4 tyX4_ok nmX4) qw_46 rfl hin rfl (tyX4_ok 0 (by decide)) rfl rfl dX4_init_12 (fun H_7 locs_7 S oq => ?_)
  have S : CS D cI cS 4 B i (i + 1) (i + 2) (i + 2) (updV (fun k => defaultValue (tyX4 k)) 0 (.ref (B + (i + 1)))) H H_7 locs_7 := S
  refine lv_aload_n hx hb dX4_init_15 rfl (lv_at hl 0 rfl) ?_
  refine cr_new (u := 10) (N := 6) tyX10 E S inlX10 rfl rfl tyX10_ok qw_1184 qw_1185 qw_246 (Nat.le_of_ble_eq_true rfl) (Nat.le_of_ble_eq_true rfl) dX4_init_16 (fun H_9 hz oq ob S => ?_)
  have S : CS D cI cS 4 B i (i + 1) (i + 2) (i + 3) (updV (fun k => defaultValue (tyX4 k)) 0 (.ref (B + (i + 1)))) H H_9 locs_7 := S
  refine lv_dup hx hb dX4_init_19 rfl ?_
  refine cr_call (As := []) (rest := [.ref (B + (i + 2)), .ref (B + i)]) (fun _ h => h) E hNW hml hl.1 S (k_X10_init l D cI cS B (i + 2) H_9 ob hz hL2) qw_1247 qw_246 qw_1248 qw_1249 rfl (show yX10_init.cls ≠ "java/lang/invoke/MethodHandle" ∧ yX10_init.cls ≠ "java/lang/invoke/VarHandle" ∧ (parseMethodDescriptor yX10_init.desc).map (fun d => d.parameters.length) = some 0 from by decide +kernel) ⟨Nat.le_of_ble_eq_true rfl, Nat.le_of_ble_eq_true rfl⟩ (Nat.le_of_ble_eq_true rfl) ⟨Nat.le_of_ble_eq_true rfl, Nat.le_of_ble_eq_true rfl⟩ rfl dX4_init_20 (fun H_11 locs_11 S oq hp => ?_)
  have S : CS D cI cS 4 B i (i + 1) (i + 70) (i + 70) (updV (fun k => defaultValue (tyX4 k)) 0 (.ref (B + (i + 1)))) H H_11 locs_11 := S
  refine cr_putF (k := 1) (ty := .object "StreamEnds$Wire") E S inlX4 rfl rfl (by decide) (th_apart E inlX4 rfl tyX4 tyX4_ok nmX4) qw_47 rfl hin rfl (tyX4_ok 1 (by decide)) rfl rfl dX4_init_23 (fun H_12 locs_12 S oq => ?_)
  have S : CS D cI cS 4 B i (i + 1) (i + 70) (i + 70) (updV (updV (fun k => defaultValue (tyX4 k)) 0 (.ref (B + (i + 1)))) 1 (.ref (B + (i + 2)))) H H_12 locs_12 := S
  refine lv_aload_n hx hb dX4_init_26 rfl (lv_at hl 0 rfl) ?_
  refine cr_new (u := 0) (N := 1) tyX0 E S inlX0 rfl rfl tyX0_ok qw_1186 qw_1187 qw_1188 (Nat.le_of_ble_eq_true rfl) (Nat.le_of_ble_eq_true rfl) dX4_init_27 (fun H_14 hz oq ob S => ?_)
  have S : CS D cI cS 4 B i (i + 1) (i + 70) (i + 71) (updV (updV (fun k => defaultValue (tyX4 k)) 0 (.ref (B + (i + 1)))) 1 (.ref (B + (i + 2)))) H H_14 locs_12 := S
  refine lv_dup hx hb dX4_init_30 rfl ?_
  refine cr_callN (As := []) (rest := [.ref (B + (i + 70)), .ref (B + i)]) (fun _ h => h) E hNW hml hl.1 S (k_X0_init l D cI cS B (i + 70) H_14 ob hz hL70) qw_1250 qw_1188 hNW.2.2.2.2.2.1 qw_1251 rfl (show yX0_init.cls ≠ "java/lang/invoke/MethodHandle" ∧ yX0_init.cls ≠ "java/lang/invoke/VarHandle" ∧ (parseMethodDescriptor yX0_init.desc).map (fun d => d.parameters.length) = some 0 from by decide +kernel) ⟨Nat.le_of_ble_eq_true rfl, Nat.le_of_ble_eq_true rfl⟩ (Nat.le_of_ble_eq_true rfl) ⟨Nat.le_of_ble_eq_true rfl, Nat.le_of_ble_eq_true rfl⟩ rfl dX4_init_31 (fun H_16 locs_16 S oq hp => ?_)
  have S : CS D cI cS 4 B i (i + 1) (i + 71) (i + 71) (updV (updV (fun k => defaultValue (tyX4 k)) 0 (.ref (B + (i + 1)))) 1 (.ref (B + (i + 2)))) H H_16 locs_16 := S
  refine cr_putF (k := 2) (ty := .object "StreamEnds$Clock") E S inlX4 rfl rfl (by decide) (th_apart E inlX4 rfl tyX4 tyX4_ok nmX4) qw_48 rfl hin rfl (tyX4_ok 2 (by decide)) rfl rfl dX4_init_34 (fun H_17 locs_17 S oq => ?_)
  have S : CS D cI cS 4 B i (i + 1) (i + 71) (i + 71) (updV (updV (updV (fun k => defaultValue (tyX4 k)) 0 (.ref (B + (i + 1)))) 1 (.ref (B + (i + 2)))) 2 (.ref (B + (i + 70)))) H H_17 locs_17 := S
  refine lv_aload_n hx hb dX4_init_37 rfl (lv_at hl 0 rfl) ?_
  refine cr_new (u := 2) (N := 10) tyX2 E S inlX2 rfl rfl tyX2_ok qw_1189 qw_1190 qw_202 (Nat.le_of_ble_eq_true rfl) (Nat.le_of_ble_eq_true rfl) dX4_init_38 (fun H_19 hz oq ob S => ?_)
  have S : CS D cI cS 4 B i (i + 1) (i + 71) (i + 72) (updV (updV (updV (fun k => defaultValue (tyX4 k)) 0 (.ref (B + (i + 1)))) 1 (.ref (B + (i + 2)))) 2 (.ref (B + (i + 70)))) H H_19 locs_17 := S
  refine lv_dup hx hb dX4_init_41 rfl ?_
  refine lv_iconst (v := 0) hx hb dX4_init_42 (by decide) ?_
  refine lv_aload_n hx hb dX4_init_43 rfl (lv_at hl 0 rfl) ?_
  refine cr_get (k := 0) (v := .ref (B + (i + 1))) E S rfl inlX4 rfl rfl (by decide) qw_46 dX4_init_44 ?_
  refine lv_aload_n hx hb dX4_init_47 rfl (lv_at hl 0 rfl) ?_
  refine cr_get (k := 1) (v := .ref (B + (i + 2))) E S rfl inlX4 rfl rfl (by decide) qw_47 dX4_init_48 ?_
  refine lv_aload_n hx hb dX4_init_51 rfl (lv_at hl 0 rfl) ?_
  refine cr_get (k := 2) (v := .ref (B + (i + 70))) E S rfl inlX4 rfl rfl (by decide) qw_48 dX4_init_52 ?_
  refine cr_call (As := [.int 0, .ref (B + (i + 1)), .ref (B + (i + 2)), .ref (B + (i + 70))]) (rest := [.ref (B + (i + 71)), .ref (B + i)]) (fun _ h => h) E hNW hml hl.1 S (k_X2_init l D cI cS B (i + 71) 0 (i + 1) (i + 2) (i + 70) H_19 ob hz hL71) qw_1252 qw_202 qw_1253 qw_1254 rfl (show yX2_init.cls ≠ "java/lang/invoke/MethodHandle" ∧ yX2_init.cls ≠ "java/lang/invoke/VarHandle" ∧ (parseMethodDescriptor yX2_init.desc).map (fun d => d.parameters.length) = some 4 from by decide +kernel) ⟨Nat.le_of_ble_eq_true rfl, Nat.le_of_ble_eq_true rfl⟩ (Nat.le_of_ble_eq_true rfl) ⟨Nat.le_of_ble_eq_true rfl, Nat.le_of_ble_eq_true rfl⟩ rfl dX4_init_55 (fun H_28 locs_28 S oq hp => ?_)
  have S : CS D cI cS 4 B i (i + 1) (i + 78) (i + 78) (updV (updV (updV (fun k => defaultValue (tyX4 k)) 0 (.ref (B + (i + 1)))) 1 (.ref (B + (i + 2)))) 2 (.ref (B + (i + 70)))) H H_28 locs_28 := S
  refine cr_putF (k := 3) (ty := .object "StreamEnds$Endpoint") E S inlX4 rfl rfl (by decide) (th_apart E inlX4 rfl tyX4 tyX4_ok nmX4) qw_49 rfl hin rfl (tyX4_ok 3 (by decide)) rfl rfl dX4_init_58 (fun H_29 locs_29 S oq => ?_)
  have S : CS D cI cS 4 B i (i + 1) (i + 78) (i + 78) (updV (updV (updV (updV (fun k => defaultValue (tyX4 k)) 0 (.ref (B + (i + 1)))) 1 (.ref (B + (i + 2)))) 2 (.ref (B + (i + 70)))) 3 (.ref (B + (i + 71)))) H H_29 locs_29 := S
  refine lv_aload_n hx hb dX4_init_61 rfl (lv_at hl 0 rfl) ?_
  refine cr_new (u := 2) (N := 10) tyX2 E S inlX2 rfl rfl tyX2_ok qw_1189 qw_1190 qw_202 (Nat.le_of_ble_eq_true rfl) (Nat.le_of_ble_eq_true rfl) dX4_init_62 (fun H_31 hz oq ob S => ?_)
  have S : CS D cI cS 4 B i (i + 1) (i + 78) (i + 79) (updV (updV (updV (updV (fun k => defaultValue (tyX4 k)) 0 (.ref (B + (i + 1)))) 1 (.ref (B + (i + 2)))) 2 (.ref (B + (i + 70)))) 3 (.ref (B + (i + 71)))) H H_31 locs_29 := S
  refine lv_dup hx hb dX4_init_65 rfl ?_
  refine lv_iconst (v := 1) hx hb dX4_init_66 (by decide) ?_
  refine lv_aload_n hx hb dX4_init_67 rfl (lv_at hl 0 rfl) ?_
  refine cr_get (k := 0) (v := .ref (B + (i + 1))) E S rfl inlX4 rfl rfl (by decide) qw_46 dX4_init_68 ?_
  refine lv_aload_n hx hb dX4_init_71 rfl (lv_at hl 0 rfl) ?_
  refine cr_get (k := 1) (v := .ref (B + (i + 2))) E S rfl inlX4 rfl rfl (by decide) qw_47 dX4_init_72 ?_
  refine lv_aload_n hx hb dX4_init_75 rfl (lv_at hl 0 rfl) ?_
  refine cr_get (k := 2) (v := .ref (B + (i + 70))) E S rfl inlX4 rfl rfl (by decide) qw_48 dX4_init_76 ?_
  refine cr_call (As := [.int 1, .ref (B + (i + 1)), .ref (B + (i + 2)), .ref (B + (i + 70))]) (rest := [.ref (B + (i + 78)), .ref (B + i)]) (fun _ h => h) E hNW hml hl.1 S (k_X2_init l D cI cS B (i + 78) 1 (i + 1) (i + 2) (i + 70) H_31 ob hz hL78) qw_1252 qw_202 qw_1253 qw_1254 rfl (show yX2_init.cls ≠ "java/lang/invoke/MethodHandle" ∧ yX2_init.cls ≠ "java/lang/invoke/VarHandle" ∧ (parseMethodDescriptor yX2_init.desc).map (fun d => d.parameters.length) = some 4 from by decide +kernel) ⟨Nat.le_of_ble_eq_true rfl, Nat.le_of_ble_eq_true rfl⟩ (Nat.le_of_ble_eq_true rfl) ⟨Nat.le_of_ble_eq_true rfl, Nat.le_of_ble_eq_true rfl⟩ rfl dX4_init_79 (fun H_40 locs_40 S oq hp => ?_)
  have S : CS D cI cS 4 B i (i + 1) (i + 85) (i + 85) (updV (updV (updV (updV (fun k => defaultValue (tyX4 k)) 0 (.ref (B + (i + 1)))) 1 (.ref (B + (i + 2)))) 2 (.ref (B + (i + 70)))) 3 (.ref (B + (i + 71)))) H H_40 locs_40 := S
  refine cr_putF (k := 4) (ty := .object "StreamEnds$Endpoint") E S inlX4 rfl rfl (by decide) (th_apart E inlX4 rfl tyX4 tyX4_ok nmX4) qw_50 rfl hin rfl (tyX4_ok 4 (by decide)) rfl rfl dX4_init_82 (fun H_41 locs_41 S oq => ?_)
  have S : CS D cI cS 4 B i (i + 1) (i + 85) (i + 85) (updV (updV (updV (updV (updV (fun k => defaultValue (tyX4 k)) 0 (.ref (B + (i + 1)))) 1 (.ref (B + (i + 2)))) 2 (.ref (B + (i + 70)))) 3 (.ref (B + (i + 71)))) 4 (.ref (B + (i + 78)))) H H_41 locs_41 := S
  refine lv_aload_n hx hb dX4_init_85 rfl (lv_at hl 0 rfl) ?_
  refine cr_new (u := 6) (N := 3) tyX6 E S inlX6 rfl rfl tyX6_ok qw_1191 qw_1192 qw_401 (Nat.le_of_ble_eq_true rfl) (Nat.le_of_ble_eq_true rfl) dX4_init_86 (fun H_43 hz oq ob S => ?_)
  have S : CS D cI cS 4 B i (i + 1) (i + 85) (i + 86) (updV (updV (updV (updV (updV (fun k => defaultValue (tyX4 k)) 0 (.ref (B + (i + 1)))) 1 (.ref (B + (i + 2)))) 2 (.ref (B + (i + 70)))) 3 (.ref (B + (i + 71)))) 4 (.ref (B + (i + 78)))) H H_43 locs_41 := S
  refine lv_dup hx hb dX4_init_89 rfl ?_
  refine lv_aload_n hx hb dX4_init_90 rfl (lv_at hl 0 rfl) ?_
  refine cr_get (k := 3) (v := .ref (B + (i + 71))) E S rfl inlX4 rfl rfl (by decide) qw_49 dX4_init_91 ?_
  refine cr_call (As := [.ref (B + (i + 71))]) (rest := [.ref (B + (i + 85)), .ref (B + i)]) (fun _ h => h) E hNW hml hl.1 S (k_X6_init l D cI cS B (i + 85) (i + 71) H_43 ob hz hL85) qw_1255 qw_401 qw_1256 qw_1257 rfl (show yX6_init.cls ≠ "java/lang/invoke/MethodHandle" ∧ yX6_init.cls ≠ "java/lang/invoke/VarHandle" ∧ (parseMethodDescriptor yX6_init.desc).map (fun d => d.parameters.length) = some 1 from by decide +kernel) ⟨Nat.le_of_ble_eq_true rfl, Nat.le_of_ble_eq_true rfl⟩ (Nat.le_of_ble_eq_true rfl) ⟨Nat.le_of_ble_eq_true rfl, Nat.le_of_ble_eq_true rfl⟩ rfl dX4_init_94 (fun H_47 locs_47 S oq hp => ?_)
  have S : CS D cI cS 4 B i (i + 1) (i + 86) (i + 86) (updV (updV (updV (updV (updV (fun k => defaultValue (tyX4 k)) 0 (.ref (B + (i + 1)))) 1 (.ref (B + (i + 2)))) 2 (.ref (B + (i + 70)))) 3 (.ref (B + (i + 71)))) 4 (.ref (B + (i + 78)))) H H_47 locs_47 := S
  refine cr_putF (k := 5) (ty := .object "StreamEnds$Receiver") E S inlX4 rfl rfl (by decide) (th_apart E inlX4 rfl tyX4 tyX4_ok nmX4) qw_58 rfl hin rfl (tyX4_ok 5 (by decide)) rfl rfl dX4_init_97 (fun H_48 locs_48 S oq => ?_)
  have S : CS D cI cS 4 B i (i + 1) (i + 86) (i + 86) (updV (updV (updV (updV (updV (updV (fun k => defaultValue (tyX4 k)) 0 (.ref (B + (i + 1)))) 1 (.ref (B + (i + 2)))) 2 (.ref (B + (i + 70)))) 3 (.ref (B + (i + 71)))) 4 (.ref (B + (i + 78)))) 5 (.ref (B + (i + 85)))) H H_48 locs_48 := S
  refine lv_aload_n hx hb dX4_init_100 rfl (lv_at hl 0 rfl) ?_
  refine cr_new (u := 6) (N := 3) tyX6 E S inlX6 rfl rfl tyX6_ok qw_1191 qw_1192 qw_401 (Nat.le_of_ble_eq_true rfl) (Nat.le_of_ble_eq_true rfl) dX4_init_101 (fun H_50 hz oq ob S => ?_)
  have S : CS D cI cS 4 B i (i + 1) (i + 86) (i + 87) (updV (updV (updV (updV (updV (updV (fun k => defaultValue (tyX4 k)) 0 (.ref (B + (i + 1)))) 1 (.ref (B + (i + 2)))) 2 (.ref (B + (i + 70)))) 3 (.ref (B + (i + 71)))) 4 (.ref (B + (i + 78)))) 5 (.ref (B + (i + 85)))) H H_50 locs_48 := S
  refine lv_dup hx hb dX4_init_104 rfl ?_
  refine lv_aload_n hx hb dX4_init_105 rfl (lv_at hl 0 rfl) ?_
  refine cr_get (k := 4) (v := .ref (B + (i + 78))) E S rfl inlX4 rfl rfl (by decide) qw_50 dX4_init_106 ?_
  refine cr_call (As := [.ref (B + (i + 78))]) (rest := [.ref (B + (i + 86)), .ref (B + i)]) (fun _ h => h) E hNW hml hl.1 S (k_X6_init l D cI cS B (i + 86) (i + 78) H_50 ob hz hL86) qw_1255 qw_401 qw_1256 qw_1257 rfl (show yX6_init.cls ≠ "java/lang/invoke/MethodHandle" ∧ yX6_init.cls ≠ "java/lang/invoke/VarHandle" ∧ (parseMethodDescriptor yX6_init.desc).map (fun d => d.parameters.length) = some 1 from by decide +kernel) ⟨Nat.le_of_ble_eq_true rfl, Nat.le_of_ble_eq_true rfl⟩ (Nat.le_of_ble_eq_true rfl) ⟨Nat.le_of_ble_eq_true rfl, Nat.le_of_ble_eq_true rfl⟩ rfl dX4_init_109 (fun H_54 locs_54 S oq hp => ?_)
  have S : CS D cI cS 4 B i (i + 1) (i + 87) (i + 87) (updV (updV (updV (updV (updV (updV (fun k => defaultValue (tyX4 k)) 0 (.ref (B + (i + 1)))) 1 (.ref (B + (i + 2)))) 2 (.ref (B + (i + 70)))) 3 (.ref (B + (i + 71)))) 4 (.ref (B + (i + 78)))) 5 (.ref (B + (i + 85)))) H H_54 locs_54 := S
  refine cr_putF (k := 6) (ty := .object "StreamEnds$Receiver") E S inlX4 rfl rfl (by decide) (th_apart E inlX4 rfl tyX4 tyX4_ok nmX4) qw_57 rfl hin rfl (tyX4_ok 6 (by decide)) rfl rfl dX4_init_112 (fun H_55 locs_55 S oq => ?_)
  have S : CS D cI cS 4 B i (i + 1) (i + 87) (i + 87) (updV (updV (updV (updV (updV (updV (updV (fun k => defaultValue (tyX4 k)) 0 (.ref (B + (i + 1)))) 1 (.ref (B + (i + 2)))) 2 (.ref (B + (i + 70)))) 3 (.ref (B + (i + 71)))) 4 (.ref (B + (i + 78)))) 5 (.ref (B + (i + 85)))) 6 (.ref (B + (i + 86)))) H H_55 locs_55 := S
  have hok : ∀ k, k < nF 4 → okV (tq B 0 178) (B + RB i k) (fT 4 k) ((updV (updV (updV (updV (updV (updV (updV (fun k => defaultValue (tyX4 k)) 0 (.ref (B + (i + 1)))) 1 (.ref (B + (i + 2)))) 2 (.ref (B + (i + 70)))) 3 (.ref (B + (i + 71)))) 4 (.ref (B + (i + 78)))) 5 (.ref (B + (i + 85)))) 6 (.ref (B + (i + 86)))) k) := by
    intro k hk
    have hk : k < 10 := hk
    rcases (show k = 0 ∨ k = 1 ∨ k = 2 ∨ k = 3 ∨ k = 4 ∨ k = 5 ∨ k = 6 ∨ k = 7 ∨ k = 8 ∨ k = 9 by omega) with rfl | rfl | rfl | rfl | rfl | rfl | rfl | rfl | rfl | rfl
    · exact Or.inr (Or.inr (Or.inr (Or.inl ⟨by decide, by decide, by rw [hr0]; rfl⟩)))
    · exact Or.inr (Or.inr (Or.inr (Or.inl ⟨by decide, by decide, by rw [hr1]; rfl⟩)))
    · exact Or.inr (Or.inr (Or.inr (Or.inl ⟨by decide, by decide, by rw [hr2]; rfl⟩)))
    · exact Or.inr (Or.inr (Or.inr (Or.inl ⟨by decide, by decide, by rw [hr3]; rfl⟩)))
    · exact Or.inr (Or.inr (Or.inr (Or.inl ⟨by decide, by decide, by rw [hr4]; rfl⟩)))
    · exact Or.inr (Or.inr (Or.inr (Or.inl ⟨by decide, by decide, by rw [hr5]; rfl⟩)))
    · exact Or.inr (Or.inr (Or.inr (Or.inl ⟨by decide, by decide, by rw [hr6]; rfl⟩)))
    · exact Or.inl ⟨rfl, _, rfl⟩
    · exact Or.inl ⟨rfl, _, rfl⟩
    · exact Or.inl ⟨rfl, _, rfl⟩
  exact cr_ret (n := (i + 87)) (fun h => h) E hr hlk hs hsz S (fun w hw => (Option.some.inj (ht0.symm.trans hw)).symm) (by decide) hok dX4_init_115
theorem qn_4_0 {B : Nat} : rq B (B + 4) 0 = B + 5 := rq_at
theorem qn_0_2 {B : Nat} : rq B (B + 0) 2 = B + 4 := rq_at
theorem qn_4_1 {B : Nat} : rq B (B + 4) 1 = B + 6 := rq_at
theorem qn_4_2 {B : Nat} : rq B (B + 4) 2 = B + 74 := rq_at
theorem qn_4_3 {B : Nat} : rq B (B + 4) 3 = B + 75 := rq_at
theorem qn_75_4 {B : Nat} : rq B (B + 75) 4 = B + 76 := rq_at
theorem qn_75_5 {B : Nat} : rq B (B + 75) 5 = B + 78 := rq_at
theorem qn_75_6 {B : Nat} : rq B (B + 75) 6 = B + 80 := rq_at
theorem qn_4_4 {B : Nat} : rq B (B + 4) 4 = B + 82 := rq_at
theorem qn_82_4 {B : Nat} : rq B (B + 82) 4 = B + 83 := rq_at
theorem qn_82_5 {B : Nat} : rq B (B + 82) 5 = B + 85 := rq_at
theorem qn_82_6 {B : Nat} : rq B (B + 82) 6 = B + 87 := rq_at
theorem qn_0_0 {B : Nat} : rq B (B + 0) 0 = B + 1 := rq_at
theorem qx_0 {B : Nat} : rq B (B + 0) 1 = B + 3 := rq_at
theorem qx_1 {B : Nat} : rq B (B + 0) 0 = B + 1 := rq_at
theorem qx_2 {B : Nat} : rq B (B + 0) 2 = B + 4 := rq_at
theorem qx_3 {B : Nat} : rq B (rq B (B + 0) 2) 0 = B + 5 := (congrArg (fun q => rq B q 0) qx_2).trans rq_at
theorem qx_4 {B : Nat} : rq B (rq B (B + 0) 2) 3 = B + 75 := (congrArg (fun q => rq B q 3) qx_2).trans rq_at
theorem qx_5 {B : Nat} : rq B (rq B (rq B (B + 0) 2) 3) 1 = B + 5 := (congrArg (fun q => rq B q 1) qx_4).trans rq_at
theorem qx_6 {B : Nat} : rq B (rq B (B + 0) 2) 4 = B + 82 := (congrArg (fun q => rq B q 4) qx_2).trans rq_at
theorem qx_7 {B : Nat} : rq B (rq B (rq B (B + 0) 2) 4) 1 = B + 5 := (congrArg (fun q => rq B q 1) qx_6).trans rq_at
theorem qx_8 {B : Nat} : rq B (rq B (rq B (B + 0) 2) 3) 6 = B + 80 := (congrArg (fun q => rq B q 6) qx_4).trans rq_at
theorem qx_9 {B : Nat} : rq B (rq B (rq B (B + 0) 2) 4) 6 = B + 87 := (congrArg (fun q => rq B q 6) qx_6).trans rq_at
theorem qx_10 {B : Nat} : rq B (rq B (rq B (B + 0) 2) 3) 5 = B + 78 := (congrArg (fun q => rq B q 5) qx_4).trans rq_at
theorem qx_11 {B : Nat} : rq B (rq B (rq B (B + 0) 2) 4) 5 = B + 85 := (congrArg (fun q => rq B q 5) qx_6).trans rq_at
theorem qx_12 {B : Nat} : rq B (rq B (rq B (B + 0) 2) 3) 4 = B + 76 := (congrArg (fun q => rq B q 4) qx_4).trans rq_at
theorem qx_13 {B : Nat} : rq B (rq B (rq B (B + 0) 2) 4) 4 = B + 83 := (congrArg (fun q => rq B q 4) qx_6).trans rq_at
theorem qx_14 {B : Nat} : rq B (B + 178) 0 = B + 179 := rq_at
theorem qx_15 {B : Nat} : rq B (B + 178) 9 = B + 184 := rq_at
abbrev LX11 : Prop := TB 0 = some 11 ∧ LX9 1 ∧ LX1 3 ∧ LX4 4 ∧ LX4 91 ∧ RB 0 0 = 1 ∧ RB 0 1 = 3 ∧ RB 0 2 = 4 ∧ RB 0 3 = 91
set_option maxHeartbeats 40000000 in
set_option maxRecDepth 100000 in
/-- the constructor of StreamEnds -/
theorem k_X11_init (l : Launch) (D : va_G) (cI cS : ClassId) (B : Nat) (H : Heap) (hob : t_OB (B + 0) (D.1 11) (nF 11) (D.2 11) H (fun k => defaultValue (tyX11 k))) (hsz : H.size = B + (0 + 1)) (hL : LX11) : MC l D cI cS B 0 yX11_init cX11_init 1 4 76 177 1937 H [.ref (B + 0)] (fun u => u.size = B + 178 ∧ TH D cI cS (tq B 0 178) (rq B) u ∧ fi D 9 1 u (rq B (B + 0) 0) = 0 ∧ fi D 1 4 u (rq B (rq B (B + 0) 2) 0) = 5 ∧ fi D 1 3 u (rq B (rq B (B + 0) 2) 0) = 100 ∧ fi D 1 2 u (rq B (rq B (B + 0) 2) 0) = 250 ∧ fi D 1 1 u (rq B (rq B (B + 0) 2) 0) = 12 ∧ fi D 1 0 u (rq B (rq B (B + 0) 2) 0) = 4 ∧ fi D 10 5 u (rq B (rq B (B + 0) 2) 1) = 0 ∧ fi D 10 4 u (rq B (rq B (B + 0) 2) 1) = 0 ∧ fi D 10 3 u (rq B (rq B (B + 0) 2) 1) = 0 ∧ fi D 10 2 u (rq B (rq B (B + 0) 2) 1) = 0 ∧ fi D 0 0 u (rq B (rq B (B + 0) 2) 2) = 0 ∧ fi D 7 0 u (rq B (rq B (rq B (B + 0) 2) 3) 6) = 6 ∧ fi D 7 1 u (rq B (rq B (rq B (B + 0) 2) 3) 6) = 0 ∧ fi D 7 2 u (rq B (rq B (rq B (B + 0) 2) 3) 6) = 0 ∧ fi D 7 3 u (rq B (rq B (rq B (B + 0) 2) 3) 6) = (-4) ∧ fi D 7 4 u (rq B (rq B (rq B (B + 0) 2) 3) 6) = 0 ∧ fi D 7 5 u (rq B (rq B (rq B (B + 0) 2) 3) 6) = 0 ∧ fi D 3 0 u (rq B (rq B (rq B (B + 0) 2) 3) 5) = 0 ∧ fi D 3 1 u (rq B (rq B (rq B (B + 0) 2) 3) 5) = 1 ∧ fi D 3 2 u (rq B (rq B (rq B (B + 0) 2) 3) 5) = 13 ∧ fi D 3 3 u (rq B (rq B (rq B (B + 0) 2) 3) 5) = (-4) ∧ fi D 3 4 u (rq B (rq B (rq B (B + 0) 2) 3) 5) = 0 ∧ fl D 3 5 u (rq B (rq B (rq B (B + 0) 2) 3) 5) = 0 ∧ fi D 5 0 u (rq B (rq B (rq B (B + 0) 2) 3) 4) = 0 ∧ fi D 5 1 u (rq B (rq B (rq B (B + 0) 2) 3) 4) = 0 ∧ fi D 5 2 u (rq B (rq B (rq B (B + 0) 2) 3) 4) = 1 ∧ fi D 5 3 u (rq B (rq B (rq B (B + 0) 2) 3) 4) = 0 ∧ fi D 5 4 u (rq B (rq B (rq B (B + 0) 2) 3) 4) = 0 ∧ fi D 5 5 u (rq B (rq B (rq B (B + 0) 2) 3) 4) = 0 ∧ fl D 5 6 u (rq B (rq B (rq B (B + 0) 2) 3) 4) = 0 ∧ fi D 2 7 u (rq B (rq B (B + 0) 2) 3) = 0 ∧ fi D 2 8 u (rq B (rq B (B + 0) 2) 3) = 0 ∧ fi D 2 9 u (rq B (rq B (B + 0) 2) 3) = 0 ∧ fi D 7 0 u (rq B (rq B (rq B (B + 0) 2) 4) 6) = 6 ∧ fi D 7 1 u (rq B (rq B (rq B (B + 0) 2) 4) 6) = 0 ∧ fi D 7 2 u (rq B (rq B (rq B (B + 0) 2) 4) 6) = 0 ∧ fi D 7 3 u (rq B (rq B (rq B (B + 0) 2) 4) 6) = (-4) ∧ fi D 7 4 u (rq B (rq B (rq B (B + 0) 2) 4) 6) = 0 ∧ fi D 7 5 u (rq B (rq B (rq B (B + 0) 2) 4) 6) = 0 ∧ fi D 3 0 u (rq B (rq B (rq B (B + 0) 2) 4) 5) = 0 ∧ fi D 3 1 u (rq B (rq B (rq B (B + 0) 2) 4) 5) = 1 ∧ fi D 3 2 u (rq B (rq B (rq B (B + 0) 2) 4) 5) = 13 ∧ fi D 3 3 u (rq B (rq B (rq B (B + 0) 2) 4) 5) = (-4) ∧ fi D 3 4 u (rq B (rq B (rq B (B + 0) 2) 4) 5) = 0 ∧ fl D 3 5 u (rq B (rq B (rq B (B + 0) 2) 4) 5) = 0 ∧ fi D 5 0 u (rq B (rq B (rq B (B + 0) 2) 4) 4) = 0 ∧ fi D 5 1 u (rq B (rq B (rq B (B + 0) 2) 4) 4) = 0 ∧ fi D 5 2 u (rq B (rq B (rq B (B + 0) 2) 4) 4) = 1 ∧ fi D 5 3 u (rq B (rq B (rq B (B + 0) 2) 4) 4) = 0 ∧ fi D 5 4 u (rq B (rq B (rq B (B + 0) 2) 4) 4) = 0 ∧ fi D 5 5 u (rq B (rq B (rq B (B + 0) 2) 4) 4) = 0 ∧ fl D 5 6 u (rq B (rq B (rq B (B + 0) 2) 4) 4) = 0 ∧ fi D 2 7 u (rq B (rq B (B + 0) 2) 4) = 0 ∧ fi D 2 8 u (rq B (rq B (B + 0) 2) 4) = 0 ∧ fi D 2 9 u (rq B (rq B (B + 0) 2) 4) = 0 ∧ fi D 4 7 u (rq B (B + 0) 2) = (-4) ∧ fi D 4 8 u (rq B (B + 0) 2) = (-4) ∧ fi D 4 9 u (rq B (B + 0) 2) = 0) := by
  obtain ⟨ht0, hL1, hL3, hL4, hL91, hr0, hr1, hr2, hr3⟩ := hL
  refine MC.of (by decide) rfl (Nat.le_of_ble_eq_true rfl) ?_
  intro p e s m args below meth c E hNW hin hml hr hlk hs ls hl
  have hWX : WF (tq B 0 178) (rq B) := wfB_ok wfX B
  have hWM : WF (tq B 178 186) (rq B) := wfB_ok wfM B
  have hx := E.1
  have hb := E.2.1
  have hown := E.2.2.1
  have hts := E.2.2.2.1
  have hl : lv_has ls 1 [(0, .ref (B + 0))] := hl
  have S : CS D cI cS 11 B 0 1 1 1 (fun k => defaultValue (tyX11 k)) H H [] := CS.start hob hsz
  refine lv_aload_n hx hb dX11_init_0 rfl (lv_at hl 0 rfl) ?_
  refine W.objInit hx hb hown (hts _ qw_1258) (hts _ qw_1224) (hts _ qw_1225) rfl (by rw [hml]; exact hl.1) rfl dX11_init_1 (Nat.le_of_ble_eq_true rfl) (Nat.le_of_ble_eq_true rfl) ?_
  refine W.eq (g2 := F0 m 4 ls []) rfl ?_
  refine lv_aload_n hx hb dX11_init_4 rfl (lv_at hl 0 rfl) ?_
  refine cr_new (u := 9) (N := 2) tyX9 E S inlX9 rfl rfl tyX9_ok qw_1196 qw_1197 qw_181 (Nat.le_of_ble_eq_true rfl) (Nat.le_of_ble_eq_true rfl) dX11_init_5 (fun H_4 hz oq ob S => ?_)
  have S : CS D cI cS 11 B 0 1 1 2 (fun k => defaultValue (tyX11 k)) H H_4 [] := S
  refine lv_dup hx hb dX11_init_8 rfl ?_
  refine cr_callN (As := []) (rest := [.ref (B + 1), .ref (B + 0)]) (fun _ h => h.1) E hNW hml hl.1 S (k_X9_init l D cI cS B 1 H_4 ob hz hL1) qw_1259 qw_181 hNW.1 qw_1260 rfl (show yX9_init.cls ≠ "java/lang/invoke/MethodHandle" ∧ yX9_init.cls ≠ "java/lang/invoke/VarHandle" ∧ (parseMethodDescriptor yX9_init.desc).map (fun d => d.parameters.length) = some 0 from by decide +kernel) ⟨Nat.le_of_ble_eq_true rfl, Nat.le_of_ble_eq_true rfl⟩ (Nat.le_of_ble_eq_true rfl) ⟨Nat.le_of_ble_eq_true rfl, Nat.le_of_ble_eq_true rfl⟩ rfl dX11_init_9 (fun H_6 locs_6 S oq hp => ?_)
  have S : CS D cI cS 11 B 0 1 3 3 (fun k => defaultValue (tyX11 k)) H H_6 locs_6 := S
  have hf9_1 : fi D 9 1 H_6 (B + 1) = 0 := hp.2
  refine cr_putF (k := 0) (ty := .object "StreamEnds$Text") E S inlX11 rfl rfl (by decide) (th_apart E inlX11 rfl tyX11 tyX11_ok nmX11) qw_125 rfl hin rfl (tyX11_ok 0 (by decide)) rfl rfl dX11_init_12 (fun H_7 locs_7 S oq => ?_)
  have S : CS D cI cS 11 B 0 1 3 3 (updV (fun k => defaultValue (tyX11 k)) 0 (.ref (B + 1))) H H_7 locs_7 := S
  have hf9_1 : fi D 9 1 H_7 (B + 1) = 0 := (fi_q (oq _ (by omega))).trans hf9_1
  refine lv_aload_n hx hb dX11_init_15 rfl (lv_at hl 0 rfl) ?_
  refine cr_new (u := 1) (N := 5) tyX1 E S inlX1 rfl rfl tyX1_ok qw_1198 qw_1183 qw_172 (Nat.le_of_ble_eq_true rfl) (Nat.le_of_ble_eq_true rfl) dX11_init_16 (fun H_9 hz oq ob S => ?_)
  have S : CS D cI cS 11 B 0 1 3 4 (updV (fun k => defaultValue (tyX11 k)) 0 (.ref (B + 1))) H H_9 locs_7 := S
  have hf9_1 : fi D 9 1 H_9 (B + 1) = 0 := (fi_q (oq _ (by omega))).trans hf9_1
  refine lv_dup hx hb dX11_init_19 rfl ?_
  refine cr_call (As := []) (rest := [.ref (B + 3), .ref (B + 0)]) (fun _ h => h.1) E hNW hml hl.1 S (k_X1_init l D cI cS B 3 H_9 ob hz hL3) qw_1244 qw_172 qw_1261 qw_1246 rfl (show yX1_init.cls ≠ "java/lang/invoke/MethodHandle" ∧ yX1_init.cls ≠ "java/lang/invoke/VarHandle" ∧ (parseMethodDescriptor yX1_init.desc).map (fun d => d.parameters.length) = some 0 from by decide +kernel) ⟨Nat.le_of_ble_eq_true rfl, Nat.le_of_ble_eq_true rfl⟩ (Nat.le_of_ble_eq_true rfl) ⟨Nat.le_of_ble_eq_true rfl, Nat.le_of_ble_eq_true rfl⟩ rfl dX11_init_20 (fun H_11 locs_11 S oq hp => ?_)
  have S : CS D cI cS 11 B 0 1 4 4 (updV (fun k => defaultValue (tyX11 k)) 0 (.ref (B + 1))) H H_11 locs_11 := S
  have hf9_1 : fi D 9 1 H_11 (B + 1) = 0 := (fi_q (oq _ (by omega))).trans hf9_1
  have hf1_0 : fi D 1 0 H_11 (B + 3) = 4 := hp.2.1
  have hf1_4 : fi D 1 4 H_11 (B + 3) = 5 := hp.2.2
  refine cr_putF (k := 1) (ty := .object "StreamEnds$Config") E S inlX11 rfl rfl (by decide) (th_apart E inlX11 rfl tyX11 tyX11_ok nmX11) qw_120 rfl hin rfl (tyX11_ok 1 (by decide)) rfl rfl dX11_init_23 (fun H_12 locs_12 S oq => ?_)
  have S : CS D cI cS 11 B 0 1 4 4 (updV (updV (fun k => defaultValue (tyX11 k)) 0 (.ref (B + 1))) 1 (.ref (B + 3))) H H_12 locs_12 := S
  have hf9_1 : fi D 9 1 H_12 (B + 1) = 0 := (fi_q (oq _ (by omega))).trans hf9_1
  have hf1_0 : fi D 1 0 H_12 (B + 3) = 4 := (fi_q (oq _ (by omega))).trans hf1_0
  have hf1_4 : fi D 1 4 H_12 (B + 3) = 5 := (fi_q (oq _ (by omega))).trans hf1_4
  refine lv_aload_n hx hb dX11_init_26 rfl (lv_at hl 0 rfl) ?_
  refine cr_new (u := 4) (N := 10) tyX4 E S inlX4 rfl rfl tyX4_ok qw_1199 qw_1200 qw_533 (Nat.le_of_ble_eq_true rfl) (Nat.le_of_ble_eq_true rfl) dX11_init_27 (fun H_14 hz oq ob S => ?_)
  have S : CS D cI cS 11 B 0 1 4 5 (updV (updV (fun k => defaultValue (tyX11 k)) 0 (.ref (B + 1))) 1 (.ref (B + 3))) H H_14 locs_12 := S
  have hf9_1 : fi D 9 1 H_14 (B + 1) = 0 := (fi_q (oq _ (by omega))).trans hf9_1
  have hf1_0 : fi D 1 0 H_14 (B + 3) = 4 := (fi_q (oq _ (by omega))).trans hf1_0
  have hf1_4 : fi D 1 4 H_14 (B + 3) = 5 := (fi_q (oq _ (by omega))).trans hf1_4
  refine lv_dup hx hb dX11_init_30 rfl ?_
  refine cr_callN (As := []) (rest := [.ref (B + 4), .ref (B + 0)]) (fun _ h => h) E hNW hml hl.1 S (k_X4_init l D cI cS B 4 H_14 ob hz hL4) qw_1262 qw_533 hNW.2.1 qw_1263 rfl (show yX4_init.cls ≠ "java/lang/invoke/MethodHandle" ∧ yX4_init.cls ≠ "java/lang/invoke/VarHandle" ∧ (parseMethodDescriptor yX4_init.desc).map (fun d => d.parameters.length) = some 0 from by decide +kernel) ⟨Nat.le_of_ble_eq_true rfl, Nat.le_of_ble_eq_true rfl⟩ (Nat.le_of_ble_eq_true rfl) ⟨Nat.le_of_ble_eq_true rfl, Nat.le_of_ble_eq_true rfl⟩ rfl dX11_init_31 (fun H_16 locs_16 S oq hp => ?_)
  have S : CS D cI cS 11 B 0 1 91 91 (updV (updV (fun k => defaultValue (tyX11 k)) 0 (.ref (B + 1))) 1 (.ref (B + 3))) H H_16 locs_16 := S
  have hf9_1 : fi D 9 1 H_16 (B + 1) = 0 := (fi_q (oq _ (by omega))).trans hf9_1
  have hf1_0 : fi D 1 0 H_16 (B + 3) = 4 := (fi_q (oq _ (by omega))).trans hf1_0
  have hf1_4 : fi D 1 4 H_16 (B + 3) = 5 := (fi_q (oq _ (by omega))).trans hf1_4
  refine cr_putF (k := 2) (ty := .object "StreamEnds$Network") E S inlX11 rfl rfl (by decide) (th_apart E inlX11 rfl tyX11 tyX11_ok nmX11) qw_124 rfl hin rfl (tyX11_ok 2 (by decide)) rfl rfl dX11_init_34 (fun H_17 locs_17 S oq => ?_)
  have S : CS D cI cS 11 B 0 1 91 91 (updV (updV (updV (fun k => defaultValue (tyX11 k)) 0 (.ref (B + 1))) 1 (.ref (B + 3))) 2 (.ref (B + 4))) H H_17 locs_17 := S
  have hf9_1 : fi D 9 1 H_17 (B + 1) = 0 := (fi_q (oq _ (by omega))).trans hf9_1
  have hf1_0 : fi D 1 0 H_17 (B + 3) = 4 := (fi_q (oq _ (by omega))).trans hf1_0
  have hf1_4 : fi D 1 4 H_17 (B + 3) = 5 := (fi_q (oq _ (by omega))).trans hf1_4
  refine lv_aload_n hx hb dX11_init_37 rfl (lv_at hl 0 rfl) ?_
  refine cr_new (u := 4) (N := 10) tyX4 E S inlX4 rfl rfl tyX4_ok qw_1199 qw_1200 qw_533 (Nat.le_of_ble_eq_true rfl) (Nat.le_of_ble_eq_true rfl) dX11_init_38 (fun H_19 hz oq ob S => ?_)
  have S : CS D cI cS 11 B 0 1 91 92 (updV (updV (updV (fun k => defaultValue (tyX11 k)) 0 (.ref (B + 1))) 1 (.ref (B + 3))) 2 (.ref (B + 4))) H H_19 locs_17 := S
  have hf9_1 : fi D 9 1 H_19 (B + 1) = 0 := (fi_q (oq _ (by omega))).trans hf9_1
  have hf1_0 : fi D 1 0 H_19 (B + 3) = 4 := (fi_q (oq _ (by omega))).trans hf1_0
  have hf1_4 : fi D 1 4 H_19 (B + 3) = 5 := (fi_q (oq _ (by omega))).trans hf1_4
  refine lv_dup hx hb dX11_init_41 rfl ?_
  refine cr_callN (As := []) (rest := [.ref (B + 91), .ref (B + 0)]) (fun _ h => h) E hNW hml hl.1 S (k_X4_init l D cI cS B 91 H_19 ob hz hL91) qw_1262 qw_533 hNW.2.1 qw_1263 rfl (show yX4_init.cls ≠ "java/lang/invoke/MethodHandle" ∧ yX4_init.cls ≠ "java/lang/invoke/VarHandle" ∧ (parseMethodDescriptor yX4_init.desc).map (fun d => d.parameters.length) = some 0 from by decide +kernel) ⟨Nat.le_of_ble_eq_true rfl, Nat.le_of_ble_eq_true rfl⟩ (Nat.le_of_ble_eq_true rfl) ⟨Nat.le_of_ble_eq_true rfl, Nat.le_of_ble_eq_true rfl⟩ rfl dX11_init_42 (fun H_21 locs_21 S oq hp => ?_)
  have S : CS D cI cS 11 B 0 1 178 178 (updV (updV (updV (fun k => defaultValue (tyX11 k)) 0 (.ref (B + 1))) 1 (.ref (B + 3))) 2 (.ref (B + 4))) H H_21 locs_21 := S
  have hf9_1 : fi D 9 1 H_21 (B + 1) = 0 := (fi_q (oq _ (by omega))).trans hf9_1
  have hf1_0 : fi D 1 0 H_21 (B + 3) = 4 := (fi_q (oq _ (by omega))).trans hf1_0
  have hf1_4 : fi D 1 4 H_21 (B + 3) = 5 := (fi_q (oq _ (by omega))).trans hf1_4
  refine cr_putF (k := 3) (ty := .object "StreamEnds$Network") E S inlX11 rfl rfl (by decide) (th_apart E inlX11 rfl tyX11 tyX11_ok nmX11) qw_140 rfl hin rfl (tyX11_ok 3 (by decide)) rfl rfl dX11_init_45 (fun H_22 locs_22 S oq => ?_)
  have S : CS D cI cS 11 B 0 1 178 178 (updV (updV (updV (updV (fun k => defaultValue (tyX11 k)) 0 (.ref (B + 1))) 1 (.ref (B + 3))) 2 (.ref (B + 4))) 3 (.ref (B + 91))) H H_22 locs_22 := S
  have hf9_1 : fi D 9 1 H_22 (B + 1) = 0 := (fi_q (oq _ (by omega))).trans hf9_1
  have hf1_0 : fi D 1 0 H_22 (B + 3) = 4 := (fi_q (oq _ (by omega))).trans hf1_0
  have hf1_4 : fi D 1 4 H_22 (B + 3) = 5 := (fi_q (oq _ (by omega))).trans hf1_4
  have hok : ∀ k, k < nF 11 → okV (tq B 0 178) (B + RB 0 k) (fT 11 k) ((updV (updV (updV (updV (fun k => defaultValue (tyX11 k)) 0 (.ref (B + 1))) 1 (.ref (B + 3))) 2 (.ref (B + 4))) 3 (.ref (B + 91))) k) := by
    intro k hk
    have hk : k < 4 := hk
    rcases (show k = 0 ∨ k = 1 ∨ k = 2 ∨ k = 3 by omega) with rfl | rfl | rfl | rfl
    · exact Or.inr (Or.inr (Or.inr (Or.inl ⟨by decide, by decide, by rw [hr0]; rfl⟩)))
    · exact Or.inr (Or.inr (Or.inr (Or.inl ⟨by decide, by decide, by rw [hr1]; rfl⟩)))
    · exact Or.inr (Or.inr (Or.inr (Or.inl ⟨by decide, by decide, by rw [hr2]; rfl⟩)))
    · exact Or.inr (Or.inr (Or.inr (Or.inl ⟨by decide, by decide, by rw [hr3]; rfl⟩)))
  have hT : TH D cI cS (tq B 0 178) (rq B) H_22 := by
    intro a u ha
    obtain ⟨j, rfl, h1, h2, h3⟩ := tq_some ha
    exact ((CR.one (n := 0) fun w hw => by
      rw [← Option.some.inj (ht0.symm.trans hw)]
      exact Or.inl ⟨by decide, _, S.ob, fun k hk => by rw [rq_at]; exact hok k hk⟩).app S.rg) j u h1 h2 h3
  have hS : SS (fun q => B + 0 ≤ q) H_22 H_22 locs_22 := ⟨rfl, fun _ _ => rfl, S.lc⟩
  have hτ : tq B 0 178 (B + 0) = some 11 := (tq_at (by omega) (by omega)).trans ht0
  have f0 : fi D 1 0 H_22 (rq B (B + 0) 1) = 4 := (congrArg (fun z => fi D 1 0 H_22 z) qx_0).trans hf1_0
  have f4 : fi D 1 4 H_22 (rq B (B + 0) 1) = 5 := (congrArg (fun z => fi D 1 4 H_22 z) qx_0).trans hf1_4
  have f9 : fi D 9 1 H_22 (rq B (B + 0) 0) = 0 := (congrArg (fun z => fi D 9 1 H_22 z) qx_1).trans hf9_1
  refine lv_aload_n hx hb dX11_init_48 rfl (lv_at hl 0 rfl) ?_
  refine gf_X11_19 E hT hWX hτ dX11_init_49 (fun h1 => ?_)
  refine lv_bipush (v := 12) hx hb dX11_init_52 (by decide) ?_
  refine pf_X11_33 E hT hS h1 (by rw [qx_0]; omega) dX11_init_54 (fun G_0 glocs_0 hT hU hS => ?_)
  have f0 : fi D 1 0 G_0 (rq B (B + 0) 1) = 4 := (hU.io (j := 0) (by decide) (by decide)).trans f0
  have f4 : fi D 1 4 G_0 (rq B (B + 0) 1) = 5 := (hU.io (j := 4) (by decide) (by decide)).trans f4
  have f1 : fi D 1 1 G_0 (rq B (B + 0) 1) = 12 := hU.i
  have f9 : fi D 9 1 G_0 (rq B (B + 0) 0) = 0 := (fi_q (hU.2.2 _ (by rw [qx_1, qx_0]; omega))).trans f9
  refine lv_aload_n hx hb dX11_init_57 rfl (lv_at hl 0 rfl) ?_
  refine gf_X11_19 E hT hWX hτ dX11_init_58 (fun h1 => ?_)
  refine lv_sipush (v := 250) hx hb dX11_init_61 (by decide) ?_
  refine pf_X11_37 E hT hS h1 (by rw [qx_0]; omega) dX11_init_64 (fun G_1 glocs_1 hT hU hS => ?_)
  have f0 : fi D 1 0 G_1 (rq B (B + 0) 1) = 4 := (hU.io (j := 0) (by decide) (by decide)).trans f0
  have f4 : fi D 1 4 G_1 (rq B (B + 0) 1) = 5 := (hU.io (j := 4) (by decide) (by decide)).trans f4
  have f1 : fi D 1 1 G_1 (rq B (B + 0) 1) = 12 := (hU.io (j := 1) (by decide) (by decide)).trans f1
  have f2 : fi D 1 2 G_1 (rq B (B + 0) 1) = 250 := hU.i
  have f9 : fi D 9 1 G_1 (rq B (B + 0) 0) = 0 := (fi_q (hU.2.2 _ (by rw [qx_1, qx_0]; omega))).trans f9
  refine lv_aload_n hx hb dX11_init_67 rfl (lv_at hl 0 rfl) ?_
  refine gf_X11_19 E hT hWX hτ dX11_init_68 (fun h1 => ?_)
  refine lv_bipush (v := 100) hx hb dX11_init_71 (by decide) ?_
  refine pf_X11_40 E hT hS h1 (by rw [qx_0]; omega) dX11_init_73 (fun G_2 glocs_2 hT hU hS => ?_)
  have f0 : fi D 1 0 G_2 (rq B (B + 0) 1) = 4 := (hU.io (j := 0) (by decide) (by decide)).trans f0
  have f4 : fi D 1 4 G_2 (rq B (B + 0) 1) = 5 := (hU.io (j := 4) (by decide) (by decide)).trans f4
  have f1 : fi D 1 1 G_2 (rq B (B + 0) 1) = 12 := (hU.io (j := 1) (by decide) (by decide)).trans f1
  have f2 : fi D 1 2 G_2 (rq B (B + 0) 1) = 250 := (hU.io (j := 2) (by decide) (by decide)).trans f2
  have f3 : fi D 1 3 G_2 (rq B (B + 0) 1) = 100 := hU.i
  have f9 : fi D 9 1 G_2 (rq B (B + 0) 0) = 0 := (fi_q (hU.2.2 _ (by rw [qx_1, qx_0]; omega))).trans f9
  refine lv_aload_n hx hb dX11_init_76 rfl (lv_at hl 0 rfl) ?_
  refine gf_X11_26 E hT hWX hτ dX11_init_77 (fun h2 => ?_)
  refine lv_aload_n hx hb dX11_init_80 rfl (lv_at hl 0 rfl) ?_
  refine gf_X11_19 E hT hWX hτ dX11_init_81 (fun h1 => ?_)
  refine th_Vv (As := [.ref (rq B (B + 0) 1)]) (rest := []) E hml hl.1 (c_X4_setUp_v2 l D cI cS (tq B 0 178) (rq B) hWX G_2 hT (rq B (B + 0) 2) (rq B (B + 0) 1) h2 h1 f0 (by rw [qx_0, qx_3]; omega) f1 f2 f3 f4 (by rw [qx_5, qx_3]) (by rw [qx_7, qx_3]) (by rw [qx_8, qx_9]; omega) (by rw [qx_10, qx_11]; omega) (by rw [qx_12, qx_13]; omega) (by rw [qx_4, qx_6]; omega)) lk_X11_43 yd_X4_setUp hT h2 rfl (by decide) hS (fun q h => by simp only [qn_0_2, qn_4_0, qn_4_1, qn_4_2, qn_4_3, qn_4_4, qn_75_4, qn_75_5, qn_75_6, qn_82_4, qn_82_5, qn_82_6] at h; show B + 0 ≤ q; omega) ⟨by decide, by decide⟩ (Nat.le_of_ble_eq_true rfl) ⟨Nat.le_of_ble_eq_true rfl, Nat.le_of_ble_eq_true rfl⟩ rfl dX11_init_84 (fun G_9 glocs_9 p hT9 hk hS9 => ?_)
  have hk9 : ∀ q, q < B + 0 → G_9[q]? = H[q]? := fun q hq => (hS9.2.1 q (by omega)).trans (S.kp q hq)
  have hz9 : G_9.size = B + 178 := hS9.1.trans S.sz
  have f9 : fi D 9 1 G_9 (rq B (B + 0) 0) = 0 := (fi_q (hk _ (fun h => by simp only [qn_0_0, qn_0_2, qn_4_0, qn_4_1, qn_4_2, qn_4_3, qn_4_4, qn_75_4, qn_75_5, qn_75_6, qn_82_4, qn_82_5, qn_82_6] at h; omega))).trans f9
  exact W.vret hx hb hr (fun t2 ht2 hW => ⟨⟨G_9, rfl, ⟨hz9, hT9, f9, p⟩, ht2⟩, by rw [ht2, hs, hz9, hsz]; omega, fun q h1 h2 => by rw [ht2, hs]; exact hk9 q (by omega)⟩) hS9.2.2 dX11_init_87 hlk
abbrev LX12 : Prop := TB 178 = some 12 ∧ TB 179 = some 1085 ∧ TB 180 = some 1085 ∧ TB 181 = some 120 ∧ TB 182 = some 120 ∧ TB 183 = some 300 ∧ TB 184 = some 102 ∧ TB 185 = some 102 ∧ RB 178 0 = 179 ∧ RB 178 1 = 180 ∧ RB 178 2 = 181 ∧ RB 178 3 = 182 ∧ RB 178 4 = 183 ∧ RB 178 9 = 184 ∧ RB 178 15 = 185
set_option maxHeartbeats 40000000 in
set_option maxRecDepth 100000 in
/-- the constructor of StreamEndsModel -/
theorem k_X12_init (l : Launch) (D : va_G) (cI cS : ClassId) (B : Nat) (H : Heap) (hob : t_OB (B + 178) (D.1 12) (nF 12) (D.2 12) H (fun k => defaultValue (tyX12 k))) (hsz : H.size = B + (178 + 1)) (hL : LX12) : MC l D cI cS B 178 yX12_init cX12_init 1 3 66 7 2214 H [.ref (B + 178)] (fun u => u.size = B + 186 ∧ TH D cI cS (tq B 178 186) (rq B) u ∧ fi D 12 5 u (B + 178) = 0 ∧ fi D 12 6 u (B + 178) = 4 ∧ fi D 12 7 u (B + 178) = 12 ∧ fi D 12 8 u (B + 178) = 5 ∧ (∀ j, j < 985 → ai u (rq B (B + 178) 0) j = w0f j) ∧ ai u (rq B (B + 178) 9) 0 = 250 ∧ ai u (rq B (B + 178) 9) 1 = 100) := by
  obtain ⟨ht0, ht179, ht180, ht181, ht182, ht183, ht184, ht185, hr0, hr1, hr2, hr3, hr4, hr9, hr15⟩ := hL
  refine MC.of (by decide) rfl (Nat.le_of_ble_eq_true rfl) ?_
  intro p e s m args below meth c E hNW hin hml hr hlk hs ls hl
  have hWX : WF (tq B 0 178) (rq B) := wfB_ok wfX B
  have hWM : WF (tq B 178 186) (rq B) := wfB_ok wfM B
  have hx := E.1
  have hb := E.2.1
  have hown := E.2.2.1
  have hts := E.2.2.2.1
  have hl : lv_has ls 1 [(0, .ref (B + 178))] := hl
  have S : CS D cI cS 12 B 178 179 179 179 (fun k => defaultValue (tyX12 k)) H H [] := CS.start hob hsz
  refine lv_aload_n hx hb dX12_init_0 rfl (lv_at hl 0 rfl) ?_
  refine W.objInit hx hb hown (hts _ qw_1264) (hts _ qw_1224) (hts _ qw_1225) rfl (by rw [hml]; exact hl.1) rfl dX12_init_1 (Nat.le_of_ble_eq_true rfl) (Nat.le_of_ble_eq_true rfl) ?_
  refine W.eq (g2 := F0 m 4 ls []) rfl ?_
  refine lv_aload_n hx hb dX12_init_4 rfl (lv_at hl 0 rfl) ?_
  refine lv_sipush (v := 985) hx hb dX12_init_5 (by decide) ?_
  refine cr_newa (N := 985) E S (by decide) (by decide) ht179 (by decide) qw_1222 (Nat.le_of_ble_eq_true rfl) (Nat.le_of_ble_eq_true rfl) dX12_init_8 (fun H_5 S oq eb => ?_)
  have S : CS D cI cS 12 B 178 179 180 180 (fun k => defaultValue (tyX12 k)) H H_5 [] := S
  refine cr_putF (k := 0) (ty := .array .int) E S inlX12 rfl rfl (by decide) (th_apart E inlX12 rfl tyX12 tyX12_ok nmX12) qw_156 rfl hin rfl (tyX12_ok 0 (by decide)) rfl rfl dX12_init_10 (fun H_6 locs_6 S oq => ?_)
  have S : CS D cI cS 12 B 178 179 180 180 (updV (fun k => defaultValue (tyX12 k)) 0 (.ref (B + 179))) H H_6 locs_6 := S
  refine lv_aload_n hx hb dX12_init_13 rfl (lv_at hl 0 rfl) ?_
  refine lv_sipush (v := 985) hx hb dX12_init_14 (by decide) ?_
  refine cr_newa (N := 985) E S (by decide) (by decide) ht180 (by decide) qw_1222 (Nat.le_of_ble_eq_true rfl) (Nat.le_of_ble_eq_true rfl) dX12_init_17 (fun H_9 S oq eb => ?_)
  have S : CS D cI cS 12 B 178 179 181 181 (updV (fun k => defaultValue (tyX12 k)) 0 (.ref (B + 179))) H H_9 locs_6 := S
  refine cr_putF (k := 1) (ty := .array .int) E S inlX12 rfl rfl (by decide) (th_apart E inlX12 rfl tyX12 tyX12_ok nmX12) qw_168 rfl hin rfl (tyX12_ok 1 (by decide)) rfl rfl dX12_init_19 (fun H_10 locs_10 S oq => ?_)
  have S : CS D cI cS 12 B 178 179 181 181 (updV (updV (fun k => defaultValue (tyX12 k)) 0 (.ref (B + 179))) 1 (.ref (B + 180))) H H_10 locs_10 := S
  refine lv_aload_n hx hb dX12_init_22 rfl (lv_at hl 0 rfl) ?_
  refine lv_bipush (v := 20) hx hb dX12_init_23 (by decide) ?_
  refine cr_newa (N := 20) E S (by decide) (by decide) ht181 (by decide) qw_1222 (Nat.le_of_ble_eq_true rfl) (Nat.le_of_ble_eq_true rfl) dX12_init_25 (fun H_13 S oq eb => ?_)
  have S : CS D cI cS 12 B 178 179 182 182 (updV (updV (fun k => defaultValue (tyX12 k)) 0 (.ref (B + 179))) 1 (.ref (B + 180))) H H_13 locs_10 := S
  refine cr_putF (k := 2) (ty := .array .int) E S inlX12 rfl rfl (by decide) (th_apart E inlX12 rfl tyX12 tyX12_ok nmX12) qw_166 rfl hin rfl (tyX12_ok 2 (by decide)) rfl rfl dX12_init_27 (fun H_14 locs_14 S oq => ?_)
  have S : CS D cI cS 12 B 178 179 182 182 (updV (updV (updV (fun k => defaultValue (tyX12 k)) 0 (.ref (B + 179))) 1 (.ref (B + 180))) 2 (.ref (B + 181))) H H_14 locs_14 := S
  refine lv_aload_n hx hb dX12_init_30 rfl (lv_at hl 0 rfl) ?_
  refine lv_bipush (v := 20) hx hb dX12_init_31 (by decide) ?_
  refine cr_newa (N := 20) E S (by decide) (by decide) ht182 (by decide) qw_1222 (Nat.le_of_ble_eq_true rfl) (Nat.le_of_ble_eq_true rfl) dX12_init_33 (fun H_17 S oq eb => ?_)
  have S : CS D cI cS 12 B 178 179 183 183 (updV (updV (updV (fun k => defaultValue (tyX12 k)) 0 (.ref (B + 179))) 1 (.ref (B + 180))) 2 (.ref (B + 181))) H H_17 locs_14 := S
  refine cr_putF (k := 3) (ty := .array .int) E S inlX12 rfl rfl (by decide) (th_apart E inlX12 rfl tyX12 tyX12_ok nmX12) qw_167 rfl hin rfl (tyX12_ok 3 (by decide)) rfl rfl dX12_init_35 (fun H_18 locs_18 S oq => ?_)
  have S : CS D cI cS 12 B 178 179 183 183 (updV (updV (updV (updV (fun k => defaultValue (tyX12 k)) 0 (.ref (B + 179))) 1 (.ref (B + 180))) 2 (.ref (B + 181))) 3 (.ref (B + 182))) H H_18 locs_18 := S
  refine lv_aload_n hx hb dX12_init_38 rfl (lv_at hl 0 rfl) ?_
  refine lv_sipush (v := 200) hx hb dX12_init_39 (by decide) ?_
  refine cr_newa (N := 200) E S (by decide) (by decide) ht183 (by decide) qw_1222 (Nat.le_of_ble_eq_true rfl) (Nat.le_of_ble_eq_true rfl) dX12_init_42 (fun H_21 S oq eb => ?_)
  have S : CS D cI cS 12 B 178 179 184 184 (updV (updV (updV (updV (fun k => defaultValue (tyX12 k)) 0 (.ref (B + 179))) 1 (.ref (B + 180))) 2 (.ref (B + 181))) 3 (.ref (B + 182))) H H_21 locs_18 := S
  refine cr_putF (k := 4) (ty := .array .int) E S inlX12 rfl rfl (by decide) (th_apart E inlX12 rfl tyX12 tyX12_ok nmX12) qw_159 rfl hin rfl (tyX12_ok 4 (by decide)) rfl rfl dX12_init_44 (fun H_22 locs_22 S oq => ?_)
  have S : CS D cI cS 12 B 178 179 184 184 (updV (updV (updV (updV (updV (fun k => defaultValue (tyX12 k)) 0 (.ref (B + 179))) 1 (.ref (B + 180))) 2 (.ref (B + 181))) 3 (.ref (B + 182))) 4 (.ref (B + 183))) H H_22 locs_22 := S
  refine lv_aload_n hx hb dX12_init_47 rfl (lv_at hl 0 rfl) ?_
  refine lv_iconst (v := 4) hx hb dX12_init_48 (by decide) ?_
  refine cr_put (k := 6) (ty := .int) E S inlX12 rfl rfl (by decide) (th_apart E inlX12 rfl tyX12 tyX12_ok nmX12) qw_153 rfl (tyX12_ok 6 (by decide)) rfl rfl dX12_init_49 (fun H_25 locs_25 S oq => ?_)
  have S : CS D cI cS 12 B 178 179 184 184 (updV (updV (updV (updV (updV (updV (fun k => defaultValue (tyX12 k)) 0 (.ref (B + 179))) 1 (.ref (B + 180))) 2 (.ref (B + 181))) 3 (.ref (B + 182))) 4 (.ref (B + 183))) 6 (.int 4)) H H_25 locs_25 := S
  refine lv_aload_n hx hb dX12_init_52 rfl (lv_at hl 0 rfl) ?_
  refine lv_bipush (v := 12) hx hb dX12_init_53 (by decide) ?_
  refine cr_put (k := 7) (ty := .int) E S inlX12 rfl rfl (by decide) (th_apart E inlX12 rfl tyX12 tyX12_ok nmX12) qw_154 rfl (tyX12_ok 7 (by decide)) rfl rfl dX12_init_55 (fun H_28 locs_28 S oq => ?_)
  have S : CS D cI cS 12 B 178 179 184 184 (updV (updV (updV (updV (updV (updV (updV (fun k => defaultValue (tyX12 k)) 0 (.ref (B + 179))) 1 (.ref (B + 180))) 2 (.ref (B + 181))) 3 (.ref (B + 182))) 4 (.ref (B + 183))) 6 (.int 4)) 7 (.int 12)) H H_28 locs_28 := S
  refine lv_aload_n hx hb dX12_init_58 rfl (lv_at hl 0 rfl) ?_
  refine lv_iconst (v := 5) hx hb dX12_init_59 (by decide) ?_
  refine cr_put (k := 8) (ty := .int) E S inlX12 rfl rfl (by decide) (th_apart E inlX12 rfl tyX12 tyX12_ok nmX12) qw_155 rfl (tyX12_ok 8 (by decide)) rfl rfl dX12_init_60 (fun H_31 locs_31 S oq => ?_)
  have S : CS D cI cS 12 B 178 179 184 184 (updV (updV (updV (updV (updV (updV (updV (updV (fun k => defaultValue (tyX12 k)) 0 (.ref (B + 179))) 1 (.ref (B + 180))) 2 (.ref (B + 181))) 3 (.ref (B + 182))) 4 (.ref (B + 183))) 6 (.int 4)) 7 (.int 12)) 8 (.int 5)) H H_31 locs_31 := S
  refine lv_aload_n hx hb dX12_init_63 rfl (lv_at hl 0 rfl) ?_
  refine lv_iconst (v := 2) hx hb dX12_init_64 (by decide) ?_
  refine cr_newa (N := 2) E S (by decide) (by decide) ht184 (by decide) qw_1222 (Nat.le_of_ble_eq_true rfl) (Nat.le_of_ble_eq_true rfl) dX12_init_65 (fun H_34 S oq eb => ?_)
  have S : CS D cI cS 12 B 178 179 185 185 (updV (updV (updV (updV (updV (updV (updV (updV (fun k => defaultValue (tyX12 k)) 0 (.ref (B + 179))) 1 (.ref (B + 180))) 2 (.ref (B + 181))) 3 (.ref (B + 182))) 4 (.ref (B + 183))) 6 (.int 4)) 7 (.int 12)) 8 (.int 5)) H H_34 locs_31 := S
  have ea : H_34[B + 184]? = some (vp_cell cI (2, .inl (fun _ => 0))) := eb
  refine lv_dup hx hb dX12_init_67 rfl ?_
  refine lv_iconst (v := 0) hx hb dX12_init_68 (by decide) ?_
  refine lv_sipush (v := 250) hx hb dX12_init_69 (by decide) ?_
  refine cr_iast (j := 184) (N := 2) E S ea ht184 (by omega) (by omega) (x := 250) (y := 0) (k := 0) (by decide) (by decide) (by decide) dX12_init_72 (fun H_38 locs_38 S ea oq => ?_)
  have S : CS D cI cS 12 B 178 179 185 185 (updV (updV (updV (updV (updV (updV (updV (updV (fun k => defaultValue (tyX12 k)) 0 (.ref (B + 179))) 1 (.ref (B + 180))) 2 (.ref (B + 181))) 3 (.ref (B + 182))) 4 (.ref (B + 183))) 6 (.int 4)) 7 (.int 12)) 8 (.int 5)) H H_38 locs_38 := S
  have ea : H_38[B + 184]? = some (vp_cell cI (2, .inl (upd (fun _ => 0) 0 250))) := ea
  refine lv_dup hx hb dX12_init_73 rfl ?_
  refine lv_iconst (v := 1) hx hb dX12_init_74 (by decide) ?_
  refine lv_bipush (v := 100) hx hb dX12_init_75 (by decide) ?_
  refine cr_iast (j := 184) (N := 2) E S ea ht184 (by omega) (by omega) (x := 100) (y := 1) (k := 1) (by decide) (by decide) (by decide) dX12_init_77 (fun H_42 locs_42 S ea oq => ?_)
  have S : CS D cI cS 12 B 178 179 185 185 (updV (updV (updV (updV (updV (updV (updV (updV (fun k => defaultValue (tyX12 k)) 0 (.ref (B + 179))) 1 (.ref (B + 180))) 2 (.ref (B + 181))) 3 (.ref (B + 182))) 4 (.ref (B + 183))) 6 (.int 4)) 7 (.int 12)) 8 (.int 5)) H H_42 locs_42 := S
  have ea : H_42[B + 184]? = some (vp_cell cI (2, .inl (upd (upd (fun _ => 0) 0 250) 1 100))) := ea
  refine cr_putF (k := 9) (ty := .array .int) E S inlX12 rfl rfl (by decide) (th_apart E inlX12 rfl tyX12 tyX12_ok nmX12) qw_165 rfl hin rfl (tyX12_ok 9 (by decide)) rfl rfl dX12_init_78 (fun H_43 locs_43 S oq => ?_)
  have S : CS D cI cS 12 B 178 179 185 185 (updV (updV (updV (updV (updV (updV (updV (updV (updV (fun k => defaultValue (tyX12 k)) 0 (.ref (B + 179))) 1 (.ref (B + 180))) 2 (.ref (B + 181))) 3 (.ref (B + 182))) 4 (.ref (B + 183))) 6 (.int 4)) 7 (.int 12)) 8 (.int 5)) 9 (.ref (B + 184))) H H_43 locs_43 := S
  have ea : H_43[B + 184]? = some (vp_cell cI (2, .inl (upd (upd (fun _ => 0) 0 250) 1 100))) := (oq _ (by omega)).trans ea
  refine lv_aload_n hx hb dX12_init_81 rfl (lv_at hl 0 rfl) ?_
  refine lv_iconst (v := 2) hx hb dX12_init_82 (by decide) ?_
  refine cr_newa (N := 2) E S (by decide) (by decide) ht185 (by decide) qw_1222 (Nat.le_of_ble_eq_true rfl) (Nat.le_of_ble_eq_true rfl) dX12_init_83 (fun H_46 S oq eb => ?_)
  have ea : H_46[B + 184]? = some (vp_cell cI (2, .inl (upd (upd (fun _ => 0) 0 250) 1 100))) := (oq _ (by omega)).trans ea
  have S : CS D cI cS 12 B 178 179 186 186 (updV (updV (updV (updV (updV (updV (updV (updV (updV (fun k => defaultValue (tyX12 k)) 0 (.ref (B + 179))) 1 (.ref (B + 180))) 2 (.ref (B + 181))) 3 (.ref (B + 182))) 4 (.ref (B + 183))) 6 (.int 4)) 7 (.int 12)) 8 (.int 5)) 9 (.ref (B + 184))) H H_46 locs_43 := S
  refine cr_putF (k := 15) (ty := .array .int) E S inlX12 rfl rfl (by decide) (th_apart E inlX12 rfl tyX12 tyX12_ok nmX12) qw_164 rfl hin rfl (tyX12_ok 15 (by decide)) rfl rfl dX12_init_85 (fun H_47 locs_47 S oq => ?_)
  have S : CS D cI cS 12 B 178 179 186 186 (updV (updV (updV (updV (updV (updV (updV (updV (updV (updV (fun k => defaultValue (tyX12 k)) 0 (.ref (B + 179))) 1 (.ref (B + 180))) 2 (.ref (B + 181))) 3 (.ref (B + 182))) 4 (.ref (B + 183))) 6 (.int 4)) 7 (.int 12)) 8 (.int 5)) 9 (.ref (B + 184))) 15 (.ref (B + 185))) H H_47 locs_47 := S
  have ea : H_47[B + 184]? = some (vp_cell cI (2, .inl (upd (upd (fun _ => 0) 0 250) 1 100))) := (oq _ (by omega)).trans ea
  have hok : ∀ k, k < nF 12 → okV (tq B 178 186) (B + RB 178 k) (fT 12 k) ((updV (updV (updV (updV (updV (updV (updV (updV (updV (updV (fun k => defaultValue (tyX12 k)) 0 (.ref (B + 179))) 1 (.ref (B + 180))) 2 (.ref (B + 181))) 3 (.ref (B + 182))) 4 (.ref (B + 183))) 6 (.int 4)) 7 (.int 12)) 8 (.int 5)) 9 (.ref (B + 184))) 15 (.ref (B + 185))) k) := by
    intro k hk
    have hk : k < 16 := hk
    rcases (show k = 0 ∨ k = 1 ∨ k = 2 ∨ k = 3 ∨ k = 4 ∨ k = 5 ∨ k = 6 ∨ k = 7 ∨ k = 8 ∨ k = 9 ∨ k = 10 ∨ k = 11 ∨ k = 12 ∨ k = 13 ∨ k = 14 ∨ k = 15 by omega) with rfl | rfl | rfl | rfl | rfl | rfl | rfl | rfl | rfl | rfl | rfl | rfl | rfl | rfl | rfl | rfl
    · exact Or.inr (Or.inr (Or.inr (Or.inl ⟨by decide, by decide, by rw [hr0]; rfl⟩)))
    · exact Or.inr (Or.inr (Or.inr (Or.inl ⟨by decide, by decide, by rw [hr1]; rfl⟩)))
    · exact Or.inr (Or.inr (Or.inr (Or.inl ⟨by decide, by decide, by rw [hr2]; rfl⟩)))
    · exact Or.inr (Or.inr (Or.inr (Or.inl ⟨by decide, by decide, by rw [hr3]; rfl⟩)))
    · exact Or.inr (Or.inr (Or.inr (Or.inl ⟨by decide, by decide, by rw [hr4]; rfl⟩)))
    · exact Or.inl ⟨rfl, _, rfl⟩
    · exact Or.inl ⟨rfl, _, rfl⟩
    · exact Or.inl ⟨rfl, _, rfl⟩
    · exact Or.inl ⟨rfl, _, rfl⟩
    · exact Or.inr (Or.inr (Or.inr (Or.inl ⟨by decide, by decide, by rw [hr9]; rfl⟩)))
    · exact Or.inl ⟨rfl, _, rfl⟩
    · exact Or.inl ⟨rfl, _, rfl⟩
    · exact Or.inl ⟨rfl, _, rfl⟩
    · exact Or.inl ⟨rfl, _, rfl⟩
    · exact Or.inl ⟨rfl, _, rfl⟩
    · exact Or.inr (Or.inr (Or.inr (Or.inl ⟨by decide, by decide, by rw [hr15]; rfl⟩)))
  have hT : TH D cI cS (tq B 178 186) (rq B) H_47 := by
    intro a u ha
    obtain ⟨j, rfl, h1, h2, h3⟩ := tq_some ha
    by_cases e : j = 178
    · subst e
      rw [← Option.some.inj (ht0.symm.trans h3)]
      exact Or.inl ⟨by decide, _, S.ob, fun k hk => by rw [rq_at]; exact hok k hk⟩
    · refine sh_arr ?_ (S.rg j u (by omega) h2 h3)
      rcases (show j = 179 ∨ j = 180 ∨ j = 181 ∨ j = 182 ∨ j = 183 ∨ j = 184 ∨ j = 185 by omega) with rfl | rfl | rfl | rfl | rfl | rfl | rfl
      · cases (ht179.symm.trans h3); decide
      · cases (ht180.symm.trans h3); decide
      · cases (ht181.symm.trans h3); decide
      · cases (ht182.symm.trans h3); decide
      · cases (ht183.symm.trans h3); decide
      · cases (ht184.symm.trans h3); decide
      · cases (ht185.symm.trans h3); decide
  have hS : SS (fun q => B + 178 ≤ q) H_47 H_47 locs_47 := ⟨rfl, fun _ _ => rfl, S.lc⟩
  have hτ : tq B 178 186 (B + 178) = some 12 := (tq_at (by omega) (by omega)).trans ht0
  have f5 : fi D 12 5 H_47 (B + 178) = 0 := congrArg vI (t_OB_sl S.ob (k := 5) (by decide))
  have f6 : fi D 12 6 H_47 (B + 178) = 4 := congrArg vI (t_OB_sl S.ob (k := 6) (by decide))
  have f7 : fi D 12 7 H_47 (B + 178) = 12 := congrArg vI (t_OB_sl S.ob (k := 7) (by decide))
  have f8 : fi D 12 8 H_47 (B + 178) = 5 := congrArg vI (t_OB_sl S.ob (k := 8) (by decide))
  have g0 : ai H_47 (rq B (B + 178) 9) 0 = 250 := by
    rw [qx_15]
    simp only [ai, sl, ea, vp_cell_i, Option.bind_some, arrV_read _ _ (show 0 < 2 by decide), Option.getD_some, vI]
    rfl
  have g1 : ai H_47 (rq B (B + 178) 9) 1 = 100 := by
    rw [qx_15]
    simp only [ai, sl, ea, vp_cell_i, Option.bind_some, arrV_read _ _ (show 1 < 2 by decide), Option.getD_some, vI]
    rfl
  refine lv_aload_n hx hb dX12_init_88 rfl (lv_at hl 0 rfl) ?_
  refine th_Vv (As := []) (rest := []) E hml hl.1 (c_X12_begins_v2 l D cI cS (tq B 178 186) (rq B) hWM H_47 hT (B + 178) hτ (by rw [qx_14]; omega) f7) lk_X12_41 yd_X12_begins hT hτ rfl (by decide) hS (fun q h => by simp only [qx_14] at h; show B + 178 ≤ q; omega) ⟨by decide, by decide⟩ (Nat.le_of_ble_eq_true rfl) ⟨Nat.le_of_ble_eq_true rfl, Nat.le_of_ble_eq_true rfl⟩ rfl dX12_init_89 (fun G_9 glocs_9 p hT9 hk hS9 => ?_)
  have hk9 : ∀ q, q < B + 178 → G_9[q]? = H[q]? := fun q hq => (hS9.2.1 q (by omega)).trans (S.kp q hq)
  have hz9 : G_9.size = B + 186 := hS9.1.trans S.sz
  have f5 := (fi_q (D := D) (t := 12) (k := 5) (hk (B + 178) (fun h => by simp only [qx_14] at h; omega))).trans f5
  have f6 := (fi_q (D := D) (t := 12) (k := 6) (hk (B + 178) (fun h => by simp only [qx_14] at h; omega))).trans f6
  have f7 := (fi_q (D := D) (t := 12) (k := 7) (hk (B + 178) (fun h => by simp only [qx_14] at h; omega))).trans f7
  have f8 := (fi_q (D := D) (t := 12) (k := 8) (hk (B + 178) (fun h => by simp only [qx_14] at h; omega))).trans f8
  have g0 := (ai_q (j := 0) (hk (rq B (B + 178) 9) (fun h => by simp only [qx_14, qx_15] at h; omega))).trans g0
  have g1 := (ai_q (j := 1) (hk (rq B (B + 178) 9) (fun h => by simp only [qx_14, qx_15] at h; omega))).trans g1
  exact W.vret hx hb hr (fun t2 ht2 hW => ⟨⟨G_9, rfl, ⟨hz9, hT9, f5, f6, f7, f8, p, g0, g1⟩, ht2⟩, by rw [ht2, hs, hz9, hsz]; omega, fun q h1 h2 => by rw [ht2, hs]; exact hk9 q (by omega)⟩) hS9.2.2 dX12_init_92 hlk
set_option maxRecDepth 100000 in
theorem lay11 : LX11 := ⟨by decide +kernel, ⟨by decide +kernel, by decide +kernel, by decide +kernel⟩, ⟨by decide +kernel, by decide +kernel⟩, ⟨by decide +kernel, ⟨by decide +kernel, by decide +kernel⟩, ⟨by decide +kernel, by decide +kernel, ⟨by decide +kernel, by decide +kernel, by decide +kernel, by decide +kernel, by decide +kernel⟩, ⟨by decide +kernel, by decide +kernel, by decide +kernel, by decide +kernel, by decide +kernel⟩, ⟨by decide +kernel, by decide +kernel, by decide +kernel, by decide +kernel, by decide +kernel⟩, ⟨by decide +kernel, by decide +kernel, by decide +kernel, by decide +kernel, by decide +kernel⟩, ⟨by decide +kernel, by decide +kernel, by decide +kernel, by decide +kernel, by decide +kernel⟩, ⟨by decide +kernel, by decide +kernel, by decide +kernel, by decide +kernel, by decide +kernel⟩, ⟨by decide +kernel, by decide +kernel, by decide +kernel, by decide +kernel, by decide +kernel⟩, ⟨by decide +kernel, by decide +kernel, by decide +kernel, by decide +kernel, by decide +kernel⟩, ⟨by decide +kernel, by decide +kernel, by decide +kernel, by decide +kernel, by decide +kernel⟩, ⟨by decide +kernel, by decide +kernel, by decide +kernel, by decide +kernel, by decide +kernel⟩, ⟨by decide +kernel, by decide +kernel, by decide +kernel, by decide +kernel, by decide +kernel⟩, ⟨by decide +kernel, by decide +kernel, by decide +kernel, by decide +kernel, by decide +kernel⟩, ⟨by decide +kernel, by decide +kernel, by decide +kernel, by decide +kernel, by decide +kernel⟩, ⟨by decide +kernel, by decide +kernel, by decide +kernel, by decide +kernel, by decide +kernel⟩, ⟨by decide +kernel, by decide +kernel, by decide +kernel, by decide +kernel, by decide +kernel⟩, ⟨by decide +kernel, by decide +kernel, by decide +kernel, by decide +kernel, by decide +kernel⟩, ⟨by decide +kernel, by decide +kernel, by decide +kernel, by decide +kernel, by decide +kernel⟩, ⟨by decide +kernel, by decide +kernel, by decide +kernel, by decide +kernel, by decide +kernel⟩, ⟨by decide +kernel, by decide +kernel, by decide +kernel, by decide +kernel, by decide +kernel⟩, ⟨by decide +kernel, by decide +kernel, by decide +kernel, by decide +kernel, by decide +kernel⟩, ⟨by decide +kernel, by decide +kernel, by decide +kernel, by decide +kernel, by decide +kernel⟩, ⟨by decide +kernel, by decide +kernel, by decide +kernel, by decide +kernel, by decide +kernel⟩, by decide +kernel, by decide +kernel⟩, (by decide +kernel), ⟨by decide +kernel, ⟨by decide +kernel, by decide +kernel, by decide +kernel⟩, ⟨by decide +kernel, by decide +kernel, by decide +kernel⟩, ⟨by decide +kernel, by decide +kernel, by decide +kernel⟩, by decide +kernel, by decide +kernel, by decide +kernel, by decide +kernel, by decide +kernel, by decide +kernel⟩, ⟨by decide +kernel, ⟨by decide +kernel, by decide +kernel, by decide +kernel⟩, ⟨by decide +kernel, by decide +kernel, by decide +kernel⟩, ⟨by decide +kernel, by decide +kernel, by decide +kernel⟩, by decide +kernel, by decide +kernel, by decide +kernel, by decide +kernel, by decide +kernel, by decide +kernel⟩, ⟨by decide +kernel, by decide +kernel⟩, ⟨by decide +kernel, by decide +kernel⟩, by decide +kernel, by decide +kernel, by decide +kernel, by decide +kernel, by decide +kernel, by decide +kernel, by decide +kernel⟩, ⟨by decide +kernel, ⟨by decide +kernel, by decide +kernel⟩, ⟨by decide +kernel, by decide +kernel, ⟨by decide +kernel, by decide +kernel, by decide +kernel, by decide +kernel, by decide +kernel⟩, ⟨by decide +kernel, by decide +kernel, by decide +kernel, by decide +kernel, by decide +kernel⟩, ⟨by decide +kernel, by decide +kernel, by decide +kernel, by decide +kernel, by decide +kernel⟩, ⟨by decide +kernel, by decide +kernel, by decide +kernel, by decide +kernel, by decide +kernel⟩, ⟨by decide +kernel, by decide +kernel, by decide +kernel, by decide +kernel, by decide +kernel⟩, ⟨by decide +kernel, by decide +kernel, by decide +kernel, by decide +kernel, by decide +kernel⟩, ⟨by decide +kernel, by decide +kernel, by decide +kernel, by decide +kernel, by decide +kernel⟩, ⟨by decide +kernel, by decide +kernel, by decide +kernel, by decide +kernel, by decide +kernel⟩, ⟨by decide +kernel, by decide +kernel, by decide +kernel, by decide +kernel, by decide +kernel⟩, ⟨by decide +kernel, by decide +kernel, by decide +kernel, by decide +kernel, by decide +kernel⟩, ⟨by decide +kernel, by decide +kernel, by decide +kernel, by decide +kernel, by decide +kernel⟩, ⟨by decide +kernel, by decide +kernel, by decide +kernel, by decide +kernel, by decide +kernel⟩, ⟨by decide +kernel, by decide +kernel, by decide +kernel, by decide +kernel, by decide +kernel⟩, ⟨by decide +kernel, by decide +kernel, by decide +kernel, by decide +kernel, by decide +kernel⟩, ⟨by decide +kernel, by decide +kernel, by decide +kernel, by decide +kernel, by decide +kernel⟩, ⟨by decide +kernel, by decide +kernel, by decide +kernel, by decide +kernel, by decide +kernel⟩, ⟨by decide +kernel, by decide +kernel, by decide +kernel, by decide +kernel, by decide +kernel⟩, ⟨by decide +kernel, by decide +kernel, by decide +kernel, by decide +kernel, by decide +kernel⟩, ⟨by decide +kernel, by decide +kernel, by decide +kernel, by decide +kernel, by decide +kernel⟩, ⟨by decide +kernel, by decide +kernel, by decide +kernel, by decide +kernel, by decide +kernel⟩, ⟨by decide +kernel, by decide +kernel, by decide +kernel, by decide +kernel, by decide +kernel⟩, ⟨by decide +kernel, by decide +kernel, by decide +kernel, by decide +kernel, by decide +kernel⟩, by decide +kernel, by decide +kernel⟩, (by decide +kernel), ⟨by decide +kernel, ⟨by decide +kernel, by decide +kernel, by decide +kernel⟩, ⟨by decide +kernel, by decide +kernel, by decide +kernel⟩, ⟨by decide +kernel, by decide +kernel, by decide +kernel⟩, by decide +kernel, by decide +kernel, by decide +kernel, by decide +kernel, by decide +kernel, by decide +kernel⟩, ⟨by decide +kernel, ⟨by decide +kernel, by decide +kernel, by decide +kernel⟩, ⟨by decide +kernel, by decide +kernel, by decide +kernel⟩, ⟨by decide +kernel, by decide +kernel, by decide +kernel⟩, by decide +kernel, by decide +kernel, by decide +kernel, by decide +kernel, by decide +kernel, by decide +kernel⟩, ⟨by decide +kernel, by decide +kernel⟩, ⟨by decide +kernel, by decide +kernel⟩, by decide +kernel, by decide +kernel, by decide +kernel, by decide +kernel, by decide +kernel, by decide +kernel, by decide +kernel⟩, by decide +kernel, by decide +kernel, by decide +kernel, by decide +kernel⟩
set_option maxRecDepth 100000 in
theorem lay12 : LX12 := ⟨by decide +kernel, by decide +kernel, by decide +kernel, by decide +kernel, by decide +kernel, by decide +kernel, by decide +kernel, by decide +kernel, by decide +kernel, by decide +kernel, by decide +kernel, by decide +kernel, by decide +kernel, by decide +kernel, by decide +kernel⟩
