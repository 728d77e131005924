/-! THE CLAIM OUT OF ONE WALK OF THE LAW'S BODY. Your part is whole_start (and what it stands on); all else here is the same for every law, but numbers. -/
def R_law : String := "StreamEndsLaw"
def lw_P (b : Addr) (xs : List Int32) (args : Array Value) (s : State) : Prop := args = #[.ref b] ∧ s.IntsAt b xs ∧ xs.length ≤ 2048 ∧ (Jvm.Cond.and given_1 narrow_1).before args s = true
def lw_Q (_ : Array Value) (s : State) (o : Outcome) (t : State) : Prop := o = .returned (some (.int 1)) ∧ Framed s o t [] 600000 7302250
def lw_Z (below : List Frame) (a : Array Value) (s : State) : State → Prop := fun t => ∃ o, t.status = .running ∧ Ended t below o ∧ lw_Q a s o t
/-- the law's own end, with 1 on the stack, nothing written that was there before, its room as the claim has it -/
theorem lw_ret {p : Program} {l : Launch} {e : Env} {s : State} {m : MethodId} {below : List Frame} {meth : Method} {c : Code} {b : Nat} (hx : p.tables.exec = Jvm.exec) (hb : c.code = code) (hr : meth.sig.returnType = ret) (hlocks : meth.locks = false) {pc : Nat} {H : Heap} {ls : Array Slot} (hdg : decode code pc = .ok (.ireturn, 1)) : W p l e room_1 s m #[Value.ref b] below meth c H [] 600000 7302250 (lw_Z below #[Value.ref b] s) (F0 m pc ls [.int 1]) := by
  intro T hT X
  obtain ⟨fs, hret, hrun, hended, hW, hframe⟩ := X.leave (v := some (.int 1)) (hlocks := hlocks) (fun h => by rw [hr] at h; cases h)
  have hmeth' : T.vm.method? m = some meth := X.method'
  refine ⟨T.setFrames fs, ?_, .returned (some (.int 1)), hrun, hended, rfl, ⟨_, rfl⟩, hW, hframe⟩
  jvm_step X.here [X.here.top, hx, hb, hdg, hmeth', hr, ret, narrow_b1]
  (try refine ⟨rfl, ?_⟩); (try refine ⟨rfl, ?_⟩)
  first | (intro acts; rw [hret _ acts rfl rfl rfl]) | rw [hret _ _ rfl rfl rfl]
  exact Steps.refl _
/-- what holds at the law's entry: the machine, the code, the tables' words (any of lw_tbl by 'hts w (by decide +kernel)'), the script of L ints xs at the cell b, what the Statement gives of the start (any of its parts by flat_of_before) -/
def lw_At (p : Program) (s : State) (m : MethodId) (meth : Method) (c : Code) (b L : Nat) (xs : Nat → Int32) : Prop :=
  p.tables.exec = Jvm.exec ∧ c.code = code ∧ meth.sig.returnType = ret ∧ c.maxLocals = 4 ∧ s.vm.findClass R_law = some m.cls ∧ (∀ w ∈ lw_tbl, w.before #[Value.ref b] s = true) ∧ va_X b L xs s s.heap ∧ b < s.heap.size ∧ meth.locks = false ∧ (Jvm.Cond.and given_1 narrow_1).before #[Value.ref b] s = true
theorem qw_1267 : Cond.classLink RL 7 RX11 ∈ TT := q_in (List.mem_append_right _ (List.mem_append_left _ (List.mem_of_getElem? (i := 16) (by decide +kernel)))) rfl
theorem qw_1268 : Cond.code yX11_init cX11_init 1 none ∈ TT := q_in (List.mem_append_right _ (List.mem_append_left _ (List.mem_of_getElem? (i := 20) (by decide +kernel)))) rfl
theorem qw_1269 : Cond.methodLink RL 9 yX11_init ∈ TT := q_in (List.mem_append_right _ (List.mem_append_left _ (List.mem_of_getElem? (i := 18) (by decide +kernel)))) rfl
theorem qw_1270 : Cond.instanceMethod yX11_init ∈ TT := q_in (List.mem_append_right _ (List.mem_append_left _ (List.mem_of_getElem? (i := 19) (by decide +kernel)))) rfl
theorem qw_1271 : Cond.classLink RL 10 RX12 ∈ TT := q_in (List.mem_append_right _ (List.mem_append_right _ (List.mem_append_right _ (List.mem_append_right _ (List.mem_append_right _ (List.mem_append_left _ (List.mem_of_getElem? (i := 13) (by decide +kernel)))))))) rfl
theorem qw_1272 : Cond.code yX12_init cX12_init 1 none ∈ TT := q_in (List.mem_append_right _ (List.mem_append_right _ (List.mem_append_right _ (List.mem_append_right _ (List.mem_append_right _ (List.mem_append_left _ (List.mem_of_getElem? (i := 17) (by decide +kernel)))))))) rfl
theorem qw_1273 : Cond.methodLink RL 12 yX12_init ∈ TT := q_in (List.mem_append_right _ (List.mem_append_right _ (List.mem_append_right _ (List.mem_append_right _ (List.mem_append_right _ (List.mem_append_left _ (List.mem_of_getElem? (i := 15) (by decide +kernel)))))))) rfl
theorem qw_1274 : Cond.instanceMethod yX12_init ∈ TT := q_in (List.mem_append_right _ (List.mem_append_right _ (List.mem_append_right _ (List.mem_append_right _ (List.mem_append_right _ (List.mem_append_left _ (List.mem_of_getElem? (i := 16) (by decide +kernel)))))))) rfl
section LWE
variable {p : Program} {l : Launch} {e : Env} {s : State} {m : MethodId} {below : List Frame} {meth : Method} {c : Code} {H : Heap} {locs : List Loc} {ls : Array Slot} {B b L : Nat} {xs : Nat → Int32} {D : va_G} {cI cS : ClassId}
theorem lw_end (hx : p.tables.exec = Jvm.exec) (hb : c.code = cL_law) (hr : meth.sig.returnType = ret) (hlocks : meth.locks = false) (hB : s.heap.size = B) (hlo : ∀ x ∈ locs, B ≤ x.base) : W p l e room_1 s m #[Value.ref b] below meth c H locs 600000 7302250 (lw_Z below #[Value.ref b] s) (F0 m 772 ls []) := by
  refine lv_iconst (v := 1) hx hb dL_law_772 (by decide) ?_
  refine va_forget (fun q hq => by rw [hB]; exact hlo q hq) ?_
  exact lw_ret hx hb hr hlocks dL_law_773
theorem ne_i {v c : Int32} {k : Int} (h : ¬ v = c) (hc : c.toInt = k) : v.toInt ≠ k := fun q => h (i_eqc q hc)
theorem le4 {i : Int32} {L : Nat} (hL : L ≤ 2048) : (Int32.ofNat L - 4).toInt = L - 4 := by
  have h1 : (Int32.ofNat L).toInt = L := Int32.toInt_ofNat_of_lt (by omega)
  exact i_mi h1 (b := 4) (by decide) rfl (by omega) (by omega)
set_option maxHeartbeats 4000000 in
set_option maxRecDepth 100000 in
theorem lw_step (hx : p.tables.exec = Jvm.exec) (hb : c.code = cL_law) (hr : meth.sig.returnType = ret) (hlocks : meth.locks = false) (hB : s.heap.size = B) (hL : L ≤ 2048) (E : EE p s m #[Value.ref b] c cL_law RL D cI cS) (hml : c.maxLocals = 4) (hWX : WF (tq B 0 178) (rq B)) (hWM : WF (tq B 178 186) (rq B)) (hbB : b < B) {n : Nat} {i : Int32} (hi : i.toInt = 4 * n) (hn : 4 * n + 4 ≤ L) (hl : lv_has ls 4 [(3, .int i), (2, .ref (B + 178)), (1, .ref (B + 0)), (0, .ref b)]) (hLV : LV D cI cS B n H) (hX : va_X b L xs s H) (hlo : ∀ x ∈ locs, B ≤ x.base) (kk : KL p l e s m #[Value.ref b] below meth c ls (lw_Z below #[Value.ref b] s) D cI cS n B b L xs) : W p l e room_1 s m #[Value.ref b] below meth c H locs 600000 7302250 (lw_Z below #[Value.ref b] s) (F0 m 26 ls []) := by
  have hin : vp_in i L := vp_in_iff.mpr ⟨by omega, by omega⟩
  have hn0 : (0 : Int) ≤ n := by omega
  have hn1 : (n : Int) + 1 ≤ 600 := by omega
  have hi0 : 0 ≤ i.toInt := by omega
  have hi1 : i.toInt + 4 ≤ L := by omega
  refine lv_aload_n hx hb dL_law_26 rfl (lv_at hl 3 rfl) ?_
  refine lv_iload_n hx hb dL_law_27 rfl (lv_at hl 0 rfl) ?_
  refine lw_sldg hx hb hX hin dL_law_28 ?_
  refine lv_bipush (v := 31) hx hb dL_law_29 (by decide) ?_
  refine lv_iand hx hb dL_law_31 ?_
  refine lv_topi (fun v ev => ?_)
  by_cases z0 : v = 0
  · refine th_topi z0 ?_
    refine lv_tableIn (tgt := 144) hx hb dL_law_32 (by decide) (by decide) rfl (by decide) ?_
    exact v_write E hml hl hWX hWM hLV hn0 hn1 hi0 hi1 hL hX hbB hlo kk
  by_cases z1 : v = 1
  · refine th_topi z1 ?_
    refine lv_tableIn (tgt := 167) hx hb dL_law_32 (by decide) (by decide) rfl (by decide) ?_
    exact v_wipe E hml hl hWX hWM hLV hn0 hn1 hi0 hi1 hL hX hbB hlo kk
  by_cases z2 : v = 2
  · refine th_topi z2 ?_
    refine lv_tableIn (tgt := 180) hx hb dL_law_32 (by decide) (by decide) rfl (by decide) ?_
    exact v_fault E hml hl hWX hWM hLV hn0 hn1 hi0 hi1 hL hX hbB hlo kk
  by_cases z3 : v = 3
  · refine th_topi z3 ?_
    refine lv_tableIn (tgt := 193) hx hb dL_law_32 (by decide) (by decide) rfl (by decide) ?_
    exact v_lay E hml hl hWX hWM hLV hn0 hn1 hi0 hi1 hL hX hbB hlo kk
  by_cases z4 : v = 4
  · refine th_topi z4 ?_
    refine lv_tableIn (tgt := 206) hx hb dL_law_32 (by decide) (by decide) rfl (by decide) ?_
    exact v_open E hml hl hWX hWM hLV hn0 hn1 hi0 hi1 hL hX hbB hlo kk
  by_cases z5 : v = 5
  · refine th_topi z5 ?_
    refine lv_tableIn (tgt := 239) hx hb dL_law_32 (by decide) (by decide) rfl (by decide) ?_
    exact v_say E hml hl hWX hWM hLV hn0 hn1 hi0 hi1 hL hX hbB hlo kk
  by_cases z6 : v = 6
  · refine th_topi z6 ?_
    refine lv_tableIn (tgt := 272) hx hb dL_law_32 (by decide) (by decide) rfl (by decide) ?_
    exact v_cry E hml hl hWX hWM hLV hn0 hn1 hi0 hi1 hL hX hbB hlo kk
  by_cases z7 : v = 7
  · refine th_topi z7 ?_
    refine lv_tableIn (tgt := 295) hx hb dL_law_32 (by decide) (by decide) rfl (by decide) ?_
    exact v_leave E hml hl hWX hWM hLV hn0 hn1 hi0 hi1 hL hX hbB hlo kk
  by_cases z8 : v = 8
  · refine th_topi z8 ?_
    refine lv_tableIn (tgt := 318) hx hb dL_law_32 (by decide) (by decide) rfl (by decide) ?_
    exact v_quit E hml hl hWX hWM hLV hn0 hn1 hi0 hi1 hL hX hbB hlo kk
  by_cases z9 : v = 9
  · refine th_topi z9 ?_
    refine lv_tableIn (tgt := 341) hx hb dL_law_32 (by decide) (by decide) rfl (by decide) ?_
    exact v_take E hml hl hWX hWM hLV hn0 hn1 hi0 hi1 hL hX hbB hlo kk
  by_cases z10 : v = 10
  · refine th_topi z10 ?_
    refine lv_tableIn (tgt := 364) hx hb dL_law_32 (by decide) (by decide) rfl (by decide) ?_
    exact v_arrive E hml hl hWX hWM hLV hn0 hn1 hi0 hi1 hL hX hbB hlo kk
  by_cases z11 : v = 11
  · refine th_topi z11 ?_
    refine lv_tableIn (tgt := 387) hx hb dL_law_32 (by decide) (by decide) rfl (by decide) ?_
    exact v_lose E hml hl hWX hWM hLV hn0 hn1 hi0 hi1 hL hX hbB hlo kk
  by_cases z12 : v = 12
  · refine th_topi z12 ?_
    refine lv_tableIn (tgt := 410) hx hb dL_law_32 (by decide) (by decide) rfl (by decide) ?_
    exact v_twice E hml hl hWX hWM hLV hn0 hn1 hi0 hi1 hL hX hbB hlo kk
  by_cases z13 : v = 13
  · refine th_topi z13 ?_
    refine lv_tableIn (tgt := 433) hx hb dL_law_32 (by decide) (by decide) rfl (by decide) ?_
    exact v_pass E hml hl hWX hWM hLV hn0 hn1 hi0 hi1 hL hX hbB hlo kk
  by_cases z14 : v = 14
  · refine th_topi z14 ?_
    refine lv_tableIn (tgt := 456) hx hb dL_law_32 (by decide) (by decide) rfl (by decide) ?_
    exact v_drive E hml hl hWX hWM hLV hn0 hn1 hi0 hi1 hL hX hbB hlo kk
  by_cases z15 : v = 15
  · refine th_topi z15 ?_
    refine lv_tableIn (tgt := 489) hx hb dL_law_32 (by decide) (by decide) rfl (by decide) ?_
    exact v_calm E hml hl hWX hWM hLV hn0 hn1 hi0 hi1 hL hX hbB hlo kk
  by_cases z16 : v = 16
  · refine th_topi z16 ?_
    refine lv_tableIn (tgt := 512) hx hb dL_law_32 (by decide) (by decide) rfl (by decide) ?_
    exact v_end E hml hl hWX hWM hLV hn0 hn1 hi0 hi1 hL hX hbB hlo kk
  by_cases z17 : v = 17
  · refine th_topi z17 ?_
    refine lv_tableIn (tgt := 545) hx hb dL_law_32 (by decide) (by decide) rfl (by decide) ?_
    exact v_sample E hml hl hWX hWM hLV hn0 hn1 hi0 hi1 hL hX hbB hlo kk
  by_cases z18 : v = 18
  · refine th_topi z18 ?_
    refine lv_tableIn (tgt := 578) hx hb dL_law_32 (by decide) (by decide) rfl (by decide) ?_
    exact v_span E hml hl hWX hWM hLV hn0 hn1 hi0 hi1 hL hX hbB hlo kk
  by_cases z19 : v = 19
  · refine th_topi z19 ?_
    refine lv_tableIn (tgt := 621) hx hb dL_law_32 (by decide) (by decide) rfl (by decide) ?_
    exact v_known E hml hl hWX hWM hLV hn0 hn1 hi0 hi1 hL hX hbB hlo kk
  by_cases z20 : v = 20
  · refine th_topi z20 ?_
    refine lv_tableIn (tgt := 654) hx hb dL_law_32 (by decide) (by decide) rfl (by decide) ?_
    exact v_letter E hml hl hWX hWM hLV hn0 hn1 hi0 hi1 hL hX hbB hlo kk
  by_cases z21 : v = 21
  · refine th_topi z21 ?_
    refine lv_tableIn (tgt := 687) hx hb dL_law_32 (by decide) (by decide) rfl (by decide) ?_
    exact v_byteOf E hml hl hWX hWM hLV hn0 hn1 hi0 hi1 hL hX hbB hlo kk
  by_cases z22 : v = 22
  · refine th_topi z22 ?_
    refine lv_tableIn (tgt := 720) hx hb dL_law_32 (by decide) (by decide) rfl (by decide) ?_
    exact v_cause E hml hl hWX hWM hLV hn0 hn1 hi0 hi1 hL hX hbB hlo kk
  by_cases z23 : v = 23
  · refine th_topi z23 ?_
    refine lv_tableIn (tgt := 743) hx hb dL_law_32 (by decide) (by decide) rfl (by decide) ?_
    exact v_count E hml hl hWX hWM hLV hn0 hn1 hi0 hi1 hL hX hbB hlo kk
  have n0 := ne_i z0 (k := 0) (by decide)
  have n1 := ne_i z1 (k := 1) (by decide)
  have n2 := ne_i z2 (k := 2) (by decide)
  have n3 := ne_i z3 (k := 3) (by decide)
  have n4 := ne_i z4 (k := 4) (by decide)
  have n5 := ne_i z5 (k := 5) (by decide)
  have n6 := ne_i z6 (k := 6) (by decide)
  have n7 := ne_i z7 (k := 7) (by decide)
  have n8 := ne_i z8 (k := 8) (by decide)
  have n9 := ne_i z9 (k := 9) (by decide)
  have n10 := ne_i z10 (k := 10) (by decide)
  have n11 := ne_i z11 (k := 11) (by decide)
  have n12 := ne_i z12 (k := 12) (by decide)
  have n13 := ne_i z13 (k := 13) (by decide)
  have n14 := ne_i z14 (k := 14) (by decide)
  have n15 := ne_i z15 (k := 15) (by decide)
  have n16 := ne_i z16 (k := 16) (by decide)
  have n17 := ne_i z17 (k := 17) (by decide)
  have n18 := ne_i z18 (k := 18) (by decide)
  have n19 := ne_i z19 (k := 19) (by decide)
  have n20 := ne_i z20 (k := 20) (by decide)
  have n21 := ne_i z21 (k := 21) (by decide)
  have n22 := ne_i z22 (k := 22) (by decide)
  have n23 := ne_i z23 (k := 23) (by decide)
  refine lv_tableOut (tgt := 766) hx hb dL_law_32 (by omega) (by decide) ?_
  exact kk H locs hlo hX ⟨hLV.1, hLV.2.1, hLV.2.2.1.mono (by omega), hLV.2.2.2⟩
theorem lw_loop (hx : p.tables.exec = Jvm.exec) (hb : c.code = cL_law) (hr : meth.sig.returnType = ret) (hlocks : meth.locks = false) (hB : s.heap.size = B) (hL : L ≤ 2048) (E : EE p s m #[Value.ref b] c cL_law RL D cI cS) (hml : c.maxLocals = 4) (hWX : WF (tq B 0 178) (rq B)) (hWM : WF (tq B 178 186) (rq B)) (hbB : b < B) : ∀ (k n : Nat) (i : Int32) (H : Heap) (locs : List Loc) (ls : Array Slot), i.toInt = 4 * n → L < 4 * n + 4 * k + 4 → 4 * n ≤ L → lv_has ls 4 [(3, .int i), (2, .ref (B + 178)), (1, .ref (B + 0)), (0, .ref b)] → LV D cI cS B n H → va_X b L xs s H → (∀ x ∈ locs, B ≤ x.base) → W p l e room_1 s m #[Value.ref b] below meth c H locs 600000 7302250 (lw_Z below #[Value.ref b] s) (F0 m 18 ls []) := by
  intro k
  induction k with
  | zero =>
    intro n i H locs ls hi hk hn hl hLV hX hlo
    refine lv_iload_n hx hb dL_law_18 rfl (lv_at hl 0 rfl) ?_
    refine lv_aload_n hx hb dL_law_19 rfl (lv_at hl 3 rfl) ?_
    refine lw_slen hx hb hX dL_law_20 ?_
    refine lv_iconst (v := 4) hx hb dL_law_21 (by decide) ?_
    refine lv_isub hx hb dL_law_22 ?_
    have h4 := le4 (i := i) hL
    refine lv_icmp_gt (tgt := 772) hx hb dL_law_23 (by decide) (fun c_ => ?_) (fun c_ => absurd (Int32.lt_iff_toInt_lt.mpr (by omega)) c_)
    exact lw_end hx hb hr hlocks hB hlo
  | succ k ih =>
    intro n i H locs ls hi hk hn hl hLV hX hlo
    refine lv_iload_n hx hb dL_law_18 rfl (lv_at hl 0 rfl) ?_
    refine lv_aload_n hx hb dL_law_19 rfl (lv_at hl 3 rfl) ?_
    refine lw_slen hx hb hX dL_law_20 ?_
    refine lv_iconst (v := 4) hx hb dL_law_21 (by decide) ?_
    refine lv_isub hx hb dL_law_22 ?_
    have h4 := le4 (i := i) hL
    refine lv_icmp_gt (tgt := 772) hx hb dL_law_23 (by decide) (fun c_ => ?_) (fun c_ => ?_)
    · exact lw_end hx hb hr hlocks hB hlo
    · have hn4 : 4 * n + 4 ≤ L := by
        have hq := mt Int32.lt_iff_toInt_lt.mpr c_
        omega
      refine lw_step hx hb hr hlocks hB hL E hml hWX hWM hbB hi hn4 hl hLV hX hlo ?_
      intro H1 locs1 hlo1 hX1 hLV1
      refine lv_iinc (v := i + 4) (lv' := [(3, .int (i + 4)), (2, .ref (B + 178)), (1, .ref (B + 0)), (0, .ref b)]) hx hb dL_law_766 hl (k := 0) rfl rfl (by decide) rfl (fun ls hl => ?_)
      refine lv_goto (tgt := 18) hx hb dL_law_769 (by decide) ?_
      have hi4 : (i + 4).toInt = 4 * ((n + 1 : Nat) : Int) := by
        have q : (i + 4).toInt = i.toInt + 4 := i_pl rfl (b := 4) (by decide) rfl (by omega) (by omega)
        omega
      exact ih (n + 1) (i + 4) H1 locs1 ls hi4 (by omega) (by omega) hl (by rw [show ((n + 1 : Nat) : Int) = (n : Int) + 1 by omega]; exact hLV1) hX1 hlo1
end LWE
set_option maxRecDepth 100000 in
theorem w0ok : ∀ k, k < 985 → bW k ≤ (w0f k).toInt ∧ (w0f k).toInt ≤ uW 0 k := by decide +kernel
theorem plz : ∀ k, k < 20 → bL k ≤ (0 : Int32).toInt ∧ (0 : Int32).toInt ≤ uL k := by decide +kernel
theorem im_start {D : va_G} {B : Nat} {u : Heap} (f5 : fi D 12 5 u (B + 178) = 0) (f6 : fi D 12 6 u (B + 178) = 4) (f7 : fi D 12 7 u (B + 178) = 12) (f8 : fi D 12 8 u (B + 178) = 5) (fw : ∀ j, j < 985 → ai u (rq B (B + 178) 0) j = w0f j) (fm : ∀ k, k < 20 → ai u (rq B (B + 178) 2) k = 0) (fa : ∀ k, k < 20 → ai u (rq B (B + 178) 3) k = 0) : IM D (rq B) 0 u (B + 178) := by
  have q0 : rq B (B + 178) 0 = B + 179 := rq_at
  have q1 : rq B (B + 178) 1 = B + 180 := rq_at
  have q2 : rq B (B + 178) 2 = B + 181 := rq_at
  have q3 : rq B (B + 178) 3 = B + 182 := rq_at
  have e0 : ∀ q : Nat, q = B + 179 → q ≠ B + 180 := fun q h => by omega
  have e2 : ∀ q : Nat, q = B + 181 → q ≠ B + 182 := fun q h => by omega
  refine ⟨fun k hk => by rw [fw k hk]; exact w0ok k hk, ?_, ?_, fun k hk => by rw [fm k hk]; exact plz k hk, fun k hk => by rw [fa k hk]; exact plz k hk, ?_, ?_, ?_, ?_, ?_, ?_⟩
  · intro _; rw [fw 2 (by decide)]; decide
  · intro _; rw [fw 290 (by decide)]; decide
  · rw [q1]; exact e0 _ q0
  · rw [q3]; exact e2 _ q2
  · rw [f6]; decide
  · rw [f7]; decide
  · rw [f8]; decide
  · rw [f5]; decide
set_option maxHeartbeats 4000000 in
set_option maxRecDepth 100000 in
/-- YOUR PART: from the entry, for every script of at most 2048 ints, the law comes to its end with true ('hflags': the launch's flags, for a law that throws: no stack traces) -/
theorem whole_start {p : Program} {e : Env} {s : State} {m : MethodId} {below : List Frame} {meth : Method} {c : Code} (l : Launch) (hflags : l.flags = flags0) {b L : Nat} {xs : Nat → Int32} (hL : L ≤ 2048) (C0 : lw_At p s m meth c b L xs) : W p l e room_1 s m #[Value.ref b] below meth c s.heap [] 0 0 (lw_Z below #[Value.ref b] s) (entryFrame m ([Value.ref b] : List Value).toArray 4) := by
  obtain ⟨hx, hb, hr, hml, hown, hts, hX, hbl, hlocks, hgv⟩ := id C0
  have htt : ∀ w ∈ TT, w.before #[Value.ref b] s = true := fun w h => hts w (List.mem_filter.mp h).1
  have hAO : va_AO RX8 s := va_AO.of (A := #[Value.ref b]) (hts _ (List.mem_append_right _ (List.mem_append_left _ (List.mem_of_getElem? (i := 89) (by decide +kernel)))))
  have hNW : NW s := ⟨va_Nw.of rfl (hts _ (List.mem_append_right _ (List.mem_append_left _ (List.mem_of_getElem? (i := 26) (by decide +kernel))))), va_Nw.of rfl (hts _ (List.mem_append_right _ (List.mem_append_left _ (List.mem_of_getElem? (i := 76) (by decide +kernel))))), va_Nw.of rfl (hts _ (List.mem_append_right _ (List.mem_append_left _ (List.mem_of_getElem? (i := 184) (by decide +kernel))))), va_Nw.of rfl (hts _ (List.mem_append_right _ (List.mem_append_left _ (List.mem_of_getElem? (i := 227) (by decide +kernel))))), va_Nw.of rfl (hts _ (List.mem_append_right _ (List.mem_append_right _ (List.mem_append_left _ (List.mem_of_getElem? (i := 26) (by decide +kernel)))))), va_Nw.of rfl (hts _ (List.mem_append_right _ (List.mem_append_left _ (List.mem_of_getElem? (i := 165) (by decide +kernel))))), va_Nw.of rfl (hts _ (List.mem_append_right _ (List.mem_append_left _ (List.mem_of_getElem? (i := 91) (by decide +kernel))))), hAO⟩
  obtain ⟨D, cI, cS, hK⟩ := kk_start htt hAO
  have E : EE p s m #[Value.ref b] c cL_law RL D cI cS := ⟨hx, hb, hown, htt, hK⟩
  have hl := lv_entry ([.ref b]) (n := 4) (Nat.le_of_ble_eq_true rfl)
  rw [lg_entry_eq]
  generalize (lg_sl ([.ref b]) ++ List.replicate (4 - (lg_sl ([.ref b])).length) Slot.unset).toArray = ls at hl ⊢
  have hl : lv_has ls 4 [(0, .ref b)] := hl
  obtain ⟨B, hB⟩ : ∃ B, s.heap.size = B := ⟨_, rfl⟩
  have hbB : b < B := by rw [← hB]; exact hbl
  have hWX : WF (tq B 0 178) (rq B) := wfB_ok wfX B
  have hWM : WF (tq B 178 186) (rq B) := wfB_ok wfM B
  refine lw_new (u := 11) (N := 4) (n := B + 0) tyX11 E hB inlX11 rfl rfl tyX11_ok qw_1267 qw_1265 qw_549 (Nat.le_of_ble_eq_true rfl) (Nat.le_of_ble_eq_true rfl) dL_law_0 (fun H_1 z1 o1 ob1 => ?_)
  refine lv_dup hx hb dL_law_3 rfl ?_
  refine lw_ctor (i := 0) E hNW hml hl.1 z1 (k_X11_init l D cI cS B H_1 ob1 z1 lay11) qw_1268 qw_549 qw_1269 qw_1270 rfl (by decide +kernel) ⟨Nat.le_of_ble_eq_true rfl, Nat.le_of_ble_eq_true rfl⟩ (Nat.le_of_ble_eq_true rfl) ⟨Nat.le_of_ble_eq_true rfl, Nat.le_of_ble_eq_true rfl⟩ (fun x h => by cases h) dL_law_4 (fun H_2 locs_2 p_2 o_2 hlo_2 => ?_)
  obtain ⟨z2, hTX, hFX⟩ := p_2
  refine lv_astore_n (lv' := [(1, .ref (B + 0)), (0, .ref b)]) hx hb dL_law_7 rfl hl (by decide) rfl (fun ls hl => ?_)
  refine lw_new (u := 12) (N := 16) (n := B + 178) tyX12 E z2 inlX12 rfl rfl tyX12_ok qw_1271 qw_1266 qw_629 (Nat.le_of_ble_eq_true rfl) (Nat.le_of_ble_eq_true rfl) dL_law_8 (fun H_3 z3 o3 ob3 => ?_)
  refine lv_dup hx hb dL_law_11 rfl ?_
  refine lw_ctor (i := 178) E hNW hml hl.1 z3 (k2_X12_init l D cI cS B H_3 ob3 z3 lay12) qw_1272 qw_629 qw_1273 qw_1274 rfl (by decide +kernel) ⟨Nat.le_of_ble_eq_true rfl, Nat.le_of_ble_eq_true rfl⟩ (Nat.le_of_ble_eq_true rfl) ⟨Nat.le_of_ble_eq_true rfl, Nat.le_of_ble_eq_true rfl⟩ hlo_2 dL_law_12 (fun H_4 locs_4 p_4 o_4 hlo_4 => ?_)
  obtain ⟨z4, hTM, f5, f6, f7, f8, fw, -, -, fm, fa⟩ := p_4
  have k4 : ∀ q, q < B + 178 → H_4[q]? = H_2[q]? := fun q hq => (o_4 q hq).trans (o3 q hq)
  have hTX := hTX.same (H1 := H_4) (fun q t h => k4 q (by obtain ⟨j, rfl, -, z9, -⟩ := tq_some h; omega))
  have hX4 : va_X b L xs s H_4 := hX.kept ((k4 b (by omega)).trans ((o_2 b (by omega)).trans (o1 b (by omega))))
  refine lv_astore_n (lv' := [(2, .ref (B + 178)), (1, .ref (B + 0)), (0, .ref b)]) hx hb dL_law_15 rfl hl (by decide) rfl (fun ls hl => ?_)
  refine lv_iconst (v := 0) hx hb dL_law_16 (by decide) ?_
  refine lv_istore_n (lv' := [(3, .int 0), (2, .ref (B + 178)), (1, .ref (B + 0)), (0, .ref b)]) hx hb dL_law_17 rfl hl (by decide) rfl (fun ls hl => ?_)
  refine W.widen (k := 600000) (n := 7302250) (Nat.le_of_ble_eq_true rfl) (Nat.le_of_ble_eq_true rfl) ?_
  have e9 : fi D 9 1 H_4 (rq B (B + 0) 0) = 0 := (fi_q (k4 _ (by rw [qx_1]; omega))).trans hFX.1
  have hLV : LV D cI cS B ((0 : Nat) : Int) H_4 := ⟨hTX, hTM, im_start f5 f6 f7 f8 fw fm fa, fun _ => 0, 0, TX.nil (by rw [e9]; decide), RX.nil (by rw [f5]; decide)⟩
  exact lw_loop hx hb hr hlocks hB hL E hml hWX hWM hbB L 0 0 H_4 locs_4 ls (by decide) (by omega) (by omega) hl hLV hX4 hlo_4
-- ===== YOUR PART ENDS =====
set_option maxHeartbeats 4000000 in
theorem lw_walk (l : Launch) (hflags : l.flags = flags0) (b : Addr) (xs : List Int32) : MetFree l x (headSpec (Jvm.Cond.code x code maxLocals ret :: tables_1) room_1) (lw_P b xs) (fun _ _ _ _ _ => True) lw_Q := by
  refine MetFree.of_bodyS (code := code) (maxLocals := maxLocals) (ret := ret) (by decide) ?_ ?_
  · intro args s m h hn
    obtain ⟨meth, c, h1, h2, h3, h4, h5, h6, -, -⟩ := Cond.code_spec hn (atoms_spec (ws := Jvm.Cond.code x code maxLocals ret :: tables_1) h _ List.mem_cons_self)
    exact ⟨meth, c, h1, h2, h3, h4, h5, h6⟩
  · intro p e s m args below meth c s₁ B hml0 hP _
    obtain ⟨rfl, hx, hbd, hgv⟩ := hP
    obtain ⟨scr, harrAt, hlist, hof, hsmall⟩ := hx
    obtain ⟨hcb, hkn, -, -⟩ := State.arrayAt?_spec harrAt
    have hown : s.vm.findClass R_law = some m.cls := findClass_of_methodNamed B.named
    have hts0 : ∀ c ∈ (Jvm.Cond.code x code maxLocals ret :: tables_1), c.before #[Value.ref b] s = true := atoms_spec (ws := Jvm.Cond.code x code maxLocals ret :: tables_1) B.pre
    have hts : ∀ w ∈ lw_tbl, w.before #[Value.ref b] s = true := k2_hts_sels lw_privs (fun w hw => hts0 w (List.mem_cons_of_mem _ hw)) lw_privs_ok
    have hml : c.maxLocals = 4 := B.maxLocals_eq (hts0 _ List.mem_cons_self)
    have X₀ : Stand p l e room_1 s m #[Value.ref b] below meth c s₁ [] 0 0 := Stand.of_body B
    have hh0 : s₁.heap = s.heap := by rw [B.state]; rfl
    have hsz : scr.slots.size = xs.length := by rw [← Array.length_toList, hlist, List.length_map]
    have hval : ∀ j : Nat, j < xs.length → scr.slots[j]? = some (.int (xs.getD j 0)) := fun j hj => by
      rw [← Array.getElem?_toList, hlist]
      simp [hj]
    have hbl : b < s.heap.size := (Array.getElem?_eq_some_iff.mp hcb).1
    have hX : va_X b xs.length (fun j => xs.getD j 0) s s.heap := ⟨scr, hcb, hof, hkn, hsz, hval⟩
    have K : W p l e room_1 s m #[Value.ref b] below meth c s₁.heap [] 0 0 (lw_Z below #[Value.ref b] s) (entryFrame m ([Value.ref b] : List Value).toArray 4) := by
      rw [hh0]
      exact whole_start l hflags hbd ⟨B.exec, B.bytes, B.returns, hml, hown, hts, hX, hbl, B.notSynchronized, hgv⟩
    obtain ⟨t, a1, o, b1, b2, b3⟩ := K s₁ rfl X₀
    exact ⟨t, o, a1, b1, b2, b3⟩
theorem lw_pre_spec {args : Array Value} {s : State} (h : (Jvm.Cond.and given_1 narrow_1).before args s = true) (hr : rest_1_c.before args s = true) : ∃ (b : Addr) (xs : List Int32), lw_P b xs args s := by
  have hs := flat_of_before _ h
  have hq := flat_of_before _ hr
  have hc : (Cond.count 1).before args s = true := hs _ (by decide +kernel)
  have harr : (Cond.arrayOf (.arg 0) .int).before args s = true := hs _ (by decide +kernel)
  have hle : (Cond.le (.length (.arg 0)) (.int 2048)).before args s = true := hs _ (by decide +kernel)
  have hlen : (Cond.isInt (.length (.arg 0))).before args s = true := hq _ (by decide +kernel)
  have hall : (Cond.all (.arg 0) (.isInt (.elem (.arg 0) (.index 0)))).before args s = true := hq _ (by decide +kernel)
  obtain ⟨b, xs, hb, hx⟩ := State.ints_of_pre rfl harr hlen hall
  have hsm : xs.length < 2 ^ 31 := hx.choose_spec.2.2.2
  have hev : (Term.length (.arg 0)).eval args s none [] s = some (.int xs.length.toInt32) := hx.length_eval hb
  have hv := Cond.le_ints hev (show (Term.int 2048).eval args s none [] s = some (.int 2048) from rfl)
  have hd : xs.length.toInt32 ≤ 2048 := by
    simpa [Cond.before, Cond.holds, hv] using hle
  have hN : xs.length ≤ 2048 := (Int32.ofNat_le_ofNat hsm (by decide)).mp (show Int32.ofNat xs.length ≤ Int32.ofNat 2048 from hd)
  exact ⟨b, xs, Cond.one_arg hc (show args[0]? = some (.ref b) from hb), hx, hN, h⟩
theorem lw_comes (l : Launch) (hflags : l.flags = flags0) : Comes l x (Jvm.Cond.code x code maxLocals ret :: tables_1) room_1 (fun tb e args s => Calls_1 tb e args s ∧ rest_1 tb e args s ∧ Pre_1 tb e args s)
    (fun _ _ args s o t => lw_Q args s o t) := by
  intro p e ha hc hk s m args below hf hfit hheap happ hpre
  obtain ⟨b, xs, hP⟩ := lw_pre_spec hpre.2.2 hpre.2.1
  obtain ⟨k, o, h1, h2, h3, hQ⟩ := lw_walk l hflags b xs p e ha hc hk s m args below hf ((Spec.applies_iff_loose hf).mp happ).1 hP trivial
  exact ⟨k, o, h1, h2, h3, hQ⟩
theorem lw_frame {s t : State} {o : Outcome} {args : Array Value} (h : Framed s o t [] 600000 7302250) :
    Framed s o t (fieldLocs frame_1_writes args s ++ arrayLocs frame_1_arrays args s ++ staticLocs frame_1_statics s) 600000 7302250 := h
theorem lw_limb (L : Cond) (hL : ∀ (args : Array Value) (s t : State), L.after args s (.returned (some (.int 1))) t = true) :
    ArmFor flags0 classFile x code maxLocals ret World_1 tables_1 room_1 Calls_1 rest_1 Pre_1
      (fun tb e a s o t => postC L tb e a s o t ∧ Framed s o t (fieldLocs frame_1_writes a s ++ arrayLocs frame_1_arrays a s ++ staticLocs frame_1_statics s) 600000 7302250) := by
  intro l hflags _ _ p e ha hc hk s m args below hf hfit hheap happ hpre
  obtain ⟨k, o, h1, h2, h3, rfl, hF⟩ := lw_comes l hflags p e ha hc hk s m args below hf hfit hheap happ hpre
  exact ⟨k, _, h1, h2, h3, hL args s _, lw_frame hF⟩
theorem i_vc : Claimed_1_1 ∧ Claimed_1_2 := ⟨lw_limb limb_1_1 (fun args s t => by simp [limb_1_1, Cond.after, Cond.holds, Cond.value]), lw_limb limb_1_2 (fun args s t => Cond.after_iff.mpr (by
  first | (rw [show limb_1_2 = Cond.eq .result (.int 1) from rfl, Cond.eq_ints (x := 1) (y := 1) rfl rfl]; simp; done) | (simp [limb_1_2, Cond.value, Term.eval]; done)))⟩
