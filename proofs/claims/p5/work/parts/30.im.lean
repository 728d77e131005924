/-! THE REFERENCE'S INVARIANT: bounds by place, N at least the calls so far -/
def bL (c : Nat) : Int := if c = 0 ∨ c = 5 ∨ c = 6 then 0 else -2147483648
def uL (c : Nat) : Int := if c = 0 then 1 else if c = 5 then 8 else if c = 6 then 2 else 2147483647
def bE (c : Nat) : Int := if 1 ≤ c ∧ c ≤ 7 then 0 else -2147483648
def uE (N : Int) (c : Nat) : Int := if c = 1 then N + 2 else if c = 2 then N + 2 else if c = 4 then N else if c = 5 then N + 33 else if c = 6 then N + 1 else if c = 7 then N + 33 else if c = 17 then N + 32 else if 160 ≤ c ∧ c < 224 then N + 33 else 2147483647
def bW (k : Nat) : Int := if k < 288 then bE k else if k < 576 then bE (k - 288) else if k < 976 then bL ((k - 576) % 20) else if k = 976 then 0 else -2147483648
def uW (N : Int) (k : Nat) : Int := if k < 288 then uE N k else if k < 576 then uE N (k - 288) else if k < 976 then uL ((k - 576) % 20) else if k = 976 then 20 else if k = 982 then 2 else 2147483647
def PW (N : Int) (H : Heap) (w : Nat) : Prop := ∀ k, k < 985 → bW k ≤ (ai H w k).toInt ∧ (ai H w k).toInt ≤ uW N k
def PL (H : Heap) (m : Nat) : Prop := ∀ k, k < 20 → bL k ≤ (ai H m k).toInt ∧ (ai H m k).toInt ≤ uL k
/-- in the states in which the bye isn't sent, no more is sent than said and the hello -/
def QS (N : Int) (H : Heap) (w i j : Nat) : Prop := ((ai H w i).toInt = 1 ∨ (ai H w i).toInt = 2 ∨ (ai H w i).toInt = 3 ∨ (ai H w i).toInt = 4 ∨ (ai H w i).toInt = 7) → (ai H w j).toInt ≤ N + 1
def IF (D : va_G) (ρ : Nat → Nat → Nat) (H : Heap) (a0 : Nat) : Prop := ρ a0 0 ≠ ρ a0 1 ∧ ρ a0 2 ≠ ρ a0 3 ∧ (1 ≤ (fi D 12 6 H a0).toInt ∧ (fi D 12 6 H a0).toInt ≤ 8) ∧ (2 ≤ (fi D 12 7 H a0).toInt ∧ (fi D 12 7 H a0).toInt ≤ 32) ∧ (1 ≤ (fi D 12 8 H a0).toInt ∧ (fi D 12 8 H a0).toInt ≤ 20) ∧ (0 ≤ (fi D 12 5 H a0).toInt ∧ (fi D 12 5 H a0).toInt ≤ 200)
def IM (D : va_G) (ρ : Nat → Nat → Nat) (N : Int) (H : Heap) (a0 : Nat) : Prop := PW N H (ρ a0 0) ∧ QS N H (ρ a0 0) 0 2 ∧ QS N H (ρ a0 0) 288 290 ∧ PL H (ρ a0 2) ∧ PL H (ρ a0 3) ∧ IF D ρ H a0
def IM0 (D : va_G) (ρ : Nat → Nat → Nat) (N : Int) (H : Heap) (a0 : Nat) : Prop := PW N H (ρ a0 0) ∧ PL H (ρ a0 2) ∧ PL H (ρ a0 3) ∧ IF D ρ H a0
theorem i_eqc {x c : Int32} {k : Int} (h : x.toInt = k) (hc : c.toInt = k) : x = c := Int32.toInt_inj.mp (h.trans hc.symm)
section MIV
variable {D : va_G} {ρ : Nat → Nat → Nat} {N : Int} {H H1 : Heap} {w m i j a0 : Nat} {x : Int32}
theorem PW.q (e : H1[w]? = H[w]?) (h : PW N H w) : PW N H1 w := fun k hk => by rw [ai_q e]; exact h k hk
theorem PL.q (e : H1[m]? = H[m]?) (h : PL H m) : PL H1 m := fun k hk => by rw [ai_q e]; exact h k hk
theorem IF.q (e : H1[a0]? = H[a0]?) (h : IF D ρ H a0) : IF D ρ H1 a0 := by
  unfold IF
  rw [fi_q e, fi_q e, fi_q e, fi_q e]
  exact h
theorem QS.q (e : H1[w]? = H[w]?) (h : QS N H w i j) : QS N H1 w i j := by unfold QS; rw [ai_q e, ai_q e]; exact h
theorem IF.f6 (h : IF D ρ H a0) : 1 ≤ (fi D 12 6 H a0).toInt ∧ (fi D 12 6 H a0).toInt ≤ 8 := h.2.2.1
theorem IF.f7 (h : IF D ρ H a0) : 2 ≤ (fi D 12 7 H a0).toInt ∧ (fi D 12 7 H a0).toInt ≤ 32 := h.2.2.2.1
theorem IF.f8 (h : IF D ρ H a0) : 1 ≤ (fi D 12 8 H a0).toInt ∧ (fi D 12 8 H a0).toInt ≤ 20 := h.2.2.2.2.1
theorem IF.f5 (h : IF D ρ H a0) : 0 ≤ (fi D 12 5 H a0).toInt ∧ (fi D 12 5 H a0).toInt ≤ 200 := h.2.2.2.2.2
theorem PW.put (h : PW N H w) (hU : AU 985 H H1 w j x) (lo : bW j ≤ x.toInt) (hi : x.toInt ≤ uW N j) : PW N H1 w := fun k hk => by
  rw [hU.1 k hk]
  split
  · rename_i e
    rw [e]
    exact ⟨lo, hi⟩
  · exact h k hk
theorem PL.put (h : PL H m) (hU : AU 20 H H1 m j x) (lo : bL j ≤ x.toInt) (hi : x.toInt ≤ uL j) : PL H1 m := fun k hk => by
  rw [hU.1 k hk]
  split
  · rename_i e
    rw [e]
    exact ⟨lo, hi⟩
  · exact h k hk
theorem PL.free (h : PL H m) (hU : AU 20 H H1 m j x) (hj : ¬ j = 0 ∧ ¬ j = 5 ∧ ¬ j = 6) : PL H1 m := by
  refine PL.put h hU ?_ ?_
  · unfold bL; rw [if_neg (by omega)]; exact i_min x
  · unfold uL; rw [if_neg (by omega), if_neg (by omega), if_neg (by omega)]; exact i_max x
theorem PL.zero (h : PL H m) (hU : AU 20 H H1 m j 0) : PL H1 m := by
  have z : (0 : Int32).toInt = 0 := by decide
  refine PL.put h hU ?_ ?_
  · rw [z]; unfold bL; split <;> omega
  · rw [z]; unfold uL; (repeat' split) <;> omega
theorem PW.free (h : PW N H w) (hU : AU 985 H H1 w j x) (hj : (8 ≤ j ∧ j < 17) ∨ (18 ≤ j ∧ j < 160) ∨ (224 ≤ j ∧ j < 288) ∨ (296 ≤ j ∧ j < 305) ∨ (306 ≤ j ∧ j < 448) ∨ (512 ≤ j ∧ j < 576)) : PW N H1 w := by
  have h1 := i_min x
  have h2 := i_max x
  refine PW.put h hU ?_ ?_
  · unfold bW bE; (repeat' split) <;> omega
  · unfold uW uE; (repeat' split) <;> omega
theorem PW.held (h : PW N H w) (hU : AU 985 H H1 w j x) (hj : (160 ≤ j ∧ j < 224) ∨ (448 ≤ j ∧ j < 512)) (hx : x.toInt ≤ N + 33) : PW N H1 w := by
  have h1 := i_min x
  have h2 := i_max x
  refine PW.put h hU ?_ ?_
  · unfold bW bE; (repeat' split) <;> omega
  · unfold uW uE; (repeat' split) <;> omega
theorem bW0 (j : Nat) : bW j ≤ 0 := by unfold bW bE bL; (repeat' split) <;> omega
theorem uW0 (hN : 0 ≤ N) (j : Nat) : 0 ≤ uW N j := by unfold uW uE uL; (repeat' split) <;> omega
theorem PW.zero (h : PW N H w) (hU : AU 985 H H1 w j 0) (hN : 0 ≤ N) : PW N H1 w := by
  have z : (0 : Int32).toInt = 0 := by decide
  exact PW.put h hU (by rw [z]; exact bW0 j) (by rw [z]; exact uW0 hN j)
theorem QS.zero (h : QS N H w i j) {k n : Nat} (hU : AU n H H1 w k 0) (hi : i < n) (hj : j < n) (hN : 0 ≤ N) : QS N H1 w i j := by
  have z : (0 : Int32).toInt = 0 := by decide
  intro q
  rw [hU.1 i hi] at q
  rw [hU.1 j hj]
  by_cases e : j = k
  · rw [if_pos e, z]; omega
  · rw [if_neg e]
    by_cases f : i = k
    · rw [if_pos f, z] at q; omega
    · rw [if_neg f] at q; exact h q
theorem bWl {k : Nat} (h1 : 576 ≤ k) (h2 : k < 976) : bW k = bL ((k - 576) % 20) := by unfold bW; rw [if_neg (by omega), if_neg (by omega), if_pos h2]
theorem uWl {k : Nat} (h1 : 576 ≤ k) (h2 : k < 976) : uW N k = uL ((k - 576) % 20) := by unfold uW; rw [if_neg (by omega), if_neg (by omega), if_pos h2]
theorem PW.let {c : Nat} (h : PW N H w) (hU : AU 985 H H1 w j x) (hj : 576 ≤ j ∧ j < 976) (hc : (j - 576) % 20 = c) (hx : bL c ≤ x.toInt ∧ x.toInt ≤ uL c) : PW N H1 w :=
  PW.put h hU (by rw [bWl hj.1 hj.2, hc]; exact hx.1) (by rw [uWl hj.1 hj.2, hc]; exact hx.2)
theorem PW.shift {k : Nat} (h : PW N H w) (hU : AU 985 H H1 w j x) (hx : bW k ≤ x.toInt ∧ x.toInt ≤ uW N k) (hj : 576 ≤ j ∧ j < 976) (hk : 576 ≤ k ∧ k < 976) (hc : (k - 576) % 20 = (j - 576) % 20) : PW N H1 w :=
  PW.let h hU hj hc.symm (by rw [← bWl hk.1 hk.2, ← uWl (N := N) hk.1 hk.2]; exact hx)
theorem PL.shift {k : Nat} (h : PL H m) (hU : AU 20 H H1 m j x) (hx : bW k ≤ x.toInt ∧ x.toInt ≤ uW N k) (hk : 576 ≤ k ∧ k < 976) (hc : (k - 576) % 20 = j) : PL H1 m :=
  PL.put h hU (by rw [← hc, ← bWl hk.1 hk.2]; exact hx.1) (by rw [← hc, ← uWl (N := N) hk.1 hk.2]; exact hx.2)
theorem QS.of {s t : Int32} (hs : ai H w i = s) (ht : ai H w j = t) (h : (s.toInt = 1 ∨ s.toInt = 2 ∨ s.toInt = 3 ∨ s.toInt = 4 ∨ s.toInt = 7) → t.toInt ≤ N + 1) : QS N H w i j := by
  unfold QS
  rw [hs, ht]
  exact h
theorem QS.same (hs : ai H1 w i = ai H w i) (ht : ai H1 w j = ai H w j) (h : QS N H w i j) : QS N H1 w i j := by
  unfold QS
  rw [hs, ht]
  exact h
theorem PW.mono {N1 : Int} (h : PW N H w) (hN : N ≤ N1) : PW N1 H w := fun k hk => ⟨(h k hk).1, Int.le_trans (h k hk).2 (by unfold uW uE; (repeat' split) <;> omega)⟩
theorem IM.mono {N1 : Int} (h : IM D ρ N H a0) (hN : N ≤ N1) : IM D ρ N1 H a0 := ⟨h.1.mono hN, fun q => Int.le_trans (h.2.1 q) (by omega), fun q => Int.le_trans (h.2.2.1 q) (by omega), h.2.2.2.1, h.2.2.2.2.1, h.2.2.2.2.2⟩
theorem PU.ne {k : Nat} {v : Value} (hU : PU D 12 k H H1 a0 v) (q : Nat) (h : q < 16) (hk : q ≠ k) : fi D 12 q H1 a0 = fi D 12 q H a0 := hU.io h hk
theorem IF.put {k : Nat} {v : Value} (h : IF D ρ H a0) (hU : PU D 12 k H H1 a0 v) (hk : ¬ k = 5 ∧ ¬ k = 6 ∧ ¬ k = 7 ∧ ¬ k = 8) : IF D ρ H1 a0 := by
  unfold IF
  rw [hU.ne 5 (by decide) (by omega), hU.ne 6 (by decide) (by omega), hU.ne 7 (by decide) (by omega), hU.ne 8 (by decide) (by omega)]
  exact h
theorem IF.put5 (h : IF D ρ H a0) (hU : PU D 12 5 H H1 a0 (.int x)) (hx : 0 ≤ x.toInt ∧ x.toInt ≤ 200) : IF D ρ H1 a0 := by
  unfold IF
  rw [hU.i, hU.ne 6 (by decide) (by omega), hU.ne 7 (by decide) (by omega), hU.ne 8 (by decide) (by omega)]
  exact ⟨h.1, h.2.1, h.2.2.1, h.2.2.2.1, h.2.2.2.2.1, hx⟩
theorem IF.put6 (h : IF D ρ H a0) (hU : PU D 12 6 H H1 a0 (.int x)) (hx : 1 ≤ x.toInt ∧ x.toInt ≤ 8) : IF D ρ H1 a0 := by
  unfold IF
  rw [hU.i, hU.ne 5 (by decide) (by omega), hU.ne 7 (by decide) (by omega), hU.ne 8 (by decide) (by omega)]
  exact ⟨h.1, h.2.1, hx, h.2.2.2.1, h.2.2.2.2.1, h.2.2.2.2.2⟩
theorem IF.put7 (h : IF D ρ H a0) (hU : PU D 12 7 H H1 a0 (.int x)) (hx : 2 ≤ x.toInt ∧ x.toInt ≤ 32) : IF D ρ H1 a0 := by
  unfold IF
  rw [hU.i, hU.ne 5 (by decide) (by omega), hU.ne 6 (by decide) (by omega), hU.ne 8 (by decide) (by omega)]
  exact ⟨h.1, h.2.1, h.2.2.1, hx, h.2.2.2.2.1, h.2.2.2.2.2⟩
theorem IF.put8 (h : IF D ρ H a0) (hU : PU D 12 8 H H1 a0 (.int x)) (hx : 1 ≤ x.toInt ∧ x.toInt ≤ 20) : IF D ρ H1 a0 := by
  unfold IF
  rw [hU.i, hU.ne 5 (by decide) (by omega), hU.ne 6 (by decide) (by omega), hU.ne 7 (by decide) (by omega)]
  exact ⟨h.1, h.2.1, h.2.2.1, h.2.2.2.1, hx, h.2.2.2.2.2⟩
end MIV
theorem nz_of {x : Int32} (h : ¬ x.toInt = 0) : ¬ x = 0 := fun e => h (by rw [e]; decide)
theorem i_rem {x z c : Int32} {k : Int} (hc : c.toInt = k) (hk : 0 < k) (e : z = x - x / c * c) : z.toInt < k ∧ -k < z.toInt ∧ (0 ≤ x.toInt → 0 ≤ z.toInt) := by
  have h : z.toInt = x.toInt.tmod k := by rw [e, rem_toInt, hc]
  rw [h]
  exact ⟨Int.tmod_lt_of_pos _ hk, Int.lt_tmod_of_pos _ hk, fun q => Int.tmod_nonneg _ q⟩
theorem i_remv {x y z : Int32} (hx : 0 ≤ x.toInt) (hy : 0 < y.toInt) (e : z = x - x / y * y) : 0 ≤ z.toInt ∧ z.toInt < y.toInt := by
  have h : z.toInt = x.toInt.tmod y.toInt := by rw [e, rem_toInt]
  rw [h]
  exact ⟨Int.tmod_nonneg _ hx, Int.tmod_lt_of_pos _ hy⟩
theorem i_div {x z c : Int32} {k : Int} (hc : c.toInt = k) (hk : 0 < k) (hx : 0 ≤ x.toInt) (e : z = x / c) : 0 ≤ z.toInt := by
  have hn : c ≠ -1 := fun q => by rw [q] at hc; have : (-1 : Int32).toInt = -1 := by decide
                                  omega
  rw [e, Int32.toInt_div_of_ne_right _ _ hn, hc]
  exact Int.tdiv_nonneg hx (by omega)
theorem i_msk {x z c : Int32} {k : Int} (hc : c.toInt = k) (hk : 0 ≤ k) (e : z = x &&& c) : 0 ≤ z.toInt ∧ z.toInt ≤ k := by
  have h0 : c.toBitVec.toInt = k := hc
  have hb := BitVec.toInt_eq_toNat_cond c.toBitVec
  have hcn : (c.toBitVec.toNat : Int) = k := by
    rw [h0] at hb
    split at hb
    · exact hb.symm
    · have := c.toBitVec.isLt
      omega
  have hk2 : k ≤ 2147483647 := by rw [← hc]; exact i_max c
  have h : z.toBitVec.toNat ≤ c.toBitVec.toNat := by
    rw [e, Int32.toBitVec_and, BitVec.toNat_and]
    exact Nat.and_le_right
  have e2 : z.toInt = (z.toBitVec.toNat : Int) := BitVec.toInt_eq_toNat_of_lt (by omega)
  rw [e2]
  omega
theorem l_cmp {a b : Int64} {z : Int32} {m n : Int} (ha : a.toInt = m) (hb : b.toInt = n) (e : z = lg_cmp a b) : (z.toInt = -1 ∧ m < n) ∨ (z.toInt = 0 ∧ m = n) ∨ (z.toInt = 1 ∧ n < m) := by
  subst ha hb e
  rcases Int.lt_trichotomy a.toInt b.toInt with h | h | h
  · rw [lc_lt h]; exact Or.inl ⟨by decide, h⟩
  · refine Or.inr (Or.inl ⟨?_, h⟩)
    have h1 : ¬ b < a := fun q => by have := Int64.lt_iff_toInt_lt.mp q; omega
    have h3 : a = b := Int64.toInt_inj.mp h
    simp [lg_cmp, h3]
  · rw [lc_gt h]; exact Or.inr (Or.inr ⟨by decide, h⟩)
theorem l_bm {z : Int} (l : -9223372036854775808 ≤ z) (h : z ≤ 9223372036854775807) : z.bmod (2 ^ 64) = z := by
  rw [Int.bmod_eq_of_le] <;> omega
theorem l_pl {x y z : Int64} {a b : Int} (ha : x.toInt = a) (hb : y.toInt = b) (e : z = x + y) (l : -9223372036854775808 ≤ a + b) (h : a + b ≤ 9223372036854775807) : z.toInt = a + b := by
  rw [e, Int64.toInt_add, ha, hb]; exact l_bm l h
theorem l_ml {x y z : Int64} {a b : Int} (ha : x.toInt = a) (hb : y.toInt = b) (e : z = x * y) (l : -9223372036854775808 ≤ a * b) (h : a * b ≤ 9223372036854775807) : z.toInt = a * b := by
  rw [e, Int64.toInt_mul, ha, hb]; exact l_bm l h
theorem l_sq {x z : Int64} (h0 : 0 ≤ x.toInt) (h1 : x.toInt ≤ 1000000000) (e : z = x * x) : 0 ≤ z.toInt := by
  have a : 0 ≤ x.toInt * x.toInt := Int.mul_nonneg h0 h0
  have b : x.toInt * x.toInt ≤ 1000000000 * 1000000000 := Int.mul_le_mul h1 h1 h0 (by omega)
  rw [e, Int64.toInt_mul, l_bm (by omega) (by omega)]
  exact a
theorem l_rem {x z c : Int64} {k : Int} (hc : c.toInt = k) (hk : 0 < k) (hx : 0 ≤ x.toInt) (e : z = x - x / c * c) : 0 ≤ z.toInt ∧ z.toInt < k := by
  have hn : c ≠ -1 := fun q => by rw [q] at hc; have : (-1 : Int64).toInt = -1 := by decide
                                  omega
  have hd : (x / c).toInt = x.toInt.tdiv k := by rw [Int64.toInt_div_of_ne_right _ _ hn, hc]
  have h1 := Int.mul_tdiv_add_tmod x.toInt k
  have h2 := Int.tmod_nonneg k hx
  have h3 := Int.tmod_lt_of_pos x.toInt hk
  have h4 : 0 ≤ x.toInt.tdiv k := Int.tdiv_nonneg hx (by omega)
  have h5 : x.toInt ≤ 9223372036854775807 := by have := Int64.toInt_lt x; omega
  have h6 : 0 ≤ k * x.toInt.tdiv k := Int.mul_nonneg (by omega) h4
  have h7 : (x / c * c).toInt = k * x.toInt.tdiv k := by rw [Int64.toInt_mul, hd, hc, Int.mul_comm]; exact l_bm (by omega) (by omega)
  have h8 : z.toInt = x.toInt - k * x.toInt.tdiv k := by rw [e, Int64.toInt_sub, h7]; exact l_bm (by omega) (by omega)
  rw [h8]
  omega
theorem l_i {x : Int64} {z : Int32} (e : x.toInt32 = z) (l : -2147483648 ≤ x.toInt) (h : x.toInt ≤ 2147483647) : z.toInt = x.toInt := by
  rw [← e, Int64.toInt_toInt32]; exact i_bm l h
/-- the place with this number is held -/
def heldP (c : Int) (H : Heap) (w : Nat) (x : Int32) : Prop := ai H w (c + ((160 : Int32) + (x - x / 64 * 64)).toInt).toNat = x + 1
theorem held_le {N : Int} {H : Heap} {w : Nat} {c : Int} {x : Int32} (hc : c = 0 ∨ c = 288) (h : PW N H w) (q : heldP c H w x) (h0 : 0 ≤ x.toInt) (h1 : x.toInt ≤ 5000) : x.toInt + 1 ≤ N + 33 := by
  obtain ⟨r1, r2, r3⟩ := i_rem (x := x) (z := x - x / 64 * 64) (c := 64) (k := 64) (by decide) (by decide) rfl
  have r3 := r3 h0
  have e : ((160 : Int32) + (x - x / 64 * 64)).toInt = 160 + (x - x / 64 * 64).toInt := i_pl (by decide) rfl rfl (by omega) (by omega)
  have e1 : (x + 1).toInt = x.toInt + 1 := i_pl rfl (by decide) rfl (by omega) (by omega)
  unfold heldP at q
  rw [e] at q
  have g := (h (c + (160 + (x - x / 64 * 64).toInt)).toNat (by omega)).2
  rw [q, e1] at g
  generalize hj : (c + (160 + (x - x / 64 * 64).toInt)).toNat = j at g
  have hr : (160 ≤ j ∧ j < 224) ∨ (448 ≤ j ∧ j < 512) := by omega
  have hu : uW N j = N + 33 := by
    unfold uW uE
    rcases hr with hr | hr
    · rw [if_pos (by omega), if_neg (by omega), if_neg (by omega), if_neg (by omega), if_neg (by omega), if_neg (by omega), if_neg (by omega), if_neg (by omega), if_pos (by omega)]
    · rw [if_neg (by omega), if_pos (by omega), if_neg (by omega), if_neg (by omega), if_neg (by omega), if_neg (by omega), if_neg (by omega), if_neg (by omega), if_neg (by omega), if_pos (by omega)]
  omega
