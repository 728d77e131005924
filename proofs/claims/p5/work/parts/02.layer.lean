/-! MY OWN LAYER: a heap that is typed by addresses (τ: which kind of cell stands there; ρ: where its final references point), contracts over it, a row an instruction -/
/-- the words that any contract may ask for: those of the tables that stay true -/
def TT : List Cond := lw_tbl.filter goodWord
theorem q_in {w : Cond} (h : w ∈ lw_tbl) (g : goodWord w = true) : w ∈ TT := List.mem_filter.mpr ⟨h, g⟩
theorem q_good {w : Cond} (h : w ∈ TT) : w ∈ TT ∧ ((w.onTables && w.keeps) = true ∨ ∃ ty, w = .arrayClass ty) := ⟨h, good_of_word (List.mem_filter.mp h).2⟩
theorem q_priv {q : MethodName × Nat} (h : q ∈ lw_privs) : Cond.selects q.1.cls q.1 q.1 ∈ k2_sels lw_privs := List.mem_map.mpr ⟨q, h, rfl⟩
def ftb : List (List Nat) := [[0], [0,0,0,0,0], [0,4,13,3,8,6,10,0,0,0], [0,0,0,0,0,2,167], [4,13,3,5,5,9,9,0,0,0], [0,0,0,0,0,1,2,167], [5,0,0], [0,0,0,0,0,0,109], [0,0,0,0,0,0,0,111,0,107], [303,0], [53,2008,0,0,0,0], [12,4,7,7], [1088,1088,123,123,303,0,0,0,0,105,0,0,0,0,0,105]]
def nF (t : Nat) : Nat := (ftb.getD t []).length
def fT (t k : Nat) : Nat := (ftb.getD t []).getD k 0
def okV (τ : Nat → Option Nat) (r ft : Nat) (v : Value) : Prop := (ft = 0 ∧ ∃ x : Int32, v = .int x) ∨ (ft = 1 ∧ (v = .int 0 ∨ v = .int 1)) ∨ (ft = 2 ∧ ∃ x : Int64, v = .long x) ∨ (3 ≤ ft ∧ ft < 2000 ∧ v = .ref r) ∨ (2000 ≤ ft ∧ ∃ b : Nat, v = .ref b ∧ τ b = some (ft - 2000))
def WF (τ : Nat → Option Nat) (ρ : Nat → Nat → Nat) : Prop := ∀ a t k : Nat, τ a = some t → k < nF t → 3 ≤ fT t k → fT t k < 2000 → τ (ρ a k) = some (fT t k - 3)
def sh (D : va_G) (cI cS : ClassId) (τ : Nat → Option Nat) (ρ : Nat → Nat → Nat) (H : Heap) (a t : Nat) : Prop :=
  (t < 13 ∧ ∃ V : Nat → Value, t_OB a (D.1 t) (nF t) (D.2 t) H V ∧ ∀ k, k < nF t → okV τ (ρ a k) (fT t k) (V k)) ∨
  (t = 50 ∧ ∃ f : Nat → Nat, H[a]? = some (vp_cell cS (21, .inr (.inr (.inr (.inr (fun j => some (f j))))))) ∧ ∀ j, j < 21 → τ (f j) = some 8) ∨
  (100 ≤ t ∧ ∃ f : Nat → Int32, H[a]? = some (vp_cell cI (t - 100, .inl f)))
def TH (D : va_G) (cI cS : ClassId) (τ : Nat → Option Nat) (ρ : Nat → Nat → Nat) (H : Heap) : Prop := ∀ a t : Nat, τ a = some t → sh D cI cS τ ρ H a t
def sl (H : Heap) (a i : Nat) : Value := ((H[a]?).bind (fun c : Cell => c.slots[i]?)).getD .null
def vI (v : Value) : Int32 := match v with | .int x => x | _ => 0
def vL (v : Value) : Int64 := match v with | .long x => x | _ => 0
def vR (v : Value) : Nat := match v with | .ref b => b | _ => 0
def fi (D : va_G) (t k : Nat) (H : Heap) (a : Nat) : Int32 := vI (sl H a (D.2 t k))
def fl (D : va_G) (t k : Nat) (H : Heap) (a : Nat) : Int64 := vL (sl H a (D.2 t k))
def fr (D : va_G) (t k : Nat) (H : Heap) (a : Nat) : Nat := vR (sl H a (D.2 t k))
def ai (H : Heap) (a j : Nat) : Int32 := vI (sl H a j)
def ar (H : Heap) (a j : Nat) : Nat := vR (sl H a j)
/-- what a method without 'new' keeps: the size, all cells outside A, and where it wrote -/
def SS (A : Nat → Prop) (H0 H : Heap) (locs : List Loc) : Prop := H.size = H0.size ∧ (∀ q : Nat, ¬ A q → H[q]? = H0[q]?) ∧ ∀ l ∈ locs, A l.base
theorem SS.rf {A : Nat → Prop} {H0 : Heap} : SS A H0 H0 [] := ⟨rfl, fun _ _ => rfl, fun _ h => by cases h⟩
theorem SS.va {A : Nat → Prop} {H0 H : Heap} {locs : List Loc} (h : SS A H0 H locs) : va_S A H0 H locs := ⟨Nat.le_of_eq h.1.symm, fun q _ n => h.2.1 q n, h.2.2⟩
theorem SS.put {A : Nat → Prop} {H0 H H1 : Heap} {locs : List Loc} {a k : Nat} (h : SS A H0 H locs) (z : H1.size = H.size) (oq : ∀ q : Nat, q ≠ a → H1[q]? = H[q]?) (ha : A a) : SS A H0 H1 (locs ++ [⟨a, k⟩]) :=
  ⟨z.trans h.1, fun q n => (oq q (fun e => n (by rw [e]; exact ha))).trans (h.2.1 q n), (va_S.put h.va z oq ha).2.2⟩
/-- one field of one object anew -/
def PU (D : va_G) (t k : Nat) (H H1 : Heap) (a : Nat) (v : Value) : Prop := sl H1 a (D.2 t k) = v ∧ (∀ j, j < nF t → j ≠ k → sl H1 a (D.2 t j) = sl H a (D.2 t j)) ∧ ∀ q : Nat, q ≠ a → H1[q]? = H[q]?
/-- one place of one row of numbers anew -/
def AU (n : Nat) (H H1 : Heap) (a j : Nat) (x : Int32) : Prop := (∀ i, i < n → ai H1 a i = if i = j then x else ai H a i) ∧ ∀ q : Nat, q ≠ a → H1[q]? = H[q]?
theorem sl_q {H H1 : Heap} {b : Nat} (h : H1[b]? = H[b]?) (i : Nat) : sl H1 b i = sl H b i := by simp only [sl, h]
theorem fi_q {D : va_G} {t k : Nat} {H H1 : Heap} {b : Nat} (h : H1[b]? = H[b]?) : fi D t k H1 b = fi D t k H b := by simp only [fi, sl, h]
theorem fl_q {D : va_G} {t k : Nat} {H H1 : Heap} {b : Nat} (h : H1[b]? = H[b]?) : fl D t k H1 b = fl D t k H b := by simp only [fl, sl, h]
theorem fr_q {D : va_G} {t k : Nat} {H H1 : Heap} {b : Nat} (h : H1[b]? = H[b]?) : fr D t k H1 b = fr D t k H b := by simp only [fr, sl, h]
theorem ai_q {H H1 : Heap} {b j : Nat} (h : H1[b]? = H[b]?) : ai H1 b j = ai H b j := by simp only [ai, sl, h]
theorem ar_q {H H1 : Heap} {b j : Nat} (h : H1[b]? = H[b]?) : ar H1 b j = ar H b j := by simp only [ar, sl, h]
theorem PU.i {D : va_G} {t k : Nat} {H H1 : Heap} {a : Nat} {x : Int32} (h : PU D t k H H1 a (.int x)) : fi D t k H1 a = x := by simp only [fi, h.1, vI]
theorem PU.l {D : va_G} {t k : Nat} {H H1 : Heap} {a : Nat} {x : Int64} (h : PU D t k H H1 a (.long x)) : fl D t k H1 a = x := by simp only [fl, h.1, vL]
theorem PU.r {D : va_G} {t k : Nat} {H H1 : Heap} {a x : Nat} (h : PU D t k H H1 a (.ref x)) : fr D t k H1 a = x := by simp only [fr, h.1, vR]
theorem PU.io {D : va_G} {t k : Nat} {H H1 : Heap} {a : Nat} {v : Value} (h : PU D t k H H1 a v) {j : Nat} (hj : j < nF t) (hn : j ≠ k) : fi D t j H1 a = fi D t j H a := by simp only [fi, h.2.1 j hj hn]
theorem PU.lo {D : va_G} {t k : Nat} {H H1 : Heap} {a : Nat} {v : Value} (h : PU D t k H H1 a v) {j : Nat} (hj : j < nF t) (hn : j ≠ k) : fl D t j H1 a = fl D t j H a := by simp only [fl, h.2.1 j hj hn]
theorem PU.ro {D : va_G} {t k : Nat} {H H1 : Heap} {a : Nat} {v : Value} (h : PU D t k H H1 a v) {j : Nat} (hj : j < nF t) (hn : j ≠ k) : fr D t j H1 a = fr D t j H a := by simp only [fr, h.2.1 j hj hn]
theorem AU.s {n : Nat} {H H1 : Heap} {a j : Nat} {x : Int32} (h : AU n H H1 a j x) (hj : j < n) : ai H1 a j = x := by rw [h.1 j hj, if_pos rfl]
theorem AU.o {n : Nat} {H H1 : Heap} {a j : Nat} {x : Int32} (h : AU n H H1 a j x) {i : Nat} (hi : i < n) (hn : i ≠ j) : ai H1 a i = ai H a i := by rw [h.1 i hi, if_neg hn]
/-- two cells of two kinds are apart -/
theorem th_ne {τ : Nat → Option Nat} {a b t u : Nat} (ha : τ a = some t) (hb : τ b = some u) (h : t ≠ u) : a ≠ b := by
  intro e
  subst e
  rw [ha] at hb
  exact h (Option.some.inj hb)
theorem t_OB_sl {a N : Nat} {cC : ClassId} {iS : Nat → Nat} {H : Heap} {V : Nat → Value} (h : t_OB a cC N iS H V) {k : Nat} (hk : k < N) : sl H a (iS k) = V k := by
  obtain ⟨cell, h1, -, -, h4⟩ := h
  simp [sl, h1, h4 k hk]
section THL
variable {D : va_G} {cI cS : ClassId} {τ : Nat → Option Nat} {ρ : Nat → Nat → Nat} {H : Heap}
theorem TH.ob (hT : TH D cI cS τ ρ H) {a t : Nat} (ha : τ a = some t) (ht : t < 13) : t_OB a (D.1 t) (nF t) (D.2 t) H (fun k => sl H a (D.2 t k)) ∧ ∀ k, k < nF t → okV τ (ρ a k) (fT t k) (sl H a (D.2 t k)) := by
  rcases hT a t ha with ⟨-, V, h1, h2⟩ | ⟨h, -⟩ | ⟨h, -⟩
  · exact ⟨h1.to fun k hk => (t_OB_sl h1 hk).symm, fun k hk => by rw [t_OB_sl h1 hk]; exact h2 k hk⟩
  · omega
  · omega
theorem TH.vi (hT : TH D cI cS τ ρ H) {a t k : Nat} (ha : τ a = some t) (ht : t < 13) (hk : k < nF t) (h0 : fT t k = 0) : sl H a (D.2 t k) = .int (fi D t k H a) := by
  rcases (hT.ob ha ht).2 k hk with ⟨-, x, h⟩ | ⟨h, -⟩ | ⟨h, -⟩ | ⟨h, -⟩ | ⟨h, -⟩
  · simp only [fi, h, vI]
  all_goals omega
theorem TH.vb (hT : TH D cI cS τ ρ H) {a t k : Nat} (ha : τ a = some t) (ht : t < 13) (hk : k < nF t) (h0 : fT t k = 1) : sl H a (D.2 t k) = .int (fi D t k H a) ∧ (fi D t k H a = 0 ∨ fi D t k H a = 1) := by
  rcases (hT.ob ha ht).2 k hk with ⟨h, -⟩ | ⟨-, h⟩ | ⟨h, -⟩ | ⟨h, -⟩ | ⟨h, -⟩
  · omega
  · rcases h with h | h
    · exact ⟨by simp only [fi, h, vI], Or.inl (by simp only [fi, h, vI])⟩
    · exact ⟨by simp only [fi, h, vI], Or.inr (by simp only [fi, h, vI])⟩
  all_goals omega
theorem TH.vl (hT : TH D cI cS τ ρ H) {a t k : Nat} (ha : τ a = some t) (ht : t < 13) (hk : k < nF t) (h0 : fT t k = 2) : sl H a (D.2 t k) = .long (fl D t k H a) := by
  rcases (hT.ob ha ht).2 k hk with ⟨h, -⟩ | ⟨h, -⟩ | ⟨-, x, h⟩ | ⟨h, -⟩ | ⟨h, -⟩
  · omega
  · omega
  · simp only [fl, h, vL]
  all_goals omega
theorem TH.vr (hT : TH D cI cS τ ρ H) {a t k : Nat} (ha : τ a = some t) (ht : t < 13) (hk : k < nF t) (h0 : 3 ≤ fT t k) (h1 : fT t k < 2000) : sl H a (D.2 t k) = .ref (ρ a k) := by
  rcases (hT.ob ha ht).2 k hk with ⟨h, -⟩ | ⟨h, -⟩ | ⟨h, -⟩ | ⟨-, -, h⟩ | ⟨h, -⟩
  · omega
  · omega
  · omega
  · exact h
  · omega
theorem TH.vm (hT : TH D cI cS τ ρ H) {a t k : Nat} (ha : τ a = some t) (ht : t < 13) (hk : k < nF t) (h0 : 2000 ≤ fT t k) : sl H a (D.2 t k) = .ref (fr D t k H a) ∧ τ (fr D t k H a) = some (fT t k - 2000) := by
  rcases (hT.ob ha ht).2 k hk with ⟨h, -⟩ | ⟨h, -⟩ | ⟨h, -⟩ | ⟨-, h, -⟩ | ⟨-, b, h, h1⟩
  · omega
  · omega
  · omega
  · omega
  · refine ⟨by simp only [fr, h, vR], ?_⟩
    simp only [fr, h, vR]
    exact h1
theorem TH.arr (hT : TH D cI cS τ ρ H) {a t : Nat} (ha : τ a = some t) (ht : 100 ≤ t) : ∃ f : Nat → Int32, H[a]? = some (vp_cell cI (t - 100, .inl f)) ∧ ∀ j, j < t - 100 → ai H a j = f j := by
  rcases hT a t ha with ⟨h, -⟩ | ⟨h, -⟩ | ⟨-, f, h⟩
  · omega
  · omega
  · refine ⟨f, h, fun j hj => ?_⟩
    simp only [ai, sl, h, vp_cell_i, Option.bind_some, arrV_read _ _ hj, Option.getD_some, vI]
theorem TH.seg (hT : TH D cI cS τ ρ H) {a : Nat} (ha : τ a = some 50) : ∃ f : Nat → Nat, H[a]? = some (vp_cell cS (21, .inr (.inr (.inr (.inr (fun j => some (f j))))))) ∧ (∀ j, j < 21 → τ (f j) = some 8) ∧ ∀ j, j < 21 → ar H a j = f j := by
  rcases hT a 50 ha with ⟨h, -⟩ | ⟨-, f, h, h1⟩ | ⟨h, -⟩
  · omega
  · refine ⟨f, h, h1, fun j hj => ?_⟩
    simp only [ar, sl, h, vp_cell_q, Option.bind_some, arrV_read _ _ hj, Option.getD_some, va_rf, vR]
  · omega
theorem TH.ar8 (hT : TH D cI cS τ ρ H) {a : Nat} (ha : τ a = some 50) {j : Nat} (hj : j < 21) : τ (ar H a j) = some 8 := by
  obtain ⟨f, -, h1, h2⟩ := hT.seg ha
  rw [h2 j hj]
  exact h1 j hj
/-- one cell anew, of its kind: the heap stays typed -/
theorem TH.upd (hT : TH D cI cS τ ρ H) {H1 : Heap} {a t : Nat} (ha : τ a = some t) (h : sh D cI cS τ ρ H1 a t) (oq : ∀ q : Nat, q ≠ a → H1[q]? = H[q]?) : TH D cI cS τ ρ H1 := by
  intro b u hb
  by_cases hba : b = a
  · subst hba
    rw [ha] at hb
    cases hb
    exact h
  · have e := oq b hba
    rcases hT b u hb with ⟨h0, V, h1, h2⟩ | ⟨h0, f, h1, h2⟩ | ⟨h0, f, h1⟩
    · exact Or.inl ⟨h0, V, h1.kept e, h2⟩
    · exact Or.inr (Or.inl ⟨h0, f, e.trans h1, h2⟩)
    · exact Or.inr (Or.inr ⟨h0, f, e.trans h1⟩)
end THL
def KK (D : va_G) (cI cS : ClassId) (U : State) : Prop := va_K D vwCl [(cI, .int), (cS, .object RX8)] U
/-- what a body knows: the machine, its bytes, its class, the tables' words, the classes -/
def EE (p : Program) (s : State) (m : MethodId) (args : Array Value) (c : Code) (cc : ByteArray) (own : String) (D : va_G) (cI cS : ClassId) : Prop := p.tables.exec = Jvm.exec ∧ c.code = cc ∧ s.vm.findClass own = some m.cls ∧ (∀ w ∈ TT, w.before args s = true) ∧ KK D cI cS s
section THR
variable {p : Program} {l : Launch} {e : Env} {R : Room} {s : State} {m : MethodId} {args : Array Value} {below : List Frame} {meth : Method} {c : Code} {H : Heap} {locs : List Loc} {cells slots : Nat} {Q : State → Prop}
variable {cc : ByteArray} {pc : Nat} {ls : Array Slot} {rest : List Value} {D : va_G} {cI cS : ClassId} {τ : Nat → Option Nat} {ρ : Nat → Nat → Nat} {A : Nat → Prop} {a : Nat} {own : String} {H0 : Heap}
theorem th_topi {x y : Int32} (h : x = y) (k : W p l e R s m args below meth c H locs cells slots Q (F0 m pc ls (.int y :: rest))) : W p l e R s m args below meth c H locs cells slots Q (F0 m pc ls (.int x :: rest)) := h ▸ k
theorem th_topl {x y : Int64} (h : x = y) (k : W p l e R s m args below meth c H locs cells slots Q (F0 m pc ls (.long y :: rest))) : W p l e R s m args below meth c H locs cells slots Q (F0 m pc ls (.long x :: rest)) := h ▸ k
theorem th_topr {x y : Nat} (h : x = y) (k : W p l e R s m args below meth c H locs cells slots Q (F0 m pc ls (.ref y :: rest))) : W p l e R s m args below meth c H locs cells slots Q (F0 m pc ls (.ref x :: rest)) := h ▸ k
theorem th_get {t k index N : Nat} {T : u_T} {C : String} (E : EE p s m args c cc own D cI cS) (hT : TH D cI cS τ ρ H) (ha : τ a = some t) (hin : ∀ w ∈ u_ws C T N, w ∈ TT) (hc : vwCl[t]? = some (C, T, N)) (ht : t < 13) (hN : nF t = N) (hk : k < N) (hw : Cond.fieldLink own index (T k).1 (T k).2.1 (T k).2.2.1 ∈ TT) (hdg : decode cc pc = .ok (.getfield index, 3))
    (kk : W p l e R s m args below meth c H locs cells slots Q (F0 m (pc + 3) ls (sl H a (D.2 t k) :: rest))) : W p l e R s m args below meth c H locs cells slots Q (F0 m pc ls (.ref a :: rest)) := by
  obtain ⟨hx, hb, hown, hts, hK⟩ := E
  obtain ⟨⟨cell, q1, q2, q3, q4⟩, -⟩ := hT.ob ha ht
  obtain ⟨hS, hfc, kC, hkC, hkind⟩ := hK.1 t _ hc
  obtain ⟨cf, kf, f1, f, hi, hsl⟩ := hS k hk
  refine W.getf hx hb hown (hts _ hw) hi (u_facts hfc hkC (u_lays hts hin hk) hi).1 q1 (by rw [q3]; exact fun h => by cases h) (v := sl H a (D.2 t k)) ?_ rfl rfl hdg kk
  rw [hsl, q4 k (by rw [hN]; exact hk)]
theorem th_gi {t k index N : Nat} {T : u_T} {C : String} (E : EE p s m args c cc own D cI cS) (hT : TH D cI cS τ ρ H) (ha : τ a = some t) (hin : ∀ w ∈ u_ws C T N, w ∈ TT) (hc : vwCl[t]? = some (C, T, N)) (ht : t < 13) (hN : nF t = N) (hk : k < N) (h0 : fT t k = 0 ∨ fT t k = 1) (hw : Cond.fieldLink own index (T k).1 (T k).2.1 (T k).2.2.1 ∈ TT) (hdg : decode cc pc = .ok (.getfield index, 3))
    (kk : W p l e R s m args below meth c H locs cells slots Q (F0 m (pc + 3) ls (.int (fi D t k H a) :: rest))) : W p l e R s m args below meth c H locs cells slots Q (F0 m pc ls (.ref a :: rest)) := by
  refine th_get E hT ha hin hc ht hN hk hw hdg ?_
  rcases h0 with h0 | h0
  · rw [hT.vi ha ht (by rw [hN]; exact hk) h0]; exact kk
  · rw [(hT.vb ha ht (by rw [hN]; exact hk) h0).1]; exact kk
theorem th_gl {t k index N : Nat} {T : u_T} {C : String} (E : EE p s m args c cc own D cI cS) (hT : TH D cI cS τ ρ H) (ha : τ a = some t) (hin : ∀ w ∈ u_ws C T N, w ∈ TT) (hc : vwCl[t]? = some (C, T, N)) (ht : t < 13) (hN : nF t = N) (hk : k < N) (h0 : fT t k = 2) (hw : Cond.fieldLink own index (T k).1 (T k).2.1 (T k).2.2.1 ∈ TT) (hdg : decode cc pc = .ok (.getfield index, 3))
    (kk : W p l e R s m args below meth c H locs cells slots Q (F0 m (pc + 3) ls (.long (fl D t k H a) :: rest))) : W p l e R s m args below meth c H locs cells slots Q (F0 m pc ls (.ref a :: rest)) := by
  refine th_get E hT ha hin hc ht hN hk hw hdg ?_
  rw [hT.vl ha ht (by rw [hN]; exact hk) h0]; exact kk
theorem th_gr {t k u index N : Nat} {T : u_T} {C : String} (E : EE p s m args c cc own D cI cS) (hT : TH D cI cS τ ρ H) (hW : WF τ ρ) (ha : τ a = some t) (hin : ∀ w ∈ u_ws C T N, w ∈ TT) (hc : vwCl[t]? = some (C, T, N)) (ht : t < 13) (hN : nF t = N) (hk : k < N) (h0 : fT t k = u + 3) (h1 : u < 1990) (hw : Cond.fieldLink own index (T k).1 (T k).2.1 (T k).2.2.1 ∈ TT) (hdg : decode cc pc = .ok (.getfield index, 3))
    (kk : τ (ρ a k) = some u → W p l e R s m args below meth c H locs cells slots Q (F0 m (pc + 3) ls (.ref (ρ a k) :: rest))) : W p l e R s m args below meth c H locs cells slots Q (F0 m pc ls (.ref a :: rest)) := by
  have hk' : k < nF t := by rw [hN]; exact hk
  have hr := hW a t k ha hk' (by omega) (by omega)
  rw [h0, show u + 3 - 3 = u by omega] at hr
  refine th_get E hT ha hin hc ht hN hk hw hdg ?_
  rw [hT.vr ha ht hk' (by omega) (by omega)]; exact kk hr
theorem th_gm {t k u index N : Nat} {T : u_T} {C : String} (E : EE p s m args c cc own D cI cS) (hT : TH D cI cS τ ρ H) (ha : τ a = some t) (hin : ∀ w ∈ u_ws C T N, w ∈ TT) (hc : vwCl[t]? = some (C, T, N)) (ht : t < 13) (hN : nF t = N) (hk : k < N) (h0 : fT t k = u + 2000) (hw : Cond.fieldLink own index (T k).1 (T k).2.1 (T k).2.2.1 ∈ TT) (hdg : decode cc pc = .ok (.getfield index, 3))
    (kk : τ (fr D t k H a) = some u → W p l e R s m args below meth c H locs cells slots Q (F0 m (pc + 3) ls (.ref (fr D t k H a) :: rest))) : W p l e R s m args below meth c H locs cells slots Q (F0 m pc ls (.ref a :: rest)) := by
  have hk' : k < nF t := by rw [hN]; exact hk
  have hr := hT.vm ha ht hk' (by omega)
  rw [h0, show u + 2000 - 2000 = u by omega] at hr
  refine th_get E hT ha hin hc ht hN hk hw hdg ?_
  rw [hr.1]; exact kk hr.2
theorem th_apart {t N : Nat} {T : u_T} {C : String} (E : EE p s m args c cc own D cI cS) (hin : ∀ w ∈ u_ws C T N, w ∈ TT) (hc : vwCl[t]? = some (C, T, N)) (ty0 : Nat → FieldType) (hty : ∀ k, k < N → parseFieldDescriptor (T k).2.2.1 = some (ty0 k)) (hnm : ∀ a, a < N → ∀ b, b < N → a ≠ b → (T a).2.1 ≠ (T b).2.1) : ∀ x y, x < N → y < N → x ≠ y → (D.2 t) x ≠ (D.2 t) y :=
  va_apart (own := own) E.2.2.2.1 hin ty0 hty hnm E.2.2.2.2 hc
theorem th_put {t k index N : Nat} {T : u_T} {C : String} {ty : FieldType} {v : Value} (E : EE p s m args c cc own D cI cS) (hT : TH D cI cS τ ρ H) (hS : SS A H0 H locs) (ha : τ a = some t) (haA : A a) (hin : ∀ w ∈ u_ws C T N, w ∈ TT) (hc : vwCl[t]? = some (C, T, N)) (ht : t < 13) (hN : nF t = N) (hk : k < N) (hap : ∀ x y, x < N → y < N → x ≠ y → (D.2 t) x ≠ (D.2 t) y) (hw : Cond.fieldLink own index (T k).1 (T k).2.1 (T k).2.2.1 ∈ TT) (hfin : (T k).2.2.2 = false) (hd : parseFieldDescriptor (T k).2.2.1 = some ty) (hn : narrow ty v = v) (hfit : fits ty v = true) (hok : okV τ (ρ a k) (fT t k) v) (hdg : decode cc pc = .ok (.putfield index, 3))
    (kk : ∀ (H1 : Heap) (locs1 : List Loc), TH D cI cS τ ρ H1 → PU D t k H H1 a v → SS A H0 H1 locs1 → W p l e R s m args below meth c H1 locs1 cells slots Q (F0 m (pc + 3) ls rest)) : W p l e R s m args below meth c H locs cells slots Q (F0 m pc ls (v :: .ref a :: rest)) := by
  obtain ⟨hx, hb, hown, hts, hK⟩ := E
  obtain ⟨⟨cell, q1, q2, q3, q4⟩, q5⟩ := hT.ob ha ht
  obtain ⟨hSl, hfc, kC, hkC, hkind⟩ := hK.1 t _ hc
  obtain ⟨cf, kf, f1, f, hi, hsl⟩ := hSl k hk
  subst hN
  have hlay := hts _ (hin _ (u_in_lay hk))
  unfold u_lay at hlay
  rw [if_neg (by rw [hfin]; decide)] at hlay
  have hst := (u_facts hfc hkC (u_lays hts hin hk) hi).1
  have h6 := u_store hfc hkC hkind hlay hi hd hn hfit
  refine W.putK hx hb (f := f) ⟨hown, hts _ hw, ⟨_, _, _, hi⟩, hst⟩ (by rw [q2]; exact h6) q1 q3 (by rw [hsl]; exact k2_hasslot (q4 k hk)) rfl rfl hdg fun H' e1 e2 e3 => ?_
  rw [hsl] at e1 ⊢
  have hob : t_OB a (D.1 t) (nF t) (D.2 t) H' (updV (fun k => sl H a (D.2 t k)) k v) := ⟨_, e1, q2, q3, t_set q4 hap hk v⟩
  refine kk H' _ (hT.upd ha (Or.inl ⟨ht, _, hob, fun j hj => ?_⟩) e3) ⟨?_, fun j hj hne => ?_, e3⟩ (hS.put e2 e3 haA)
  · by_cases hjk : j = k
    · subst hjk
      simp only [updV, if_true]
      exact hok
    · simp only [updV, if_neg hjk]
      exact q5 j hj
  · rw [t_OB_sl hob hk]
    simp [updV]
  · rw [t_OB_sl hob hj]
    simp [updV, hne]
theorem th_iald {t : Nat} (E : EE p s m args c cc own D cI cS) (hT : TH D cI cS τ ρ H) (ha : τ a = some t) (ht : 100 ≤ t) {i : Int32} (hin : vp_in i (t - 100)) (hdg : decode cc pc = .ok (.iaload, 1))
    (kk : W p l e R s m args below meth c H locs cells slots Q (F0 m (pc + 1) ls (.int (ai H a i.toNatClampNeg) :: rest))) : W p l e R s m args below meth c H locs cells slots Q (F0 m pc ls (.int i :: .ref a :: rest)) := by
  obtain ⟨hx, hb, hown, hts, hK⟩ := E
  obtain ⟨f, h1, h2⟩ := hT.arr ha ht
  have hlt : i.toNatClampNeg < t - 100 := Nat.not_le.mp fun q => hin (Or.inr q)
  have hP : va_P D vwCl [(a, .inl (cI, t - 100, .inl f))] H := fun k q hq => by
    have hz : k < 1 := (List.getElem?_eq_some_iff.mp hq).1
    rw [show k = 0 by omega] at hq
    cases hq
    exact h1
  refine va_iald hx hb hK hP 0 0 rfl rfl hin hdg ?_
  rw [← h2 _ hlt]
  exact kk
theorem th_iast {t : Nat} (E : EE p s m args c cc own D cI cS) (hT : TH D cI cS τ ρ H) (hS : SS A H0 H locs) (ha : τ a = some t) (haA : A a) (ht : 100 ≤ t) {i x : Int32} (hin : vp_in i (t - 100)) (hdg : decode cc pc = .ok (.iastore, 1))
    (kk : ∀ (H1 : Heap) (locs1 : List Loc), TH D cI cS τ ρ H1 → AU (t - 100) H H1 a i.toNatClampNeg x → SS A H0 H1 locs1 → W p l e R s m args below meth c H1 locs1 cells slots Q (F0 m (pc + 1) ls rest)) : W p l e R s m args below meth c H locs cells slots Q (F0 m pc ls (.int x :: .int i :: .ref a :: rest)) := by
  obtain ⟨hx, hb, hown, hts, hK⟩ := E
  obtain ⟨f, h1, h2⟩ := hT.arr ha ht
  refine W.iast hx hb h1 ((hK.2 0 _ rfl).1 (t - 100) (fun j => .int (f j))) (fun q => by cases q) (by show ¬ (i < 0 ∨ (arrV _ _ _).slots.size ≤ _); rw [arrV_size]; exact hin) rfl rfl hdg fun H1 e z oq => ?_
  have e' : H1[a]? = some (vp_cell cI (t - 100, .inl (upd f i.toNatClampNeg x))) := by
    rw [e, vp_cell_i, vp_cell_i, arrV_store]
    congr 2
    funext q
    by_cases hq : q = i.toNatClampNeg
    · subst hq
      simp [updV, upd]
    · simp [updV, upd, hq]
  have hT1 : TH D cI cS τ ρ H1 := hT.upd ha (Or.inr (Or.inr ⟨ht, _, e'⟩)) oq
  refine kk H1 _ hT1 ⟨fun j hj => ?_, oq⟩ (hS.put z oq haA)
  have : ai H1 a j = upd f i.toNatClampNeg x j := by
    simp only [ai, sl, e', vp_cell_i, Option.bind_some, arrV_read _ _ hj, Option.getD_some, vI]
  rw [this, h2 j hj]
  by_cases hq : j = i.toNatClampNeg
  · simp [upd, hq]
  · simp [upd, hq]
theorem th_alen {t : Nat} (E : EE p s m args c cc own D cI cS) (hT : TH D cI cS τ ρ H) (ha : τ a = some t) (ht : 100 ≤ t) {v : Int32} (hv : Int32.ofNat (t - 100) = v) (hdg : decode cc pc = .ok (.arraylength, 1))
    (kk : W p l e R s m args below meth c H locs cells slots Q (F0 m (pc + 1) ls (.int v :: rest))) : W p l e R s m args below meth c H locs cells slots Q (F0 m pc ls (.ref a :: rest)) := by
  obtain ⟨hx, hb, hown, hts, hK⟩ := E
  obtain ⟨f, h1, h2⟩ := hT.arr ha ht
  have hP : va_P D vwCl [(a, .inl (cI, t - 100, .inl f))] H := fun k q hq => by
    have hz : k < 1 := (List.getElem?_eq_some_iff.mp hq).1
    rw [show k = 0 by omega] at hq
    cases hq
    exact h1
  exact va_alen hx hb hK hP 0 0 rfl rfl hv hdg kk
theorem th_slen (E : EE p s m args c cc own D cI cS) (hT : TH D cI cS τ ρ H) (ha : τ a = some 50) {v : Int32} (hv : Int32.ofNat 21 = v) (hdg : decode cc pc = .ok (.arraylength, 1))
    (kk : W p l e R s m args below meth c H locs cells slots Q (F0 m (pc + 1) ls (.int v :: rest))) : W p l e R s m args below meth c H locs cells slots Q (F0 m pc ls (.ref a :: rest)) := by
  obtain ⟨hx, hb, hown, hts, hK⟩ := E
  obtain ⟨f, h1, h2⟩ := hT.seg ha
  have hP : va_P D vwCl [(a, .inl (cS, 21, .inr (.inr (.inr (.inr (fun j => some (f j)))))))] H := fun k q hq => by
    have hz : k < 1 := (List.getElem?_eq_some_iff.mp hq).1
    rw [show k = 0 by omega] at hq
    cases hq
    exact h1
  exact va_alen hx hb hK hP 0 1 rfl rfl hv hdg kk
theorem th_aald (E : EE p s m args c cc own D cI cS) (hT : TH D cI cS τ ρ H) (ha : τ a = some 50) {i : Int32} (hin : vp_in i 21) (hdg : decode cc pc = .ok (.aaload, 1))
    (kk : τ (ar H a i.toNatClampNeg) = some 8 → W p l e R s m args below meth c H locs cells slots Q (F0 m (pc + 1) ls (.ref (ar H a i.toNatClampNeg) :: rest))) : W p l e R s m args below meth c H locs cells slots Q (F0 m pc ls (.int i :: .ref a :: rest)) := by
  obtain ⟨hx, hb, hown, hts, hK⟩ := E
  obtain ⟨f, h1, h3, h2⟩ := hT.seg ha
  have hlt : i.toNatClampNeg < 21 := Nat.not_le.mp fun q => hin (Or.inr q)
  have hP : va_P D vwCl [(a, .inl (cS, 21, .inr (.inr (.inr (.inr (fun j => some (f j)))))))] H := fun k q hq => by
    have hz : k < 1 := (List.getElem?_eq_some_iff.mp hq).1
    rw [show k = 0 by omega] at hq
    cases hq
    exact h1
  refine va_aldq hx hb hK hP 0 1 rfl rfl hin hdg ?_
  have := kk (by rw [h2 _ hlt]; exact h3 _ hlt)
  rw [h2 _ hlt] at this
  exact this
theorem th_aast (E : EE p s m args c cc own D cI cS) (hT : TH D cI cS τ ρ H) (hS : SS A H0 H locs) (ha : τ a = some 50) (haA : A a) {i : Int32} {v : Nat} (hv : τ v = some 8) (hin : vp_in i 21) (hdg : decode cc pc = .ok (.aastore, 1))
    (kk : ∀ (H1 : Heap) (locs1 : List Loc), TH D cI cS τ ρ H1 → (∀ j, j < 21 → ar H1 a j = if j = i.toNatClampNeg then v else ar H a j) → (∀ q : Nat, q ≠ a → H1[q]? = H[q]?) → SS A H0 H1 locs1 → W p l e R s m args below meth c H1 locs1 cells slots Q (F0 m (pc + 1) ls rest)) : W p l e R s m args below meth c H locs cells slots Q (F0 m pc ls (.ref v :: .int i :: .ref a :: rest)) := by
  obtain ⟨hx, hb, hown, hts, hK⟩ := E
  obtain ⟨f, h1, h3, h2⟩ := hT.seg ha
  have hlt : i.toNatClampNeg < 21 := Nat.not_le.mp fun q => hin (Or.inr q)
  have h0 : ¬ i < 0 := fun q => hin (Or.inl q)
  obtain ⟨⟨cellV, g1, g2, g3, -⟩, -⟩ := hT.ob hv (by decide)
  have hcls := (hK.1 8 (RX8, TX8, 10) rfl).2
  obtain ⟨kA, comp, k1, k2, k3, -⟩ := (hK.2 1 _ rfl).2
  have hcomp : comp = D.1 8 := Option.some.inj (k3.symm.trans hcls.1)
  subst hcomp
  obtain ⟨kC, hkC, -⟩ := hcls.2
  refine W.aast hx hb h1 (fun q h => by cases h) (fun h => by cases h) k1 k2 rfl hkC ⟨h0, by show _ < (arrV _ _ _).slots.size; rw [arrV_size]; exact hlt⟩ g1 (fun q h => by rw [g3] at h; cases h) (by rw [g2]; exact hkC) (by rw [g2]; exact va_assign hcls) rfl rfl hdg fun H1 e z oq => ?_
  have e' : H1[a]? = some (vp_cell cS (21, .inr (.inr (.inr (.inr (fun j => some ((fun q => if q = i.toNatClampNeg then v else f q) j))))))) := by
    rw [e, vp_cell_q, vp_cell_q, arrV_store]
    congr 2
    funext q
    by_cases hq : q = i.toNatClampNeg
    · subst hq
      simp [updV, va_rf]
    · simp [updV, va_rf, hq]
  have hT1 : TH D cI cS τ ρ H1 := hT.upd ha (Or.inr (Or.inl ⟨rfl, _, e', fun j hj => by
    by_cases hq : j = i.toNatClampNeg
    · simp only [if_pos hq]; exact hv
    · simp only [if_neg hq]; exact h3 j hj⟩)) oq
  refine kk H1 _ hT1 (fun j hj => ?_) oq (hS.put z oq haA)
  have : ar H1 a j = if j = i.toNatClampNeg then v else f j := by
    simp only [ar, sl, e', vp_cell_q, Option.bind_some, arrV_read _ _ hj, Option.getD_some, va_rf, vR]
  rw [this, h2 j hj]
end THR
