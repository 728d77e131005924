/-! the size of a letter, by its place -/
theorem uW5 {N : Int} {k : Nat} (h1 : 576 ≤ k ∧ k < 976) (h2 : (k - 576) % 20 = 5) : uW N k = 8 := by
  rw [uWl h1.1 h1.2, h2]
  rfl
/-- the kept row of numbers: as w -/
def WQ (N : Int) (H : Heap) (w : Nat) : Prop := PW N H w ∧ QS N H w 0 2 ∧ QS N H w 288 290
theorem WQ.q {N : Int} {H H1 : Heap} {w : Nat} (e : H1[w]? = H[w]?) (h : WQ N H w) : WQ N H1 w := ⟨PW.q e h.1, QS.q e h.2.1, QS.q e h.2.2⟩
theorem QS.other {N : Int} {H H1 : Heap} {v w i j : Nat} (hs : ai H v i = ai H1 w i) (ht : ai H v j = ai H1 w j) (h : QS N H1 w i j) : QS N H v i j := by
  unfold QS
  rw [hs, ht]
  exact h
theorem WQ.of {N : Int} {H : Heap} {w v : Nat} (c : ∀ j, j < 985 → ai H v j = ai H w j) (h : PW N H w) (h1 : QS N H w 0 2) (h2 : QS N H w 288 290) : WQ N H v :=
  ⟨fun k hk => by rw [c k hk]; exact h k hk, QS.other (c 0 (by decide)) (c 2 (by decide)) h1, QS.other (c 288 (by decide)) (c 290 (by decide)) h2⟩
theorem cp_step {H H1 : Heap} {a b k : Nat} {x : Int32} (h : ∀ j, j < k → ai H b j = ai H a j) (hU : AU 985 H H1 b k x) (hx : x = ai H a k) (hab : a ≠ b) (hk : k < 985) : ∀ j, j < k + 1 → ai H1 b j = ai H1 a j := fun j hj => by
  rw [ai_q (hU.2 _ hab), hU.1 j (by omega)]
  split
  · rename_i e
    rw [e, hx]
  · exact h j (by omega)
