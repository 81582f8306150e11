set_option maxRecDepth 100000 in
theorem te_isBetween (d : Nat) (x n : Int32) (M : xM) : xC (d + 1) 86 [.int x, .int n] M 0 0 (fun r M' => r = some (.int (xb (0 ≤ x ∧ x < n))) ∧ M' = M) := by
  refine ⟨mX8_isBetween, rfl, by simp [xwords, xwide, mX8_isBetween], ?_⟩
  refine xR.go 1 (1, [(0, .int x), (1, .int n)], [.int x], M) rfl ?_
  refine xR.br (decide (x < 0)) (13, [(0, .int x), (1, .int n)], [], M) (4, [(0, .int x), (1, .int n)], [], M) rfl (fun h => ?_) (fun h => ?_)
  · refine xR.go 1 (14, [(0, .int x), (1, .int n)], [.int 0], M) rfl ?_
    refine xR.rt _ _ rfl ⟨⟨?_, rfl⟩, rfl, rfl⟩
    sorry
  · refine xR.go 2 (6, [(0, .int x), (1, .int n)], [.int n, .int x], M) rfl ?_
    refine xR.br (decide (n ≤ x)) (13, [(0, .int x), (1, .int n)], [], M) (9, [(0, .int x), (1, .int n)], [], M) rfl (fun h2 => ?_) (fun h2 => ?_)
    · refine xR.go 1 (14, [(0, .int x), (1, .int n)], [.int 0], M) rfl ?_
      refine xR.rt _ _ rfl ⟨⟨?_, rfl⟩, rfl, rfl⟩
      sorry
    · refine xR.go 2 (14, [(0, .int x), (1, .int n)], [.int 1], M) rfl ?_
      refine xR.rt _ _ rfl ⟨⟨?_, rfl⟩, rfl, rfl⟩
      sorry
