/-! rules of the pure machine -/
section XR
variable {Call : Nat → List Value → xM → Nat → Nat → (Option Value → xM → Prop) → Prop} {mt : xMt} {lim : Nat × Nat} {Q : Option Value → xM → Prop} {s : xS}
theorem xR.st (s' : xS) (h : xstep mt lim s = some s') (k : xR Call mt lim Q s') : xR Call mt lim Q s := fun P h1 h2 h3 h4 => h2 s s' h (k P h1 h2 h3 h4)
theorem xR.rt (r : Option Value) (M : xM) (h : xret mt s = some (r, M)) (k : Q r M) : xR Call mt lim Q s := fun _ h1 _ _ _ => h1 s r M h k
theorem xR.ca (j : Nat) (as rest : List Value) (kc ks : Nat) {Q' : Option Value → xM → Prop} (h : xcall mt s = some (j, as, rest)) (h1 : s.2.2.2.1.length + kc ≤ lim.1) (h2 : xsum s.2.2.2 + ks ≤ lim.2) (hc : Call j as s.2.2.2 kc ks Q') (k : ∀ r M, Q' r M → xR Call mt lim Q (xback s rest r M)) : xR Call mt lim Q s :=
  fun P g1 g2 g3 g4 => g3 s j as rest kc ks Q' h h1 h2 hc (fun r M q => k r M q P g1 g2 g3 g4)
theorem xR.fo (ls : xL) (h : ∀ q ∈ ls, q ∈ s.2.1) (k : xR Call mt lim Q (s.1, ls, s.2.2.1, s.2.2.2)) : xR Call mt lim Q s := fun P h1 h2 h3 h4 => h4 s ls h (k P h1 h2 h3 h4)
theorem xR.br (c : Bool) (s1 s2 : xS) (h : xstep mt lim s = bif c then some s1 else some s2) (k1 : c = true → xR Call mt lim Q s1) (k2 : c = false → xR Call mt lim Q s2) : xR Call mt lim Q s := by
  cases hc : c with
  | true => exact xR.st s1 (by rw [h, hc]; rfl) (k1 hc)
  | false => exact xR.st s2 (by rw [h, hc]; rfl) (k2 hc)
theorem xR.ck (c : Bool) (s' : xS) (h : xstep mt lim s = bif c then some s' else none) (hc : c = true) (k : xR Call mt lim Q s') : xR Call mt lim Q s := xR.st s' (by rw [h, hc]; rfl) k
theorem xR.po {Q' : Option Value → xM → Prop} (h : xR Call mt lim Q' s) (k : ∀ r M, Q' r M → Q r M) : xR Call mt lim Q s := fun P h1 h2 h3 h4 => h P (fun s r M g q => h1 s r M g (k r M q)) h2 h3 h4
def xmany (mt : xMt) (lim : Nat × Nat) : Nat → xS → Option xS
  | 0, s => some s
  | n + 1, s => match xstep mt lim s with
    | some s' => xmany mt lim n s'
    | none => none
theorem xR.go (n : Nat) (s' : xS) (h : xmany mt lim n s = some s') (k : xR Call mt lim Q s') : xR Call mt lim Q s := by
  induction n generalizing s with
  | zero => cases h; exact k
  | succ n ih =>
    unfold xmany at h
    split at h
    · rename_i s1 h1; exact xR.st s1 h1 (ih h)
    · cases h
end XR
theorem xC.po {d j : Nat} {as : List Value} {M : xM} {kc ks : Nat} {Q Q' : Option Value → xM → Prop} (h : xC d j as M kc ks Q) (k : ∀ r M, Q r M → Q' r M) : xC d j as M kc ks Q' := by
  cases d with
  | zero => exact h
  | succ d =>
    obtain ⟨mt, h1, h2, h3⟩ := h
    exact ⟨mt, h1, h2, xR.po h3 (fun r M q => ⟨k r M q.1, q.2⟩)⟩
def xb (p : Prop) [Decidable p] : Int32 := if p then 1 else 0
