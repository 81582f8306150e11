/-! further rules of bodies: switches, longs compared with 0, truth -/
section XB2
variable {d : Nat} {mt : xMt} {L : Nat} {Q : Option Value → xmi → xml → Prop} {s : xS}
theorem xB.st (s' : xS) (h : xstep mt xlim s = some s') (k : xB d mt L Q s') : xB d mt L Q s := xR.st s' h k
theorem xB.tp {x y : Int32} {pc : Nat} {ls : xL} {st : List Value} {M : xM} (h : x = y) (k : xB d mt L Q (pc, ls, .int y :: st, M)) : xB d mt L Q (pc, ls, .int x :: st, M) := h ▸ k
theorem lgz {x y : Int64} : lg_cmp x y = 0 ↔ x = y := by
  unfold lg_cmp
  by_cases h : x > y
  · rw [if_pos h]
    refine ⟨fun z => absurd z (by decide), fun z => ?_⟩
    subst z
    exact absurd h (by simp)
  · rw [if_neg h]
    by_cases h2 : x = y
    · rw [if_pos h2]; exact ⟨fun _ => h2, fun _ => rfl⟩
    · rw [if_neg h2]; exact ⟨fun z => absurd z (by decide), fun z => absurd z h2⟩
theorem xB.lz (x y : Int64) (s1 s2 : xS) (h : xstep mt xlim s = bif decide (lg_cmp x y = 0) then some s1 else some s2) (k1 : x = y → xB d mt L Q s1) (k2 : ¬ x = y → xB d mt L Q s2) : xB d mt L Q s := xB.bp (lg_cmp x y = 0) s1 s2 h (fun h => k1 (lgz.mp h)) (fun h => k2 (fun z => h (lgz.mpr z)))
theorem xB.ln (x y : Int64) (s1 s2 : xS) (h : xstep mt xlim s = bif decide (¬ lg_cmp x y = 0) then some s1 else some s2) (k1 : ¬ x = y → xB d mt L Q s1) (k2 : x = y → xB d mt L Q s2) : xB d mt L Q s := xB.bp (¬ lg_cmp x y = 0) s1 s2 h (fun h => k1 (fun z => h (lgz.mpr z))) (fun h => k2 (lgz.mp (Decidable.not_not.mp h)))
theorem xsw_ne {x : Int32} (n : Nat) (hn : n < 2 ^ 31) (h : ∀ k, k < n → ¬ x = nI k) : x.toInt < 0 ∨ (n : Int) - 1 < x.toInt := by
  rcases pk_ix x hn with z | z | ⟨j, h1, h2⟩
  · left; rw [Int32.lt_iff_toInt_lt, Int32.toInt_zero] at z; exact z
  · right; rw [Int32.le_iff_toInt_le, nI_toInt hn] at z; omega
  · exact absurd h2 (h j h1)
theorem xsw_d {pc len op t : Nat} {dd lo hi : Int} {offs : Array Int} {x : Int32} {ls : xL} {st : List Value} {M : xM} (hat : xat mt pc = some (.tableswitch dd lo hi offs, len, op)) (hx : x.toInt < lo ∨ hi < x.toInt) (ht : (pc : Int) + dd = Int.ofNat t) : xstep mt xlim (pc, ls, .int x :: st, M) = some (t, ls, st, M) := by
  have hb : (decide (x.toInt < lo) || decide (hi < x.toInt)) = true := by simpa using hx
  simp only [xstep, hat, xins, hb, cond_true, xto, ht]
theorem xls_d {pc len op t : Nat} {dd : Int} {ps : Array (Int × Int)} {x : Int32} {ls : xL} {st : List Value} {M : xM} (hat : xat mt pc = some (.lookupswitch dd ps, len, op)) (hs : ((ps.toList.zip (ps.toList.drop 1)).all (fun (a, next) => decide (a.1 < next.1))) = true) (ho : Op.lookupswitch.offset ps.toList dd x.toInt = dd) (ht : (pc : Int) + dd = Int.ofNat t) : xstep mt xlim (pc, ls, .int x :: st, M) = some (t, ls, st, M) := by
  simp only [xstep, hat, xins, hs, cond_true, xto, ho, ht]
theorem xne_toInt {x : Int32} {k : Nat} (hk : k < 2 ^ 31) (h : ¬ x = nI k) : ¬ x.toInt = (k : Int) := fun z => h (Int32.toInt_inj.mp (by rw [z, nI_toInt hk]))
theorem xlk_2 {x : Int32} {a b oa ob dd : Int} (h1 : ¬ x.toInt = a) (h2 : ¬ x.toInt = b) : Op.lookupswitch.offset [(a, oa), (b, ob)] dd x.toInt = dd := by
  simp [Op.lookupswitch.offset, h1, h2, Ne.symm]
theorem xlk_3 {x : Int32} {a b c oa ob oc dd : Int} (h1 : ¬ x.toInt = a) (h2 : ¬ x.toInt = b) (h3 : ¬ x.toInt = c) : Op.lookupswitch.offset [(a, oa), (b, ob), (c, oc)] dd x.toInt = dd := by
  simp [Op.lookupswitch.offset, h1, h2, h3, Ne.symm]
end XB2
theorem xB.cg {d : Nat} {mt : xMt} {L : Nat} {Q : Option Value → xmi → xml → Prop} {s : xS} (s' : xS) (h : s = s') (k : xB d mt L Q s') : xB d mt L Q s := h ▸ k
