theorem xoi_inst : Jvm.Cond.instanceMethod objectInit ∈ lw_tbl := by decide +kernel
set_option maxRecDepth 100000 in
theorem xoi_code : Jvm.Cond.code objectInit ⟨#[0xb1]⟩ 1 none ∈ lw_tbl := List.mem_of_getElem? (i := 65) rfl
section XINS
variable {p : Program} {l : Launch} {e : Env} {R : Room} {s : State} {m : MethodId} {args : Array Value} {below : List Frame} {meth : Method} {c : Code} {Qw : State → Prop} {G : xG} {n0 t0 : Nat} {own mk : Nat} {lim : Nat × Nat} {len op pc : Nat} {ls : xL} {st : List Value} {M : xM} {S : xS}

theorem xU_ne {α : Type} {f : Nat → Nat → α} {a k : Nat} {v : α} {x : Nat} (h : x ≠ a) : xU f a k v x = f x := va_up_ne f _ h
theorem xU_at {α : Type} {f : Nat → Nat → α} {a k : Nat} {v : α} : xU f a k v a = va_up (f a) k v := va_up_self f a _

theorem xar_cases {M : xM} {a q1 q2 : Nat} (h : xar M a = some (q1, q2)) : (a < 1000 ∧ M.1[a]? = some (q1, q2)) ∨ (∃ k, k < 4 ∧ a = 1000 + k ∧ q1 = 20 ∧ M.2.1 1000 k = some q2) := by
  obtain ⟨lay, mr, mi, ml⟩ := M
  unfold xar at h
  cases hb : Nat.ble 1000 a with
  | false =>
    rw [hb] at h
    refine Or.inl ⟨?_, h⟩
    rcases Nat.lt_or_ge a 1000 with z | z
    · exact z
    · rw [Nat.ble_eq_true_of_le z] at hb; cases hb
  | true =>
    rw [hb] at h
    have h1 := Nat.le_of_ble_eq_true hb
    simp only [cond_true] at h
    cases hb2 : Nat.ble a 1003 with
    | false => rw [hb2] at h; cases h
    | true =>
      rw [hb2] at h
      have h2 := Nat.le_of_ble_eq_true hb2
      simp only [cond_true] at h
      split at h
      · rename_i n hn
        cases h
        exact Or.inr ⟨a - 1000, by omega, by omega, rfl, hn⟩
      · cases h

theorem xi_iaload  (Bd : xBd p R s m args meth c G n0 t0 own mk lim) (hd : decode c.code pc = .ok (.iaload, len)) (ok : xokI own c.maxLocals pc (.iaload) len op = true) (h : xins own mk lim (.iaload) len op pc ls st M = some S) (k : xPW p l e R s m args below meth c Qw G n0 t0 S.1 S.2.1 S.2.2.1 S.2.2.2) : xPW p l e R s m args below meth c Qw G n0 t0 pc ls st M := by
  obtain ⟨hx, hown, hts, hK, hin, hlim, hfr, hlo⟩ := Bd
  obtain rfl : len = 1 := Nat.eq_of_beq_eq_true ok
  simp only [xins] at h
  split at h
  · rename_i j a r
    split at h
    · rename_i q1 q2 hq
      cases hb : (Nat.beq q1 20 && xin j q2) with
      | false => rw [hb] at h; cases h
      | true =>
        rw [hb] at h
        cases h
        obtain ⟨hb1, hb2⟩ := Bool.and_eq_true_iff.mp hb
        obtain rfl := Nat.eq_of_beq_eq_true hb1
        refine xs_go k (fun H locs LS cells slots g1 hF _ w => ?_)
        rcases xar_cases hq with ⟨hlt, hq⟩ | ⟨z, hz4, rfl, -, hz⟩
        · have ha := g1.2.2.1 a _ hq
          rw [xE20] at ha
          simp only [List.map_cons, xv, xGr_lt hlt] at w ⊢
          exact va_iald hx rfl hK.1 (va_one ha) 0 0 rfl rfl (xin_in hb2) hd w
        · obtain ⟨cell, c1, c2, c3, c4, c5, c6, c7⟩ := xfix hK hF hz4
          obtain ⟨m1, m2⟩ := g1.2.2.2 z hz4
          obtain rfl : G.2.2.1 z = q2 := Option.some.inj (m1.symm.trans hz)
          have hi := xin_in hb2
          have hlt : j.toNatClampNeg < G.2.2.1 z := Nat.not_le.mp fun q => hi (Or.inr q)
          simp only [List.map_cons, xv, xGr_fx, m2] at w ⊢
          exact W.iald hx rfl c1 c2 c3 (fun q => q.elim (fun q => hi (Or.inl q)) (fun q => by omega)) (c6 _ hlt) rfl rfl hd w
    · cases h
  · cases h

theorem xi_baload  (Bd : xBd p R s m args meth c G n0 t0 own mk lim) (hd : decode c.code pc = .ok (.baload, len)) (ok : xokI own c.maxLocals pc (.baload) len op = true) (h : xins own mk lim (.baload) len op pc ls st M = some S) (k : xPW p l e R s m args below meth c Qw G n0 t0 S.1 S.2.1 S.2.2.1 S.2.2.2) : xPW p l e R s m args below meth c Qw G n0 t0 pc ls st M := by
  obtain ⟨hx, hown, hts, hK, hin, hlim, hfr, hlo⟩ := Bd
  obtain rfl : len = 1 := Nat.eq_of_beq_eq_true ok
  simp only [xins] at h
  split at h
  · rename_i j a r
    split at h
    · rename_i q1 q2 hq
      cases hb : (Nat.beq q1 22 && xin j q2) with
      | false => rw [hb] at h; cases h
      | true =>
        rw [hb] at h
        cases h
        obtain ⟨hb1, hb2⟩ := Bool.and_eq_true_iff.mp hb
        obtain rfl := Nat.eq_of_beq_eq_true hb1
        refine xs_go k (fun H locs LS cells slots g1 hF _ w => ?_)
        have hlt := xlay_lt g1 hq
        have ha := g1.2.2.1 a _ hq
        rw [xE22] at ha
        simp only [List.map_cons, xv, xGr_lt hlt] at w ⊢
        exact va_zald hx rfl hK.1 (va_one ha) 0 2 rfl rfl (xin_in hb2) hd w
    · cases h
  · cases h

theorem xi_laload  (Bd : xBd p R s m args meth c G n0 t0 own mk lim) (hd : decode c.code pc = .ok (.laload, len)) (ok : xokI own c.maxLocals pc (.laload) len op = true) (h : xins own mk lim (.laload) len op pc ls st M = some S) (k : xPW p l e R s m args below meth c Qw G n0 t0 S.1 S.2.1 S.2.2.1 S.2.2.2) : xPW p l e R s m args below meth c Qw G n0 t0 pc ls st M := by
  obtain ⟨hx, hown, hts, hK, hin, hlim, hfr, hlo⟩ := Bd
  obtain rfl : len = 1 := Nat.eq_of_beq_eq_true ok
  simp only [xins] at h
  split at h
  · rename_i j a r
    split at h
    · rename_i q1 q2 hq
      cases hb : (Nat.beq q1 21 && xin j q2) with
      | false => rw [hb] at h; cases h
      | true =>
        rw [hb] at h
        cases h
        obtain ⟨hb1, hb2⟩ := Bool.and_eq_true_iff.mp hb
        obtain rfl := Nat.eq_of_beq_eq_true hb1
        refine xs_go k (fun H locs LS cells slots g1 hF _ w => ?_)
        have hlt := xlay_lt g1 hq
        have ha := g1.2.2.1 a _ hq
        rw [xE21] at ha
        simp only [List.map_cons, xv, xGr_lt hlt] at w ⊢
        exact va_lald hx rfl hK.1 (va_one ha) 0 1 rfl rfl (xin_in hb2) hd w
    · cases h
  · cases h

theorem xi_aaload  (Bd : xBd p R s m args meth c G n0 t0 own mk lim) (hd : decode c.code pc = .ok (.aaload, len)) (ok : xokI own c.maxLocals pc (.aaload) len op = true) (h : xins own mk lim (.aaload) len op pc ls st M = some S) (k : xPW p l e R s m args below meth c Qw G n0 t0 S.1 S.2.1 S.2.2.1 S.2.2.2) : xPW p l e R s m args below meth c Qw G n0 t0 pc ls st M := by
  obtain ⟨hx, hown, hts, hK, hin, hlim, hfr, hlo⟩ := Bd
  obtain rfl : len = 1 := Nat.eq_of_beq_eq_true ok
  simp only [xins] at h
  split at h
  · rename_i j a r
    split at h
    · rename_i q1 q2 hq
      cases hb : ((Nat.beq q1 23 || Nat.beq q1 24) && xin j q2) with
      | false => rw [hb] at h; cases h
      | true =>
        rw [hb] at h
        cases h
        obtain ⟨hb1, hb2⟩ := Bool.and_eq_true_iff.mp hb
        refine xs_go k (fun H locs LS cells slots g1 hF _ w => ?_)
        have hlt := xlay_lt g1 hq
        have ha := g1.2.2.1 a _ hq
        simp only [List.map_cons, xrv_map] at w ⊢
        rw [show xv (xGr G) (Value.ref a) = .ref (G.1 + a) from congrArg Value.ref (xGr_lt hlt)]
        rcases Bool.or_eq_true_iff.mp hb1 with hb1 | hb1
        · obtain rfl := Nat.eq_of_beq_eq_true hb1
          rw [xE23] at ha
          exact va_aldq hx rfl hK.1 (va_one ha) 0 3 rfl rfl (xin_in hb2) hd w
        · obtain rfl := Nat.eq_of_beq_eq_true hb1
          rw [xE24] at ha
          exact va_aldq hx rfl hK.1 (va_one ha) 0 4 rfl rfl (xin_in hb2) hd w
    · cases h
  · cases h

theorem xi_arraylength  (Bd : xBd p R s m args meth c G n0 t0 own mk lim) (hd : decode c.code pc = .ok (.arraylength, len)) (ok : xokI own c.maxLocals pc (.arraylength) len op = true) (h : xins own mk lim (.arraylength) len op pc ls st M = some S) (k : xPW p l e R s m args below meth c Qw G n0 t0 S.1 S.2.1 S.2.2.1 S.2.2.2) : xPW p l e R s m args below meth c Qw G n0 t0 pc ls st M := by
  obtain ⟨hx, hown, hts, hK, hin, hlim, hfr, hlo⟩ := Bd
  obtain rfl : len = 1 := Nat.eq_of_beq_eq_true ok
  simp only [xins] at h
  split at h
  · rename_i a r
    split at h
    · rename_i q1 q2 hq
      cases hb : (Nat.ble 20 q1 && Nat.ble q1 24) with
      | false => rw [hb] at h; cases h
      | true =>
        rw [hb] at h
        cases h
        obtain ⟨hb1, hb2⟩ := Bool.and_eq_true_iff.mp hb
        have hb1 := Nat.le_of_ble_eq_true hb1
        have hb2 := Nat.le_of_ble_eq_true hb2
        refine xs_go k (fun H locs LS cells slots g1 hF _ w => ?_)
        rcases xar_cases hq with ⟨hlt, hq⟩ | ⟨z, hz4, rfl, -, hz⟩
        · have ha := g1.2.2.1 a _ hq
          simp only [List.map_cons, xv, xGr_lt hlt] at w ⊢
          rcases (show q1 = 20 ∨ q1 = 21 ∨ q1 = 22 ∨ q1 = 23 ∨ q1 = 24 by omega) with rfl | rfl | rfl | rfl | rfl
          · exact va_alen hx rfl hK.1 (va_one ha) 0 0 rfl rfl rfl hd w
          · exact va_alen hx rfl hK.1 (va_one ha) 0 1 rfl rfl rfl hd w
          · exact va_alen hx rfl hK.1 (va_one ha) 0 2 rfl rfl rfl hd w
          · exact va_alen hx rfl hK.1 (va_one ha) 0 3 rfl rfl rfl hd w
          · exact va_alen hx rfl hK.1 (va_one ha) 0 4 rfl rfl rfl hd w
        · obtain ⟨cell, c1, c2, c3, c4, c5, c6, c7⟩ := xfix hK hF hz4
          obtain ⟨m1, m2⟩ := g1.2.2.2 z hz4
          obtain rfl : G.2.2.1 z = q2 := Option.some.inj (m1.symm.trans hz)
          simp only [List.map_cons, xv, xGr_fx] at w ⊢
          exact W.alen hx rfl c1 c2 c5 rfl rfl hd w
    · cases h
  · cases h

theorem xi_iastore  (Bd : xBd p R s m args meth c G n0 t0 own mk lim) (hd : decode c.code pc = .ok (.iastore, len)) (ok : xokI own c.maxLocals pc (.iastore) len op = true) (h : xins own mk lim (.iastore) len op pc ls st M = some S) (k : xPW p l e R s m args below meth c Qw G n0 t0 S.1 S.2.1 S.2.2.1 S.2.2.2) : xPW p l e R s m args below meth c Qw G n0 t0 pc ls st M := by
  obtain ⟨hx, hown, hts, hK, hin, hlim, hfr, hlo⟩ := Bd
  obtain rfl : len = 1 := Nat.eq_of_beq_eq_true ok
  simp only [xins] at h
  split at h
  · rename_i x j a r
    split at h
    · rename_i q1 q2 hq
      cases hb : (Nat.beq q1 20 && xin j q2) with
      | false => rw [hb] at h; cases h
      | true =>
        rw [hb] at h
        cases h
        obtain ⟨hb1, hb2⟩ := Bool.and_eq_true_iff.mp hb
        obtain rfl := Nat.eq_of_beq_eq_true hb1
        obtain ⟨lay, mr, mi, ml⟩ := M
        refine xs_wr k hq rfl (fun y hy => ⟨rfl, xU_ne hy, rfl⟩) (fun H locs LS cells slots ha g1 kk => ?_)
        have hlt := xlay_lt g1 hq
        simp only [List.map_cons, xv, xGr_lt hlt]
        rw [xE20] at ha
        refine xr_iast hx rfl hK.1 0 ha rfl (xin_in hb2) hd (fun H1 i ha1 hs ho => kk H1 i ?_ hs ho)
        rw [xE20]
        simp only [xwi, xU_at]
        exact ha1
    · cases h
  · cases h

theorem xi_bastore  (Bd : xBd p R s m args meth c G n0 t0 own mk lim) (hd : decode c.code pc = .ok (.bastore, len)) (ok : xokI own c.maxLocals pc (.bastore) len op = true) (h : xins own mk lim (.bastore) len op pc ls st M = some S) (k : xPW p l e R s m args below meth c Qw G n0 t0 S.1 S.2.1 S.2.2.1 S.2.2.2) : xPW p l e R s m args below meth c Qw G n0 t0 pc ls st M := by
  obtain ⟨hx, hown, hts, hK, hin, hlim, hfr, hlo⟩ := Bd
  obtain rfl : len = 1 := Nat.eq_of_beq_eq_true ok
  simp only [xins] at h
  split at h
  · rename_i x j a r
    split at h
    · rename_i q1 q2 hq
      cases hb : (Nat.beq q1 22 && xin j q2 && xz x) with
      | false => rw [hb] at h; cases h
      | true =>
        rw [hb] at h
        cases h
        obtain ⟨hb0, hb3⟩ := Bool.and_eq_true_iff.mp hb
        obtain ⟨hb1, hb2⟩ := Bool.and_eq_true_iff.mp hb0
        obtain rfl := Nat.eq_of_beq_eq_true hb1
        obtain ⟨lay, mr, mi, ml⟩ := M
        refine xs_wr k hq rfl (fun y hy => ⟨rfl, xU_ne hy, rfl⟩) (fun H locs LS cells slots ha g1 kk => ?_)
        have hlt := xlay_lt g1 hq
        simp only [List.map_cons, xv, xGr_lt hlt]
        rw [xE22] at ha
        refine xr_zast hx rfl hK.1 2 ha rfl (xin_in hb2) (xz_narrow hb3).1 hd (fun H1 i ha1 hs ho => kk H1 i ?_ hs ho)
        rw [xE22]
        simp only [xwi, xU_at]
        exact ha1
    · cases h
  · cases h

theorem xi_lastore  (Bd : xBd p R s m args meth c G n0 t0 own mk lim) (hd : decode c.code pc = .ok (.lastore, len)) (ok : xokI own c.maxLocals pc (.lastore) len op = true) (h : xins own mk lim (.lastore) len op pc ls st M = some S) (k : xPW p l e R s m args below meth c Qw G n0 t0 S.1 S.2.1 S.2.2.1 S.2.2.2) : xPW p l e R s m args below meth c Qw G n0 t0 pc ls st M := by
  obtain ⟨hx, hown, hts, hK, hin, hlim, hfr, hlo⟩ := Bd
  obtain rfl : len = 1 := Nat.eq_of_beq_eq_true ok
  simp only [xins] at h
  split at h
  · rename_i x j a r
    split at h
    · rename_i q1 q2 hq
      cases hb : (Nat.beq q1 21 && xin j q2) with
      | false => rw [hb] at h; cases h
      | true =>
        rw [hb] at h
        cases h
        obtain ⟨hb1, hb2⟩ := Bool.and_eq_true_iff.mp hb
        obtain rfl := Nat.eq_of_beq_eq_true hb1
        obtain ⟨lay, mr, mi, ml⟩ := M
        refine xs_wr k hq rfl (fun y hy => ⟨rfl, rfl, xU_ne hy⟩) (fun H locs LS cells slots ha g1 kk => ?_)
        have hlt := xlay_lt g1 hq
        simp only [List.map_cons, xv, xGr_lt hlt]
        rw [xE21] at ha
        refine xr_last hx rfl hK.1 1 ha rfl (xin_in hb2) hd (fun H1 i ha1 hs ho => kk H1 i ?_ hs ho)
        rw [xE21]
        simp only [xwl, xU_at]
        exact ha1
    · cases h
  · cases h

theorem xi_aastore  (Bd : xBd p R s m args meth c G n0 t0 own mk lim) (hd : decode c.code pc = .ok (.aastore, len)) (ok : xokI own c.maxLocals pc (.aastore) len op = true) (h : xins own mk lim (.aastore) len op pc ls st M = some S) (k : xPW p l e R s m args below meth c Qw G n0 t0 S.1 S.2.1 S.2.2.1 S.2.2.2) : xPW p l e R s m args below meth c Qw G n0 t0 pc ls st M := by
  obtain ⟨hx, hown, hts, hK, hin, hlim, hfr, hlo⟩ := Bd
  obtain rfl : len = 1 := Nat.eq_of_beq_eq_true ok
  simp only [xins] at h
  split at h
  · rename_i b j a r
    split at h
    · rename_i q1 q2 o1 o2 hq ho
      cases hb : (Nat.ble 23 q1 && Nat.ble q1 24 && Nat.beq (xcomp q1) o1 && xin j q2) with
      | false => rw [hb] at h; cases h
      | true =>
        rw [hb] at h
        cases h
        simp only [Bool.and_eq_true] at hb
        obtain ⟨⟨⟨hb1, hb2⟩, hb3⟩, hb4⟩ := hb
        have hb1 := Nat.le_of_ble_eq_true hb1
        have hb2 := Nat.le_of_ble_eq_true hb2
        obtain rfl := Nat.eq_of_beq_eq_true hb3
        obtain ⟨lay, mr, mi, ml⟩ := M
        refine xs_wr k hq rfl (fun y hy => ⟨xU_ne hy, rfl, rfl⟩) (fun H locs LS cells slots ha g1 kk => ?_)
        have hlt := xlay_lt g1 hq
        have hlb := xlay_lt g1 ho
        have hvb := g1.2.2.1 b _ ho
        have hcm : xcomp q1 < 10 := by rcases (show q1 = 23 ∨ q1 = 24 by omega) with rfl | rfl <;> decide
        rw [xE_obj (q := (xcomp q1, o2)) hcm] at hvb
        simp only [List.map_cons, xv, xGr_lt hlt, xGr_lt hlb]
        rcases (show q1 = 23 ∨ q1 = 24 by omega) with rfl | rfl
        · rw [xE23] at ha
          refine xr_aast hx rfl hK.1 3 (xcomp 23) ha (r := (xnm (xcomp 23), xT (xcomp 23), xN (xcomp 23))) rfl hvb (xcl_at _ hcm) (xin_in hb4) hd (fun H1 i ha1 hs ho => kk H1 i ?_ hs ho)
          rw [xE23]
          simp only [xwr, xU_at]
          rw [← xGr_lt hlb] at ha1
          refine cast ?_ ha1
          congr 9
          funext z
          by_cases hz : z = j.toNatClampNeg
          · subst hz; rw [va_up_self, va_up_self]; rfl
          · rw [va_up_ne _ _ hz, va_up_ne _ _ hz]
        · rw [xE24] at ha
          refine xr_aast hx rfl hK.1 4 (xcomp 24) ha (r := (xnm (xcomp 24), xT (xcomp 24), xN (xcomp 24))) rfl hvb (xcl_at _ hcm) (xin_in hb4) hd (fun H1 i ha1 hs ho => kk H1 i ?_ hs ho)
          rw [xE24]
          simp only [xwr, xU_at]
          rw [← xGr_lt hlb] at ha1
          refine cast ?_ ha1
          congr 9
          funext z
          by_cases hz : z = j.toNatClampNeg
          · subst hz; rw [va_up_self, va_up_self]; rfl
          · rw [va_up_ne _ _ hz, va_up_ne _ _ hz]
    · cases h
  · cases h

theorem xi_objinit (x : Nat) (Bd : xBd p R s m args meth c G n0 t0 own mk lim) (hd : decode c.code pc = .ok (.invokespecial x, len)) (ok : xokI own c.maxLocals pc (.invokespecial x) len op = true) (h : xins own mk lim (.invokespecial x) len op pc ls st M = some S) (k : xPW p l e R s m args below meth c Qw G n0 t0 S.1 S.2.1 S.2.2.1 S.2.2.2) : xPW p l e R s m args below meth c Qw G n0 t0 pc ls st M := by
  obtain ⟨hx, hown, hts, hK, hin, hlim, hfr, hlo⟩ := Bd
  obtain ⟨ok1, ok2⟩ := Bool.and_eq_true_iff.mp ok
  obtain rfl : len = 3 := Nat.eq_of_beq_eq_true ok1
  simp only [xins] at h
  split at h
  · rename_i a r
    cases hb : (Nat.beq op 9999 && xroom 8 r) with
    | false => rw [hb] at h; cases h
    | true =>
      rw [hb] at h
      cases h
      obtain ⟨hb1, hb2⟩ := Bool.and_eq_true_iff.mp hb
      rw [hb1] at ok2
      have hl := xOL_ok _ (contains_mem ok2)
      have hsum := xroom_sum (xGr G) hb2
      refine xs_go k (fun H locs LS cells slots g1 hF hl4 w => ?_)
      refine W.objInit hx rfl hown (hts _ (gws_in hl rfl)) (hts _ (gws_in xoi_inst rfl)) (hts _ (gws_in xoi_code rfl)) rfl hl4.1 rfl hd hfr ?_ w
      show 2 * 0 + _ + 12 ≤ _
      omega
  · cases h

end XINS
