section XINS
variable {p : Program} {l : Launch} {e : Env} {R : Room} {s : State} {m : MethodId} {args : Array Value} {below : List Frame} {meth : Method} {c : Code} {Qw : State → Prop} {G : xG} {n0 t0 : Nat} {own mk : Nat} {lim : Nat × Nat} {len op pc : Nat} {ls : xL} {st : List Value} {M : xM} {S : xS}

theorem xi_iadd  (Bd : xBd p R s m args meth c G n0 t0 own mk lim) (hd : decode c.code pc = .ok (.iadd, len)) (ok : xokI own c.maxLocals pc (.iadd) len op = true) (h : xins own mk lim (.iadd) len op pc ls st M = some S) (k : xPW p l e R s m args below meth c Qw G n0 t0 S.1 S.2.1 S.2.2.1 S.2.2.2) : xPW p l e R s m args below meth c Qw G n0 t0 pc ls st M := by
  obtain ⟨hx, hown, hts, hK, hin, hlim, hfr, hlo⟩ := Bd
  obtain rfl : len = 1 := Nat.eq_of_beq_eq_true ok
  simp only [xins] at h
  split at h
  · cases h
    exact xs_go k (fun H locs LS cells slots _ _ _ w => lv_iadd hx rfl hd w)
  · cases h

theorem xi_isub  (Bd : xBd p R s m args meth c G n0 t0 own mk lim) (hd : decode c.code pc = .ok (.isub, len)) (ok : xokI own c.maxLocals pc (.isub) len op = true) (h : xins own mk lim (.isub) len op pc ls st M = some S) (k : xPW p l e R s m args below meth c Qw G n0 t0 S.1 S.2.1 S.2.2.1 S.2.2.2) : xPW p l e R s m args below meth c Qw G n0 t0 pc ls st M := by
  obtain ⟨hx, hown, hts, hK, hin, hlim, hfr, hlo⟩ := Bd
  obtain rfl : len = 1 := Nat.eq_of_beq_eq_true ok
  simp only [xins] at h
  split at h
  · cases h
    exact xs_go k (fun H locs LS cells slots _ _ _ w => lv_isub hx rfl hd w)
  · cases h

theorem xi_imul  (Bd : xBd p R s m args meth c G n0 t0 own mk lim) (hd : decode c.code pc = .ok (.imul, len)) (ok : xokI own c.maxLocals pc (.imul) len op = true) (h : xins own mk lim (.imul) len op pc ls st M = some S) (k : xPW p l e R s m args below meth c Qw G n0 t0 S.1 S.2.1 S.2.2.1 S.2.2.2) : xPW p l e R s m args below meth c Qw G n0 t0 pc ls st M := by
  obtain ⟨hx, hown, hts, hK, hin, hlim, hfr, hlo⟩ := Bd
  obtain rfl : len = 1 := Nat.eq_of_beq_eq_true ok
  simp only [xins] at h
  split at h
  · cases h
    exact xs_go k (fun H locs LS cells slots _ _ _ w => lv_imul hx rfl hd w)
  · cases h

theorem xi_iand  (Bd : xBd p R s m args meth c G n0 t0 own mk lim) (hd : decode c.code pc = .ok (.iand, len)) (ok : xokI own c.maxLocals pc (.iand) len op = true) (h : xins own mk lim (.iand) len op pc ls st M = some S) (k : xPW p l e R s m args below meth c Qw G n0 t0 S.1 S.2.1 S.2.2.1 S.2.2.2) : xPW p l e R s m args below meth c Qw G n0 t0 pc ls st M := by
  obtain ⟨hx, hown, hts, hK, hin, hlim, hfr, hlo⟩ := Bd
  obtain rfl : len = 1 := Nat.eq_of_beq_eq_true ok
  simp only [xins] at h
  split at h
  · cases h
    exact xs_go k (fun H locs LS cells slots _ _ _ w => lv_iand hx rfl hd w)
  · cases h

theorem xi_ior  (Bd : xBd p R s m args meth c G n0 t0 own mk lim) (hd : decode c.code pc = .ok (.ior, len)) (ok : xokI own c.maxLocals pc (.ior) len op = true) (h : xins own mk lim (.ior) len op pc ls st M = some S) (k : xPW p l e R s m args below meth c Qw G n0 t0 S.1 S.2.1 S.2.2.1 S.2.2.2) : xPW p l e R s m args below meth c Qw G n0 t0 pc ls st M := by
  obtain ⟨hx, hown, hts, hK, hin, hlim, hfr, hlo⟩ := Bd
  obtain rfl : len = 1 := Nat.eq_of_beq_eq_true ok
  simp only [xins] at h
  split at h
  · cases h
    exact xs_go k (fun H locs LS cells slots _ _ _ w => lv_ior hx rfl hd w)
  · cases h

theorem xi_ixor  (Bd : xBd p R s m args meth c G n0 t0 own mk lim) (hd : decode c.code pc = .ok (.ixor, len)) (ok : xokI own c.maxLocals pc (.ixor) len op = true) (h : xins own mk lim (.ixor) len op pc ls st M = some S) (k : xPW p l e R s m args below meth c Qw G n0 t0 S.1 S.2.1 S.2.2.1 S.2.2.2) : xPW p l e R s m args below meth c Qw G n0 t0 pc ls st M := by
  obtain ⟨hx, hown, hts, hK, hin, hlim, hfr, hlo⟩ := Bd
  obtain rfl : len = 1 := Nat.eq_of_beq_eq_true ok
  simp only [xins] at h
  split at h
  · cases h
    exact xs_go k (fun H locs LS cells slots _ _ _ w => lv_ixor hx rfl hd w)
  · cases h

theorem xi_ladd  (Bd : xBd p R s m args meth c G n0 t0 own mk lim) (hd : decode c.code pc = .ok (.ladd, len)) (ok : xokI own c.maxLocals pc (.ladd) len op = true) (h : xins own mk lim (.ladd) len op pc ls st M = some S) (k : xPW p l e R s m args below meth c Qw G n0 t0 S.1 S.2.1 S.2.2.1 S.2.2.2) : xPW p l e R s m args below meth c Qw G n0 t0 pc ls st M := by
  obtain ⟨hx, hown, hts, hK, hin, hlim, hfr, hlo⟩ := Bd
  obtain rfl : len = 1 := Nat.eq_of_beq_eq_true ok
  simp only [xins] at h
  split at h
  · cases h
    exact xs_go k (fun H locs LS cells slots _ _ _ w => lv_ladd hx rfl hd w)
  · cases h

theorem xi_lsub  (Bd : xBd p R s m args meth c G n0 t0 own mk lim) (hd : decode c.code pc = .ok (.lsub, len)) (ok : xokI own c.maxLocals pc (.lsub) len op = true) (h : xins own mk lim (.lsub) len op pc ls st M = some S) (k : xPW p l e R s m args below meth c Qw G n0 t0 S.1 S.2.1 S.2.2.1 S.2.2.2) : xPW p l e R s m args below meth c Qw G n0 t0 pc ls st M := by
  obtain ⟨hx, hown, hts, hK, hin, hlim, hfr, hlo⟩ := Bd
  obtain rfl : len = 1 := Nat.eq_of_beq_eq_true ok
  simp only [xins] at h
  split at h
  · cases h
    exact xs_go k (fun H locs LS cells slots _ _ _ w => lv_lsub hx rfl hd w)
  · cases h

theorem xi_lmul  (Bd : xBd p R s m args meth c G n0 t0 own mk lim) (hd : decode c.code pc = .ok (.lmul, len)) (ok : xokI own c.maxLocals pc (.lmul) len op = true) (h : xins own mk lim (.lmul) len op pc ls st M = some S) (k : xPW p l e R s m args below meth c Qw G n0 t0 S.1 S.2.1 S.2.2.1 S.2.2.2) : xPW p l e R s m args below meth c Qw G n0 t0 pc ls st M := by
  obtain ⟨hx, hown, hts, hK, hin, hlim, hfr, hlo⟩ := Bd
  obtain rfl : len = 1 := Nat.eq_of_beq_eq_true ok
  simp only [xins] at h
  split at h
  · cases h
    exact xs_go k (fun H locs LS cells slots _ _ _ w => lv_lmul hx rfl hd w)
  · cases h

theorem xi_land  (Bd : xBd p R s m args meth c G n0 t0 own mk lim) (hd : decode c.code pc = .ok (.land, len)) (ok : xokI own c.maxLocals pc (.land) len op = true) (h : xins own mk lim (.land) len op pc ls st M = some S) (k : xPW p l e R s m args below meth c Qw G n0 t0 S.1 S.2.1 S.2.2.1 S.2.2.2) : xPW p l e R s m args below meth c Qw G n0 t0 pc ls st M := by
  obtain ⟨hx, hown, hts, hK, hin, hlim, hfr, hlo⟩ := Bd
  obtain rfl : len = 1 := Nat.eq_of_beq_eq_true ok
  simp only [xins] at h
  split at h
  · cases h
    exact xs_go k (fun H locs LS cells slots _ _ _ w => lv_land hx rfl hd w)
  · cases h

theorem xi_lor  (Bd : xBd p R s m args meth c G n0 t0 own mk lim) (hd : decode c.code pc = .ok (.lor, len)) (ok : xokI own c.maxLocals pc (.lor) len op = true) (h : xins own mk lim (.lor) len op pc ls st M = some S) (k : xPW p l e R s m args below meth c Qw G n0 t0 S.1 S.2.1 S.2.2.1 S.2.2.2) : xPW p l e R s m args below meth c Qw G n0 t0 pc ls st M := by
  obtain ⟨hx, hown, hts, hK, hin, hlim, hfr, hlo⟩ := Bd
  obtain rfl : len = 1 := Nat.eq_of_beq_eq_true ok
  simp only [xins] at h
  split at h
  · cases h
    exact xs_go k (fun H locs LS cells slots _ _ _ w => lv_lor hx rfl hd w)
  · cases h

theorem xi_lxor  (Bd : xBd p R s m args meth c G n0 t0 own mk lim) (hd : decode c.code pc = .ok (.lxor, len)) (ok : xokI own c.maxLocals pc (.lxor) len op = true) (h : xins own mk lim (.lxor) len op pc ls st M = some S) (k : xPW p l e R s m args below meth c Qw G n0 t0 S.1 S.2.1 S.2.2.1 S.2.2.2) : xPW p l e R s m args below meth c Qw G n0 t0 pc ls st M := by
  obtain ⟨hx, hown, hts, hK, hin, hlim, hfr, hlo⟩ := Bd
  obtain rfl : len = 1 := Nat.eq_of_beq_eq_true ok
  simp only [xins] at h
  split at h
  · cases h
    exact xs_go k (fun H locs LS cells slots _ _ _ w => lv_lxor hx rfl hd w)
  · cases h

theorem xi_lneg  (Bd : xBd p R s m args meth c G n0 t0 own mk lim) (hd : decode c.code pc = .ok (.lneg, len)) (ok : xokI own c.maxLocals pc (.lneg) len op = true) (h : xins own mk lim (.lneg) len op pc ls st M = some S) (k : xPW p l e R s m args below meth c Qw G n0 t0 S.1 S.2.1 S.2.2.1 S.2.2.2) : xPW p l e R s m args below meth c Qw G n0 t0 pc ls st M := by
  obtain ⟨hx, hown, hts, hK, hin, hlim, hfr, hlo⟩ := Bd
  obtain rfl : len = 1 := Nat.eq_of_beq_eq_true ok
  simp only [xins] at h
  split at h
  · cases h
    exact xs_go k (fun H locs LS cells slots _ _ _ w => lv_lneg hx rfl hd w)
  · cases h

theorem xi_lshl  (Bd : xBd p R s m args meth c G n0 t0 own mk lim) (hd : decode c.code pc = .ok (.lshl, len)) (ok : xokI own c.maxLocals pc (.lshl) len op = true) (h : xins own mk lim (.lshl) len op pc ls st M = some S) (k : xPW p l e R s m args below meth c Qw G n0 t0 S.1 S.2.1 S.2.2.1 S.2.2.2) : xPW p l e R s m args below meth c Qw G n0 t0 pc ls st M := by
  obtain ⟨hx, hown, hts, hK, hin, hlim, hfr, hlo⟩ := Bd
  obtain rfl : len = 1 := Nat.eq_of_beq_eq_true ok
  simp only [xins] at h
  split at h
  · cases h
    exact xs_go k (fun H locs LS cells slots _ _ _ w => lv_lshl hx rfl hd rfl w)
  · cases h

theorem xi_lushr  (Bd : xBd p R s m args meth c G n0 t0 own mk lim) (hd : decode c.code pc = .ok (.lushr, len)) (ok : xokI own c.maxLocals pc (.lushr) len op = true) (h : xins own mk lim (.lushr) len op pc ls st M = some S) (k : xPW p l e R s m args below meth c Qw G n0 t0 S.1 S.2.1 S.2.2.1 S.2.2.2) : xPW p l e R s m args below meth c Qw G n0 t0 pc ls st M := by
  obtain ⟨hx, hown, hts, hK, hin, hlim, hfr, hlo⟩ := Bd
  obtain rfl : len = 1 := Nat.eq_of_beq_eq_true ok
  simp only [xins] at h
  split at h
  · cases h
    exact xs_go k (fun H locs LS cells slots _ _ _ w => lv_lushr hx rfl hd rfl w)
  · cases h

theorem xi_i2l  (Bd : xBd p R s m args meth c G n0 t0 own mk lim) (hd : decode c.code pc = .ok (.i2l, len)) (ok : xokI own c.maxLocals pc (.i2l) len op = true) (h : xins own mk lim (.i2l) len op pc ls st M = some S) (k : xPW p l e R s m args below meth c Qw G n0 t0 S.1 S.2.1 S.2.2.1 S.2.2.2) : xPW p l e R s m args below meth c Qw G n0 t0 pc ls st M := by
  obtain ⟨hx, hown, hts, hK, hin, hlim, hfr, hlo⟩ := Bd
  obtain rfl : len = 1 := Nat.eq_of_beq_eq_true ok
  simp only [xins] at h
  split at h
  · cases h
    exact xs_go k (fun H locs LS cells slots _ _ _ w => lv_i2l hx rfl hd rfl w)
  · cases h

theorem xi_l2i  (Bd : xBd p R s m args meth c G n0 t0 own mk lim) (hd : decode c.code pc = .ok (.l2i, len)) (ok : xokI own c.maxLocals pc (.l2i) len op = true) (h : xins own mk lim (.l2i) len op pc ls st M = some S) (k : xPW p l e R s m args below meth c Qw G n0 t0 S.1 S.2.1 S.2.2.1 S.2.2.2) : xPW p l e R s m args below meth c Qw G n0 t0 pc ls st M := by
  obtain ⟨hx, hown, hts, hK, hin, hlim, hfr, hlo⟩ := Bd
  obtain rfl : len = 1 := Nat.eq_of_beq_eq_true ok
  simp only [xins] at h
  split at h
  · cases h
    exact xs_go k (fun H locs LS cells slots _ _ _ w => lv_l2i hx rfl hd rfl w)
  · cases h

theorem xi_lcmp  (Bd : xBd p R s m args meth c G n0 t0 own mk lim) (hd : decode c.code pc = .ok (.lcmp, len)) (ok : xokI own c.maxLocals pc (.lcmp) len op = true) (h : xins own mk lim (.lcmp) len op pc ls st M = some S) (k : xPW p l e R s m args below meth c Qw G n0 t0 S.1 S.2.1 S.2.2.1 S.2.2.2) : xPW p l e R s m args below meth c Qw G n0 t0 pc ls st M := by
  obtain ⟨hx, hown, hts, hK, hin, hlim, hfr, hlo⟩ := Bd
  obtain rfl : len = 1 := Nat.eq_of_beq_eq_true ok
  simp only [xins] at h
  split at h
  · cases h
    exact xs_go k (fun H locs LS cells slots _ _ _ w => W.lcmp hx rfl hd w)
  · cases h

theorem xi_irem  (Bd : xBd p R s m args meth c G n0 t0 own mk lim) (hd : decode c.code pc = .ok (.irem, len)) (ok : xokI own c.maxLocals pc (.irem) len op = true) (h : xins own mk lim (.irem) len op pc ls st M = some S) (k : xPW p l e R s m args below meth c Qw G n0 t0 S.1 S.2.1 S.2.2.1 S.2.2.2) : xPW p l e R s m args below meth c Qw G n0 t0 pc ls st M := by
  obtain ⟨hx, hown, hts, hK, hin, hlim, hfr, hlo⟩ := Bd
  obtain rfl : len = 1 := Nat.eq_of_beq_eq_true ok
  simp only [xins] at h
  split at h
  · rename_i y x r
    cases hy : decide (y = 0) with
    | true => rw [hy] at h; cases h
    | false =>
      rw [hy] at h
      cases h
      exact xs_go k (fun H locs LS cells slots _ _ _ w => lv_irem hx rfl hd (of_decide_eq_false hy) w)
  · cases h

theorem xi_iconst (n : Int) (Bd : xBd p R s m args meth c G n0 t0 own mk lim) (hd : decode c.code pc = .ok (.iconst n, len)) (ok : xokI own c.maxLocals pc (.iconst n) len op = true) (h : xins own mk lim (.iconst n) len op pc ls st M = some S) (k : xPW p l e R s m args below meth c Qw G n0 t0 S.1 S.2.1 S.2.2.1 S.2.2.2) : xPW p l e R s m args below meth c Qw G n0 t0 pc ls st M := by
  obtain ⟨hx, hown, hts, hK, hin, hlim, hfr, hlo⟩ := Bd
  obtain rfl : len = 1 := Nat.eq_of_beq_eq_true ok
  cases h
  exact xs_go k (fun H locs LS cells slots _ _ _ w => lv_iconst hx rfl hd rfl w)

theorem xi_bipush (n : Int) (Bd : xBd p R s m args meth c G n0 t0 own mk lim) (hd : decode c.code pc = .ok (.bipush n, len)) (ok : xokI own c.maxLocals pc (.bipush n) len op = true) (h : xins own mk lim (.bipush n) len op pc ls st M = some S) (k : xPW p l e R s m args below meth c Qw G n0 t0 S.1 S.2.1 S.2.2.1 S.2.2.2) : xPW p l e R s m args below meth c Qw G n0 t0 pc ls st M := by
  obtain ⟨hx, hown, hts, hK, hin, hlim, hfr, hlo⟩ := Bd
  obtain rfl : len = 2 := Nat.eq_of_beq_eq_true ok
  cases h
  exact xs_go k (fun H locs LS cells slots _ _ _ w => lv_bipush hx rfl hd rfl w)

theorem xi_sipush (n : Int) (Bd : xBd p R s m args meth c G n0 t0 own mk lim) (hd : decode c.code pc = .ok (.sipush n, len)) (ok : xokI own c.maxLocals pc (.sipush n) len op = true) (h : xins own mk lim (.sipush n) len op pc ls st M = some S) (k : xPW p l e R s m args below meth c Qw G n0 t0 S.1 S.2.1 S.2.2.1 S.2.2.2) : xPW p l e R s m args below meth c Qw G n0 t0 pc ls st M := by
  obtain ⟨hx, hown, hts, hK, hin, hlim, hfr, hlo⟩ := Bd
  obtain rfl : len = 3 := Nat.eq_of_beq_eq_true ok
  cases h
  exact xs_go k (fun H locs LS cells slots _ _ _ w => lv_sipush hx rfl hd rfl w)

theorem xi_lconst (n : Fin 2) (Bd : xBd p R s m args meth c G n0 t0 own mk lim) (hd : decode c.code pc = .ok (.lconst n, len)) (ok : xokI own c.maxLocals pc (.lconst n) len op = true) (h : xins own mk lim (.lconst n) len op pc ls st M = some S) (k : xPW p l e R s m args below meth c Qw G n0 t0 S.1 S.2.1 S.2.2.1 S.2.2.2) : xPW p l e R s m args below meth c Qw G n0 t0 pc ls st M := by
  obtain ⟨hx, hown, hts, hK, hin, hlim, hfr, hlo⟩ := Bd
  obtain rfl : len = 1 := Nat.eq_of_beq_eq_true ok
  cases h
  exact xs_go k (fun H locs LS cells slots _ _ _ w => lv_lconst hx rfl hd rfl w)

theorem xi_ldc2_w (x : Nat) (Bd : xBd p R s m args meth c G n0 t0 own mk lim) (hd : decode c.code pc = .ok (.ldc2_w x, len)) (ok : xokI own c.maxLocals pc (.ldc2_w x) len op = true) (h : xins own mk lim (.ldc2_w x) len op pc ls st M = some S) (k : xPW p l e R s m args below meth c Qw G n0 t0 S.1 S.2.1 S.2.2.1 S.2.2.2) : xPW p l e R s m args below meth c Qw G n0 t0 pc ls st M := by
  obtain ⟨hx, hown, hts, hK, hin, hlim, hfr, hlo⟩ := Bd
  obtain ⟨ok1, ok2⟩ := Bool.and_eq_true_iff.mp ok
  obtain rfl : len = 3 := Nat.eq_of_beq_eq_true ok1
  have hc := xDL_ok _ (contains_mem ok2)
  cases h
  exact xs_go k (fun H locs LS cells slots _ _ _ w => lv_ldc2 hx rfl hown (hts _ (gws_in hc rfl)) hd w)

theorem xi_iload (n : Nat) (Bd : xBd p R s m args meth c G n0 t0 own mk lim) (hd : decode c.code pc = .ok (.iload n, len)) (ok : xokI own c.maxLocals pc (.iload n) len op = true) (h : xins own mk lim (.iload n) len op pc ls st M = some S) (k : xPW p l e R s m args below meth c Qw G n0 t0 S.1 S.2.1 S.2.2.1 S.2.2.2) : xPW p l e R s m args below meth c Qw G n0 t0 pc ls st M := by
  obtain ⟨hx, hown, hts, hK, hin, hlim, hfr, hlo⟩ := Bd
  obtain rfl : len = 2 := Nat.eq_of_beq_eq_true ok
  simp only [xins] at h
  obtain ⟨v, hv, hS⟩ := xs_xldi h
  subst hS
  exact xs_load hx hv k (fun H locs LS cells slots g w => lv_iload hx rfl hd g w)

theorem xi_iload_n (n : Fin 4) (Bd : xBd p R s m args meth c G n0 t0 own mk lim) (hd : decode c.code pc = .ok (.iload_n n, len)) (ok : xokI own c.maxLocals pc (.iload_n n) len op = true) (h : xins own mk lim (.iload_n n) len op pc ls st M = some S) (k : xPW p l e R s m args below meth c Qw G n0 t0 S.1 S.2.1 S.2.2.1 S.2.2.2) : xPW p l e R s m args below meth c Qw G n0 t0 pc ls st M := by
  obtain ⟨hx, hown, hts, hK, hin, hlim, hfr, hlo⟩ := Bd
  obtain rfl : len = 1 := Nat.eq_of_beq_eq_true ok
  simp only [xins] at h
  obtain ⟨v, hv, hS⟩ := xs_xldi h
  subst hS
  exact xs_load hx hv k (fun H locs LS cells slots g w => lv_iload_n hx rfl hd rfl g w)

theorem xi_lload (n : Nat) (Bd : xBd p R s m args meth c G n0 t0 own mk lim) (hd : decode c.code pc = .ok (.lload n, len)) (ok : xokI own c.maxLocals pc (.lload n) len op = true) (h : xins own mk lim (.lload n) len op pc ls st M = some S) (k : xPW p l e R s m args below meth c Qw G n0 t0 S.1 S.2.1 S.2.2.1 S.2.2.2) : xPW p l e R s m args below meth c Qw G n0 t0 pc ls st M := by
  obtain ⟨hx, hown, hts, hK, hin, hlim, hfr, hlo⟩ := Bd
  obtain rfl : len = 2 := Nat.eq_of_beq_eq_true ok
  simp only [xins] at h
  obtain ⟨v, hv, hS⟩ := xs_xldl h
  subst hS
  exact xs_load hx hv k (fun H locs LS cells slots g w => lv_lload hx rfl hd g w)

theorem xi_lload_n (n : Fin 4) (Bd : xBd p R s m args meth c G n0 t0 own mk lim) (hd : decode c.code pc = .ok (.lload_n n, len)) (ok : xokI own c.maxLocals pc (.lload_n n) len op = true) (h : xins own mk lim (.lload_n n) len op pc ls st M = some S) (k : xPW p l e R s m args below meth c Qw G n0 t0 S.1 S.2.1 S.2.2.1 S.2.2.2) : xPW p l e R s m args below meth c Qw G n0 t0 pc ls st M := by
  obtain ⟨hx, hown, hts, hK, hin, hlim, hfr, hlo⟩ := Bd
  obtain rfl : len = 1 := Nat.eq_of_beq_eq_true ok
  simp only [xins] at h
  obtain ⟨v, hv, hS⟩ := xs_xldl h
  subst hS
  exact xs_load hx hv k (fun H locs LS cells slots g w => lv_lload_n hx rfl hd rfl g w)

theorem xi_aload (n : Nat) (Bd : xBd p R s m args meth c G n0 t0 own mk lim) (hd : decode c.code pc = .ok (.aload n, len)) (ok : xokI own c.maxLocals pc (.aload n) len op = true) (h : xins own mk lim (.aload n) len op pc ls st M = some S) (k : xPW p l e R s m args below meth c Qw G n0 t0 S.1 S.2.1 S.2.2.1 S.2.2.2) : xPW p l e R s m args below meth c Qw G n0 t0 pc ls st M := by
  obtain ⟨hx, hown, hts, hK, hin, hlim, hfr, hlo⟩ := Bd
  obtain rfl : len = 2 := Nat.eq_of_beq_eq_true ok
  simp only [xins] at h
  obtain ⟨v, hv, hS⟩ := xs_xlda h
  subst hS
  exact xs_load hx hv k (fun H locs LS cells slots g w => lv_aload hx rfl hd g w)

theorem xi_aload_n (n : Fin 4) (Bd : xBd p R s m args meth c G n0 t0 own mk lim) (hd : decode c.code pc = .ok (.aload_n n, len)) (ok : xokI own c.maxLocals pc (.aload_n n) len op = true) (h : xins own mk lim (.aload_n n) len op pc ls st M = some S) (k : xPW p l e R s m args below meth c Qw G n0 t0 S.1 S.2.1 S.2.2.1 S.2.2.2) : xPW p l e R s m args below meth c Qw G n0 t0 pc ls st M := by
  obtain ⟨hx, hown, hts, hK, hin, hlim, hfr, hlo⟩ := Bd
  obtain rfl : len = 1 := Nat.eq_of_beq_eq_true ok
  simp only [xins] at h
  obtain ⟨v, hv, hS⟩ := xs_xlda h
  subst hS
  exact xs_load hx hv k (fun H locs LS cells slots g w => lv_aload_n hx rfl hd rfl g w)

theorem xi_istore (n : Nat) (Bd : xBd p R s m args meth c G n0 t0 own mk lim) (hd : decode c.code pc = .ok (.istore n, len)) (ok : xokI own c.maxLocals pc (.istore n) len op = true) (h : xins own mk lim (.istore n) len op pc ls st M = some S) (k : xPW p l e R s m args below meth c Qw G n0 t0 S.1 S.2.1 S.2.2.1 S.2.2.2) : xPW p l e R s m args below meth c Qw G n0 t0 pc ls st M := by
  obtain ⟨hx, hown, hts, hK, hin, hlim, hfr, hlo⟩ := Bd
  obtain ⟨ok1, ok2⟩ := Bool.and_eq_true_iff.mp ok
  obtain rfl : len = 2 := Nat.eq_of_beq_eq_true ok1
  simp only [xins] at h
  split at h
  · cases h
    exact xs_sto1 k (fun H locs LS cells slots g kk => lv_istore hx rfl hd g (Nat.le_of_ble_eq_true ok2) rfl kk)
  · cases h

theorem xi_istore_n (n : Fin 4) (Bd : xBd p R s m args meth c G n0 t0 own mk lim) (hd : decode c.code pc = .ok (.istore_n n, len)) (ok : xokI own c.maxLocals pc (.istore_n n) len op = true) (h : xins own mk lim (.istore_n n) len op pc ls st M = some S) (k : xPW p l e R s m args below meth c Qw G n0 t0 S.1 S.2.1 S.2.2.1 S.2.2.2) : xPW p l e R s m args below meth c Qw G n0 t0 pc ls st M := by
  obtain ⟨hx, hown, hts, hK, hin, hlim, hfr, hlo⟩ := Bd
  obtain ⟨ok1, ok2⟩ := Bool.and_eq_true_iff.mp ok
  obtain rfl : len = 1 := Nat.eq_of_beq_eq_true ok1
  simp only [xins] at h
  split at h
  · cases h
    exact xs_sto1 k (fun H locs LS cells slots g kk => lv_istore_n hx rfl hd rfl g (Nat.le_of_ble_eq_true ok2) rfl kk)
  · cases h

theorem xi_astore (n : Nat) (Bd : xBd p R s m args meth c G n0 t0 own mk lim) (hd : decode c.code pc = .ok (.astore n, len)) (ok : xokI own c.maxLocals pc (.astore n) len op = true) (h : xins own mk lim (.astore n) len op pc ls st M = some S) (k : xPW p l e R s m args below meth c Qw G n0 t0 S.1 S.2.1 S.2.2.1 S.2.2.2) : xPW p l e R s m args below meth c Qw G n0 t0 pc ls st M := by
  obtain ⟨hx, hown, hts, hK, hin, hlim, hfr, hlo⟩ := Bd
  obtain ⟨ok1, ok2⟩ := Bool.and_eq_true_iff.mp ok
  obtain rfl : len = 2 := Nat.eq_of_beq_eq_true ok1
  simp only [xins] at h
  split at h
  · cases h
    exact xs_sto1 k (fun H locs LS cells slots g kk => lv_astore hx rfl hd g (Nat.le_of_ble_eq_true ok2) rfl kk)
  · cases h

theorem xi_astore_n (n : Fin 4) (Bd : xBd p R s m args meth c G n0 t0 own mk lim) (hd : decode c.code pc = .ok (.astore_n n, len)) (ok : xokI own c.maxLocals pc (.astore_n n) len op = true) (h : xins own mk lim (.astore_n n) len op pc ls st M = some S) (k : xPW p l e R s m args below meth c Qw G n0 t0 S.1 S.2.1 S.2.2.1 S.2.2.2) : xPW p l e R s m args below meth c Qw G n0 t0 pc ls st M := by
  obtain ⟨hx, hown, hts, hK, hin, hlim, hfr, hlo⟩ := Bd
  obtain ⟨ok1, ok2⟩ := Bool.and_eq_true_iff.mp ok
  obtain rfl : len = 1 := Nat.eq_of_beq_eq_true ok1
  simp only [xins] at h
  split at h
  · cases h
    exact xs_sto1 k (fun H locs LS cells slots g kk => lv_astore_n hx rfl hd rfl g (Nat.le_of_ble_eq_true ok2) rfl kk)
  · cases h

theorem xi_lstore (n : Nat) (Bd : xBd p R s m args meth c G n0 t0 own mk lim) (hd : decode c.code pc = .ok (.lstore n, len)) (ok : xokI own c.maxLocals pc (.lstore n) len op = true) (h : xins own mk lim (.lstore n) len op pc ls st M = some S) (k : xPW p l e R s m args below meth c Qw G n0 t0 S.1 S.2.1 S.2.2.1 S.2.2.2) : xPW p l e R s m args below meth c Qw G n0 t0 pc ls st M := by
  obtain ⟨hx, hown, hts, hK, hin, hlim, hfr, hlo⟩ := Bd
  obtain ⟨ok1, ok2⟩ := Bool.and_eq_true_iff.mp ok
  obtain rfl : len = 2 := Nat.eq_of_beq_eq_true ok1
  simp only [xins] at h
  split at h
  · cases h
    exact xs_sto2 k (fun H locs LS cells slots g kk => lv_lstore hx rfl hd g (Nat.le_of_ble_eq_true ok2) rfl kk)
  · cases h

theorem xi_lstore_n (n : Fin 4) (Bd : xBd p R s m args meth c G n0 t0 own mk lim) (hd : decode c.code pc = .ok (.lstore_n n, len)) (ok : xokI own c.maxLocals pc (.lstore_n n) len op = true) (h : xins own mk lim (.lstore_n n) len op pc ls st M = some S) (k : xPW p l e R s m args below meth c Qw G n0 t0 S.1 S.2.1 S.2.2.1 S.2.2.2) : xPW p l e R s m args below meth c Qw G n0 t0 pc ls st M := by
  obtain ⟨hx, hown, hts, hK, hin, hlim, hfr, hlo⟩ := Bd
  obtain ⟨ok1, ok2⟩ := Bool.and_eq_true_iff.mp ok
  obtain rfl : len = 1 := Nat.eq_of_beq_eq_true ok1
  simp only [xins] at h
  split at h
  · cases h
    exact xs_sto2 k (fun H locs LS cells slots g kk => lv_lstore_n hx rfl hd rfl g (Nat.le_of_ble_eq_true ok2) rfl kk)
  · cases h

theorem xi_iinc (n : Nat) (z : Int) (Bd : xBd p R s m args meth c G n0 t0 own mk lim) (hd : decode c.code pc = .ok (.iinc n z, len)) (ok : xokI own c.maxLocals pc (.iinc n z) len op = true) (h : xins own mk lim (.iinc n z) len op pc ls st M = some S) (k : xPW p l e R s m args below meth c Qw G n0 t0 S.1 S.2.1 S.2.2.1 S.2.2.2) : xPW p l e R s m args below meth c Qw G n0 t0 pc ls st M := by
  obtain ⟨hx, hown, hts, hK, hin, hlim, hfr, hlo⟩ := Bd
  obtain ⟨ok1, ok2⟩ := Bool.and_eq_true_iff.mp ok
  obtain rfl : len = 3 := Nat.eq_of_beq_eq_true ok1
  simp only [xins] at h
  split at h
  · rename_i x hg
    cases h
    intro H locs LS cells slots h1 h2 h3 h4 h5 h6
    have hm : (n, Value.int x) ∈ xvl (xGr G) ls := List.mem_map.mpr ⟨(n, .int x), xget_mem hg, rfl⟩
    obtain ⟨j, hj⟩ := List.getElem?_of_mem hm
    exact lv_iinc hx rfl hd h4 hj rfl (Nat.le_of_ble_eq_true ok2) rfl (fun LS' h => k H locs LS' cells slots h1 h2 h3 (xset1_has (v := .int _) h) h5 h6)
  · cases h

theorem xi_dup  (Bd : xBd p R s m args meth c G n0 t0 own mk lim) (hd : decode c.code pc = .ok (.dup, len)) (ok : xokI own c.maxLocals pc (.dup) len op = true) (h : xins own mk lim (.dup) len op pc ls st M = some S) (k : xPW p l e R s m args below meth c Qw G n0 t0 S.1 S.2.1 S.2.2.1 S.2.2.2) : xPW p l e R s m args below meth c Qw G n0 t0 pc ls st M := by
  obtain ⟨hx, hown, hts, hK, hin, hlim, hfr, hlo⟩ := Bd
  obtain rfl : len = 1 := Nat.eq_of_beq_eq_true ok
  simp only [xins] at h
  split at h
  · rename_i v r
    cases hv : xwide v with
    | true => rw [hv] at h; cases h
    | false =>
      rw [hv] at h
      cases h
      have hc : (xv (xGr G) v).category = 1 := by rw [xv_cat]; rcases lv_cat v with z | z; exact z; (rw [xwide_cat, z] at hv; simp at hv)
      exact xs_go k (fun H locs LS cells slots _ _ _ w => lv_dup hx rfl hd hc w)
  · cases h

theorem xi_dup2  (Bd : xBd p R s m args meth c G n0 t0 own mk lim) (hd : decode c.code pc = .ok (.dup2, len)) (ok : xokI own c.maxLocals pc (.dup2) len op = true) (h : xins own mk lim (.dup2) len op pc ls st M = some S) (k : xPW p l e R s m args below meth c Qw G n0 t0 S.1 S.2.1 S.2.2.1 S.2.2.2) : xPW p l e R s m args below meth c Qw G n0 t0 pc ls st M := by
  obtain ⟨hx, hown, hts, hK, hin, hlim, hfr, hlo⟩ := Bd
  obtain rfl : len = 1 := Nat.eq_of_beq_eq_true ok
  simp only [xins] at h
  split at h
  · rename_i v u r
    cases hv : (!xwide v && !xwide u) with
    | false => rw [hv] at h; cases h
    | true =>
      rw [hv] at h
      cases h
      simp only [Bool.and_eq_true, Bool.not_eq_true'] at hv
      have hc : (xv (xGr G) v).category = 1 := by rw [xv_cat]; rcases lv_cat v with z | z; exact z; (have := hv.1; rw [xwide_cat, z] at this; simp at this)
      have hc2 : (xv (xGr G) u).category = 1 := by rw [xv_cat]; rcases lv_cat u with z | z; exact z; (have := hv.2; rw [xwide_cat, z] at this; simp at this)
      exact xs_go k (fun H locs LS cells slots _ _ _ w => lv_dup2_11 hx rfl hd hc hc2 w)
  · cases h

theorem xi_ifCond (cd : ClassFile.Cond) (off : Int) (Bd : xBd p R s m args meth c G n0 t0 own mk lim) (hd : decode c.code pc = .ok (.ifCond cd off, len)) (ok : xokI own c.maxLocals pc (.ifCond cd off) len op = true) (h : xins own mk lim (.ifCond cd off) len op pc ls st M = some S) (k : xPW p l e R s m args below meth c Qw G n0 t0 S.1 S.2.1 S.2.2.1 S.2.2.2) : xPW p l e R s m args below meth c Qw G n0 t0 pc ls st M := by
  obtain ⟨hx, hown, hts, hK, hin, hlim, hfr, hlo⟩ := Bd
  obtain ⟨ok1, ok2⟩ := Bool.and_eq_true_iff.mp ok
  obtain rfl : len = 3 := Nat.eq_of_beq_eq_true ok1
  simp only [xins] at h
  split at h
  · cases cd with
    | eq =>
      rcases xbr_cases h with ⟨hb, rfl⟩ | ⟨hb, rfl⟩
      · exact xs_go k (fun H locs LS cells slots _ _ _ w => lv_if_eq hx rfl hd (of_decide_eq_true ok2) (fun _ => w) (fun z => absurd (of_decide_eq_true hb) z))
      · exact xs_go k (fun H locs LS cells slots _ _ _ w => lv_if_eq hx rfl hd (of_decide_eq_true ok2) (fun z => absurd z (of_decide_eq_false hb)) (fun _ => w))
    | ne =>
      rcases xbr_cases h with ⟨hb, rfl⟩ | ⟨hb, rfl⟩
      · exact xs_go k (fun H locs LS cells slots _ _ _ w => lv_if_ne hx rfl hd (of_decide_eq_true ok2) (fun _ => w) (fun z => absurd z (of_decide_eq_true hb)))
      · exact xs_go k (fun H locs LS cells slots _ _ _ w => lv_if_ne hx rfl hd (of_decide_eq_true ok2) (fun z => absurd z (of_decide_eq_false hb)) (fun _ => w))
    | lt =>
      rcases xbr_cases h with ⟨hb, rfl⟩ | ⟨hb, rfl⟩
      · exact xs_go k (fun H locs LS cells slots _ _ _ w => lv_if_lt hx rfl hd (of_decide_eq_true ok2) (fun _ => w) (fun z => absurd (of_decide_eq_true hb) z))
      · exact xs_go k (fun H locs LS cells slots _ _ _ w => lv_if_lt hx rfl hd (of_decide_eq_true ok2) (fun z => absurd z (of_decide_eq_false hb)) (fun _ => w))
    | ge =>
      rcases xbr_cases h with ⟨hb, rfl⟩ | ⟨hb, rfl⟩
      · exact xs_go k (fun H locs LS cells slots _ _ _ w => lv_if_ge hx rfl hd (of_decide_eq_true ok2) (fun _ => w) (fun z => absurd (of_decide_eq_true hb) z))
      · exact xs_go k (fun H locs LS cells slots _ _ _ w => lv_if_ge hx rfl hd (of_decide_eq_true ok2) (fun z => absurd z (of_decide_eq_false hb)) (fun _ => w))
    | gt =>
      rcases xbr_cases h with ⟨hb, rfl⟩ | ⟨hb, rfl⟩
      · exact xs_go k (fun H locs LS cells slots _ _ _ w => lv_if_gt hx rfl hd (of_decide_eq_true ok2) (fun _ => w) (fun z => absurd (of_decide_eq_true hb) z))
      · exact xs_go k (fun H locs LS cells slots _ _ _ w => lv_if_gt hx rfl hd (of_decide_eq_true ok2) (fun z => absurd z (of_decide_eq_false hb)) (fun _ => w))
    | le =>
      rcases xbr_cases h with ⟨hb, rfl⟩ | ⟨hb, rfl⟩
      · exact xs_go k (fun H locs LS cells slots _ _ _ w => lv_if_le hx rfl hd (of_decide_eq_true ok2) (fun _ => w) (fun z => absurd (of_decide_eq_true hb) z))
      · exact xs_go k (fun H locs LS cells slots _ _ _ w => lv_if_le hx rfl hd (of_decide_eq_true ok2) (fun z => absurd z (of_decide_eq_false hb)) (fun _ => w))
  · cases h

theorem xi_if_icmp (cd : ClassFile.Cond) (off : Int) (Bd : xBd p R s m args meth c G n0 t0 own mk lim) (hd : decode c.code pc = .ok (.if_icmp cd off, len)) (ok : xokI own c.maxLocals pc (.if_icmp cd off) len op = true) (h : xins own mk lim (.if_icmp cd off) len op pc ls st M = some S) (k : xPW p l e R s m args below meth c Qw G n0 t0 S.1 S.2.1 S.2.2.1 S.2.2.2) : xPW p l e R s m args below meth c Qw G n0 t0 pc ls st M := by
  obtain ⟨hx, hown, hts, hK, hin, hlim, hfr, hlo⟩ := Bd
  obtain ⟨ok1, ok2⟩ := Bool.and_eq_true_iff.mp ok
  obtain rfl : len = 3 := Nat.eq_of_beq_eq_true ok1
  simp only [xins] at h
  split at h
  · cases cd with
    | eq =>
      rcases xbr_cases h with ⟨hb, rfl⟩ | ⟨hb, rfl⟩
      · exact xs_go k (fun H locs LS cells slots _ _ _ w => lv_icmp_eq hx rfl hd (of_decide_eq_true ok2) (fun _ => w) (fun z => absurd (of_decide_eq_true hb) z))
      · exact xs_go k (fun H locs LS cells slots _ _ _ w => lv_icmp_eq hx rfl hd (of_decide_eq_true ok2) (fun z => absurd z (of_decide_eq_false hb)) (fun _ => w))
    | ne =>
      rcases xbr_cases h with ⟨hb, rfl⟩ | ⟨hb, rfl⟩
      · exact xs_go k (fun H locs LS cells slots _ _ _ w => lv_icmp_ne hx rfl hd (of_decide_eq_true ok2) (fun _ => w) (fun z => absurd z (of_decide_eq_true hb)))
      · exact xs_go k (fun H locs LS cells slots _ _ _ w => lv_icmp_ne hx rfl hd (of_decide_eq_true ok2) (fun z => absurd z (of_decide_eq_false hb)) (fun _ => w))
    | lt =>
      rcases xbr_cases h with ⟨hb, rfl⟩ | ⟨hb, rfl⟩
      · exact xs_go k (fun H locs LS cells slots _ _ _ w => lv_icmp_lt hx rfl hd (of_decide_eq_true ok2) (fun _ => w) (fun z => absurd (of_decide_eq_true hb) z))
      · exact xs_go k (fun H locs LS cells slots _ _ _ w => lv_icmp_lt hx rfl hd (of_decide_eq_true ok2) (fun z => absurd z (of_decide_eq_false hb)) (fun _ => w))
    | ge =>
      rcases xbr_cases h with ⟨hb, rfl⟩ | ⟨hb, rfl⟩
      · exact xs_go k (fun H locs LS cells slots _ _ _ w => lv_icmp_ge hx rfl hd (of_decide_eq_true ok2) (fun _ => w) (fun z => absurd (of_decide_eq_true hb) z))
      · exact xs_go k (fun H locs LS cells slots _ _ _ w => lv_icmp_ge hx rfl hd (of_decide_eq_true ok2) (fun z => absurd z (of_decide_eq_false hb)) (fun _ => w))
    | gt =>
      rcases xbr_cases h with ⟨hb, rfl⟩ | ⟨hb, rfl⟩
      · exact xs_go k (fun H locs LS cells slots _ _ _ w => lv_icmp_gt hx rfl hd (of_decide_eq_true ok2) (fun _ => w) (fun z => absurd (of_decide_eq_true hb) z))
      · exact xs_go k (fun H locs LS cells slots _ _ _ w => lv_icmp_gt hx rfl hd (of_decide_eq_true ok2) (fun z => absurd z (of_decide_eq_false hb)) (fun _ => w))
    | le =>
      rcases xbr_cases h with ⟨hb, rfl⟩ | ⟨hb, rfl⟩
      · exact xs_go k (fun H locs LS cells slots _ _ _ w => lv_icmp_le hx rfl hd (of_decide_eq_true ok2) (fun _ => w) (fun z => absurd (of_decide_eq_true hb) z))
      · exact xs_go k (fun H locs LS cells slots _ _ _ w => lv_icmp_le hx rfl hd (of_decide_eq_true ok2) (fun z => absurd z (of_decide_eq_false hb)) (fun _ => w))
  · cases h

theorem xi_goto (off : Int) (Bd : xBd p R s m args meth c G n0 t0 own mk lim) (hd : decode c.code pc = .ok (.goto off, len)) (ok : xokI own c.maxLocals pc (.goto off) len op = true) (h : xins own mk lim (.goto off) len op pc ls st M = some S) (k : xPW p l e R s m args below meth c Qw G n0 t0 S.1 S.2.1 S.2.2.1 S.2.2.2) : xPW p l e R s m args below meth c Qw G n0 t0 pc ls st M := by
  obtain ⟨hx, hown, hts, hK, hin, hlim, hfr, hlo⟩ := Bd
  obtain ⟨ok1, ok2⟩ := Bool.and_eq_true_iff.mp ok
  obtain rfl : len = 3 := Nat.eq_of_beq_eq_true ok1
  cases h
  exact xs_go k (fun H locs LS cells slots _ _ _ w => lv_goto hx rfl hd (of_decide_eq_true ok2) w)

theorem xi_tableswitch (d lo hi : Int) (offs : Array Int) (Bd : xBd p R s m args meth c G n0 t0 own mk lim) (hd : decode c.code pc = .ok (.tableswitch d lo hi offs, len)) (ok : xokI own c.maxLocals pc (.tableswitch d lo hi offs) len op = true) (h : xins own mk lim (.tableswitch d lo hi offs) len op pc ls st M = some S) (k : xPW p l e R s m args below meth c Qw G n0 t0 S.1 S.2.1 S.2.2.1 S.2.2.2) : xPW p l e R s m args below meth c Qw G n0 t0 pc ls st M := by
  obtain ⟨hx, hown, hts, hK, hin, hlim, hfr, hlo⟩ := Bd
  simp only [xins] at h
  split at h
  · rename_i x r
    cases hb : (decide (x.toInt < lo) || decide (hi < x.toInt)) with
    | true =>
      rw [hb] at h
      obtain ⟨t, ht, rfl⟩ := xto_eq h
      have ho : x.toInt < lo ∨ hi < x.toInt := by simpa using hb
      exact xs_go k (fun H locs LS cells slots _ _ _ w => lv_tableOut hx rfl hd ho ht w)
    | false =>
      rw [hb] at h
      simp only [Bool.or_eq_false_iff, decide_eq_false_iff_not] at hb
      simp only [cond_false] at h
      split at h
      · rename_i o hof
        obtain ⟨t, ht, rfl⟩ := xto_eq h
        exact xs_go k (fun H locs LS cells slots _ _ _ w => lv_tableIn hx rfl hd hb.1 hb.2 hof ht w)
      · cases h
  · cases h

theorem xi_lookupswitch (d : Int) (ps : Array (Int × Int)) (Bd : xBd p R s m args meth c G n0 t0 own mk lim) (hd : decode c.code pc = .ok (.lookupswitch d ps, len)) (ok : xokI own c.maxLocals pc (.lookupswitch d ps) len op = true) (h : xins own mk lim (.lookupswitch d ps) len op pc ls st M = some S) (k : xPW p l e R s m args below meth c Qw G n0 t0 S.1 S.2.1 S.2.2.1 S.2.2.2) : xPW p l e R s m args below meth c Qw G n0 t0 pc ls st M := by
  obtain ⟨hx, hown, hts, hK, hin, hlim, hfr, hlo⟩ := Bd
  simp only [xins] at h
  split at h
  · rename_i x r
    cases hb : ((ps.toList.zip (ps.toList.drop 1)).all (fun (a, next) => decide (a.1 < next.1))) with
    | true =>
      rw [hb] at h
      obtain ⟨t, ht, rfl⟩ := xto_eq h
      exact xs_go k (fun H locs LS cells slots _ _ _ w => lv_lookup hx rfl hd hb rfl ht w)
    | false => rw [hb] at h; cases h
  · cases h

end XINS
