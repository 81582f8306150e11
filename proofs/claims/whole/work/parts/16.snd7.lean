theorem xtab_ownB : xtab.all (fun y => Nat.blt y.1 14) = true := by decide +kernel
theorem xtab_own (y : xMt) (h : y ∈ xtab) : y.1 < 14 := Nat.le_of_ble_eq_true (List.all_eq_true.mp xtab_ownB y h)
section XINS
variable {p : Program} {l : Launch} {e : Env} {R : Room} {s : State} {m : MethodId} {args : Array Value} {below : List Frame} {meth : Method} {c : Code} {Qw : State → Prop} {G : xG} {n0 t0 : Nat} {own mk : Nat} {lim : Nat × Nat} {len op pc : Nat} {ls : xL} {st : List Value} {M : xM} {S : xS}

theorem x_ins (Bd : xBd p R s m args meth c G n0 t0 own mk lim) {i : Instr} (hd : decode c.code pc = .ok (i, len)) (ok : xokI own c.maxLocals pc i len op = true) (h : xins own mk lim i len op pc ls st M = some S) (k : xPW p l e R s m args below meth c Qw G n0 t0 S.1 S.2.1 S.2.2.1 S.2.2.2) : xPW p l e R s m args below meth c Qw G n0 t0 pc ls st M := by
  cases i with
  | iadd => exact xi_iadd Bd hd ok h k
  | isub => exact xi_isub Bd hd ok h k
  | imul => exact xi_imul Bd hd ok h k
  | iand => exact xi_iand Bd hd ok h k
  | ior => exact xi_ior Bd hd ok h k
  | ixor => exact xi_ixor Bd hd ok h k
  | irem => exact xi_irem Bd hd ok h k
  | ladd => exact xi_ladd Bd hd ok h k
  | lsub => exact xi_lsub Bd hd ok h k
  | lmul => exact xi_lmul Bd hd ok h k
  | land => exact xi_land Bd hd ok h k
  | lor => exact xi_lor Bd hd ok h k
  | lxor => exact xi_lxor Bd hd ok h k
  | lneg => exact xi_lneg Bd hd ok h k
  | lshl => exact xi_lshl Bd hd ok h k
  | lushr => exact xi_lushr Bd hd ok h k
  | i2l => exact xi_i2l Bd hd ok h k
  | l2i => exact xi_l2i Bd hd ok h k
  | lcmp => exact xi_lcmp Bd hd ok h k
  | dup => exact xi_dup Bd hd ok h k
  | dup2 => exact xi_dup2 Bd hd ok h k
  | arraylength => exact xi_arraylength Bd hd ok h k
  | iaload => exact xi_iaload Bd hd ok h k
  | baload => exact xi_baload Bd hd ok h k
  | laload => exact xi_laload Bd hd ok h k
  | aaload => exact xi_aaload Bd hd ok h k
  | iastore => exact xi_iastore Bd hd ok h k
  | bastore => exact xi_bastore Bd hd ok h k
  | lastore => exact xi_lastore Bd hd ok h k
  | aastore => exact xi_aastore Bd hd ok h k
  | iconst n => exact xi_iconst n Bd hd ok h k
  | bipush n => exact xi_bipush n Bd hd ok h k
  | sipush n => exact xi_sipush n Bd hd ok h k
  | lconst n => exact xi_lconst n Bd hd ok h k
  | ldc2_w n => exact xi_ldc2_w n Bd hd ok h k
  | iload n => exact xi_iload n Bd hd ok h k
  | iload_n n => exact xi_iload_n n Bd hd ok h k
  | lload n => exact xi_lload n Bd hd ok h k
  | lload_n n => exact xi_lload_n n Bd hd ok h k
  | aload n => exact xi_aload n Bd hd ok h k
  | aload_n n => exact xi_aload_n n Bd hd ok h k
  | istore n => exact xi_istore n Bd hd ok h k
  | istore_n n => exact xi_istore_n n Bd hd ok h k
  | astore n => exact xi_astore n Bd hd ok h k
  | astore_n n => exact xi_astore_n n Bd hd ok h k
  | lstore n => exact xi_lstore n Bd hd ok h k
  | lstore_n n => exact xi_lstore_n n Bd hd ok h k
  | goto n => exact xi_goto n Bd hd ok h k
  | getfield n => exact xi_getfield n Bd hd ok h k
  | putfield n => exact xi_putfield n Bd hd ok h k
  | getstatic n => exact xi_getstatic n Bd hd ok h k
  | new n => exact xi_new n Bd hd ok h k
  | newarray n => exact xi_newarray n Bd hd ok h k
  | anewarray n => exact xi_anewarray n Bd hd ok h k
  | iinc n z => exact xi_iinc n z Bd hd ok h k
  | ifCond a b => exact xi_ifCond a b Bd hd ok h k
  | if_icmp a b => exact xi_if_icmp a b Bd hd ok h k
  | tableswitch a b c d => exact xi_tableswitch a b c d Bd hd ok h k
  | lookupswitch a b => exact xi_lookupswitch a b Bd hd ok h k
  | invokespecial x => exact xi_objinit x Bd hd ok h k
  | _ => exact nomatch (show (none : Option xS) = some S from h)

/-- a row of a method's code -/
theorem xat_mem {mt : xMt} {pc : Nat} {q : xI} (h : xat mt pc = some q) : ∃ b ∈ mt.2.2.2.2.2.2.2, (pc, q) ∈ b := by
  unfold xat at h
  have hl : ∀ (L : List (Nat × xI)), xlook L pc = some q → (pc, q) ∈ L := by
    intro L
    induction L with
    | nil => intro h; cases h
    | cons x t ih =>
      obtain ⟨j, v⟩ := x
      intro h
      simp only [xlook] at h
      cases hb : Nat.beq j pc with
      | true => rw [hb] at h; cases h; obtain rfl := Nat.eq_of_beq_eq_true hb; exact List.mem_cons_self
      | false => rw [hb] at h; exact List.mem_cons_of_mem _ (ih h)
  have h2 := hl _ h
  rw [List.getD_eq_getElem?_getD] at h2
  cases hb : mt.2.2.2.2.2.2.2[pc / 16]? with
  | none => rw [hb] at h2; cases h2
  | some b => rw [hb] at h2; exact ⟨b, List.mem_of_getElem? hb, h2⟩
theorem xat_ok {mt : xMt} {pc : Nat} {i : Instr} {len op : Nat} {bytes : ByteArray} {nL : Nat} (h : xat mt pc = some (i, len, op)) (hd : xdec bytes mt.2.2.2.2.2.2.2 = true) (ho : xokc mt.1 nL mt.2.2.2.2.2.2.2 = true) : decode bytes pc = .ok (i, len) ∧ xokI mt.1 nL pc i len op = true := by
  obtain ⟨b, hb, hm⟩ := xat_mem h
  have h1 := List.all_eq_true.mp (List.all_eq_true.mp hd b hb) _ hm
  have h2 := List.all_eq_true.mp (List.all_eq_true.mp ho b hb) _ hm
  exact ⟨of_decide_eq_true h1, h2⟩
def xQc (G : xG) (Q : Option Value → xM → Prop) : Array Value → State → Outcome → State → Prop := fun _ st o t =>
  ∃ (r : Option Value) (M' : xM), o = .returned (r.map (xv (xGr G))) ∧ Q r M' ∧ xHp G M' t.heap ∧ ∀ q : Nat, q < G.1 → t.heap[q]? = st.heap[q]?
def xPc (G : xG) (as : List Value) (M : xM) : Array Value → State → Prop := va_Pc (as.map (xv (xGr G))) (fun U => xHp G M U.heap ∧ xKs G U)
theorem xPc_blind (G : xG) (as : List Value) (M : xM) : FrameBlind (xPc G as M) := fun a U g mk h => ⟨h.1, h.2.1, h.2.2.moved (U := U.calling g mk a) (State.WarmedH.refl U) (fun _ _ => rfl)⟩
def xrm (d kc ks : Nat) : Room := { frames := d, cells := kc, slots := ks, locals := 36 * d }
/-- every method of the table keeps what the pure machine says of it, d calls deep -/
def xSnd (d : Nat) : Prop := ∀ (l : Launch) (G : xG) (j : Nat) (y : xMt) (as : List Value) (M : xM) (kc ks : Nat) (Q : Option Value → xM → Prop), xtab[j]? = some y → xC d j as M kc ks Q →
  Met l y.2.2.2.1 (.code y.2.2.2.1 y.2.2.2.2.1 y.2.2.2.2.2.1 y.2.2.2.2.2.2.1 :: gws) (xrm d kc ks) (xPc G as M) (xQc G (fun r M' => Q r M' ∧ M'.1.length = M.1.length + kc ∧ xsum M' = xsum M + ks)) kc ks (fun q => G.1 ≤ q)
/-- behind a call -/
theorem x_back {kc ks : Nat} {rest : List Value} {Q : Option Value → xM → Prop} {a : Array Value} {H : Heap} {locs : List Loc} {LS : Array Slot} {cells slots : Nat}
    (hr : va_Run p l e R s m args below meth c H locs cells slots kc ks (F0 m pc LS (st.map (xv (xGr G)))) (rest.map (xv (xGr G))) (xQc G (fun r M' => Q r M' ∧ M'.1.length = M.1.length + kc ∧ xsum M' = xsum M + ks) a) (fun q => G.1 ≤ q))
    (h2 : ∀ q : Nat, q < G.1 → H[q]? = s.heap[q]?) (h3 : ∀ q ∈ locs, G.1 ≤ q.base) (h4 : lv_has LS c.maxLocals (xvl (xGr G) ls)) (h5 : M.1.length = n0 + cells) (h6 : xsum M = t0 + slots)
    (k : ∀ r M', Q r M' → xPW p l e R s m args below meth c Qw G n0 t0 (pc + 3) ls (match r with
      | some v => v :: rest
      | none => rest) M') : W p l e R s m args below meth c H locs cells slots Qw (F0 m pc LS (st.map (xv (xGr G)))) := by
  intro T hT X
  obtain ⟨v, st₀, t, T', L, h0, X', hL, e1, e2, ⟨r, M', hv, ⟨hq, hlen, hsum⟩, hH, hF⟩, st⟩ := hr T hT X
  cases hv
  have hw := k r M' hq T'.heap (locs ++ L) LS (cells + kc) (slots + ks) (by rw [e1]; exact hH) (fun q hq => by rw [e1, hF q hq, h0]; exact h2 q hq) (fun q hq => (List.mem_append.mp hq).elim (h3 q) (hL q)) h4 (by omega) (by omega)
  obtain ⟨t2, a1, b1⟩ := hw T' rfl X'
  refine ⟨t2, st t2 ?_, b1⟩
  cases r <;> exact a1

theorem x_call {d : Nat} (hS : xSnd d) (Bd : xBd p R s m args meth c G n0 t0 own mk lim) (hRf : d + 1 ≤ R.frames) (hRl : 36 * d + 36 ≤ R.locals) {mt : xMt} (hown : mt.1 = own) (hdc : xdec c.code mt.2.2.2.2.2.2.2 = true) (hok : xokc mt.1 c.maxLocals mt.2.2.2.2.2.2.2 = true)
    {j : Nat} {as rest : List Value} {kc ks : Nat} {Q : Option Value → xM → Prop} (h : xcall mt (pc, ls, st, M) = some (j, as, rest)) (h1 : M.1.length + kc ≤ lim.1) (h2 : xsum M + ks ≤ lim.2) (hC : xC d j as M kc ks Q)
    (k : ∀ r M', Q r M' → xPW p l e R s m args below meth c Qw G n0 t0 (pc + 3) ls (match r with
      | some v => v :: rest
      | none => rest) M') : xPW p l e R s m args below meth c Qw G n0 t0 pc ls st M := by
  obtain ⟨hx, hown', hts, hK, hin, hlim, hfr, hlo⟩ := Bd
  subst hown
  simp only [xcall] at h
  split at h
  · rename_i i len op hat
    obtain ⟨hd, ok⟩ := xat_ok hat hdc hok
    split at h
    · rename_i yo yk ynp yy hy
      split at h
      · rename_i as' rest' hpop
        obtain ⟨tt, ht1, ht2, ht3⟩ := xpop_eq hpop
        simp only [List.append_nil] at ht2
        have hmok := xtab_ok _ (List.mem_of_getElem? hy)
        obtain ⟨k1, k2, k3, k4, k5, k6, k7, k8, k9, -, -⟩ := hmok
        dsimp only at k1 k2 k3 k4 k5 k6 k7 k8 k9
        have hG := gws_good _ (gws_in k2 rfl)
        split at h
        · -- static
          rename_i x
          cases hb : (Nat.beq yk 0 && xroom 8 rest') with
          | false => rw [hb] at h; cases h
          | true =>
            rw [hb] at h
            cases h
            obtain ⟨hb1, hb2⟩ := Bool.and_eq_true_iff.mp hb
            obtain rfl := Nat.eq_of_beq_eq_true hb1
            obtain ⟨ok1, ok2⟩ := Bool.and_eq_true_iff.mp ok
            obtain rfl : len = 3 := Nat.eq_of_beq_eq_true ok1
            have hM := hS l G j _ as M kc ks Q hy hC
            have hsum := xroom_sum (xGr G) hb2
            intro H locs LS cells slots g1 g2 g3 g4 g5 g6
            rw [hlim] at h1 h2
            have hf : cells + kc ≤ R.cells ∧ slots + ks ≤ R.slots := by dsimp only at h1 h2; omega
            have hstk : (F0 m pc LS (st.map (xv (xGr G)))).stack = (as.map (xv (xGr G))).reverse ++ rest.map (xv (xGr G)) := by
              show st.map (xv (xGr G)) = _
              rw [ht3, ht2, List.map_append, ← List.map_reverse, List.reverse_reverse]
            have hlen : (as.map (xv (xGr G))).length = ynp := by rw [List.length_map, ht2, List.length_reverse, ht1]
            have hR : (xrm d kc ks).frames + 1 ≤ R.frames ∧ 8 + (yy.2.2.1 + 11) + (xrm d kc ks).locals ≤ R.locals := ⟨hRf, by show 8 + (yy.2.2.1 + 11) + 36 * d ≤ R.locals; omega⟩
            have hP : PreS s H (xPc G as M) (as.map (xv (xGr G))) := ⟨xPc_blind G as M, fun U hU hW => ⟨rfl, by rw [hU]; exact g1, hK.moved hW (fun q hq => by rw [hU]; exact g2 q hq)⟩⟩
            refine x_back (Q := Q) (kc := kc) (ks := ks) (a := (as.map (xv (xGr G))).toArray) ?_ g2 g3 g4 g5 g6 k
            rcases Bool.or_eq_true_iff.mp ok2 with hl | hl
            · exact va_runS ⟨hx, rfl, rfl, hown', hts⟩ hM ⟨callB_of ynp hts hG rfl rfl rfl (hts _ (gws_in k3 rfl)) (hts _ (gws_in (xML_ok _ (contains_mem hl) _ hy) rfl)) k4 hR, hts _ (gws_in (k7 rfl) rfl)⟩ hP rfl hlen g4.1 hstk (lv_room hsum) hd hf
            · exact va_runSN ⟨hx, rfl, rfl, hown', hts⟩ hM ⟨va_cnB ynp hts hG rfl rfl rfl (hK.2.1 _ (xMN_ok _ (contains_mem hl) _ hy) rfl) (hts _ (gws_in k3 rfl)) k4 hR, hts _ (gws_in (k7 rfl) rfl), trivial⟩ hP rfl hlen g4.1 hstk (lv_room hsum) hd hf
        · -- virtual
          rename_i x
          split at h
          · rename_i b r
            split at h
            · rename_i o1 o2 ho
              cases hb : (Nat.beq yk 1 && Nat.beq o1 yo && xroom 8 r) with
              | false => rw [hb] at h; cases h
              | true =>
                rw [hb] at h
                cases h
                obtain ⟨hb0, hb2⟩ := Bool.and_eq_true_iff.mp hb
                obtain ⟨hb1, hb3⟩ := Bool.and_eq_true_iff.mp hb0
                obtain rfl := Nat.eq_of_beq_eq_true hb1
                obtain rfl := Nat.eq_of_beq_eq_true hb3
                obtain ⟨ok1, ok2⟩ := Bool.and_eq_true_iff.mp ok
                obtain rfl : len = 3 := Nat.eq_of_beq_eq_true ok1
                have hM := hS l G j _ (.ref b :: as') M kc ks Q hy hC
                have hsum := xroom_sum (xGr G) hb2
                intro H locs LS cells slots g1 g2 g3 g4 g5 g6
                rw [hlim] at h1 h2
                have hf : cells + kc ≤ R.cells ∧ slots + ks ≤ R.slots := by dsimp only at h1 h2; omega
                have hlt := xlay_lt g1 ho
                have hrb : xv (xGr G) (Value.ref b) = .ref (G.1 + b) := congrArg Value.ref (xGr_lt hlt)
                have hstk : (F0 m pc LS (st.map (xv (xGr G)))).stack = (as'.map (xv (xGr G))).reverse ++ .ref (G.1 + b) :: rest.map (xv (xGr G)) := by
                  show st.map (xv (xGr G)) = _
                  rw [ht3, ht2, List.map_append, ← List.map_reverse, List.reverse_reverse, List.map_cons, hrb]
                have hlen : (as'.map (xv (xGr G))).length = ynp := by rw [List.length_map, ht2, List.length_reverse, ht1]
                have hR : (xrm d kc ks).frames + 1 ≤ R.frames ∧ 8 + (yy.2.2.1 + 11) + (xrm d kc ks).locals ≤ R.locals := ⟨hRf, by show 8 + (yy.2.2.1 + 11) + 36 * d ≤ R.locals; omega⟩
                have ho10 : o1 < 10 := by
                  have ha := g1.2.2.1 b _ ho
                  have h14 : o1 < 14 := xtab_own _ (List.mem_of_getElem? hy)
                  unfold xE at ha
                  rw [if_neg (by dsimp only; omega), if_neg (by dsimp only; omega), if_neg (by dsimp only; omega), if_neg (by dsimp only; omega), if_neg (by dsimp only; omega)] at ha
                  obtain ⟨r, hr, -⟩ := ha
                  exact xcl_lt hr
                have ha := g1.2.2.1 b _ ho
                rw [xE_obj (q := (o1, o2)) ho10] at ha
                have hrc := va_recv hK.1 (va_one ha) (xcl_at _ ho10) (q0 := 0) rfl
                have hP : PreV s H yy.1.cls (G.1 + b) (xPc G (.ref b :: as') M) (as'.map (xv (xGr G))) := ⟨xPc_blind G _ M, by rw [← k5]; exact hrc, fun U hU hW => ⟨by rw [List.map_cons, hrb], by rw [hU]; exact g1, hK.moved hW (fun q hq => by rw [hU]; exact g2 q hq)⟩⟩
                refine x_back (Q := Q) (kc := kc) (ks := ks) (a := (Value.ref (G.1 + b) :: as'.map (xv (xGr G))).toArray) ?_ g2 g3 g4 g5 g6 k
                rcases Bool.or_eq_true_iff.mp ok2 with hl | hl
                · exact va_runV ⟨hx, rfl, rfl, hown', hts⟩ hM ⟨callB_of ynp hts hG rfl rfl rfl (hts _ (gws_in k3 rfl)) (hts _ (gws_in (xML_ok _ (contains_mem hl) _ hy) rfl)) k4 hR, hts _ (gws_in (k8 rfl).1 rfl), hts _ (gws_in (k8 rfl).2 rfl)⟩ hP rfl hlen g4.1 hstk (lv_room hsum) hd hf
                · exact va_runVN ⟨hx, rfl, rfl, hown', hts⟩ hM ⟨va_cnB ynp hts hG rfl rfl rfl (hK.2.1 _ (xMN_ok _ (contains_mem hl) _ hy) rfl) (hts _ (gws_in k3 rfl)) k4 hR, hts _ (gws_in (k8 rfl).1 rfl), hts _ (gws_in (k8 rfl).2 rfl)⟩ hP rfl hlen g4.1 hstk (lv_room hsum) hd hf
            · cases h
          · cases h
        · -- special
          rename_i x
          split at h
          · rename_i b r
            cases hb : (Nat.beq yk 2 && xroom 8 r) with
            | false => rw [hb] at h; cases h
            | true =>
              rw [hb] at h
              cases h
              obtain ⟨hb1, hb2⟩ := Bool.and_eq_true_iff.mp hb
              obtain rfl := Nat.eq_of_beq_eq_true hb1
              obtain ⟨ok1, ok2⟩ := Bool.and_eq_true_iff.mp ok
              obtain rfl : len = 3 := Nat.eq_of_beq_eq_true ok1
              have hM := hS l G j _ (.ref b :: as') M kc ks Q hy hC
              have hsum := xroom_sum (xGr G) hb2
              obtain ⟨k91, k92, k93⟩ := k9 rfl
              intro H locs LS cells slots g1 g2 g3 g4 g5 g6
              rw [hlim] at h1 h2
              have hf : cells + kc ≤ R.cells ∧ slots + ks ≤ R.slots := by dsimp only at h1 h2; omega
              have hstk : (F0 m pc LS (st.map (xv (xGr G)))).stack = (as'.map (xv (xGr G))).reverse ++ .ref (xGr G b) :: rest.map (xv (xGr G)) := by
                show st.map (xv (xGr G)) = _
                rw [ht3, ht2, List.map_append, ← List.map_reverse, List.reverse_reverse, List.map_cons]; rfl
              have hlen : (as'.map (xv (xGr G))).length = ynp := by rw [List.length_map, ht2, List.length_reverse, ht1]
              have hR : (xrm d kc ks).frames + 1 ≤ R.frames ∧ 8 + (yy.2.2.1 + 11) + (xrm d kc ks).locals ≤ R.locals := ⟨hRf, by show 8 + (yy.2.2.1 + 11) + 36 * d ≤ R.locals; omega⟩
              have hP : PreS s H (xPc G (.ref b :: as') M) (.ref (xGr G b) :: as'.map (xv (xGr G))) := ⟨xPc_blind G _ M, fun U hU hW => ⟨rfl, by rw [hU]; exact g1, hK.moved hW (fun q hq => by rw [hU]; exact g2 q hq)⟩⟩
              obtain ⟨yn, yb, yL, yr, yc⟩ := yy
              dsimp only at k93
              subst k93
              refine x_back (Q := Q) (kc := kc) (ks := ks) (a := (Value.ref (xGr G b) :: as'.map (xv (xGr G))).toArray) ?_ g2 g3 g4 g5 g6 k
              have hne : Nat.beq j 9999 = false := by
                have hl := (List.getElem?_eq_some_iff.mp hy).1
                have : xtab.length = 138 := rfl
                cases hz : Nat.beq j 9999 with
                | false => rfl
                | true => have := Nat.eq_of_beq_eq_true hz; omega
              rw [hne] at ok2
              simp only [cond_false] at ok2
              rcases Bool.or_eq_true_iff.mp ok2 with hl | hl
              · exact va_runI ⟨hx, rfl, rfl, hown', hts⟩ hM ⟨callB_of ynp hts hG rfl rfl rfl (hts _ (gws_in k3 rfl)) (hts _ (gws_in (xML_ok _ (contains_mem hl) _ hy) rfl)) k4 hR, k91, hts _ (gws_in k92 rfl)⟩ hP rfl hlen g4.1 hstk (lv_room hsum) hd hf
              · exact va_runIN ⟨hx, rfl, rfl, hown', hts⟩ hM ⟨va_cnB ynp hts hG rfl rfl rfl (hK.2.1 _ (xMN_ok _ (contains_mem hl) _ hy) rfl) (hts _ (gws_in k3 rfl)) k4 hR, k91, hts _ (gws_in k92 rfl)⟩ hP rfl hlen g4.1 hstk (lv_room hsum) hd hf
          · cases h
        · cases h
      · cases h
    · cases h
  · cases h

end XINS
