/-! WHAT IS THROWN: the kit's row for 'throw new E()' once more, with one thing more said at its end: that just one cell has come, and what it is (needed to number the cells) -/
section VZ
variable {p : Program} {l : Launch} {e : Env} {R : Room} {s : State} {m : MethodId} {args : Array Value} {below : List Frame} {meth : Method} {c : Code} {H : Heap} {locs : List Loc} {cells slots : Nat}
variable {free : Addr → Prop} {ls : Array Slot} {rest : List Value} {Qc : Array Value → State → Outcome → State → Prop} {XC : String → State → State → Prop}
theorem vz_throw0 {cc : ByteArray} {pc : Nat} (hexec : p.tables.exec = Jvm.exec) (hb : c.code = cc) (hl : l.stackTraces = false) {own cls : String} {names : List String} {ik ic mc ms : Nat} {A : Nat → Prop}
    (hown : s.vm.findClass own = some m.cls) (hcls : Bundle.fit cls = true) (hnames : ∀ n ∈ names, Bundle.fit n = true)
    (hk : (Cond.classLink own ik cls).before args s = true) (hini : (Cond.initialized cls).before args s = true) (hat : ∀ w ∈ vx_at0 own ic cls names, w.before args s = true)
    (hgood : ∀ w ∈ Cond.classLink own ik cls :: Cond.initialized cls :: vx_at0 own ic cls names, vx_ot w = true)
    (hU : vx_Zq Bundle.tN "UNASSIGNED_STACK" Bundle.steD A s s.heap) (hN : vx_Zq Bundle.tN "SUPPRESSED_SENTINEL" Bundle.listD A s s.heap) (hS : va_S A s.heap H locs) (hsize : ls.size = c.maxLocals)
    (d0 : decode cc pc = .ok (.new ik, 3)) (d3 : decode cc (pc + 3) = .ok (.dup, 1)) (d4 : decode cc (pc + 4) = .ok (.invokespecial ic, 3)) (d7 : decode cc (pc + 7) = .ok (.athrow, 1))
    (hout : ∀ x ∈ c.exceptionTable.toList, covers x (pc + 7) = false)
    (hRframes : names.length + 3 < R.frames) (hRlocals : (rest.map fun v => v.category).sum + (13 * (names.length + 1) + 42) ≤ R.locals) (hRcells : cells + 1 ≤ R.cells) (hRslots : slots + 6 ≤ R.slots) (hlocks : meth.locks = false)
    (hx : ∀ (t : State) (ce : Cell), s.vm.Alike t.vm → t.heap.size = H.size + 1 → (∀ q : Nat, q < H.size → t.heap[q]? = H[q]?) → t.heap[H.size]? = some ce → ce.vm = .none → s.vm.findClass cls = some ce.cls → XC cls s t)
    (hf : ∀ z ∈ locs, free z.base) (hc : cells + 1 ≤ mc) (hs : slots + 6 ≤ ms) :
    W p l e R s m args below meth c H locs cells slots (vx_MQ below Qc XC args s mc ms free) (F0 m pc ls rest) := by
  intro T hT X
  have htr : e.platform.stackTraces = false := (show e.platform.stackTraces = l.stackTraces by rw [X.admits.platform]).trans hl
  have Y := vx_rebase X (R' := { frames := R.frames, locals := R.locals, cells := 1, slots := 6 }) (Nat.le_refl _) (Nat.le_refl _) hRcells hRslots
  obtain ⟨s', hA⟩ : ∃ z, z = (T.setVm s.vm).setFrames (.invoking m args :: below) := ⟨_, rfl⟩
  rw [← hA] at Y
  have hvm : s'.vm = s.vm := by rw [hA]; rfl
  have hhp : s'.heap = H := by rw [hA]; exact hT
  have hW0 : s.WarmedH s'.vm := by rw [hvm]; exact State.WarmedH.refl s
  have hat' : ∀ w ∈ vx_at0 own ic cls names, w.before args s' = true := fun w hw => vx_ot_at hW0 hvm.symm (hgood w (List.mem_cons_of_mem _ (List.mem_cons_of_mem _ hw))) (hat w hw)
  have hk' : (Cond.classLink own ik cls).before args s' = true := vx_ot_at hW0 hvm.symm (hgood _ List.mem_cons_self) hk
  have hini' : (Cond.initialized cls).before args s' = true := vx_ot_at hW0 hvm.symm (hgood _ (List.mem_cons_of_mem _ List.mem_cons_self)) hini
  have hU' : vx_Zq Bundle.tN "UNASSIGNED_STACK" Bundle.steD A s' s'.heap := by rw [hhp]; exact vx_Zq.moved hW0.alike (hU.kept hS.2.1)
  have hN' : vx_Zq Bundle.tN "SUPPRESSED_SENTINEL" Bundle.listD A s' s'.heap := by rw [hhp]; exact vx_Zq.moved hW0.alike (hN.kept hS.2.1)
  have h : ∀ w ∈ Bundle.ownAtoms0 own ic cls names, w.before args s' = true := vx_own hat' (vx_isRefq hU'.1) (vx_isRefq hN'.1) hU'.2.word hN'.2.word
  have hown' : s'.vm.findClass own = some m.cls := by rw [hvm]; exact hown
  have hins : (Cond.instantiable cls 6).before args s' = true := h _ (by simp [Bundle.ownAtoms0])
  obtain ⟨vm₁, cX, kX, hfX, hkX, -, -, X₁, st1⟩ := Y.newCold hexec (own := own) (C := cls) (index := ik) (n := 6) hown' hk' hins hini'
    (g := F0 m pc ls rest) rfl (by rw [hb]; exact d0) (Nat.le_refl _) (Nat.le_refl _)
  generalize hT1 : (T.setVm vm₁).pushCell { cls := cX, slots := kX.instanceTypes.map defaultValue, vm := .none } = T1 at X₁ st1
  have hcat : (Value.ref T.heap.size).category = 1 := rfl
  have hcellA : T1.heap[T.heap.size]? = some (freshCell cX kX) := by rw [← hT1]; exact State.heap_pushCell_size _ _
  have d3' : decode c.code (pc + 3) = .ok (.dup, 1) := by rw [hb]; exact d3
  obtain ⟨U, hsteps, hrun, hend, hW, hsame, ce, hce, hO⟩ := X₁.ctorThrow0 hexec htr (own := own) (cls := cls) (names := names) (ic := ic) hown' hcls hnames h (fun x hx => nomatch hx) hfX hkX hcellA (by rw [hhp, hT]; exact Nat.le_refl _)
    (g := { method := m, pc := pc + 4, locals := ls, stack := .ref T.heap.size :: .ref T.heap.size :: rest, locked := none }) rfl hsize rfl rfl (rest := rest) rfl
    (by rw [hb]; exact d4) (by rw [hb]; exact d7) hout hRframes (by simp only [List.map_cons, List.sum_cons, hcat]; omega) hlocks
  obtain ⟨f1, f2⟩ := vx_frame hsame
  rw [hhp] at f1 f2
  have hWs : s.WarmedH U.vm := State.WarmedH.trans hW0 hW
  have hsz9 : U.heap.size = H.size + 1 := by
    have g1 : U.heap.size ≤ s'.heap.size + (0 + 1) := hsame.2.2.1
    have g2 : T.heap.size < U.heap.size := (Array.getElem?_eq_some_iff.mp hce).1
    rw [hhp] at g1
    rw [hT] at g2
    omega
  have hcl : s.vm.findClass cls = some ce.cls := by
    have h9 := hO.cls
    rw [hvm] at h9
    exact h9
  have hall : s.sameButNew ({ U with vm := s.vm } : State) locs mc ms := by
    subst hA
    obtain ⟨e1, e2⟩ := hsame
    rw [State.setFrames_setFrames] at e1
    have h2 : (T.setVm s.vm).sameButNew ({ U with vm := s.vm } : State) [] (0 + 1) (0 + 6) := ⟨e1, e2⟩
    have h3 := X.same.trans h2
    rw [List.append_nil] at h3
    exact h3.mono hc hs
  refine ⟨U, ?_, .threw T.heap.size, hrun, hend, Or.inr ⟨T.heap.size, rfl, cls, ce, locs, hx U ce hWs.alike hsz9 (fun q hq => f2 q hq (fun z hz => nomatch hz)) (by rw [← hT]; exact hce) hO.vm hcl, hce, hO.vm, hcl, hWs, hall, hf⟩⟩
  refine st1 _ ?_
  show Steps p.tables e below (T1.setTop { method := m, pc := pc + 3, locals := ls, stack := .ref T.heap.size :: rest, locked := none }) _
  jvm_step X₁.here [X₁.here.top, hexec, d3', Value.category]
  exact hsteps
end VZ
section EXC
variable {G : GT} {M M2 : MI} {d d2 pc : Nat} {L : List (Option Value)} {S : List Value} {h : AH} {P P1 : OC → AH → Prop}
/-- throw new E(), past no handler -/
theorem q_throw {cls : String} {names : List String} {ik ic ce : Nat} (hcls : Bundle.fit cls = true) (hnames : ∀ n ∈ names, Bundle.fit n = true) (hk : Cond.classLink M.1.cls ik cls ∈ AW) (hini : Cond.initialized cls ∈ AW)
    (hat1 : ∀ w ∈ (vx_at0 M.1.cls ic cls names).filter goodWord, w ∈ AW) (hat2 : ∀ w ∈ (vx_at0 M.1.cls ic cls names).filter (fun w => !goodWord w), w ∈ NW) (hgood : ∀ w ∈ Cond.classLink M.1.cls ik cls :: Cond.initialized cls :: vx_at0 M.1.cls ic cls names, vx_ot w = true)
    (hc : CL[ce]? = some (cls, exT, 0)) (hh : M.2.2.2.2 = [])
    (d0 : decode M.2.1 pc = .ok (.new ik, 3)) (d3 : decode M.2.1 (pc + 3) = .ok (.dup, 1)) (d4 : decode M.2.1 (pc + 4) = .ok (.invokespecial ic, 3)) (d7 : decode M.2.1 (pc + 7) = .ok (.athrow, 1))
    (hdd : names.length + 4 ≤ d) (hst : (S.map fun v => v.category).sum ≤ 8) (hP : P (.inr cls) (hnew h 6 (.inr (ce, [])))) : RQ G M d pc L S h P := by
  refine ⟨.inr cls, hnew h 6 (.inr (ce, [])), ⟨⟨Nat.le_succ _, Nat.le_add_right _ _⟩, fun p e Rm s m args below meth c H locs cells slots ls hC hz hcs hss ho hW hS hl => W.bound fun hb => ?_⟩, hP⟩
  have hsz : H.size = gB G + h.1 := hW.size hS hz hb hC.2.2.2.2.2.2.2.1.2.2.1
  have g1 : (hnew h 6 (.inr (ce, []))).1 - h.1 = 1 := Nat.add_sub_cancel_left ..
  have g2 : (hnew h 6 (.inr (ce, []))).2.1 - h.2.1 = 6 := Nat.add_sub_cancel_left ..
  rw [g1] at hcs ⊢
  rw [g2] at hss ⊢
  have hG := hC.2.2.2.2.2.2.2.1
  have h9 := hC.2.2.2.2.2.2.2.2.2.2.1
  have h10 := hC.2.2.2.2.2.2.2.2.2.2.2
  refine vz_throw0 (A := Aq G) hC.1 hC.2.1 hG.2.1 hC.2.2.2.2.2.1 hcls hnames (hC.2.2.2.2.2.2.1 _ hk) (hC.2.2.2.2.2.2.1 _ hini)
    (vx_hat (fun w hw => hC.2.2.2.2.2.2.1 _ (hat1 w hw)) hat2 (fun w hw => va_Nw.use (by have hn := (List.mem_filter.mp hw).2; cases w <;> first | (simp only [nestWord] at hn; cases hn; done) | rfl) (hG.2.2.2.1 w hw))) hgood hG.2.2.2.2.2.2.1.1 hG.2.2.2.2.2.2.1.2.1 hS (by rw [hC.2.2.1]; exact hl.1) d0 d3 d4 d7
    (fun x hx => by rw [hC.2.2.2.2.2.2.2.2.2.1, hh] at hx; exact nomatch hx) (by omega) (by rw [cv_cats]; omega) (by omega) (by omega) hC.2.2.2.2.1 (fun t c9 hal hs1 hk1 hc1 hv1 hf1 => ?_) hS.2.2 (Nat.le_refl _) (Nat.le_refl _)
  refine ⟨⟨rfl, ?_⟩, ⟨by rw [hs1]; exact Nat.le_trans hS.1 (Nat.le_succ _), fun q q1 q2 => by rw [hk1 q (Nat.lt_of_lt_of_le q1 hS.1)]; exact hS.2.1 q q1 q2⟩⟩
  have hKn := hG.1.1 ce _ hc
  intro i q hq
  have hi := cw_lt hq
  have hi : i < h.1 + 1 := hi
  rw [cw_at G _ hi] at hq
  cases hq
  by_cases e9 : i = h.1
  · subst e9
    show va_at (gD G) CL (gB G + h.1, cE G (if h.1 = h.1 then _ else _)) t.heap
    rw [if_pos rfl, ← hsz]
    refine ⟨_, hc, c9, hc1, ?_, hv1, fun k hk0 => absurd hk0 (Nat.not_lt_zero k)⟩
    exact Option.some.inj (hf1.symm.trans hKn.2.1)
  · have hi2 : i < h.1 := by omega
    show va_at (gD G) CL (gB G + i, cE G (if i = h.1 then _ else _)) t.heap
    rw [if_neg e9]
    have h8 := hW i _ (cw_at G h hi2)
    exact h8.kept (hk1 _ h8.lt)
/-- a call that throws, past no handler -/
theorem RQ.callX {As ST : List Value} (hy : plainName M2.1.cls = true) (hh2 : M2.2.2.2.2 = []) (hh : M.2.2.2.2 = []) (hcode : codeW M2 ∈ AW) (hlen : (entS As).length ≤ M2.2.2.1) (call : RQ G M2 d2 0 (entL As M2.2.2.1) [] h P1)
    (hrun : ∀ (o : OC) (h1 : AH) (p : Program) (e : Env) (Rm : Room) (s : State) (m : MethodId) (args : Array Value) (below : List Frame) (meth : Method) (c : Code) (H : Heap) (locs : List Loc) (cells slots : Nat) (ls : Array Slot),
      Cx G M d p Rm s m args meth c → Rl G M.2.2.1 ls L → Wd G h H → h.1 < OLD → (∀ U : State, U.heap = H → s.WarmedH U.vm → PcR G As h (As.map (cv G)).toArray U) → cells + (h1.1 - h.1) ≤ Rm.cells → slots + (h1.2.1 - h.2.1) ≤ Rm.slots →
      vx_Met (gL G) M2.1 (codeW M2 :: AW) (rmR d2 h h1) (PcR G As h) (QR G o h1) (XR G o h1) (h1.1 - h.1) (h1.2.1 - h.2.1) (Aq G) →
      vx_Run p (gL G) e Rm s m args below meth c H locs cells slots (h1.1 - h.1) (h1.2.1 - h.2.1) (F0 m pc ls (ST.map (cv G))) (S.map (cv G)) (QR G o h1 (As.map (cv G)).toArray) (XR G o h1) (Aq G))
    (k : ∀ o h1, P1 o h1 → (∃ v, o = .inl v ∧ RQ G M d (pc + 3) L (v.toList ++ S) h1 P) ∨ ∃ E, o = .inr E ∧ P (.inr E) h1) : RQ G M d pc L ST h P := by
  obtain ⟨o, h1, c1, p1⟩ := call
  have m1 := c1.1
  rcases k o h1 p1 with ⟨v, rfl, o', h', r1, r2⟩ | ⟨E, rfl, r2⟩
  · have m2 := r1.1
    refine ⟨o', h', ⟨⟨Nat.le_trans m1.1 m2.1, Nat.le_trans m1.2 m2.2⟩, fun p e Rm s m args below meth c H locs cells slots ls hC hz hc hs ho hW hS hl => ?_⟩, r2⟩
    refine W.bound fun hb => ?_
    have hsz : H.size = gB G + h.1 := hW.size hS hz hb hC.2.2.2.2.2.2.2.1.2.2.1
    intro T hT X
    rcases hrun (.inl v) h1 p e Rm s m args below meth c H locs cells slots ls hC hl hW (by omega) (fun U hU hWm => ⟨rfl, by rw [hU]; exact hW, by rw [hU]; exact hsz, hC.2.2.2.2.2.2.2.1.to hU hWm hS⟩) (by omega) (by omega) (R.vx hy hh2 hcode hlen (by omega) c1) T hT X with ⟨v', st₀, t, T', L', h0, X', hL, e1, e2, ⟨⟨v2, hv1, hv2, hW1⟩, hF⟩, st⟩ | ⟨q, st₀, t, T', L', E, c9, h0, X', hL, e1, e2, ⟨⟨hE, -⟩, -⟩, -⟩
    · cases hv1
      cases hv2
      obtain ⟨-, -, hS1⟩ := vx_keep (A1 := Aq G) h0 e1 hS (fun _ _ q => q) (fun _ q => q) hL hF
      have a1 : cells + (h1.1 - h.1) + (h'.1 - h1.1) = cells + (h'.1 - h.1) := by omega
      have a2 : slots + (h1.2.1 - h.2.1) + (h'.2.1 - h1.2.1) = slots + (h'.2.1 - h.2.1) := by omega
      have kk := r1.2 p e Rm s m args below meth c T'.heap (locs ++ L') (cells + (h1.1 - h.1)) (slots + (h1.2.1 - h.2.1)) ls hC (by omega) (by rw [a1]; exact hc) (by rw [a2]; exact hs) ho (by rw [e1]; exact hW1) hS1 hl
      rw [a1, a2] at kk
      obtain ⟨t2, b1, b2⟩ := kk T' rfl X'
      refine ⟨t2, st t2 ?_, b2⟩
      have e9 : (v.toList ++ S).map (cv G) = (v.map (cv G)).toList ++ S.map (cv G) := by cases v <;> rfl
      rw [e9] at b1
      exact b1
    · cases hE
  · refine ⟨.inr E, h1, ⟨m1, fun p e Rm s m args below meth c H locs cells slots ls hC hz hc hs ho hW hS hl => ?_⟩, r2⟩
    refine W.bound fun hb => ?_
    have hsz : H.size = gB G + h.1 := hW.size hS hz hb hC.2.2.2.2.2.2.2.1.2.2.1
    intro T hT X
    rcases hrun (.inr E) h1 p e Rm s m args below meth c H locs cells slots ls hC hl hW (by omega) (fun U hU hWm => ⟨rfl, by rw [hU]; exact hW, by rw [hU]; exact hsz, hC.2.2.2.2.2.2.2.1.to hU hWm hS⟩) (by omega) (by omega) (R.vx hy hh2 hcode hlen ho c1) T hT X with ⟨v', st₀, t, T', L', h0, X', hL, e1, e2, ⟨⟨v2, hv1, hv2, hW1⟩, hF⟩, st⟩ | ⟨q, st₀, t, T', L', E2, c9, h0, X', hL, e1, e2, ⟨⟨hE, hW1⟩, hF⟩, hce, hcv, hcl, st⟩
    · cases hv1
    · cases hE
      obtain ⟨-, -, hS1⟩ := vx_keep (A1 := Aq G) h0 e1 hS (fun _ _ q => q) (fun _ q => q) hL hF
      obtain ⟨t2, b1, b2⟩ := vx_out (m := m) (c := c) (e := e) (p := p) (l := gL G) (R := Rm) (s := s) (args := args) (below := below) (meth := meth) (ls := ls) (pc := pc) (rest := S.map (cv G)) (E := E) (ce := c9) (q := q) (H := T'.heap) (cells := cells + (h1.1 - h.1)) (slots := slots + (h1.2.1 - h.2.1)) (locs := locs ++ L') (free := Aq G) (Qc := QR G (.inr E) h1) (XC := XR G (.inr E) h1)
        (fun x hx => by rw [hC.2.2.2.2.2.2.2.2.2.1, hh] at hx; exact nomatch hx) hC.2.2.2.2.1 (by rw [e1]; exact hce) hcv hcl (fun t9 ht9 _ => ⟨⟨rfl, by rw [ht9, e1]; exact hW1⟩, hS1.F ht9⟩) hS1.2.2 (Nat.le_refl _) (Nat.le_refl _) T' rfl X'
      exact ⟨t2, st.trans b1, b2⟩
theorem q_callVX {index b ci n N : Nat} {C : String} {T : u_T} {As vs : List Value} (hd : decode M.2.1 pc = .ok (.invokevirtual index, 3)) (hyC : M2.1.cls = C) (hy : plainName M2.1.cls = true ∧ M2.1.cls ≠ "java/lang/invoke/MethodHandle" ∧ M2.1.cls ≠ "java/lang/invoke/VarHandle" ∧ (parseMethodDescriptor M2.1.desc).map (fun d => d.parameters.length) = some n) (hh2 : M2.2.2.2.2 = []) (hh : M.2.2.2.2 = [])
    (hl : Cond.methodLink M.1.cls index M2.1 ∈ AW) (hi : Cond.instanceMethod M2.1 ∈ AW) (hs : Cond.selects C M2.1 M2.1 ∈ AW) (hni : Cond.initialized C ∈ AW) (hcode : codeW M2 ∈ AW) (hc : CL[ci]? = some (C, T, N)) (hdd : d2 + 1 ≤ d) (hml : M2.2.2.1 ≤ 20)
    (hlen : (entS (.ref b :: As)).length ≤ M2.2.2.1) (hn : As.length = n) (ha : At h b (.inr (ci, vs))) (hst : (S.map fun v => v.category).sum ≤ 8)
    (call : RQ G M2 d2 0 (entL (.ref b :: As) M2.2.2.1) [] h P1) (k : ∀ o h1, P1 o h1 → (∃ v, o = .inl v ∧ RQ G M d (pc + 3) L (v.toList ++ S) h1 P) ∨ ∃ E, o = .inr E ∧ P (.inr E) h1) : RQ G M d pc L (As.reverse ++ .ref b :: S) h P := by
  refine RQ.callX hy.1 hh2 hh hcode hlen call (fun o h1 p e Rm s m args below meth c H locs cells slots ls hC hLl hW h0 hPc hcs hss hM => ?_) k
  exact vx_runV (Ts := AW) (own := M.1.cls) (C := C) (b := gad G b) (As := As.map (cv G)) ⟨hC.1, hC.2.1, hC.2.2.1, hC.2.2.2.2.2.1, hC.2.2.2.2.2.2.1⟩ hM
    (cwV n hC.2.2.2.2.2.2.1 (goodV hl hi hs hni hcode) rfl rfl rfl ⟨hyC, hy.2.1, hy.2.2.1, hy.2.2.2⟩ ⟨by have := hC.2.2.2.2.2.2.2.2.2.2.1; show d2 + 1 ≤ Rm.frames; omega, by have := hC.2.2.2.2.2.2.2.2.2.2.2; show 8 + (M2.2.2.1 + 11) + 40 * d2 ≤ Rm.locals; omega⟩)
    ⟨PcR.blind G _ h, va_recv hC.2.2.2.2.2.2.2.1.1 hW hc (ha.cw h0), hPc⟩ rfl (by rw [List.length_map]; exact hn) hLl.1
    (by show (As.reverse ++ Value.ref b :: S).map (cv G) = _; rw [List.map_append, List.map_reverse, List.map_cons]; rfl) (room_cv hst) hd ⟨hcs, hss⟩
end EXC
