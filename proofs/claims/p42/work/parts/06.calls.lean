/-! CALLS: a judgement at a method's entry is its contract -/
def cat2 : Value → Bool
  | .long _ => true
  | .double _ => true
  | _ => false
theorem cat2_iff (v : Value) : v.category = 2 ↔ cat2 v = true := by cases v <;> simp [Value.category, cat2]
/-- arguments in their places -/
def entS : List Value → List (Option Value)
  | [] => []
  | v :: vs => bif cat2 v then some v :: none :: entS vs else some v :: entS vs
def entL (As : List Value) (n : Nat) : List (Option Value) := entS As ++ List.replicate (n - (entS As).length) none
theorem ent_len (G : GT) : ∀ As : List Value, (lg_sl (As.map (cv G))).length = (entS As).length
  | [] => rfl
  | v :: vs => by
    have ih := ent_len G vs
    rw [List.map_cons]
    by_cases hc : v.category = 2
    · have e : lg_sl (cv G v :: vs.map (cv G)) = [.val (cv G v), .second] ++ lg_sl (vs.map (cv G)) := by simp [lg_sl, cv_cat, hc]
      rw [e, entS, (cat2_iff v).mp hc]
      simp [ih]
    · have e : lg_sl (cv G v :: vs.map (cv G)) = [.val (cv G v)] ++ lg_sl (vs.map (cv G)) := by simp [lg_sl, cv_cat, hc]
      have hb : cat2 v = false := by
        cases h : cat2 v
        · rfl
        · exact absurd ((cat2_iff v).mpr h) hc
      rw [e, entS, hb]
      simp [ih]
theorem ent_at (G : GT) : ∀ (As : List Value) (i : Nat) (v : Value), (entS As)[i]? = some (some v) → (lg_sl (As.map (cv G)))[i]? = some (.val (cv G v))
  | [], i, v, h => by simp [entS] at h
  | w :: vs, i, v, h => by
    have ih := ent_at G vs
    rw [List.map_cons]
    by_cases hc : w.category = 2
    · have e : lg_sl (cv G w :: vs.map (cv G)) = [.val (cv G w), .second] ++ lg_sl (vs.map (cv G)) := by simp [lg_sl, cv_cat, hc]
      rw [entS, (cat2_iff w).mp hc] at h
      rw [e]
      match i, h with
      | 0, h =>
        have h : some (some w) = some (some v) := h
        cases h
        rfl
      | 1, h =>
        have h : some none = some (some v) := h
        cases h
      | i + 2, h =>
        have h : (entS vs)[i]? = some (some v) := h
        exact ih i v h
    · have e : lg_sl (cv G w :: vs.map (cv G)) = [.val (cv G w)] ++ lg_sl (vs.map (cv G)) := by simp [lg_sl, cv_cat, hc]
      have hb : cat2 w = false := by
        cases h : cat2 w
        · rfl
        · exact absurd ((cat2_iff w).mpr h) hc
      rw [entS, hb] at h
      rw [e]
      match i, h with
      | 0, h =>
        have h : some (some w) = some (some v) := h
        cases h
        rfl
      | i + 1, h =>
        have h : (entS vs)[i]? = some (some v) := h
        exact ih i v h
theorem Rl.entry (G : GT) (As : List Value) {n : Nat} (hn : (entS As).length ≤ n) : Rl G n ((lg_sl (As.map (cv G)) ++ List.replicate (n - (lg_sl (As.map (cv G))).length) Slot.unset).toArray) (entL As n) := by
  obtain ⟨h1, h2, -⟩ := lv_entry (As.map (cv G)) (n := n) (by rw [ent_len]; exact hn)
  refine ⟨h1, by simp [entL]; omega, h2, fun i v h => ?_⟩
  unfold entL at h
  by_cases hi : i < (entS As).length
  · rw [List.getElem?_append_left hi] at h
    rw [List.getElem?_toArray, List.getElem?_append_left (by rw [ent_len]; exact hi)]
    exact ent_at G As i v h
  · rw [List.getElem?_append_right (by omega)] at h
    rw [List.getElem?_replicate] at h
    split at h <;> cases h
def PcR (G : GT) (As : List Value) (h : AH) : Array Value → State → Prop := fun a U => a = (As.map (cv G)).toArray ∧ Wd G h U.heap ∧ U.heap.size = gB G + h.1 ∧ Gs G U
theorem PcR.blind (G : GT) (As : List Value) (h : AH) : FrameBlind (PcR G As h) := fun _ _ _ _ q => ⟨q.1, q.2.1, q.2.2.1, q.2.2.2.blind⟩
abbrev rmR (d : Nat) (h h1 : AH) : Room := { frames := d, cells := h1.1 - h.1, slots := h1.2.1 - h.2.1, locals := 40 * d }
theorem R.vx {G : GT} {M : MI} {d : Nat} {As : List Value} {h h1 : AH} {o : OC} (hy : plainName M.1.cls = true) (hh : M.2.2.2.2 = []) (hcode : codeW M ∈ AW) (hlen : (entS As).length ≤ M.2.2.1) (ho : h1.1 < OLD) (r : R G M d 0 (entL As M.2.2.1) [] h o h1) :
    vx_Met (gL G) M.1 (codeW M :: AW) (rmR d h h1) (PcR G As h) (QR G o h1) (XR G o h1) (h1.1 - h.1) (h1.2.1 - h.2.1) (Aq G) := by
  refine vx_ofW hy rfl ?_
  intro p e s m args below meth c s₁ B hml htab hv
  obtain ⟨rfl, hW, hsz, hG⟩ := hv
  have hts := atoms_spec (ws := codeW M :: AW) B.pre
  have hown : s.vm.findClass M.1.cls = some m.cls := findClass_of_methodNamed B.named
  have hin : meth.name = M.1.name := (name_of_methodNamed B.named B.method).1
  have htab2 : c.exceptionTable.toList = tableOf M.2.2.2.2 := by
    rw [hh]
    cases hE : c.exceptionTable.toList with
    | nil => rfl
    | cons x l => exact (htab x (by rw [hE]; exact List.mem_cons_self)).elim
  have k := r.2 p e (rmR d h h1) s m (As.map (cv G)).toArray below meth c s.heap [] 0 0 ((lg_sl (As.map (cv G)) ++ List.replicate (M.2.2.1 - (lg_sl (As.map (cv G))).length) Slot.unset).toArray)
    ⟨B.exec, B.bytes, hml, B.returns, B.notSynchronized, hown, fun w hw => hts w (List.mem_cons_of_mem _ hw), hG, hin, htab2, Nat.le_refl _, Nat.le_refl _⟩
    (by rw [hsz, Nat.add_zero]) (by rw [Nat.zero_add]; exact Nat.le_refl _) (by rw [Nat.zero_add]; exact Nat.le_refl _) ho hW va_S.rf (Rl.entry G As hlen)
  rw [Nat.zero_add, Nat.zero_add] at k
  rw [lg_entry_eq]
  exact k
theorem vx_Met.ret {l : Launch} {y : MethodName} {ws : List Cond} {rm : Room} {Pc : Array Value → State → Prop} {Qc : Array Value → State → Outcome → State → Prop} {XC : String → State → State → Prop} {mc ms : Nat} {free : Addr → Prop} (hM : vx_Met l y ws rm Pc Qc XC mc ms free) (hx : ∀ E st t, ¬ XC E st t) : Met l y ws rm Pc Qc mc ms free := by
  intro p e ha hc hk s m args below hf happ hP hK
  obtain ⟨n, o, h1, h2, h3, h4⟩ := hM p e ha hc hk s m args below hf happ hP hK
  rcases h4 with h4 | ⟨q, -, E, ce, L, hx9, -⟩
  · exact ⟨n, o, h1, h2, h3, h4⟩
  · exact absurd hx9 (hx _ _ _)
theorem R.met {G : GT} {M : MI} {d : Nat} {As : List Value} {h h1 : AH} {v : Option Value} (hy : plainName M.1.cls = true) (hh : M.2.2.2.2 = []) (hcode : codeW M ∈ AW) (hlen : (entS As).length ≤ M.2.2.1) (ho : h1.1 < OLD) (r : R G M d 0 (entL As M.2.2.1) [] h (.inl v) h1) :
    Met (gL G) M.1 (codeW M :: AW) (rmR d h h1) (PcR G As h) (QR G (.inl v) h1) (h1.1 - h.1) (h1.2.1 - h.2.1) (Aq G) :=
  (R.vx hy hh hcode hlen ho r).ret (fun E st t q => nomatch q.1.1)
/-- how big the heap is -/
theorem Wd.size {G : GT} {h : AH} {H H0 : Heap} {locs : List Loc} {cells : Nat} (hW : Wd G h H) (hS : va_S (Aq G) H0 H locs) (hz : H0.size + cells = gB G + h.1) (hb : H.size ≤ H0.size + cells) (hB : gB G ≤ H0.size) : H.size = gB G + h.1 := by
  have h1 := hS.1
  rcases Nat.eq_zero_or_pos h.1 with h0 | h0
  · omega
  · have h2 := hW.lt (i := h.1 - 1) (by omega)
    omega
section CALL
variable {G : GT} {M M2 : MI} {d d2 pc : Nat} {L : List (Option Value)} {S : List Value} {h : AH} {P P1 : OC → AH → Prop}
theorem RQ.call {As ST : List Value} (hy : plainName M2.1.cls = true) (hh : M2.2.2.2.2 = []) (hcode : codeW M2 ∈ AW) (hlen : (entS As).length ≤ M2.2.2.1) (call : RQ G M2 d2 0 (entL As M2.2.2.1) [] h P1)
    (hrun : ∀ (v : Option Value) (h1 : AH) (p : Program) (e : Env) (Rm : Room) (s : State) (m : MethodId) (args : Array Value) (below : List Frame) (meth : Method) (c : Code) (H : Heap) (locs : List Loc) (cells slots : Nat) (ls : Array Slot),
      Cx G M d p Rm s m args meth c → Rl G M.2.2.1 ls L → Wd G h H → h.1 < OLD → (∀ U : State, U.heap = H → s.WarmedH U.vm → PcR G As h (As.map (cv G)).toArray U) → cells + (h1.1 - h.1) ≤ Rm.cells → slots + (h1.2.1 - h.2.1) ≤ Rm.slots →
      Met (gL G) M2.1 (codeW M2 :: AW) (rmR d2 h h1) (PcR G As h) (QR G (.inl v) h1) (h1.1 - h.1) (h1.2.1 - h.2.1) (Aq G) →
      va_Run p (gL G) e Rm s m args below meth c H locs cells slots (h1.1 - h.1) (h1.2.1 - h.2.1) (F0 m pc ls (ST.map (cv G))) (S.map (cv G)) (QR G (.inl v) h1 (As.map (cv G)).toArray) (Aq G))
    (k : ∀ o h1, P1 o h1 → ∃ v, o = .inl v ∧ RQ G M d (pc + 3) L (v.toList ++ S) h1 P) : RQ G M d pc L ST h P := by
  obtain ⟨o, h1, c1, p1⟩ := call
  obtain ⟨v, rfl, o', h', r1, r2⟩ := k o h1 p1
  have m1 := c1.1
  have m2 := r1.1
  refine ⟨o', h', ⟨⟨Nat.le_trans m1.1 m2.1, Nat.le_trans m1.2 m2.2⟩, fun p e Rm s m args below meth c H locs cells slots ls hC hz hc hs ho hW hS hl => ?_⟩, r2⟩
  refine W.bound fun hb => ?_
  have hsz : H.size = gB G + h.1 := hW.size hS hz hb hC.2.2.2.2.2.2.2.1.2.2.1
  intro T hT X
  obtain ⟨v', st₀, t, T', L', h0, X', hL, e1, e2, ⟨⟨v2, hv1, hv2, hW1⟩, hF⟩, st⟩ := hrun v h1 p e Rm s m args below meth c H locs cells slots ls hC hl hW (by omega) (fun U hU hWm => ⟨rfl, by rw [hU]; exact hW, by rw [hU]; exact hsz, hC.2.2.2.2.2.2.2.1.to hU hWm hS⟩) (by omega) (by omega) (R.met hy hh hcode hlen (by omega) c1) T hT X
  cases hv1
  cases hv2
  obtain ⟨-, -, hS1⟩ := vx_keep (A1 := Aq G) h0 e1 hS (fun _ _ q => q) (fun _ q => q) hL hF
  have a1 : cells + (h1.1 - h.1) + (h'.1 - h1.1) = cells + (h'.1 - h.1) := by omega
  have a2 : slots + (h1.2.1 - h.2.1) + (h'.2.1 - h1.2.1) = slots + (h'.2.1 - h.2.1) := by omega
  have kk := r1.2 p e Rm s m args below meth c T'.heap (locs ++ L') (cells + (h1.1 - h.1)) (slots + (h1.2.1 - h.2.1)) ls hC (by omega) (by rw [a1]; exact hc) (by rw [a2]; exact hs) ho (by rw [e1]; exact hW1) hS1 hl
  rw [a1, a2] at kk
  obtain ⟨t2, b1, b2⟩ := kk T' rfl X'
  refine ⟨t2, st t2 ?_, b2⟩
  have e9 : (v.toList ++ S).map (cv G) = (v.map (cv G)).toList ++ S.map (cv G) := by cases v <;> rfl
  rw [e9] at b1
  exact b1
theorem goodV {own : String} {idx : Nat} {C : String} (hl : Cond.methodLink own idx M2.1 ∈ AW) (hi : Cond.instanceMethod M2.1 ∈ AW) (hs : Cond.selects C M2.1 M2.1 ∈ AW) (hn : Cond.initialized C ∈ AW) (hc : codeW M2 ∈ AW) : GoodIn AW (wsV own idx C M2.1 (codeW M2 :: AW)) := by
  intro w hw
  simp only [wsV, List.cons_append, List.nil_append, List.mem_cons] at hw
  rcases hw with rfl | rfl | rfl | rfl | rfl | hw
  · exact AW_goodIn _ hl
  · exact AW_goodIn _ hi
  · exact AW_goodIn _ hs
  · exact AW_goodIn _ hn
  · exact AW_goodIn _ hc
  · exact AW_goodIn _ hw
theorem goodS {own : String} {idx : Nat} (hl : Cond.methodLink own idx M2.1 ∈ AW) (hi : Cond.static M2.1 ∈ AW) (hn : Cond.initialized M2.1.cls ∈ AW) (hc : codeW M2 ∈ AW) : GoodIn AW (va_wsS own idx M2.1 (codeW M2 :: AW)) := by
  intro w hw
  simp only [va_wsS, List.cons_append, List.nil_append, List.mem_cons] at hw
  rcases hw with rfl | rfl | rfl | rfl | hw
  · exact AW_goodIn _ hl
  · exact AW_goodIn _ hi
  · exact AW_goodIn _ hn
  · exact AW_goodIn _ hc
  · exact AW_goodIn _ hw
theorem room_cv {m : MethodId} {pc : Nat} {ls : Array Slot} {st : List Value} (hst : (S.map fun v => v.category).sum ≤ 8) : 2 * (F0 m pc ls st).monitorRoom + ((S.map (cv G)).map fun v => v.category).sum ≤ 8 := by
  rw [cv_cats]
  exact lv_room hst
/-- invokevirtual, own and private ones too -/
theorem q_callV {index b ci n N : Nat} {C : String} {T : u_T} {As vs : List Value} (hd : decode M.2.1 pc = .ok (.invokevirtual index, 3)) (hyC : M2.1.cls = C) (hy : plainName M2.1.cls = true ∧ M2.1.cls ≠ "java/lang/invoke/MethodHandle" ∧ M2.1.cls ≠ "java/lang/invoke/VarHandle" ∧ (parseMethodDescriptor M2.1.desc).map (fun d => d.parameters.length) = some n) (hh : M2.2.2.2.2 = [])
    (hl : Cond.methodLink M.1.cls index M2.1 ∈ AW) (hi : Cond.instanceMethod M2.1 ∈ AW) (hs : Cond.selects C M2.1 M2.1 ∈ AW) (hni : Cond.initialized C ∈ AW) (hcode : codeW M2 ∈ AW) (hc : CL[ci]? = some (C, T, N)) (hdd : d2 + 1 ≤ d) (hml : M2.2.2.1 ≤ 20)
    (hlen : (entS (.ref b :: As)).length ≤ M2.2.2.1) (hn : As.length = n) (ha : At h b (.inr (ci, vs))) (hst : (S.map fun v => v.category).sum ≤ 8)
    (call : RQ G M2 d2 0 (entL (.ref b :: As) M2.2.2.1) [] h P1) (k : ∀ o h1, P1 o h1 → ∃ v, o = .inl v ∧ RQ G M d (pc + 3) L (v.toList ++ S) h1 P) : RQ G M d pc L (As.reverse ++ .ref b :: S) h P := by
  refine RQ.call hy.1 hh hcode hlen call (fun v h1 p e Rm s m args below meth c H locs cells slots ls hC hLl hW h0 hPc hcs hss hM => ?_) k
  exact va_runV (Ts := AW) (own := M.1.cls) (C := C) (b := gad G b) (As := As.map (cv G)) ⟨hC.1, hC.2.1, hC.2.2.1, hC.2.2.2.2.2.1, hC.2.2.2.2.2.2.1⟩ hM
    (cwV n hC.2.2.2.2.2.2.1 (goodV hl hi hs hni hcode) rfl rfl rfl ⟨hyC, hy.2.1, hy.2.2.1, hy.2.2.2⟩ ⟨by have := hC.2.2.2.2.2.2.2.2.2.2.1; show d2 + 1 ≤ Rm.frames; omega, by have := hC.2.2.2.2.2.2.2.2.2.2.2; show 8 + (M2.2.2.1 + 11) + 40 * d2 ≤ Rm.locals; omega⟩)
    ⟨PcR.blind G _ h, va_recv hC.2.2.2.2.2.2.2.1.1 hW hc (ha.cw h0), hPc⟩ rfl (by rw [List.length_map]; exact hn) hLl.1
    (by show (As.reverse ++ Value.ref b :: S).map (cv G) = _; rw [List.map_append, List.map_reverse, List.map_cons]; rfl) (room_cv hst) hd ⟨hcs, hss⟩
/-- invokestatic -/
theorem q_callS {index n : Nat} {As : List Value} (hd : decode M.2.1 pc = .ok (.invokestatic index, 3)) (hy : plainName M2.1.cls = true ∧ M2.1.cls ≠ "java/lang/invoke/MethodHandle" ∧ M2.1.cls ≠ "java/lang/invoke/VarHandle" ∧ (parseMethodDescriptor M2.1.desc).map (fun d => d.parameters.length) = some n) (hh : M2.2.2.2.2 = [])
    (hl : Cond.methodLink M.1.cls index M2.1 ∈ AW) (hi : Cond.static M2.1 ∈ AW) (hni : Cond.initialized M2.1.cls ∈ AW) (hcode : codeW M2 ∈ AW) (hdd : d2 + 1 ≤ d) (hml : M2.2.2.1 ≤ 20)
    (hlen : (entS As).length ≤ M2.2.2.1) (hn : As.length = n) (hst : (S.map fun v => v.category).sum ≤ 8)
    (call : RQ G M2 d2 0 (entL As M2.2.2.1) [] h P1) (k : ∀ o h1, P1 o h1 → ∃ v, o = .inl v ∧ RQ G M d (pc + 3) L (v.toList ++ S) h1 P) : RQ G M d pc L (As.reverse ++ S) h P := by
  refine RQ.call hy.1 hh hcode hlen call (fun v h1 p e Rm s m args below meth c H locs cells slots ls hC hLl hW h0 hPc hcs hss hM => ?_) k
  exact va_runS (Ts := AW) (own := M.1.cls) (As := As.map (cv G)) ⟨hC.1, hC.2.1, hC.2.2.1, hC.2.2.2.2.2.1, hC.2.2.2.2.2.2.1⟩ hM
    (va_cwS n hC.2.2.2.2.2.2.1 (goodS hl hi hni hcode) rfl rfl rfl hy.2 ⟨by have := hC.2.2.2.2.2.2.2.2.2.2.1; show d2 + 1 ≤ Rm.frames; omega, by have := hC.2.2.2.2.2.2.2.2.2.2.2; show 8 + (M2.2.2.1 + 11) + 40 * d2 ≤ Rm.locals; omega⟩)
    ⟨PcR.blind G _ h, hPc⟩ rfl (by rw [List.length_map]; exact hn) hLl.1
    (by show (As.reverse ++ S).map (cv G) = _; rw [List.map_append, List.map_reverse]) (room_cv hst) hd ⟨hcs, hss⟩
/-- invokespecial of a constructor -/
theorem q_callI {index b n : Nat} {As : List Value} (hd : decode M.2.1 pc = .ok (.invokespecial index, 3)) (hy : plainName M2.1.cls = true ∧ M2.1.cls ≠ "java/lang/invoke/MethodHandle" ∧ M2.1.cls ≠ "java/lang/invoke/VarHandle" ∧ (parseMethodDescriptor M2.1.desc).map (fun d => d.parameters.length) = some n) (hh : M2.2.2.2.2 = []) (hy1 : M2.1.name = "<init>") (hv0 : M2.2.2.2.1 = none)
    (hl : Cond.methodLink M.1.cls index M2.1 ∈ AW) (hi : Cond.instanceMethod M2.1 ∈ AW) (hni : Cond.initialized M2.1.cls ∈ AW) (hcode : codeW M2 ∈ AW) (hdd : d2 + 1 ≤ d) (hml : M2.2.2.1 ≤ 20)
    (hlen : (entS (.ref b :: As)).length ≤ M2.2.2.1) (hn : As.length = n) (hst : (S.map fun v => v.category).sum ≤ 8)
    (call : RQ G M2 d2 0 (entL (.ref b :: As) M2.2.2.1) [] h P1) (k : ∀ o h1, P1 o h1 → ∃ v, o = .inl v ∧ RQ G M d (pc + 3) L (v.toList ++ S) h1 P) : RQ G M d pc L (As.reverse ++ .ref b :: S) h P := by
  obtain ⟨y2, bc2, ml2, rt2, hh2⟩ := M2
  dsimp only at hv0
  subst hv0
  refine RQ.call hy.1 hh hcode hlen call (fun v h1 p e Rm s m args below meth c H locs cells slots ls hC hLl hW h0 hPc hcs hss hM => ?_) k
  exact va_runI (Ts := AW) (own := M.1.cls) (b := gad G b) (As := As.map (cv G)) ⟨hC.1, hC.2.1, hC.2.2.1, hC.2.2.2.2.2.1, hC.2.2.2.2.2.2.1⟩ hM
    (cwI n hC.2.2.2.2.2.2.1 (AW_cons hcode) rfl rfl rfl (hC.2.2.2.2.2.2.1 _ hni) (hC.2.2.2.2.2.2.1 _ hl) (hC.2.2.2.2.2.2.1 _ hi) hy1 hy.2 ⟨by have := hC.2.2.2.2.2.2.2.2.2.2.1; show d2 + 1 ≤ Rm.frames; omega, by have := hC.2.2.2.2.2.2.2.2.2.2.2; have hml : ml2 ≤ 20 := hml; show 8 + (ml2 + 11) + 40 * d2 ≤ Rm.locals; omega⟩)
    ⟨PcR.blind G _ h, hPc⟩ rfl (by rw [List.length_map]; exact hn) hLl.1
    (by show (As.reverse ++ Value.ref b :: S).map (cv G) = _; rw [List.map_append, List.map_reverse, List.map_cons]; rfl) (room_cv hst) hd ⟨hcs, hss⟩
/-- .. of a nest mate's private one -/
theorem q_callIN {index b n : Nat} {host : String} {As : List Value} (hd : decode M.2.1 pc = .ok (.invokespecial index, 3)) (hy : plainName M2.1.cls = true ∧ M2.1.cls ≠ "java/lang/invoke/MethodHandle" ∧ M2.1.cls ≠ "java/lang/invoke/VarHandle" ∧ (parseMethodDescriptor M2.1.desc).map (fun d => d.parameters.length) = some n) (hh : M2.2.2.2.2 = []) (hy1 : M2.1.name = "<init>") (hv0 : M2.2.2.2.1 = none)
    (hl : Cond.methodLinkNest M.1.cls index M2.1 host ∈ NW) (hi : Cond.instanceMethod M2.1 ∈ AW) (hni : Cond.initialized M2.1.cls ∈ AW) (hcode : codeW M2 ∈ AW) (hdd : d2 + 1 ≤ d) (hml : M2.2.2.1 ≤ 20)
    (hlen : (entS (.ref b :: As)).length ≤ M2.2.2.1) (hn : As.length = n) (hst : (S.map fun v => v.category).sum ≤ 8)
    (call : RQ G M2 d2 0 (entL (.ref b :: As) M2.2.2.1) [] h P1) (k : ∀ o h1, P1 o h1 → ∃ v, o = .inl v ∧ RQ G M d (pc + 3) L (v.toList ++ S) h1 P) : RQ G M d pc L (As.reverse ++ .ref b :: S) h P := by
  obtain ⟨y2, bc2, ml2, rt2, hh2⟩ := M2
  dsimp only at hv0
  subst hv0
  refine RQ.call hy.1 hh hcode hlen call (fun v h1 p e Rm s m args below meth c H locs cells slots ls hC hLl hW h0 hPc hcs hss hM => ?_) k
  exact va_runIN (Ts := AW) (own := M.1.cls) (b := gad G b) (As := As.map (cv G)) ⟨hC.1, hC.2.1, hC.2.2.1, hC.2.2.2.2.2.1, hC.2.2.2.2.2.2.1⟩ hM
    ⟨va_cnB n hC.2.2.2.2.2.2.1 (AW_cons hcode) rfl rfl rfl (hC.2.2.2.2.2.2.2.1.2.2.2.1 _ hl) (hC.2.2.2.2.2.2.1 _ hni) hy.2 ⟨by have := hC.2.2.2.2.2.2.2.2.2.2.1; show d2 + 1 ≤ Rm.frames; omega, by have := hC.2.2.2.2.2.2.2.2.2.2.2; have hml : ml2 ≤ 20 := hml; show 8 + (ml2 + 11) + 40 * d2 ≤ Rm.locals; omega⟩, hy1, hC.2.2.2.2.2.2.1 _ hi⟩
    ⟨PcR.blind G _ h, hPc⟩ rfl (by rw [List.length_map]; exact hn) hLl.1
    (by show (As.reverse ++ Value.ref b :: S).map (cv G) = _; rw [List.map_append, List.map_reverse, List.map_cons]; rfl) (room_cv hst) hd ⟨hcs, hss⟩
/-- Object's own constructor -/
theorem q_objInit {index b : Nat} (hd : decode M.2.1 pc = .ok (.invokespecial index, 3)) (hl : Cond.methodLink M.1.cls index objectInit ∈ AW) (hi : Cond.instanceMethod objectInit ∈ AW) (hc : Cond.code objectInit ⟨#[0xb1]⟩ 1 none ∈ AW) (hdd : 1 ≤ d) (hst : (S.map fun v => v.category).sum ≤ 8) (r : RQ G M d (pc + 3) L S h P) : RQ G M d pc L (.ref b :: S) h P :=
  RQ.one (fun p e Rm s m args below meth c H locs cells slots ls Q hC hz hcs hss h0 hW hS hLl k => W.objInit hC.1 hC.2.1 hC.2.2.2.2.2.1 (hC.2.2.2.2.2.2.1 _ hl) (hC.2.2.2.2.2.2.1 _ hi) (hC.2.2.2.2.2.2.1 _ hc) rfl (by rw [hC.2.2.1]; exact hLl.1) rfl hd (by have := hC.2.2.2.2.2.2.2.2.2.2.1; omega) (by have h9 := hC.2.2.2.2.2.2.2.2.2.2.2; have h8 := room_cv (G := G) (m := m) (pc := pc) (ls := ls) (st := (Value.ref b :: S).map (cv G)) hst; omega) (k ls hLl)) r
/-- Math.max, Math.min -/
theorem q_max {index : Nat} {x y : Int32} (hd : decode M.2.1 pc = .ok (.invokestatic index, 3)) (hl : Cond.methodLink M.1.cls index Lib.Math.max.name ∈ AW) (hi : Cond.static Lib.Math.max.name ∈ AW) (hni : Cond.initialized "java/lang/Math" ∈ AW) (hc : Cond.code Lib.Math.max.name Lib.Math.max.code 2 (some .int) ∈ AW) (hdd : 1 ≤ d) (hst : (S.map fun v => v.category).sum ≤ 8) (r : RQ G M d (pc + 3) L (.int (if x < y then y else x) :: S) h P) : RQ G M d pc L (.int y :: .int x :: S) h P :=
  RQ.one (fun p e Rm s m args below meth c H locs cells slots ls Q hC hz hcs hss h0 hW hS hLl k => va_mmax hC.1 hC.2.1 (by rw [hC.2.2.1]; exact hLl.1.symm) hC.2.2.2.2.2.1 (hC.2.2.2.2.2.2.1 _ hl) (hC.2.2.2.2.2.2.1 _ hi) (hC.2.2.2.2.2.2.1 _ hni) (hC.2.2.2.2.2.2.1 _ hc) (by have := hC.2.2.2.2.2.2.2.2.2.2.1; omega) (by have h9 := hC.2.2.2.2.2.2.2.2.2.2.2; rw [cv_cats]; omega) hcs hss hd (k ls hLl)) r
theorem q_min {index : Nat} {x y : Int32} (hd : decode M.2.1 pc = .ok (.invokestatic index, 3)) (hl : Cond.methodLink M.1.cls index Lib.Math.min.name ∈ AW) (hi : Cond.static Lib.Math.min.name ∈ AW) (hni : Cond.initialized "java/lang/Math" ∈ AW) (hc : Cond.code Lib.Math.min.name Lib.Math.min.code 2 (some .int) ∈ AW) (hdd : 1 ≤ d) (hst : (S.map fun v => v.category).sum ≤ 8) (r : RQ G M d (pc + 3) L (.int (if y < x then y else x) :: S) h P) : RQ G M d pc L (.int y :: .int x :: S) h P :=
  RQ.one (fun p e Rm s m args below meth c H locs cells slots ls Q hC hz hcs hss h0 hW hS hLl k => va_mmin hC.1 hC.2.1 (by rw [hC.2.2.1]; exact hLl.1.symm) hC.2.2.2.2.2.1 (hC.2.2.2.2.2.2.1 _ hl) (hC.2.2.2.2.2.2.1 _ hi) (hC.2.2.2.2.2.2.1 _ hni) (hC.2.2.2.2.2.2.1 _ hc) (by have := hC.2.2.2.2.2.2.2.2.2.2.1; omega) (by have h9 := hC.2.2.2.2.2.2.2.2.2.2.2; rw [cv_cats]; omega) hcs hss hd (k ls hLl)) r
end CALL
