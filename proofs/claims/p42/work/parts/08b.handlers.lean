/-! HANDLERS: a call that throws into one; methods with a table of their own, called -/
theorem Rl.storeN {G : GT} {n i : Nat} {ls ls2 : Array Slot} {L : List (Option Value)} {w : Value} (h : Rl G n ls L) (hok : okAt L i = true)
    (h2 : lv_has ls2 n ((i, w) :: (lvL G L).filter (fun q => !(q.1 == i) && !(q.1 + 1 == i && q.2.category == 2)))) : Rl G n ls2 (L.set i none) := by
  refine ⟨h2.1, by rw [List.length_set]; exact h.2.1, h2.2.1, fun j x hj => ?_⟩
  by_cases e : i = j
  · subst e
    by_cases hi : i < L.length
    · rw [List.getElem?_set_self hi] at hj
      cases hj
    · rw [List.getElem?_eq_none (by rw [List.length_set]; omega)] at hj
      cases hj
  · rw [List.getElem?_set_ne e] at hj
    refine h2.2.2 (j, cv G x) (List.mem_cons_of_mem _ (List.mem_filter.mpr ⟨lvL_mem.mpr ⟨x, hj, rfl⟩, ?_⟩))
    have e1 : (j == i) = false := by simp; exact fun z => e z.symm
    simp only [e1, Bool.not_false, Bool.true_and]
    by_cases e2 : j + 1 = i
    · subst e2
      have hok2 : ok1 (some x) = true := by
        have := hok
        simp only [okAt, hj] at this
        exact this
      simp [cv_cat, ok1_cat hok2]
    · simp [e2]
theorem R.vxW {G : GT} {M : MI} {d : Nat} {As : List Value} {h h1 : AH} {o : OC} (hy : plainName M.1.cls = true) (hcode : codeWW M ∈ AW) (hlen : (entS As).length ≤ M.2.2.1) (ho : h1.1 < OLD) (r : R G M d 0 (entL As M.2.2.1) [] h o h1) :
    vx_Met (gL G) M.1 (codeWW M :: AW) (rmR d h h1) (PcR G As h) (QR G o h1) (XR G o h1) (h1.1 - h.1) (h1.2.1 - h.2.1) (Aq G) := by
  refine vx_ofWH hy rfl ?_
  intro p e s m args below meth c s₁ B hml hv
  obtain ⟨rfl, hW, hsz, hG⟩ := hv
  have hts := atoms_spec (ws := codeWW M :: AW) B.pre
  have hown : s.vm.findClass M.1.cls = some m.cls := findClass_of_methodNamed B.named
  have hin : meth.name = M.1.name := (name_of_methodNamed B.named B.method).1
  have htab2 : c.exceptionTable.toList = tableOf M.2.2.2.2 := vx_table (x := M.1) B (hts _ List.mem_cons_self)
  have k := r.2 p e (rmR d h h1) s m (As.map (cv G)).toArray below meth c s.heap [] 0 0 ((lg_sl (As.map (cv G)) ++ List.replicate (M.2.2.1 - (lg_sl (As.map (cv G))).length) Slot.unset).toArray)
    ⟨B.exec, B.bytes, hml, B.returns, B.notSynchronized, hown, fun w hw => hts w (List.mem_cons_of_mem _ hw), hG, hin, htab2, Nat.le_refl _, Nat.le_refl _⟩
    (by rw [hsz, Nat.add_zero]) (by rw [Nat.zero_add]; exact Nat.le_refl _) (by rw [Nat.zero_add]; exact Nat.le_refl _) ho hW va_S.rf (Rl.entry G As hlen)
  rw [Nat.zero_add, Nat.zero_add] at k
  rw [lg_entry_eq]
  exact k
section HND
variable {G : GT} {M M2 : MI} {d d2 pc : Nat} {L : List (Option Value)} {S : List Value} {h : AH} {P P1 : OC → AH → Prop}
/-- invokestatic of a method with a table -/
theorem q_callSW {index n : Nat} {As : List Value} (hd : decode M.2.1 pc = .ok (.invokestatic index, 3)) (hy : plainName M2.1.cls = true ∧ M2.1.cls ≠ "java/lang/invoke/MethodHandle" ∧ M2.1.cls ≠ "java/lang/invoke/VarHandle" ∧ (parseMethodDescriptor M2.1.desc).map (fun d => d.parameters.length) = some n)
    (hl : Cond.methodLink M.1.cls index M2.1 ∈ AW) (hi : Cond.static M2.1 ∈ AW) (hni : Cond.initialized M2.1.cls ∈ AW) (hcode : codeWW M2 ∈ AW) (hdd : d2 + 1 ≤ d) (hml : M2.2.2.1 ≤ 20)
    (hlen : (entS As).length ≤ M2.2.2.1) (hn : As.length = n) (hst : (S.map fun v => v.category).sum ≤ 8)
    (call : RQ G M2 d2 0 (entL As M2.2.2.1) [] h P1) (k : ∀ o h1, P1 o h1 → ∃ v, o = .inl v ∧ RQ G M d (pc + 3) L (v.toList ++ S) h1 P) : RQ G M d pc L (As.reverse ++ S) h P := by
  obtain ⟨o, h1, c1, p1⟩ := call
  obtain ⟨v, rfl, o', h', r1, r2⟩ := k o h1 p1
  have m1 := c1.1
  have m2 := r1.1
  refine ⟨o', h', ⟨⟨Nat.le_trans m1.1 m2.1, Nat.le_trans m1.2 m2.2⟩, fun p e Rm s m args below meth c H locs cells slots ls hC hz hc hs ho hW hS hLl => ?_⟩, r2⟩
  refine W.bound fun hb => ?_
  have hsz : H.size = gB G + h.1 := hW.size hS hz hb hC.2.2.2.2.2.2.2.1.2.2.1
  have hPc : ∀ U : State, U.heap = H → s.WarmedH U.vm → PcR G As h (As.map (cv G)).toArray U := fun U hU hWm => ⟨rfl, by rw [hU]; exact hW, by rw [hU]; exact hsz, hC.2.2.2.2.2.2.2.1.to hU hWm hS⟩
  have hM : Met (gL G) M2.1 (codeWW M2 :: AW) (rmR d2 h h1) (PcR G As h) (QR G (.inl v) h1) (h1.1 - h.1) (h1.2.1 - h.2.1) (Aq G) := (R.vxW hy.1 hcode hlen (by omega) c1).ret (fun E st t q => nomatch q.1.1)
  have hT : GoodIn AW (va_wsS M.1.cls index M2.1 (codeWW M2 :: AW)) := by
    intro w hw
    simp only [va_wsS, List.cons_append, List.nil_append, List.mem_cons] at hw
    rcases hw with rfl | rfl | rfl | rfl | hw
    · exact AW_goodIn _ hl
    · exact AW_goodIn _ hi
    · exact AW_goodIn _ hni
    · exact AW_goodIn _ hcode
    · exact AW_goodIn _ hw
  have run : va_Run p (gL G) e Rm s m args below meth c H locs cells slots (h1.1 - h.1) (h1.2.1 - h.2.1) (F0 m pc ls ((As.reverse ++ S).map (cv G))) (S.map (cv G)) (QR G (.inl v) h1 (As.map (cv G)).toArray) (Aq G) :=
    vx_runSW (Ts := AW) (own := M.1.cls) (As := As.map (cv G)) ⟨hC.1, hC.2.1, hC.2.2.1, hC.2.2.2.2.2.1, hC.2.2.2.2.2.2.1⟩ hM
      (vx_cwSW n hC.2.2.2.2.2.2.1 hT rfl rfl rfl hy.2 ⟨by have := hC.2.2.2.2.2.2.2.2.2.2.1; show d2 + 1 ≤ Rm.frames; omega, by have := hC.2.2.2.2.2.2.2.2.2.2.2; show 8 + (M2.2.2.1 + 11) + 40 * d2 ≤ Rm.locals; omega⟩)
      ⟨PcR.blind G _ h, hPc⟩ rfl (by rw [List.length_map]; exact hn) hLl.1
      (by show (As.reverse ++ S).map (cv G) = _; rw [List.map_append, List.map_reverse]) (room_cv hst) hd ⟨by omega, by omega⟩
  intro T hT9 X
  obtain ⟨v', st₀, t, T', L', h0, X', hL, e1, e2, ⟨⟨v2, hv1, hv2, hW1⟩, hF⟩, st⟩ := run T hT9 X
  cases hv1
  cases hv2
  obtain ⟨-, -, hS1⟩ := vx_keep (A1 := Aq G) h0 e1 hS (fun _ _ q => q) (fun _ q => q) hL hF
  have a1 : cells + (h1.1 - h.1) + (h'.1 - h1.1) = cells + (h'.1 - h.1) := by omega
  have a2 : slots + (h1.2.1 - h.2.1) + (h'.2.1 - h1.2.1) = slots + (h'.2.1 - h.2.1) := by omega
  have kk := r1.2 p e Rm s m args below meth c T'.heap (locs ++ L') (cells + (h1.1 - h.1)) (slots + (h1.2.1 - h.2.1)) ls hC (by omega) (by rw [a1]; exact hc) (by rw [a2]; exact hs) ho (by rw [e1]; exact hW1) hS1 hLl
  rw [a1, a2] at kk
  obtain ⟨t2, b1, b2⟩ := kk T' rfl X'
  refine ⟨t2, st t2 ?_, b2⟩
  have e9 : (v.toList ++ S).map (cv G) = (v.map (cv G)).toList ++ S.map (cv G) := by cases v <;> rfl
  rw [e9] at b1
  exact b1
/-- a virtual call that throws into a handler, which puts the thing away in local i -/
theorem q_callVT {index b ci n N i pc2 : Nat} {C E name : String} {T : u_T} {As vs : List Value} {pre suf : List ExceptionTableEntry} {x : ExceptionTableEntry} {Q : AH → Prop} (hd : decode M.2.1 pc = .ok (.invokevirtual index, 3)) (hyC : M2.1.cls = C) (hy : plainName M2.1.cls = true ∧ M2.1.cls ≠ "java/lang/invoke/MethodHandle" ∧ M2.1.cls ≠ "java/lang/invoke/VarHandle" ∧ (parseMethodDescriptor M2.1.desc).map (fun d => d.parameters.length) = some n) (hh2 : M2.2.2.2.2 = [])
    (hl : Cond.methodLink M.1.cls index M2.1 ∈ AW) (hi : Cond.instanceMethod M2.1 ∈ AW) (hs : Cond.selects C M2.1 M2.1 ∈ AW) (hni : Cond.initialized C ∈ AW) (hcode : codeW M2 ∈ AW) (hc : CL[ci]? = some (C, T, N)) (hdd : d2 + 1 ≤ d) (hml : M2.2.2.1 ≤ 20)
    (hlen : (entS (.ref b :: As)).length ≤ M2.2.2.1) (hn : As.length = n) (ha : At h b (.inr (ci, vs))) (hst : (S.map fun v => v.category).sum ≤ 8)
    (hsplit : tableOf M.2.2.2.2 = pre ++ x :: suf) (hpass : ∀ z ∈ pre, covers z pc = false ∨ False) (hx : covers x pc = true) (h0x : x.catchType ≠ 0) (hlk : Cond.classLink M.1.cls x.catchType name ∈ AW) (hcast : Cond.castable E name ∈ NW)
    (hst2 : decode M.2.1 x.handlerPc = .ok (.astore i, 2) ∨ ∃ k : Fin 4, (k : Nat) = i ∧ decode M.2.1 x.handlerPc = .ok (.astore_n k, 1)) (hpc2 : pc2 = if i < 4 then x.handlerPc + 1 else x.handlerPc + 2) (hi4 : i < 4 → ¬ decode M.2.1 x.handlerPc = .ok (.astore i, 2)) (hi5 : ¬ i < 4 → decode M.2.1 x.handlerPc = .ok (.astore i, 2)) (hiL : i < M.2.2.1) (hok : okAt L i = true)
    (call : RQ G M2 d2 0 (entL (.ref b :: As) M2.2.2.1) [] h (fun o h1 => o = .inr E ∧ Q h1)) (k : ∀ h1, Q h1 → RQ G M d pc2 (L.set i none) [] h1 P) : RQ G M d pc L (As.reverse ++ .ref b :: S) h P := by
  obtain ⟨o, h1, c1, rfl, p1⟩ := call
  obtain ⟨o', h', r1, r2⟩ := k h1 p1
  have m1 := c1.1
  have m2 := r1.1
  refine ⟨o', h', ⟨⟨Nat.le_trans m1.1 m2.1, Nat.le_trans m1.2 m2.2⟩, fun p e Rm s m args below meth c H locs cells slots ls hC hz hc9 hs9 ho hW hS hLl => ?_⟩, r2⟩
  refine W.bound fun hb => ?_
  have hsz : H.size = gB G + h.1 := hW.size hS hz hb hC.2.2.2.2.2.2.2.1.2.2.1
  have hPc : ∀ U : State, U.heap = H → s.WarmedH U.vm → PcR G (.ref b :: As) h ((Value.ref b :: As).map (cv G)).toArray U := fun U hU hWm => ⟨rfl, by rw [hU]; exact hW, by rw [hU]; exact hsz, hC.2.2.2.2.2.2.2.1.to hU hWm hS⟩
  have hM := R.vx hy.1 hh2 hcode hlen (by omega) c1
  have hG := hC.2.2.2.2.2.2.2.1
  have run : vx_Run p (gL G) e Rm s m args below meth c H locs cells slots (h1.1 - h.1) (h1.2.1 - h.2.1) (F0 m pc ls ((As.reverse ++ Value.ref b :: S).map (cv G))) (S.map (cv G)) (QR G (.inr E) h1 ((Value.ref b :: As).map (cv G)).toArray) (XR G (.inr E) h1) (Aq G) :=
    vx_runV (Ts := AW) (own := M.1.cls) (C := C) (b := gad G b) (As := As.map (cv G)) ⟨hC.1, hC.2.1, hC.2.2.1, hC.2.2.2.2.2.1, hC.2.2.2.2.2.2.1⟩ hM
      (cwV n hC.2.2.2.2.2.2.1 (goodV hl hi hs hni hcode) rfl rfl rfl ⟨hyC, hy.2.1, hy.2.2.1, hy.2.2.2⟩ ⟨by have := hC.2.2.2.2.2.2.2.2.2.2.1; show d2 + 1 ≤ Rm.frames; omega, by have := hC.2.2.2.2.2.2.2.2.2.2.2; show 8 + (M2.2.2.1 + 11) + 40 * d2 ≤ Rm.locals; omega⟩)
      ⟨PcR.blind G _ h, va_recv hG.1 hW hc (ha.cw (by omega)), hPc⟩ rfl (by rw [List.length_map]; exact hn) hLl.1
      (by show (As.reverse ++ Value.ref b :: S).map (cv G) = _; rw [List.map_append, List.map_reverse, List.map_cons]; rfl) (room_cv hst) hd ⟨by omega, by omega⟩
  intro T9 hT9 X
  rcases run T9 hT9 X with ⟨v', st₀, t, T', L', h0, X', hL, e1, e2, ⟨⟨v2, hv1, hv2, hW1⟩, hF⟩, st⟩ | ⟨q, st₀, t, T', L', E2, c9, h0, X', hL, e1, e2, ⟨⟨hE, hW1⟩, hF⟩, hce, hcv, hcl, st⟩
  · cases hv1
  · cases hE
    obtain ⟨-, -, hS1⟩ := vx_keep (A1 := Aq G) h0 e1 hS (fun _ _ q => q) (fun _ q => q) hL hF
    have a1 : cells + (h1.1 - h.1) + (h'.1 - h1.1) = cells + (h'.1 - h.1) := by omega
    have a2 : slots + (h1.2.1 - h.2.1) + (h'.2.1 - h1.2.1) = slots + (h'.2.1 - h.2.1) := by omega
    have kk := fun ls2 (hl2 : Rl G M.2.2.1 ls2 (L.set i none)) => r1.2 p e Rm s m args below meth c T'.heap (locs ++ L') (cells + (h1.1 - h.1)) (slots + (h1.2.1 - h.2.1)) ls2 hC (by omega) (by rw [a1]; exact hc9) (by rw [a2]; exact hs9) ho (by rw [e1]; exact hW1) hS1 hl2
    rw [a1, a2] at kk
    have hst9 : W p (gL G) e Rm s m args below meth c T'.heap (locs ++ L') (cells + (h1.1 - h.1)) (slots + (h1.2.1 - h.2.1)) (vx_MQ below (QR G o' h') (XR G o' h') args s (cells + (h'.1 - h.1)) (slots + (h'.2.1 - h.2.1)) (Aq G)) (F0 m x.handlerPc ls [.ref q]) := by
      by_cases hi9 : i < 4
      · rw [if_pos hi9] at hpc2
        subst hpc2
        rcases hst2 with h5 | ⟨k4, hk4, h5⟩
        · exact absurd h5 (hi4 hi9)
        · exact lv_astore_n hC.1 hC.2.1 h5 hk4 hLl.has hiL rfl (fun ls2 h2 => kk ls2 (hLl.storeN hok h2))
      · rw [if_neg hi9] at hpc2
        subst hpc2
        exact lv_astore hC.1 hC.2.1 (hi5 hi9) hLl.has hiL rfl (fun ls2 h2 => kk ls2 (hLl.storeN hok h2))
    obtain ⟨t2, b1, b2⟩ := vx_catch (m := m) (c := c) (e := e) (p := p) (l := gL G) (R := Rm) (s := s) (args := args) (below := below) (meth := meth) (ls := ls) (pc := pc) (rest := S.map (cv G)) (own := M.1.cls) (name := name) (E := E) (ce := c9) (q := q) hC.2.2.2.2.2.1 pre x suf (by rw [hC.2.2.2.2.2.2.2.2.2.1]; exact hsplit)
      (fun z hz => by
        rcases hpass z hz with h5 | h5
        · exact Or.inl h5
        · exact h5.elim) hx h0x (hC.2.2.2.2.2.2.1 _ hlk) (va_Nw.use rfl (hG.2.2.2.1 _ hcast)) (by rw [e1]; exact hce) hcv hcl hst9 T' rfl X'
    exact ⟨t2, st.trans b1, b2⟩
end HND
/-! what a walk asks again and again -/
theorem At.set_eq2 {h : AH} {i : Nat} {c : AC} (hi : i < h.1) : At (hset h i c) i c := ⟨hi, if_pos rfl⟩
theorem At.new_eq2 {h : AH} {i : Nat} (n : Nat) (c : AC) (e : i = h.1) : At (hnew h n c) i c := ⟨by rw [e]; exact Nat.lt_succ_self _, if_pos e⟩
theorem ci_lt {a b : Nat} (ha : a < 2147483648) (hb : b < 2147483648) : (nI a < nI b) = (a < b) := propext (nI_ltI ha hb)
theorem ci_le {a b : Nat} (ha : a < 2147483648) (hb : b < 2147483648) : (nI a ≤ nI b) = (a ≤ b) := propext (nI_leI ha hb)
theorem ci_eq {a b : Nat} (ha : a < 2147483648) (hb : b < 2147483648) : (nI a = nI b) = (a = b) := propext (nI_eq ha hb)
theorem ci_lt0 {a : Nat} (ha : a < 2147483648) : (nI a < 0) = False := eq_false (nI_pos ha)
theorem ci_ge0 {a : Nat} (ha : a < 2147483648) : ((0 : Int32) ≤ nI a) = True := eq_true (nI_pos' ha)
theorem ci_gt0 {a : Nat} (ha : a < 2147483648) : ((0 : Int32) < nI a) = (0 < a) := by rw [← nI_0]; exact ci_lt (by decide) ha
theorem ci_le0 {a : Nat} (ha : a < 2147483648) : (nI a ≤ 0) = (a = 0) := by rw [← nI_0, ci_le ha (by decide)]; exact propext Nat.le_zero
theorem ci_eq0 {a : Nat} (ha : a < 2147483648) : (nI a = 0) = (a = 0) := by rw [← nI_0, ci_eq ha (by decide)]
theorem m1_toInt : (-1 : Int32).toInt = -1 := by decide
theorem ci_m1_lt {a : Nat} (ha : a < 2147483648) : ((-1 : Int32) < nI a) = True := eq_true (by rw [Int32.lt_iff_toInt_lt, m1_toInt, nI_toInt ha]; omega)
theorem ci_m1_le {a : Nat} (ha : a < 2147483648) : ((-1 : Int32) ≤ nI a) = True := eq_true (by rw [Int32.le_iff_toInt_le, m1_toInt, nI_toInt ha]; omega)
theorem ci_lt_m1 {a : Nat} (ha : a < 2147483648) : (nI a < (-1 : Int32)) = False := eq_false (by rw [Int32.lt_iff_toInt_lt, m1_toInt, nI_toInt ha]; omega)
theorem ci_le_m1 {a : Nat} (ha : a < 2147483648) : (nI a ≤ (-1 : Int32)) = False := eq_false (by rw [Int32.le_iff_toInt_le, m1_toInt, nI_toInt ha]; omega)
theorem ci_eq_m1 {a : Nat} (ha : a < 2147483648) : (nI a = (-1 : Int32)) = False := eq_false (fun q => by have e := congrArg Int32.toInt q; rw [m1_toInt, nI_toInt ha] at e; omega)
theorem ci_m1_eq {a : Nat} (ha : a < 2147483648) : ((-1 : Int32) = nI a) = False := eq_false (fun q => by have e := congrArg Int32.toInt q; rw [m1_toInt, nI_toInt ha] at e; omega)
