/-! more rows: fields that a class inherits, rows of arrays of the law's classes, the law's texts as constants, calls of methods that StringBuilder inherits -/
theorem cv_oldm (G : GT) (i : Nat) : cv G (.ref (OLD + i)) = .ref (gO G i) := by show Value.ref _ = _; rw [gad_old]
theorem selP {y z : MethodName} {C : String} {n : Nat} {s : State} {args : Array Value} (hy : y.cls ≠ "java/lang/invoke/MethodHandle" ∧ y.cls ≠ "java/lang/invoke/VarHandle") (hz : z.cls = y.cls) (hins : (Cond.instantiable C n).before args s = true) (hpriv : (Cond.privateMethod y).before args s = true) (hinst : (Cond.instanceMethod y).before args s = true) (h9 : (Cond.selects C z z).before args s = true) : (Cond.selects C y y).before args s = true := by
  obtain ⟨c, k, hc, hk, -, hniab, -, -⟩ := Cond.instantiable_spec hins
  obtain ⟨mk, methM, hnamed, hmethM, -, -⟩ := Cond.instanceMethod_spec hinst
  have hfound : s.methodFound? y.cls y.name y.desc = some mk := State.methodFound?_of_named hnamed hy
  have hsel : selectMethod {} s.vm c mk = .method mk := selectMethod_private hmethM (Cond.privateMethod_at hpriv mk methM hnamed hmethM)
  simp only [Cond.before, Cond.holds, Cond.value, hc] at h9
  have hni : (s.vm.classes[mk.cls]?).any (fun q => !q.isInterface) = true := by
    cases e1 : s.methodFound? z.cls z.name z.desc with
    | none => simp [e1] at h9
    | some r =>
      cases e2 : s.methodNamed? z with
      | none => simp [e1, e2] at h9
      | some m2 =>
        have ec : m2.cls = mk.cls := Option.some.inj ((findClass_of_methodNamed e2).symm.trans (by rw [hz]; exact findClass_of_methodNamed hnamed))
        rw [← ec]
        simp only [e1, e2] at h9
        cases e3 : selectMethod {} s.vm c r <;> simp [e3] at h9
        simpa using h9.2
  simp only [Cond.before, Cond.holds, Cond.value, hc, hfound, hnamed, hsel]
  simpa using hni
/-- a text: a constant or a new one -/
def StO (h : AH) (k : Nat) : Prop := (∃ i, i < 88 ∧ k = OLD + (100 + i)) ∨ ∃ vs, At h k (.inr (16, vs))
section OPSM
variable {G : GT} {M M2 : MI} {d d2 pc : Nat} {L : List (Option Value)} {S : List Value} {h : AH} {P P1 : OC → AH → Prop}
theorem Cx.at8 {p : Program} {Rm : Room} {s : State} {m : MethodId} {args : Array Value} {meth : Method} {c : Code} (hC : Cx G M d p Rm s m args meth c) : Gs G s := hC.2.2.2.2.2.2.2.1
theorem Cx.ox {p : Program} {Rm : Room} {s : State} {m : MethodId} {args : Array Value} {meth : Method} {c : Code} (hC : Cx G M d p Rm s m args meth c) : Ox G s s.heap := hC.at8.2.2.2.2.2.2.2.2.2.2.2.2.2.2.2.2
theorem qq_get {index ci i kf N : Nat} {C O : String} {T : u_T} {vs : List Value} {v : Value} (hd : decode M.2.1 pc = .ok (.getfield index, 3)) (hc : CL[ci]? = some (C, T, N)) (hin : ∀ w ∈ u_ws C T N, w ∈ AW) (hk : kf < N) (hT : (T kf).1 = O) (hlink : Cond.fieldLink M.1.cls index O (T kf).2.1 (T kf).2.2.1 ∈ AW) (ha : At h i (.inr (ci, vs))) (hv : vs[kf]? = some v) (r : RQ G M d (pc + 3) L (v :: S) h P) : RQ G M d pc L (.ref i :: S) h P :=
  RQ.one (fun p e Rm s m args below meth c H locs cells slots ls Q hC hz hcs hss h0 hW hS hl k => va_get (D := gD G) (cl := CL) (ws := cw G h) (tys := TY G) hC.1 hC.2.1 hC.2.2.2.2.2.2.1 hin hC.2.2.2.2.2.1 hC.2.2.2.2.2.2.2.1.1 hW i (ha.cw h0) hc kf hk (hC.2.2.2.2.2.2.1 _ hlink) (fun _ hx => hT ▸ hx) (v := cv G v) (by rw [List.getElem?_map, hv]; rfl) hd (k ls hl)) r
theorem qq_put {index ci i kf N : Nat} {C O : String} {T : u_T} {vs : List Value} {v : Value} {ty0 : Nat → FieldType} {ty : FieldType} (hd : decode M.2.1 pc = .ok (.putfield index, 3)) (hc : CL[ci]? = some (C, T, N)) (hin : ∀ w ∈ u_ws C T N, w ∈ AW) (hty : ∀ k, k < N → parseFieldDescriptor (T k).2.2.1 = some (ty0 k)) (hnm : ∀ a, a < N → ∀ b, b < N → a ≠ b → (T a).2.1 ≠ (T b).2.1) (hk : kf < N) (hT : (T kf).1 = O) (hlink : Cond.fieldLink M.1.cls index O (T kf).2.1 (T kf).2.2.1 ∈ AW) (hfin : (T kf).2.2.2 = false)  (hdd : parseFieldDescriptor (T kf).2.2.1 = some ty) (hn : nfit ty v = true) (hlen : kf < vs.length) (ha : At h i (.inr (ci, vs))) (r : RQ G M d (pc + 3) L S (hset h i (.inr (ci, vs.set kf v))) P) : RQ G M d pc L (v :: .ref i :: S) h P :=
  RQ.put (fun p e Rm s m args below meth c H locs cells slots ls Q hC hz h0 hW hS hl k => va_put (D := gD G) (cl := CL) (ws := cw G h) (tys := TY G) (A := Aq G) hC.1 hC.2.1 hC.2.2.2.2.2.2.1 hin ty0 hty hnm hC.2.2.2.2.2.1 hC.2.2.2.2.2.2.2.1.1 hW (cw_D G h) hS i (ha.cw h0) hc kf hk (hC.2.2.2.2.2.2.1 _ hlink) (fun _ hx => hT ▸ hx) hfin  hdd (nfit_cv G hn).1 (nfit_cv G hn).2 (by rw [List.length_map]; exact hlen) hd
    (fun H1 locs1 h1 _ h3 => k H1 locs1 (hW.set ha h0 (show cE G (.inr (ci, vs.set kf v)) = .inr (ci, (vs.map (cv G)).set kf (cv G v)) by simp [cE, List.map_set]) h1) h3)) r
theorem qq_aald {a n j t : Nat} {x : Int32} {C : String} {f : Nat → Option Nat} (ht : (TY G)[t]? = some (gA G t, .object C)) (hd : decode M.2.1 pc = .ok (.aaload, 1)) (ha : At h a (.inl (t, n, .inr (.inr (.inr (.inr f)))))) (hx : x = nI j) (hj : j < n) (hn : n < 2147483648) (r : RQ G M d (pc + 1) L (va_rf (f j) :: S) h P) : RQ G M d pc L (.int x :: .ref a :: S) h P := by
  subst hx
  refine RQ.one (fun p e Rm s m args below meth c H locs cells slots ls Q hC hz hcs hss h0 hW hS hl k => va_aldq (D := gD G) (cl := CL) (ws := cw G h) (tys := TY G) (C := C) hC.1 hC.2.1 hC.2.2.2.2.2.2.2.1.1 hW a t (ha.cw h0) ht (vp_in_nI hj hn) hd ?_) r
  rw [nI_clamp (Nat.lt_trans hj hn), ← cv_rf]
  exact k ls hl
theorem qq_aast {a n j b t ci : Nat} {x : Int32} {r0 : vw_C} {vs : List Value} {f : Nat → Option Nat} (ht : (TY G)[t]? = some (gA G t, .object r0.1)) (hc : CL[ci]? = some r0) (hd : decode M.2.1 pc = .ok (.aastore, 1)) (ha : At h a (.inl (t, n, .inr (.inr (.inr (.inr f)))))) (hb : At h b (.inr (ci, vs))) (hx : x = nI j) (hj : j < n) (hn : n < 2147483648) (r : RQ G M d (pc + 1) L S (hset h a (.inl (t, n, .inr (.inr (.inr (.inr (va_up f j (some b)))))))) P) : RQ G M d pc L (.ref b :: .int x :: .ref a :: S) h P := by
  subst hx
  refine RQ.put (fun p e Rm s m args below meth c H locs cells slots ls Q hC hz h0 hW hS hl k => va_astq (D := gD G) (cl := CL) (ws := cw G h) (tys := TY G) (A := Aq G) (r := r0) hC.1 hC.2.1 hC.2.2.2.2.2.2.2.1.1 hW (cw_D G h) hS a t b ci (ha.cw h0) ht (hb.cw h0) hc (vp_in_nI hj hn) hd (fun H1 locs1 h1 _ h3 => k H1 locs1 (hW.set ha h0 ?_ h1) h3)) r
  rw [nI_clamp (Nat.lt_trans hj hn)]
  simp only [cE, cA]
  refine congrArg (fun z => (Sum.inl (gA G t, n, Sum.inr (Sum.inr (Sum.inr (Sum.inr z)))) : va_E)) (funext fun q => ?_)
  by_cases hq : q = j
  · subst hq
    simp [va_up]
  · simp [va_up, hq]
/-- one of the law's texts into a row of texts -/
theorem qq_aastT {a n j i : Nat} {x : Int32} {f : Nat → Option Nat} (hi : i < 88) (hd : decode M.2.1 pc = .ok (.aastore, 1)) (ha : At h a (.inl (9, n, .inr (.inr (.inr (.inr f)))))) (hx : x = nI j) (hj : j < n) (hn : n < 2147483648) (r : RQ G M d (pc + 1) L S (hset h a (.inl (9, n, .inr (.inr (.inr (.inr (va_up f j (some (OLD + (100 + i)))))))))) P) : RQ G M d pc L (.ref (OLD + (100 + i)) :: .int x :: .ref a :: S) h P := by
  subst hx
  refine RQ.put (fun p e Rm s m args below meth c H locs cells slots ls Q hC hz h0 hW hS hl k => ?_) r
  show W _ _ _ _ _ _ _ _ _ _ _ _ _ _ _ (F0 m pc ls (cv G (.ref (OLD + (100 + i))) :: .int (nI j) :: .ref (gad G a) :: S.map (cv G)))
  rw [cv_oldm]
  obtain ⟨cell, g1, g2, g3, g4⟩ := ((hC.at8.2.2.2.2.2.2.2.2.2.2.2.2.2.1 i hi).1).kept hS.2.1
  refine vb_astq (D := gD G) (cl := CL) (ws := cw G h) (tys := TY G) (A := Aq G) (C := "java/lang/String") hC.1 hC.2.1 hC.2.2.2.2.2.2.2.1.1 hW (cw_D G h) hS a 9 (ha.cw h0) rfl ⟨cell, g1, g2, g3⟩ (fun comp c0 e1 e2 => vb_asgS comp c0 e1 e2) (vp_in_nI hj hn) hd (fun H1 locs1 h1 _ h3 => k H1 locs1 (hW.set ha h0 ?_ h1) h3)
  rw [nI_clamp (Nat.lt_trans hj hn)]
  simp only [cE, cA]
  refine congrArg (fun z => (Sum.inl (gA G 9, n, Sum.inr (Sum.inr (Sum.inr (Sum.inr z)))) : va_E)) (funext fun q => ?_)
  by_cases hq : q = j
  · subst hq
    simp [va_up, gad_old]
  · simp [va_up, hq]
theorem qq_anew5 {n index : Nat} {x : Int32} (hd : decode M.2.1 pc = .ok (.anewarray index, 3)) (hcl : Cond.classLink M.1.cls index "CupboardPollLaw$Jar" ∈ AW) (hx : x = nI n) (hn : n < 60000000) (r : RQ G M d (pc + 3) L (.ref h.1 :: S) (hnew h n (.inl (5, n, .inr (.inr (.inr (.inr (fun _ => none))))))) P) : RQ G M d pc L (.int x :: S) h P := by
  subst hx
  refine RQ.new (fun p e Rm s m args below meth c H locs cells slots ls Q hC hz hcs hss h0 hW hS hl k => va_newq (D := gD G) (cl := CL) (ws := cw G h) (tys := TY G) (A := Aq G) (C := "CupboardPollLaw$Jar") (N' := n) hC.1 hC.2.1 hC.2.2.2.2.2.1 (hC.2.2.2.2.2.2.1 _ hcl) hC.ox.2.2.2.2.1 hC.2.2.2.2.2.2.2.1.1 hW (cw_D G h) hS (fun q hq => Nat.le_trans hC.2.2.2.2.2.2.2.1.2.2.1 hq) (nI_pos (by omega)) (nI_clamp (by omega)) (by omega) hcs hss hd (fun q c9 H1 hK1 h1 h2 h3 => W.bound fun hb => ?_)) r
  obtain ⟨-, kA, comp, -, -, -, e1⟩ := hK1.2 10 _ rfl
  obtain ⟨-, kB, comp2, -, -, -, e2⟩ := hK1.2 5 _ rfl
  have e3 : gA G 5 = c9 := Option.some.inj (e2.symm.trans e1)
  obtain ⟨rfl, hW1⟩ := new_at (n := n) (c := .inl (5, n, .inr (.inr (.inr (.inr (fun _ => none)))))) hz hb h1 h2 (by simp only [cE, cA, e3]; rfl)
  have k1 := k H1 hW1 h3
  simp only [List.map_cons, cv, gad_new G h0] at k1
  exact k1
theorem qq_anew6 {n index : Nat} {x : Int32} (hd : decode M.2.1 pc = .ok (.anewarray index, 3)) (hcl : Cond.classLink M.1.cls index "CupboardPollLaw$Lid" ∈ AW) (hx : x = nI n) (hn : n < 60000000) (r : RQ G M d (pc + 3) L (.ref h.1 :: S) (hnew h n (.inl (6, n, .inr (.inr (.inr (.inr (fun _ => none))))))) P) : RQ G M d pc L (.int x :: S) h P := by
  subst hx
  refine RQ.new (fun p e Rm s m args below meth c H locs cells slots ls Q hC hz hcs hss h0 hW hS hl k => va_newq (D := gD G) (cl := CL) (ws := cw G h) (tys := TY G) (A := Aq G) (C := "CupboardPollLaw$Lid") (N' := n) hC.1 hC.2.1 hC.2.2.2.2.2.1 (hC.2.2.2.2.2.2.1 _ hcl) hC.ox.2.2.2.2.2.1 hC.2.2.2.2.2.2.2.1.1 hW (cw_D G h) hS (fun q hq => Nat.le_trans hC.2.2.2.2.2.2.2.1.2.2.1 hq) (nI_pos (by omega)) (nI_clamp (by omega)) (by omega) hcs hss hd (fun q c9 H1 hK1 h1 h2 h3 => W.bound fun hb => ?_)) r
  obtain ⟨-, kA, comp, -, -, -, e1⟩ := hK1.2 10 _ rfl
  obtain ⟨-, kB, comp2, -, -, -, e2⟩ := hK1.2 6 _ rfl
  have e3 : gA G 6 = c9 := Option.some.inj (e2.symm.trans e1)
  obtain ⟨rfl, hW1⟩ := new_at (n := n) (c := .inl (6, n, .inr (.inr (.inr (.inr (fun _ => none)))))) hz hb h1 h2 (by simp only [cE, cA, e3]; rfl)
  have k1 := k H1 hW1 h3
  simp only [List.map_cons, cv, gad_new G h0] at k1
  exact k1
theorem qq_anew7 {n index : Nat} {x : Int32} (hd : decode M.2.1 pc = .ok (.anewarray index, 3)) (hcl : Cond.classLink M.1.cls index "CupboardPollLaw$Rule" ∈ AW) (hx : x = nI n) (hn : n < 60000000) (r : RQ G M d (pc + 3) L (.ref h.1 :: S) (hnew h n (.inl (7, n, .inr (.inr (.inr (.inr (fun _ => none))))))) P) : RQ G M d pc L (.int x :: S) h P := by
  subst hx
  refine RQ.new (fun p e Rm s m args below meth c H locs cells slots ls Q hC hz hcs hss h0 hW hS hl k => va_newq (D := gD G) (cl := CL) (ws := cw G h) (tys := TY G) (A := Aq G) (C := "CupboardPollLaw$Rule") (N' := n) hC.1 hC.2.1 hC.2.2.2.2.2.1 (hC.2.2.2.2.2.2.1 _ hcl) hC.ox.2.2.2.2.2.2.1 hC.2.2.2.2.2.2.2.1.1 hW (cw_D G h) hS (fun q hq => Nat.le_trans hC.2.2.2.2.2.2.2.1.2.2.1 hq) (nI_pos (by omega)) (nI_clamp (by omega)) (by omega) hcs hss hd (fun q c9 H1 hK1 h1 h2 h3 => W.bound fun hb => ?_)) r
  obtain ⟨-, kA, comp, -, -, -, e1⟩ := hK1.2 10 _ rfl
  obtain ⟨-, kB, comp2, -, -, -, e2⟩ := hK1.2 7 _ rfl
  have e3 : gA G 7 = c9 := Option.some.inj (e2.symm.trans e1)
  obtain ⟨rfl, hW1⟩ := new_at (n := n) (c := .inl (7, n, .inr (.inr (.inr (.inr (fun _ => none)))))) hz hb h1 h2 (by simp only [cE, cA, e3]; rfl)
  have k1 := k H1 hW1 h3
  simp only [List.map_cons, cv, gad_new G h0] at k1
  exact k1
theorem qq_anew8 {n index : Nat} {x : Int32} (hd : decode M.2.1 pc = .ok (.anewarray index, 3)) (hcl : Cond.classLink M.1.cls index "CupboardPollLaw$Act" ∈ AW) (hx : x = nI n) (hn : n < 60000000) (r : RQ G M d (pc + 3) L (.ref h.1 :: S) (hnew h n (.inl (8, n, .inr (.inr (.inr (.inr (fun _ => none))))))) P) : RQ G M d pc L (.int x :: S) h P := by
  subst hx
  refine RQ.new (fun p e Rm s m args below meth c H locs cells slots ls Q hC hz hcs hss h0 hW hS hl k => va_newq (D := gD G) (cl := CL) (ws := cw G h) (tys := TY G) (A := Aq G) (C := "CupboardPollLaw$Act") (N' := n) hC.1 hC.2.1 hC.2.2.2.2.2.1 (hC.2.2.2.2.2.2.1 _ hcl) hC.ox.2.2.2.2.2.2.2.1 hC.2.2.2.2.2.2.2.1.1 hW (cw_D G h) hS (fun q hq => Nat.le_trans hC.2.2.2.2.2.2.2.1.2.2.1 hq) (nI_pos (by omega)) (nI_clamp (by omega)) (by omega) hcs hss hd (fun q c9 H1 hK1 h1 h2 h3 => W.bound fun hb => ?_)) r
  obtain ⟨-, kA, comp, -, -, -, e1⟩ := hK1.2 10 _ rfl
  obtain ⟨-, kB, comp2, -, -, -, e2⟩ := hK1.2 8 _ rfl
  have e3 : gA G 8 = c9 := Option.some.inj (e2.symm.trans e1)
  obtain ⟨rfl, hW1⟩ := new_at (n := n) (c := .inl (8, n, .inr (.inr (.inr (.inr (fun _ => none)))))) hz hb h1 h2 (by simp only [cE, cA, e3]; rfl)
  have k1 := k H1 hW1 h3
  simp only [List.map_cons, cv, gad_new G h0] at k1
  exact k1
theorem qq_anew9 {n index : Nat} {x : Int32} (hd : decode M.2.1 pc = .ok (.anewarray index, 3)) (hcl : Cond.classLink M.1.cls index "java/lang/String" ∈ AW) (hx : x = nI n) (hn : n < 60000000) (r : RQ G M d (pc + 3) L (.ref h.1 :: S) (hnew h n (.inl (9, n, .inr (.inr (.inr (.inr (fun _ => none))))))) P) : RQ G M d pc L (.int x :: S) h P := by
  subst hx
  refine RQ.new (fun p e Rm s m args below meth c H locs cells slots ls Q hC hz hcs hss h0 hW hS hl k => va_newq (D := gD G) (cl := CL) (ws := cw G h) (tys := TY G) (A := Aq G) (C := "java/lang/String") (N' := n) hC.1 hC.2.1 hC.2.2.2.2.2.1 (hC.2.2.2.2.2.2.1 _ hcl) hC.ox.2.2.2.2.2.2.2.2 hC.2.2.2.2.2.2.2.1.1 hW (cw_D G h) hS (fun q hq => Nat.le_trans hC.2.2.2.2.2.2.2.1.2.2.1 hq) (nI_pos (by omega)) (nI_clamp (by omega)) (by omega) hcs hss hd (fun q c9 H1 hK1 h1 h2 h3 => W.bound fun hb => ?_)) r
  obtain ⟨-, kA, comp, -, -, -, e1⟩ := hK1.2 10 _ rfl
  obtain ⟨-, kB, comp2, -, -, -, e2⟩ := hK1.2 9 _ rfl
  have e3 : gA G 9 = c9 := Option.some.inj (e2.symm.trans e1)
  obtain ⟨rfl, hW1⟩ := new_at (n := n) (c := .inl (9, n, .inr (.inr (.inr (.inr (fun _ => none)))))) hz hb h1 h2 (by simp only [cE, cA, e3]; rfl)
  have k1 := k H1 hW1 h3
  simp only [List.map_cons, cv, gad_new G h0] at k1
  exact k1
/-- a text of the law's as a constant -/
theorem qq_ldcS {index i : Nat} {tx : String} (hi : i < 48) (hd : decode M.2.1 pc = .ok (.ldc index, 2)) (he : SRf[i]? = some (M.1.cls, index, tx)) (r : RQ G M d (pc + 2) L (.ref (OLD + (100 + (40 + i))) :: S) h P) : RQ G M d pc L S h P := by
  refine RQ.one (fun p e Rm s m args below meth c H locs cells slots ls Q hC hz hcs hss h0 hW hS hl k => ?_) r
  have hv := hC.ox.2.2.2.1 i hi
  rw [List.getD_eq_getElem?_getD, he] at hv
  refine va_ldcS hC.1 hC.2.1 hC.2.2.2.2.2.1 (own := M.1.cls) hv hd ?_
  have e : cv G (.ref (OLD + (100 + (40 + i)))) = .ref (gO G (140 + i)) := by rw [cv_oldm, show 100 + (40 + i) = 140 + i by omega]
  have k1 := k ls hl
  rw [List.map_cons, e] at k1
  exact k1
theorem qq_ldc {index : Nat} {v : Int32} (hd : decode M.2.1 pc = .ok (.ldc index, 2)) (hc : Cond.constant M.1.cls index v ∈ AW) (r : RQ G M d (pc + 2) L (.int v :: S) h P) : RQ G M d pc L S h P := RQ.one (fun p e Rm s m args below meth c H locs cells slots ls Q hC hz hcs hss h0 hW hS hl k => lv_ldc hC.1 hC.2.1 hC.2.2.2.2.2.1 (hC.2.2.2.2.2.2.1 _ hc) hd (k ls hl)) r
theorem qq_ixor {x y : Int32} (hd : decode M.2.1 pc = .ok (.ixor, 1)) (r : RQ G M d (pc + 1) L (.int (x ^^^ y) :: S) h P) : RQ G M d pc L (.int y :: .int x :: S) h P := RQ.one (fun p e Rm s m args below meth c H locs cells slots ls Q hC hz hcs hss h0 hW hS hl k => lv_ixor hC.1 hC.2.1 hd (k ls hl)) r
theorem qq_ishl {x y : Int32} (hd : decode M.2.1 pc = .ok (.ishl, 1)) (r : RQ G M d (pc + 1) L (.int (x <<< (y &&& 31)) :: S) h P) : RQ G M d pc L (.int y :: .int x :: S) h P := RQ.one (fun p e Rm s m args below meth c H locs cells slots ls Q hC hz hcs hss h0 hW hS hl k => lv_ishl hC.1 hC.2.1 hd (k ls hl)) r
theorem qq_ineg {x : Int32} (hd : decode M.2.1 pc = .ok (.ineg, 1)) (r : RQ G M d (pc + 1) L (.int (-x) :: S) h P) : RQ G M d pc L (.int x :: S) h P := RQ.one (fun p e Rm s m args below meth c H locs cells slots ls Q hC hz hcs hss h0 hW hS hl k => lv_ineg hC.1 hC.2.1 hd (k ls hl)) r
theorem qq_i2c {x v : Int32} (hd : decode M.2.1 pc = .ok (.i2c, 1)) (hv : (x.toUInt32 % 65536).toInt32 = v) (r : RQ G M d (pc + 1) L (.int v :: S) h P) : RQ G M d pc L (.int x :: S) h P := RQ.one (fun p e Rm s m args below meth c H locs cells slots ls Q hC hz hcs hss h0 hW hS hl k => lv_i2c hC.1 hC.2.1 hd hv (k ls hl)) r
theorem qq_dupx1 {v w : Value} (hd : decode M.2.1 pc = .ok (.dup_x1, 1)) (hv : ok1 (some v) = true) (hw : ok1 (some w) = true) (r : RQ G M d (pc + 1) L (v :: w :: v :: S) h P) : RQ G M d pc L (v :: w :: S) h P := RQ.one (fun p e Rm s m args below meth c H locs cells slots ls Q hC hz hcs hss h0 hW hS hl k => lv_dup_x1 hC.1 hC.2.1 hd ((cv_cat G v).trans (ok1_cat hv)) ((cv_cat G w).trans (ok1_cat hw)) (k ls hl)) r
theorem qq_bcopy {index a0 a1 n0 n1 sp dp n : Nat} {xs xd xn : Int32} {f g : Nat → Int32} (hd : decode M.2.1 pc = .ok (.invokestatic index, 3)) (hl0 : Cond.methodLink M.1.cls index arraycopyName ∈ AW) (hi : Cond.native arraycopyName ∈ AW) (hst0 : Cond.static arraycopyName ∈ AW) (hni : Cond.initialized "java/lang/System" ∈ AW) (hdd : 2 ≤ d) (hst : (S.map fun v => v.category).sum ≤ 8)
    (ha0 : At h a0 (.inl (1, n0, .inl f))) (ha1 : At h a1 (.inl (1, n1, .inl g))) (hxs : xs = nI sp) (hxd : xd = nI dp) (hxn : xn = nI n) (hb0 : sp + n ≤ n0) (hb1 : dp + n ≤ n1) (hn0 : n0 < 2147483648) (hn1 : n1 < 2147483648) (hf : ∀ i, i < n → fits .byte (.int (f (sp + i))) = true)
    (r : RQ G M d (pc + 3) L S (hset h a1 (.inl (1, n1, .inl (va_cpy f g sp dp n)))) P) : RQ G M d pc L (.int xn :: .int xd :: .ref a1 :: .int xs :: .ref a0 :: S) h P := by
  subst hxs
  subst hxd
  subst hxn
  refine RQ.put (fun p e Rm s m args below meth c H locs cells slots ls Q hC hz h0 hW hS hl k => va_copyi (D := gD G) (cl := CL) (ws := cw G h) (tys := TY G) (A := Aq G) (n0 := n0) (n1 := n1) (ty := .byte) hC.1 hC.2.1 (by rw [hC.2.2.1]; exact hl.1.symm) hC.2.2.2.2.2.1 (hC.2.2.2.2.2.2.1 _ hl0) (hC.2.2.2.2.2.2.1 _ hi) (hC.2.2.2.2.2.2.1 _ hst0) (hC.2.2.2.2.2.2.1 _ hni) hC.2.2.2.2.2.2.2.1.1 hW (cw_D G h) hS a0 a1 1 1 (ha0.cw h0) (ha1.cw h0) rfl rfl rfl
    (nI_pos (by omega)) (nI_pos (by omega)) (nI_pos (by omega)) (by rw [nI_clamp (by omega), nI_clamp (by omega)]; exact hb0) (by rw [nI_clamp (by omega), nI_clamp (by omega)]; exact hb1) (fun i hi9 => by rw [nI_clamp (by omega)] at hi9; rw [nI_clamp (by omega)]; exact hf i hi9) (by have := hC.2.2.2.2.2.2.2.2.2.2.1; omega) (by have h9 := hC.2.2.2.2.2.2.2.2.2.2.2; have h8 : nativeFrameWords "java/lang/System" "arraycopy" 5 ≤ 40 := (by decide +kernel); rw [cv_cats]; omega) hd (fun H1 locs1 h1 _ h3 => k H1 locs1 (hW.set ha1 h0 ?_ h1) h3)) r
  rw [nI_clamp (by omega), nI_clamp (by omega), nI_clamp (by omega)]
  rfl
/-- the bytes of a constant text are copied -/
theorem qq_tcopy {index a1 i n1 dp n : Nat} {xd xn : Int32} {g : Nat → Int32} (hi8 : i < 88) (hd : decode M.2.1 pc = .ok (.invokestatic index, 3)) (hl0 : Cond.methodLink M.1.cls index arraycopyName ∈ AW) (hi : Cond.native arraycopyName ∈ AW) (hst0 : Cond.static arraycopyName ∈ AW) (hni : Cond.initialized "java/lang/System" ∈ AW) (hdd : 2 ≤ d) (hst : (S.map fun v => v.category).sum ≤ 8)
    (ha1 : At h a1 (.inl (1, n1, .inl g))) (hxd : xd = nI dp) (hxn : xn = nI n) (hb0 : n ≤ (SBy.getD i []).length) (hn0 : (SBy.getD i []).length < 2147483648) (hb1 : dp + n ≤ n1) (hn1 : n1 < 2147483648) (hf : ∀ j, j < n → fits .byte (.int ((SBy.getD i []).getD j 0)) = true)
    (r : RQ G M d (pc + 3) L S (hset h a1 (.inl (1, n1, .inl (va_cpy (fun j => (SBy.getD i []).getD j 0) g 0 dp n)))) P) : RQ G M d pc L (.int xn :: .int xd :: .ref a1 :: .int (nI 0) :: .ref (OLD + (200 + i)) :: S) h P := by
  subst hxd
  subst hxn
  refine RQ.put (fun p e Rm s m args below meth c H locs cells slots ls Q hC hz h0 hW hS hl k => ?_) r
  show W _ _ _ _ _ _ _ _ _ _ _ _ _ _ _ (F0 m pc ls (.int (nI n) :: .int (nI dp) :: .ref (gad G a1) :: .int (nI 0) :: cv G (.ref (OLD + (200 + i))) :: S.map (cv G)))
  rw [cv_oldm]
  refine vk_copyt (D := gD G) (cl := CL) (ws := cw G h) (tys := TY G) (A := Aq G) (n1 := n1) hC.1 hC.2.1 (by rw [hC.2.2.1]; exact hl.1.symm) hC.2.2.2.2.2.1 (hC.2.2.2.2.2.2.1 _ hl0) (hC.2.2.2.2.2.2.1 _ hi) (hC.2.2.2.2.2.2.1 _ hst0) (hC.2.2.2.2.2.2.1 _ hni) hC.2.2.2.2.2.2.2.1.1 hW (cw_D G h) hS (f := fun j => (SBy.getD i []).getD j 0) ((hC.at8.2.2.2.2.2.2.2.2.2.2.2.2.2.1 i hi8).2.2.2) a1 1 (ha1.cw h0) rfl
    (by decide) (nI_pos (by omega)) (nI_pos (by omega)) (by rw [nI_clamp (n := n) (by omega)]; show 0 + n ≤ _; omega) (by rw [nI_clamp (by omega), nI_clamp (by omega)]; exact hb1) (fun j hj => by rw [nI_clamp (by omega)] at hj; show fits .byte (.int ((SBy.getD i []).getD (0 + j) 0)) = true; rw [Nat.zero_add]; exact hf j hj) (by have := hC.2.2.2.2.2.2.2.2.2.2.1; omega) (by have h9 := hC.2.2.2.2.2.2.2.2.2.2.2; have h8 : nativeFrameWords "java/lang/System" "arraycopy" 5 ≤ 40 := (by decide +kernel); rw [cv_cats]; omega) hd (fun H1 locs1 h1 _ h3 => k H1 locs1 (hW.set ha1 h0 ?_ h1) h3)
  rw [nI_clamp (n := 0) (by decide), nI_clamp (n := dp) (by omega), nI_clamp (n := n) (by omega)]
  rfl
theorem goodU2 {C owner own : String} {idx : Nat} {x : MethodName} {E : List Cond} (hE : ∀ w ∈ E, goodWord w = true) (h1 : Cond.methodLink own idx x ∈ AW) (h2 : Cond.sameMethod x.cls owner x.name x.desc ∈ AW) (h3 : Cond.selects C x M2.1 ∈ E ++ AW) (h4 : Cond.instanceMethod M2.1 ∈ AW) (h5 : Cond.initialized M2.1.cls ∈ AW) (hc : codeW M2 ∈ AW) : GoodIn (E ++ AW) (va_wsU own idx C owner x M2.1 (codeW M2 :: AW)) := by
  have up : ∀ w ∈ AW, w ∈ E ++ AW ∧ ((w.onTables && w.keeps) = true ∨ ∃ ty, w = .arrayClass ty) := fun w hw => ⟨List.mem_append_right _ hw, (AW_goodIn _ hw).2⟩
  intro w hw
  simp only [va_wsU, List.cons_append, List.nil_append, List.mem_cons] at hw
  rcases hw with rfl | rfl | rfl | rfl | rfl | rfl | hw
  · exact up _ h1
  · exact up _ h2
  · exact ⟨h3, Or.inl rfl⟩
  · exact up _ h4
  · exact up _ h5
  · exact up _ hc
  · exact up _ hw
/-- a call of a method that the object's class inherits -/
theorem qq_callU {index b ci n N : Nat} {C owner : String} {x : MethodName} {T : u_T} {As vs : List Value} {E : List Cond} (hd : decode M.2.1 pc = .ok (.invokevirtual index, 3)) (hy : plainName M2.1.cls = true) (hyx : M2.1 = ⟨owner, x.name, x.desc⟩) (hyo : owner ≠ "java/lang/invoke/MethodHandle" ∧ owner ≠ "java/lang/invoke/VarHandle" ∧ (parseMethodDescriptor x.desc).map (fun d => d.parameters.length) = some n) (hh : M2.2.2.2.2 = [])
    (hE : ∀ w ∈ E, goodWord w = true) (hEb : ∀ (s : State) (args : Array Value), (∀ w ∈ AW, w.before args s = true) → (∀ w ∈ NW, va_Nw w s) → ∀ w ∈ E, w.before args s = true)
    (hl : Cond.methodLink M.1.cls index x ∈ AW) (hsm : Cond.sameMethod x.cls owner x.name x.desc ∈ AW) (hi : Cond.instanceMethod M2.1 ∈ AW) (hs : Cond.selects C x M2.1 ∈ E ++ AW) (hni : Cond.initialized M2.1.cls ∈ AW) (hcode : codeW M2 ∈ AW) (hc : CL[ci]? = some (C, T, N)) (hdd : d2 + 1 ≤ d) (hml : M2.2.2.1 ≤ 20)
    (hlen : (entS (.ref b :: As)).length ≤ M2.2.2.1) (hn : As.length = n) (ha : At h b (.inr (ci, vs))) (hst : (S.map fun v => v.category).sum ≤ 8)
    (call : RQ G M2 d2 0 (entL (.ref b :: As) M2.2.2.1) [] h P1) (k : ∀ o h1, P1 o h1 → ∃ v, o = .inl v ∧ RQ G M d (pc + 3) L (v.toList ++ S) h1 P) : RQ G M d pc L (As.reverse ++ .ref b :: S) h P := by
  refine RQ.call hy hh hcode hlen call (fun v h1 p e Rm s m args below meth c H locs cells slots ls hC hLl hW h0 hPc hcs hss hM => ?_) k
  have hts : ∀ w ∈ E ++ AW, w.before args s = true := fun w hw => by
    rcases List.mem_append.mp hw with hw | hw
    · exact hEb s args hC.2.2.2.2.2.2.1 hC.2.2.2.2.2.2.2.1.2.2.2.1 w hw
    · exact hC.2.2.2.2.2.2.1 w hw
  exact va_runU (Ts := E ++ AW) (own := M.1.cls) (C := C) (owner := owner) (x := x) (b := gad G b) (As := As.map (cv G)) ⟨hC.1, hC.2.1, hC.2.2.1, hC.2.2.2.2.2.1, hts⟩ hM
    (va_cwU n hts (goodU2 hE hl hsm hs hi hni hcode) rfl rfl rfl hyx hyo ⟨by have := hC.2.2.2.2.2.2.2.2.2.2.1; show d2 + 1 ≤ Rm.frames; omega, by have := hC.2.2.2.2.2.2.2.2.2.2.2; show 8 + (M2.2.2.1 + 11) + 40 * d2 ≤ Rm.locals; omega⟩)
    ⟨PcR.blind G _ h, va_recv hC.2.2.2.2.2.2.2.1.1 hW hc (ha.cw h0), hPc⟩ rfl (by rw [List.length_map]; exact hn) hLl.1
    (by show (As.reverse ++ Value.ref b :: S).map (cv G) = _; rw [List.map_append, List.map_reverse, List.map_cons]; rfl) (room_cv hst) hd ⟨hcs, hss⟩
/-- a call of a superclass's method -/
theorem qq_callSU {index b ci n N : Nat} {C : String} {T : u_T} {As vs : List Value} (hd : decode M.2.1 pc = .ok (.invokespecial index, 3)) (hy : plainName M2.1.cls = true) (hyo : M2.1.name ≠ "<init>" ∧ (parseMethodDescriptor M2.1.desc).map (fun d => d.parameters.length) = some n) (hh : M2.2.2.2.2 = [])
    (hl : Cond.methodLink M.1.cls index M2.1 ∈ AW) (hsm : Cond.sameMethod M2.1.cls M2.1.cls M2.1.name M2.1.desc ∈ AW) (hsu : Cond.superclass M.1.cls M2.1.cls ∈ AW) (hi : Cond.instanceMethod M2.1 ∈ AW) (hni : Cond.initialized M2.1.cls ∈ AW) (hcode : codeW M2 ∈ AW) (hc : CL[ci]? = some (C, T, N)) (hdd : d2 + 1 ≤ d) (hml : M2.2.2.1 ≤ 20)
    (hlen : (entS (.ref b :: As)).length ≤ M2.2.2.1) (hn : As.length = n) (ha : At h b (.inr (ci, vs))) (hst : (S.map fun v => v.category).sum ≤ 8)
    (call : RQ G M2 d2 0 (entL (.ref b :: As) M2.2.2.1) [] h P1) (k : ∀ o h1, P1 o h1 → ∃ v, o = .inl v ∧ RQ G M d (pc + 3) L (v.toList ++ S) h1 P) : RQ G M d pc L (As.reverse ++ .ref b :: S) h P := by
  refine RQ.call hy hh hcode hlen call (fun v h1 p e Rm s m args below meth c H locs cells slots ls hC hLl hW h0 hPc hcs hss hM => ?_) k
  obtain ⟨cell, g1, g2, g3⟩ := va_recv hC.2.2.2.2.2.2.2.1.1 hW hc (ha.cw h0)
  have hat := (hC.2.2.2.2.2.2.2.1.1.1 ci _ hc).2
  have goodS' : GoodIn AW (va_wsSU M.1.cls index M2.1 (codeW M2 :: AW)) := by
    intro w hw
    simp only [va_wsSU, List.cons_append, List.nil_append, List.mem_cons] at hw
    rcases hw with rfl | rfl | rfl | rfl | rfl | rfl | hw
    · exact AW_goodIn _ hl
    · exact AW_goodIn _ hsm
    · exact AW_goodIn _ hsu
    · exact AW_goodIn _ hi
    · exact AW_goodIn _ hni
    · exact AW_goodIn _ hcode
    · exact AW_goodIn _ hw
  exact va_runSU (Ts := AW) (own := M.1.cls) (C := C) (b := gad G b) (As := As.map (cv G)) hat ⟨hC.1, hC.2.1, hC.2.2.1, hC.2.2.2.2.2.1, hC.2.2.2.2.2.2.1⟩ hM
    (va_cwSU n hC.2.2.2.2.2.2.1 goodS' rfl rfl rfl hyo ⟨by have := hC.2.2.2.2.2.2.2.2.2.2.1; show d2 + 1 ≤ Rm.frames; omega, by have := hC.2.2.2.2.2.2.2.2.2.2.2; show 8 + (M2.2.2.1 + 11) + 40 * d2 ≤ Rm.locals; omega⟩)
    ⟨PcR.blind G _ h, ⟨cell, g1, g2, g3⟩, hPc⟩ rfl (by rw [List.length_map]; exact hn) hLl.1
    (by show (As.reverse ++ Value.ref b :: S).map (cv G) = _; rw [List.map_append, List.map_reverse, List.map_cons]; rfl) (room_cv hst) hd ⟨hcs, hss⟩
theorem qq_gWORDSN {index : Nat} (hd : decode M.2.1 pc = .ok (.getstatic index, 3)) (hlink : Cond.fieldLinkNest M.1.cls index "CupboardPollLaw" "WORDS" "[Ljava/lang/String;" "CupboardPollLaw" ∈ NW) (r : RQ G M d (pc + 3) L (.ref (OLD + 902) :: S) h P) : RQ G M d pc L S h P := by
  refine RQ.one (fun p e Rm s m args below meth c H locs cells slots ls Q hC hz hcs hss h0 hW hS hl k => ?_) r
  refine va_getsN (C := "CupboardPollLaw") (n := "WORDS") (d := "[Ljava/lang/String;") (v := .ref (gO G 902)) hC.1 hC.2.1 hC.at8.2.2.2.2.2.2.2.2.2.2.2.1.1 hS hC.2.2.2.2.2.1 (va_Nw.use rfl (hC.2.2.2.2.2.2.2.1.2.2.2.1 _ hlink)) (fun _ hx => hx) hd ?_
  rw [← cv_oldm]
  exact k ls hl
theorem qq_gSIGNSN {index : Nat} (hd : decode M.2.1 pc = .ok (.getstatic index, 3)) (hlink : Cond.fieldLinkNest M.1.cls index "CupboardPollLaw" "SIGNS" "[Ljava/lang/String;" "CupboardPollLaw" ∈ NW) (r : RQ G M d (pc + 3) L (.ref (OLD + 905) :: S) h P) : RQ G M d pc L S h P := by
  refine RQ.one (fun p e Rm s m args below meth c H locs cells slots ls Q hC hz hcs hss h0 hW hS hl k => ?_) r
  refine va_getsN (C := "CupboardPollLaw") (n := "SIGNS") (d := "[Ljava/lang/String;") (v := .ref (gO G 905)) hC.1 hC.2.1 hC.ox.1.1 hS hC.2.2.2.2.2.1 (va_Nw.use rfl (hC.2.2.2.2.2.2.2.1.2.2.2.1 _ hlink)) (fun _ hx => hx) hd ?_
  rw [← cv_oldm]
  exact k ls hl
theorem qq_gDigitTens {index : Nat} (hd : decode M.2.1 pc = .ok (.getstatic index, 3)) (hlink : Cond.fieldLink M.1.cls index "java/lang/Integer" "DigitTens" "[B" ∈ AW) (r : RQ G M d (pc + 3) L (.ref (OLD + 906) :: S) h P) : RQ G M d pc L S h P := by
  refine RQ.one (fun p e Rm s m args below meth c H locs cells slots ls Q hC hz hcs hss h0 hW hS hl k => ?_) r
  refine va_gets (C := "java/lang/Integer") (n := "DigitTens") (d := "[B") (v := .ref (gO G 906)) hC.1 hC.2.1 hC.ox.2.1.1 hS hC.2.2.2.2.2.1 (hC.2.2.2.2.2.2.1 _ hlink) (fun _ hx => hx) hd ?_
  rw [← cv_oldm]
  exact k ls hl
theorem qq_gDigitOnes {index : Nat} (hd : decode M.2.1 pc = .ok (.getstatic index, 3)) (hlink : Cond.fieldLink M.1.cls index "java/lang/Integer" "DigitOnes" "[B" ∈ AW) (r : RQ G M d (pc + 3) L (.ref (OLD + 907) :: S) h P) : RQ G M d pc L S h P := by
  refine RQ.one (fun p e Rm s m args below meth c H locs cells slots ls Q hC hz hcs hss h0 hW hS hl k => ?_) r
  refine va_gets (C := "java/lang/Integer") (n := "DigitOnes") (d := "[B") (v := .ref (gO G 907)) hC.1 hC.2.1 hC.ox.2.2.1.1 hS hC.2.2.2.2.2.1 (hC.2.2.2.2.2.2.1 _ hlink) (fun _ hx => hx) hd ?_
  rw [← cv_oldm]
  exact k ls hl
theorem qq_aWO {j : Nat} {x : Int32} (hd : decode M.2.1 pc = .ok (.aaload, 1)) (hx : x = nI j) (hj : j < 3) (r : RQ G M d (pc + 1) L (.ref (OLD + (100 + WRn j)) :: S) h P) : RQ G M d pc L (.int x :: .ref (OLD + 902) :: S) h P := by
  subst hx
  refine RQ.one (fun p e Rm s m args below meth c H locs cells slots ls Q hC hz hcs hss h0 hW hS hl k => ?_) r
  show W _ _ _ _ _ _ _ _ _ _ _ _ _ _ _ (F0 m pc ls (.int (nI j) :: cv G (.ref (OLD + 902)) :: S.map (cv G)))
  rw [cv_oldm]
  refine vb_tq (v := .ref (gO G (100 + WRn j))) hC.1 hC.2.1 hC.at8.2.2.2.2.2.2.2.2.2.2.2.1.2 hS (vp_in_nI hj ?_) ?_ hd ?_
  · decide
  · rw [nI_clamp (show j < 2 ^ 31 by omega)]
  rw [← cv_oldm]
  exact k ls hl
theorem qq_aSI {j : Nat} {x : Int32} (hd : decode M.2.1 pc = .ok (.aaload, 1)) (hx : x = nI j) (hj : j < 6) (r : RQ G M d (pc + 1) L (.ref (OLD + (100 + SGn j)) :: S) h P) : RQ G M d pc L (.int x :: .ref (OLD + 905) :: S) h P := by
  subst hx
  refine RQ.one (fun p e Rm s m args below meth c H locs cells slots ls Q hC hz hcs hss h0 hW hS hl k => ?_) r
  show W _ _ _ _ _ _ _ _ _ _ _ _ _ _ _ (F0 m pc ls (.int (nI j) :: cv G (.ref (OLD + 905)) :: S.map (cv G)))
  rw [cv_oldm]
  refine vb_tq (v := .ref (gO G (100 + SGn j))) hC.1 hC.2.1 hC.ox.1.2 hS (vp_in_nI hj ?_) ?_ hd ?_
  · decide
  · rw [nI_clamp (show j < 2 ^ 31 by omega)]
  rw [← cv_oldm]
  exact k ls hl
theorem qq_aDT {j : Nat} {x : Int32} (hd : decode M.2.1 pc = .ok (.baload, 1)) (hx : x = nI j) (hj : j < 100) (r : RQ G M d (pc + 1) L (.int (nI (48 + j / 10)) :: S) h P) : RQ G M d pc L (.int x :: .ref (OLD + 906) :: S) h P := by
  subst hx
  refine RQ.one (fun p e Rm s m args below meth c H locs cells slots ls Q hC hz hcs hss h0 hW hS hl k => ?_) r
  show W _ _ _ _ _ _ _ _ _ _ _ _ _ _ _ (F0 m pc ls (.int (nI j) :: cv G (.ref (OLD + 906)) :: S.map (cv G)))
  rw [cv_oldm]
  refine va_tb (v := .int (nI (48 + j / 10))) hC.1 hC.2.1 hC.ox.2.1.2 hS (vp_in_nI hj ?_) ?_ hd ?_
  · decide
  · rw [nI_clamp (show j < 2 ^ 31 by omega)]
  exact k ls hl
theorem qq_aDO {j : Nat} {x : Int32} (hd : decode M.2.1 pc = .ok (.baload, 1)) (hx : x = nI j) (hj : j < 100) (r : RQ G M d (pc + 1) L (.int (nI (48 + j % 10)) :: S) h P) : RQ G M d pc L (.int x :: .ref (OLD + 907) :: S) h P := by
  subst hx
  refine RQ.one (fun p e Rm s m args below meth c H locs cells slots ls Q hC hz hcs hss h0 hW hS hl k => ?_) r
  show W _ _ _ _ _ _ _ _ _ _ _ _ _ _ _ (F0 m pc ls (.int (nI j) :: cv G (.ref (OLD + 907)) :: S.map (cv G)))
  rw [cv_oldm]
  refine va_tb (v := .int (nI (48 + j % 10))) hC.1 hC.2.1 hC.ox.2.2.1.2 hS (vp_in_nI hj ?_) ?_ hd ?_
  · decide
  · rw [nI_clamp (show j < 2 ^ 31 by omega)]
  exact k ls hl
theorem qq_areturnA {r0 : Option Nat} {t : FieldType} (hd : decode M.2.1 pc = .ok (.areturn, 1)) (hr : M.2.2.2.1 = some (.array t)) (hP : P (.inl (some (va_rf r0))) h) : RQ G M d pc L [va_rf r0] h P :=
  RQ.fin (v := some (va_rf r0)) (fun p e Rm s m args below meth c H locs cells slots ls hC hf hq => W.aret hC.1 hC.2.1 (hC.2.2.2.1.trans hr) (Or.inr ⟨t, rfl⟩) (by rw [cv_rf]; exact va_rf_or _) hq hf hd hC.2.2.2.2.1) hP
theorem tfit : ∀ i, i < 88 → ∀ j, j < tln i → fits .byte (.int ((SBy.getD i []).getD j 0)) = true := by decide +kernel
theorem qq_tcopy2 {index a1 i n1 dp n : Nat} {xd xn : Int32} {g : Nat → Int32} (hi8 : i < 88) (hd : decode M.2.1 pc = .ok (.invokestatic index, 3)) (hl0 : Cond.methodLink M.1.cls index arraycopyName ∈ AW) (hi : Cond.native arraycopyName ∈ AW) (hst0 : Cond.static arraycopyName ∈ AW) (hni : Cond.initialized "java/lang/System" ∈ AW) (hdd : 2 ≤ d) (hst : (S.map fun v => v.category).sum ≤ 8)
    (ha1 : At h a1 (.inl (1, n1, .inl g))) (hxd : xd = nI dp) (hxn : xn = nI n) (hb0 : n ≤ tln i) (hb1 : dp + n ≤ n1) (hn1 : n1 < 2147483648)
    (r : RQ G M d (pc + 3) L S (hset h a1 (.inl (1, n1, .inl (va_cpy (fun j => (SBy.getD i []).getD j 0) g 0 dp n)))) P) : RQ G M d pc L (.int xn :: .int xd :: .ref a1 :: .int (nI 0) :: .ref (OLD + (200 + i)) :: S) h P :=
  qq_tcopy hi8 hd hl0 hi hst0 hni hdd hst ha1 hxd hxn hb0 (tln_lt i hi8) hb1 hn1 (fun j hj => tfit i hi8 j (Nat.lt_of_lt_of_le hj hb0)) r
theorem qq_callSN {index n : Nat} {host : String} {As : List Value} (hd : decode M.2.1 pc = .ok (.invokestatic index, 3)) (hy : plainName M2.1.cls = true ∧ M2.1.cls ≠ "java/lang/invoke/MethodHandle" ∧ M2.1.cls ≠ "java/lang/invoke/VarHandle" ∧ (parseMethodDescriptor M2.1.desc).map (fun d => d.parameters.length) = some n) (hh : M2.2.2.2.2 = [])
    (hl : Cond.methodLinkNest M.1.cls index M2.1 host ∈ NW) (hi : Cond.static M2.1 ∈ AW) (hni : Cond.initialized M2.1.cls ∈ AW) (hcode : codeW M2 ∈ AW) (hdd : d2 + 1 ≤ d) (hml : M2.2.2.1 ≤ 20)
    (hlen : (entS As).length ≤ M2.2.2.1) (hn : As.length = n) (hst : (S.map fun v => v.category).sum ≤ 8)
    (call : RQ G M2 d2 0 (entL As M2.2.2.1) [] h P1) (k : ∀ o h1, P1 o h1 → ∃ v, o = .inl v ∧ RQ G M d (pc + 3) L (v.toList ++ S) h1 P) : RQ G M d pc L (As.reverse ++ S) h P := by
  refine RQ.call hy.1 hh hcode hlen call (fun v h1 p e Rm s m args below meth c H locs cells slots ls hC hLl hW h0 hPc hcs hss hM => ?_) k
  exact va_runSN (Ts := AW) (own := M.1.cls) (As := As.map (cv G)) ⟨hC.1, hC.2.1, hC.2.2.1, hC.2.2.2.2.2.1, hC.2.2.2.2.2.2.1⟩ hM
    ⟨va_cnB n hC.2.2.2.2.2.2.1 (AW_cons hcode) rfl rfl rfl (hC.2.2.2.2.2.2.2.1.2.2.2.1 _ hl) (hC.2.2.2.2.2.2.1 _ hni) hy.2 ⟨by have := hC.2.2.2.2.2.2.2.2.2.2.1; show d2 + 1 ≤ Rm.frames; omega, by have := hC.2.2.2.2.2.2.2.2.2.2.2; show 8 + (M2.2.2.1 + 11) + 40 * d2 ≤ Rm.locals; omega⟩, hC.2.2.2.2.2.2.1 _ hi, trivial⟩
    ⟨PcR.blind G _ h, hPc⟩ rfl (by rw [List.length_map]; exact hn) hLl.1
    (by show (As.reverse ++ S).map (cv G) = _; rw [List.map_append, List.map_reverse]) (room_cv hst) hd ⟨hcs, hss⟩
/-- a call of a method that the object's class has in another's place -/
theorem qq_callO {index b ci n N : Nat} {C owner : String} {M0 : MI} {x : MethodName} {T : u_T} {As vs : List Value} (hd : decode M.2.1 pc = .ok (.invokevirtual index, 3)) (hy : plainName M2.1.cls = true) (hyx : M0.1 = ⟨owner, x.name, x.desc⟩) (hyo : owner ≠ "java/lang/invoke/MethodHandle" ∧ owner ≠ "java/lang/invoke/VarHandle" ∧ (parseMethodDescriptor x.desc).map (fun d => d.parameters.length) = some n) (hh : M2.2.2.2.2 = [])
    (hl : Cond.methodLink M.1.cls index x ∈ AW) (hsm : Cond.sameMethod x.cls owner x.name x.desc ∈ AW) (hi0 : Cond.instanceMethod M0.1 ∈ AW) (hs : Cond.selects C x M2.1 ∈ AW) (hi : Cond.instanceMethod M2.1 ∈ AW) (hni : Cond.initialized M2.1.cls ∈ AW) (hcode : codeW M2 ∈ AW) (hcode0 : codeW M0 ∈ AW) (hc : CL[ci]? = some (C, T, N)) (hdd : d2 + 1 ≤ d) (hml : M2.2.2.1 ≤ 20)
    (hlen : (entS (.ref b :: As)).length ≤ M2.2.2.1) (hn : As.length = n) (ha : At h b (.inr (ci, vs))) (hst : (S.map fun v => v.category).sum ≤ 8)
    (call : RQ G M2 d2 0 (entL (.ref b :: As) M2.2.2.1) [] h P1) (k : ∀ o h1, P1 o h1 → ∃ v, o = .inl v ∧ RQ G M d (pc + 3) L (v.toList ++ S) h1 P) : RQ G M d pc L (As.reverse ++ .ref b :: S) h P := by
  refine RQ.call hy hh hcode hlen call (fun v h1 p e Rm s m args below meth c H locs cells slots ls hC hLl hW h0 hPc hcs hss hM => ?_) k
  have hgood : GoodIn AW (va_wsO M.1.cls index C owner x M2.1 (codeW M2 :: AW)) := by
    intro w hw
    simp only [va_wsO, List.cons_append, List.nil_append, List.mem_cons] at hw
    rcases hw with rfl | rfl | rfl | rfl | rfl | rfl | rfl | hw
    · exact AW_goodIn _ hl
    · exact AW_goodIn _ hsm
    · exact AW_goodIn _ (hyx ▸ hi0)
    · exact AW_goodIn _ hs
    · exact AW_goodIn _ hi
    · exact AW_goodIn _ hni
    · exact AW_goodIn _ hcode
    · exact AW_goodIn _ hw
  have hcode0' : Cond.code ⟨owner, x.name, x.desc⟩ M0.2.1 M0.2.2.1 M0.2.2.2.1 ∈ AW := by rw [← hyx]; exact hcode0
  exact va_runU (Ts := AW) (own := M.1.cls) (C := C) (owner := owner) (x := x) (b := gad G b) (As := As.map (cv G)) ⟨hC.1, hC.2.1, hC.2.2.1, hC.2.2.2.2.2.1, hC.2.2.2.2.2.2.1⟩ hM
    (va_cwO n hC.2.2.2.2.2.2.1 hgood rfl rfl rfl hcode0' hyo ⟨by have := hC.2.2.2.2.2.2.2.2.2.2.1; show d2 + 1 ≤ Rm.frames; omega, by have := hC.2.2.2.2.2.2.2.2.2.2.2; show 8 + (M2.2.2.1 + 11) + 40 * d2 ≤ Rm.locals; omega⟩)
    ⟨PcR.blind G _ h, va_recv hC.2.2.2.2.2.2.2.1.1 hW hc (ha.cw h0), hPc⟩ rfl (by rw [List.length_map]; exact hn) hLl.1
    (by show (As.reverse ++ Value.ref b :: S).map (cv G) = _; rw [List.map_append, List.map_reverse, List.map_cons]; rfl) (room_cv hst) hd ⟨hcs, hss⟩
theorem gA1_name {p : Program} {Rm : Room} {s : State} {m : MethodId} {args : Array Value} {meth : Method} {c : Code} (hC : Cx G M d p Rm s m args meth c) : s.vm.findClass "[B" = some (gA G 1) := (hC.at8.1.2 1 _ rfl).2
theorem qq_castB {index a n : Nat} {f : Nat → Int32} (hd : decode M.2.1 pc = .ok (.checkcast index, 3)) (hl : Cond.classLink M.1.cls index "[B" ∈ AW) (ha : At h a (.inl (1, n, .inl f))) (r : RQ G M d (pc + 3) L (.ref a :: S) h P) : RQ G M d pc L (.ref a :: S) h P :=
  RQ.one (fun p e Rm s m args below meth c H locs cells slots ls Q hC hz hcs hss h0 hW hS hl9 k => va_castA (D := gD G) (cl := CL) (ws := cw G h) hC.1 hC.2.1 hC.2.2.2.2.2.1 (hC.2.2.2.2.2.2.1 _ hl) hW a (ha.cw h0) (gA1_name hC) hd (k ls hl9)) r
theorem qq_cloneB {index a n : Nat} {f : Nat → Int32} (hd : decode M.2.1 pc = .ok (.invokevirtual index, 3)) (hl : Cond.methodLink M.1.cls index (⟨"[B", "clone", "()Ljava/lang/Object;"⟩ : MethodName) ∈ AW) (hsm : Cond.sameMethod "[B" "java/lang/Object" "clone" "()Ljava/lang/Object;" ∈ AW) (hnat : Cond.native (⟨"java/lang/Object", "clone", "()Ljava/lang/Object;"⟩ : MethodName) ∈ AW) (hinst : Cond.instanceMethod (⟨"java/lang/Object", "clone", "()Ljava/lang/Object;"⟩ : MethodName) ∈ AW) (hsel : Cond.selects "[B" (⟨"[B", "clone", "()Ljava/lang/Object;"⟩ : MethodName) (⟨"java/lang/Object", "clone", "()Ljava/lang/Object;"⟩ : MethodName) ∈ AW) (hcl : Cond.castable "[B" "java/lang/Cloneable" ∈ NW)
    (ha : At h a (.inl (1, n, .inl f))) (hfit : ∀ j, fits .byte (.int (f j)) = true) (hdd : 2 ≤ d) (hst : (S.map fun v => v.category).sum ≤ 8) (r : RQ G M d (pc + 3) L (.ref h.1 :: S) (hnew h n (.inl (1, n, .inl f))) P) : RQ G M d pc L (.ref a :: S) h P := by
  refine RQ.new (fun p e Rm s m args below meth c H locs cells slots ls Q hC hz hcs hss h0 hW hS hl9 k => va_clone (D := gD G) (cl := CL) (ws := cw G h) (tys := TY G) (A := Aq G) (ty := .byte) (x := (n, .inl f)) hC.1 hC.2.1 (by rw [hC.2.2.1]; exact hl9.1.symm) hC.2.2.2.2.2.1 (hC.2.2.2.2.2.2.1 _ hl) (hC.2.2.2.2.2.2.1 _ hsm) (hC.2.2.2.2.2.2.1 _ hnat) (hC.2.2.2.2.2.2.1 _ hinst) (hC.2.2.2.2.2.2.1 _ hsel) (hC.2.2.2.2.2.2.2.1.2.2.2.1 _ hcl) hC.2.2.2.2.2.2.2.1.1 hW (cw_D G h) hS (fun q hq => Nat.le_trans hC.2.2.2.2.2.2.2.1.2.2.1 hq) a 1 (ha.cw h0) rfl (gA1_name hC)
    (fun i v hv => by obtain ⟨hi, e9⟩ := Array.getElem?_eq_some_iff.mp hv; rw [← e9]; simp only [vp_cell, arrV, Array.getElem_ofFn]; exact hfit _) (by have := hC.2.2.2.2.2.2.2.2.2.2.1; omega) (by have h9 := hC.2.2.2.2.2.2.2.2.2.2.2; rw [cv_cats]; omega) hcs hss hd (fun q H1 hK1 h1 h2 h3 => W.bound fun hb => ?_)) r
  obtain ⟨rfl, hW1⟩ := new_at (n := n) (c := .inl (1, n, .inl f)) hz hb h1 h2 rfl
  have k1 := k H1 hW1 h3
  simp only [List.map_cons, cv, gad_new G h0] at k1
  exact k1
end OPSM
