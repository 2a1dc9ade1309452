/-! fields and rows written, cells made, the ends of methods -/
theorem W.bound {p : Program} {l : Launch} {e : Env} {Rm : Room} {s : State} {m : MethodId} {args : Array Value} {below : List Frame} {meth : Method} {c : Code} {H : Heap} {locs : List Loc} {cells slots : Nat} {Q : State → Prop} {g : JFrame} (k : H.size ≤ s.heap.size + cells → W p l e Rm s m args below meth c H locs cells slots Q g) : W p l e Rm s m args below meth c H locs cells slots Q g := by
  intro T hT X
  exact k (by rw [← hT]; exact X.heapSize) T hT X
def nfit (ty : FieldType) (v : Value) : Bool := decide (narrow ty v = v) && fits ty v
theorem nfit_cv {ty : FieldType} {v : Value} (G : GT) (h : nfit ty v = true) : narrow ty (cv G v) = cv G v ∧ fits ty (cv G v) = true := by
  simp only [nfit, Bool.and_eq_true, decide_eq_true_eq] at h
  cases v <;> first | exact h | (cases ty <;> first | exact ⟨rfl, rfl⟩ | exact absurd h.2 (by decide) | (have h2 := h.2; simp only [fits] at h2; exact absurd h2 (by decide)))
theorem nfit_rf (C : String) (r : Option Nat) : nfit (.object C) (va_rf r) = true := by cases r <;> simp [nfit, narrow, fits, va_rf]
section OPS2
variable {G : GT} {M : MI} {d pc : Nat} {L : List (Option Value)} {S : List Value} {h : AH} {P : OC → AH → Prop}

theorem q_put {index ci i kf N : Nat} {C : String} {T : u_T} {vs : List Value} {v : Value} {ty0 : Nat → FieldType} {ty : FieldType} {host : String} (hd : decode M.2.1 pc = .ok (.putfield index, 3)) (hc : CL[ci]? = some (C, T, N)) (hin : ∀ w ∈ u_ws C T N, w ∈ AW) (hty : ∀ k, k < N → parseFieldDescriptor (T k).2.2.1 = some (ty0 k)) (hnm : ∀ a, a < N → ∀ b, b < N → a ≠ b → (T a).2.1 ≠ (T b).2.1) (hk : kf < N) (hT : (T kf).1 = C) (hlink : Cond.fieldLink M.1.cls index C (T kf).2.1 (T kf).2.2.1 ∈ AW) (hfin : (T kf).2.2.2 = false)  (hdd : parseFieldDescriptor (T kf).2.2.1 = some ty) (hn : nfit ty v = true) (hlen : kf < vs.length) (ha : At h i (.inr (ci, vs))) (r : RQ G M d (pc + 3) L S (hset h i (.inr (ci, vs.set kf v))) P) : RQ G M d pc L (v :: .ref i :: S) h P :=
  RQ.put (fun p e Rm s m args below meth c H locs cells slots ls Q hC hz h0 hW hS hl k => va_put (D := gD G) (cl := CL) (ws := cw G h) (tys := TY G) (A := Aq G) hC.1 hC.2.1 hC.2.2.2.2.2.2.1 hin ty0 hty hnm hC.2.2.2.2.2.1 hC.2.2.2.2.2.2.2.1.1 hW (cw_D G h) hS i (ha.cw h0) hc kf hk (hC.2.2.2.2.2.2.1 _ hlink) (fun _ hx => hT ▸ hx) hfin  hdd (nfit_cv G hn).1 (nfit_cv G hn).2 (by rw [List.length_map]; exact hlen) hd
    (fun H1 locs1 h1 _ h3 => k H1 locs1 (hW.set ha h0 (show cE G (.inr (ci, vs.set kf v)) = .inr (ci, (vs.map (cv G)).set kf (cv G v)) by simp [cE, List.map_set]) h1) h3)) r
theorem q_putF {index ci i kf N : Nat} {C : String} {T : u_T} {vs : List Value} {v : Value} {ty0 : Nat → FieldType} {ty : FieldType} {host : String} (hd : decode M.2.1 pc = .ok (.putfield index, 3)) (hc : CL[ci]? = some (C, T, N)) (hin : ∀ w ∈ u_ws C T N, w ∈ AW) (hty : ∀ k, k < N → parseFieldDescriptor (T k).2.2.1 = some (ty0 k)) (hnm : ∀ a, a < N → ∀ b, b < N → a ≠ b → (T a).2.1 ≠ (T b).2.1) (hk : kf < N) (hT : (T kf).1 = C) (hlink : Cond.fieldLink M.1.cls index C (T kf).2.1 (T kf).2.2.1 ∈ AW) (hfin : (T kf).2.2.2 = true) (hi0 : M.1.name = "<init>") (hown0 : C = M.1.cls) (hdd : parseFieldDescriptor (T kf).2.2.1 = some ty) (hn : nfit ty v = true) (hlen : kf < vs.length) (ha : At h i (.inr (ci, vs))) (r : RQ G M d (pc + 3) L S (hset h i (.inr (ci, vs.set kf v))) P) : RQ G M d pc L (v :: .ref i :: S) h P :=
  RQ.put (fun p e Rm s m args below meth c H locs cells slots ls Q hC hz h0 hW hS hl k => va_putF (D := gD G) (cl := CL) (ws := cw G h) (tys := TY G) (A := Aq G) hC.1 hC.2.1 hC.2.2.2.2.2.2.1 hin ty0 hty hnm hC.2.2.2.2.2.1 hC.2.2.2.2.2.2.2.1.1 hW (cw_D G h) hS i (ha.cw h0) hc kf hk (hC.2.2.2.2.2.2.1 _ hlink) (fun _ hx => hT ▸ hx) hfin (hC.2.2.2.2.2.2.2.2.1.trans hi0) (hT.trans hown0) hdd (nfit_cv G hn).1 (nfit_cv G hn).2 (by rw [List.length_map]; exact hlen) hd
    (fun H1 locs1 h1 _ h3 => k H1 locs1 (hW.set ha h0 (show cE G (.inr (ci, vs.set kf v)) = .inr (ci, (vs.map (cv G)).set kf (cv G v)) by simp [cE, List.map_set]) h1) h3)) r
theorem q_putN {index ci i kf N : Nat} {C : String} {T : u_T} {vs : List Value} {v : Value} {ty0 : Nat → FieldType} {ty : FieldType} {host : String} (hd : decode M.2.1 pc = .ok (.putfield index, 3)) (hc : CL[ci]? = some (C, T, N)) (hin : ∀ w ∈ u_ws C T N, w ∈ AW) (hty : ∀ k, k < N → parseFieldDescriptor (T k).2.2.1 = some (ty0 k)) (hnm : ∀ a, a < N → ∀ b, b < N → a ≠ b → (T a).2.1 ≠ (T b).2.1) (hk : kf < N) (hT : (T kf).1 = C) (hlink : Cond.fieldLinkNest M.1.cls index C (T kf).2.1 (T kf).2.2.1 host ∈ NW) (hfin : (T kf).2.2.2 = false)  (hdd : parseFieldDescriptor (T kf).2.2.1 = some ty) (hn : nfit ty v = true) (hlen : kf < vs.length) (ha : At h i (.inr (ci, vs))) (r : RQ G M d (pc + 3) L S (hset h i (.inr (ci, vs.set kf v))) P) : RQ G M d pc L (v :: .ref i :: S) h P :=
  RQ.put (fun p e Rm s m args below meth c H locs cells slots ls Q hC hz h0 hW hS hl k => va_putN (D := gD G) (cl := CL) (ws := cw G h) (tys := TY G) (A := Aq G) hC.1 hC.2.1 hC.2.2.2.2.2.2.1 hin ty0 hty hnm hC.2.2.2.2.2.1 hC.2.2.2.2.2.2.2.1.1 hW (cw_D G h) hS i (ha.cw h0) hc kf hk (va_Nw.use rfl (hC.2.2.2.2.2.2.2.1.2.2.2.1 _ hlink)) (fun _ hx => hT ▸ hx) hfin  hdd (nfit_cv G hn).1 (nfit_cv G hn).2 (by rw [List.length_map]; exact hlen) hd
    (fun H1 locs1 h1 _ h3 => k H1 locs1 (hW.set ha h0 (show cE G (.inr (ci, vs.set kf v)) = .inr (ci, (vs.map (cv G)).set kf (cv G v)) by simp [cE, List.map_set]) h1) h3)) r
theorem q_iald {a n j : Nat} {x : Int32} {f : Nat → Int32} (hd : decode M.2.1 pc = .ok (.iaload, 1)) (ha : At h a (.inl (0, n, .inl f))) (hx : x = nI j) (hj : j < n) (hn : n < 2147483648) (r : RQ G M d (pc + 1) L (.int (f j) :: S) h P) : RQ G M d pc L (.int x :: .ref a :: S) h P := by
  subst hx
  refine RQ.one (fun p e Rm s m args below meth c H locs cells slots ls Q hC hz hcs hss h0 hW hS hl k => va_iald (D := gD G) (cl := CL) (ws := cw G h) (tys := TY G) hC.1 hC.2.1 hC.2.2.2.2.2.2.2.1.1 hW a 0 (ha.cw h0) rfl (vp_in_nI hj hn) hd ?_) r
  rw [nI_clamp (Nat.lt_trans hj hn)]
  exact k ls hl
theorem q_bald {a n j : Nat} {x : Int32} {f : Nat → Int32} (hd : decode M.2.1 pc = .ok (.baload, 1)) (ha : At h a (.inl (1, n, .inl f))) (hx : x = nI j) (hj : j < n) (hn : n < 2147483648) (r : RQ G M d (pc + 1) L (.int (f j) :: S) h P) : RQ G M d pc L (.int x :: .ref a :: S) h P := by
  subst hx
  refine RQ.one (fun p e Rm s m args below meth c H locs cells slots ls Q hC hz hcs hss h0 hW hS hl k => va_bald (D := gD G) (cl := CL) (ws := cw G h) (tys := TY G) hC.1 hC.2.1 hC.2.2.2.2.2.2.2.1.1 hW a 1 (ha.cw h0) rfl (vp_in_nI hj hn) hd ?_) r
  rw [nI_clamp (Nat.lt_trans hj hn)]
  exact k ls hl
theorem q_lald {a n j : Nat} {x : Int32} {f : Nat → Int64} (hd : decode M.2.1 pc = .ok (.laload, 1)) (ha : At h a (.inl (2, n, .inr (.inl f)))) (hx : x = nI j) (hj : j < n) (hn : n < 2147483648) (r : RQ G M d (pc + 1) L (.long (f j) :: S) h P) : RQ G M d pc L (.int x :: .ref a :: S) h P := by
  subst hx
  refine RQ.one (fun p e Rm s m args below meth c H locs cells slots ls Q hC hz hcs hss h0 hW hS hl k => va_lald (D := gD G) (cl := CL) (ws := cw G h) (tys := TY G) hC.1 hC.2.1 hC.2.2.2.2.2.2.2.1.1 hW a 2 (ha.cw h0) rfl (vp_in_nI hj hn) hd ?_) r
  rw [nI_clamp (Nat.lt_trans hj hn)]
  exact k ls hl
theorem q_aald3 {a n j : Nat} {x : Int32} {f : Nat → Option Nat} (hd : decode M.2.1 pc = .ok (.aaload, 1)) (ha : At h a (.inl (3, n, .inr (.inr (.inr (.inr f)))))) (hx : x = nI j) (hj : j < n) (hn : n < 2147483648) (r : RQ G M d (pc + 1) L (va_rf (f j) :: S) h P) : RQ G M d pc L (.int x :: .ref a :: S) h P := by
  subst hx
  refine RQ.one (fun p e Rm s m args below meth c H locs cells slots ls Q hC hz hcs hss h0 hW hS hl k => va_aldq (D := gD G) (cl := CL) (ws := cw G h) (tys := TY G) (C := "CupboardPoll$Jar") hC.1 hC.2.1 hC.2.2.2.2.2.2.2.1.1 hW a 3 (ha.cw h0) rfl (vp_in_nI hj hn) hd ?_) r
  rw [nI_clamp (Nat.lt_trans hj hn), ← cv_rf]
  exact k ls hl
theorem q_aald4 {a n j : Nat} {x : Int32} {f : Nat → Option Nat} (hd : decode M.2.1 pc = .ok (.aaload, 1)) (ha : At h a (.inl (4, n, .inr (.inr (.inr (.inr f)))))) (hx : x = nI j) (hj : j < n) (hn : n < 2147483648) (r : RQ G M d (pc + 1) L (va_rf (f j) :: S) h P) : RQ G M d pc L (.int x :: .ref a :: S) h P := by
  subst hx
  refine RQ.one (fun p e Rm s m args below meth c H locs cells slots ls Q hC hz hcs hss h0 hW hS hl k => va_aldq (D := gD G) (cl := CL) (ws := cw G h) (tys := TY G) (C := "CupboardPoll$Kind") hC.1 hC.2.1 hC.2.2.2.2.2.2.2.1.1 hW a 4 (ha.cw h0) rfl (vp_in_nI hj hn) hd ?_) r
  rw [nI_clamp (Nat.lt_trans hj hn), ← cv_rf]
  exact k ls hl
theorem q_alen {a t : Nat} {x : vp_A} {ty : FieldType} {v : Int32} (hd : decode M.2.1 pc = .ok (.arraylength, 1)) (ht : (TY G)[t]? = some (gA G t, ty)) (ha : At h a (.inl (t, x))) (hv : nI x.1 = v) (r : RQ G M d (pc + 1) L (.int v :: S) h P) : RQ G M d pc L (.ref a :: S) h P :=
  RQ.one (fun p e Rm s m args below meth c H locs cells slots ls Q hC hz hcs hss h0 hW hS hl k => va_alen (D := gD G) (cl := CL) (ws := cw G h) (tys := TY G) hC.1 hC.2.1 hC.2.2.2.2.2.2.2.1.1 hW a t (ha.cw h0) ht (by rw [cA_len]; exact hv) hd (k ls hl)) r
theorem q_iast {a n j : Nat} {x : Int32} {v : Int32} {f : Nat → Int32} (hd : decode M.2.1 pc = .ok (.iastore, 1)) (ha : At h a (.inl (0, n, .inl f))) (hx : x = nI j) (hj : j < n) (hn : n < 2147483648) (r : RQ G M d (pc + 1) L S (hset h a (.inl (0, n, .inl (upd f j v)))) P) : RQ G M d pc L (.int v :: .int x :: .ref a :: S) h P := by
  subst hx
  refine RQ.put (fun p e Rm s m args below meth c H locs cells slots ls Q hC hz h0 hW hS hl k => va_iast (D := gD G) (cl := CL) (ws := cw G h) (tys := TY G) (A := Aq G) hC.1 hC.2.1 hC.2.2.2.2.2.2.2.1.1 hW (cw_D G h) hS a 0 (ha.cw h0) rfl (vp_in_nI hj hn) hd (fun H1 locs1 h1 _ h3 => k H1 locs1 (hW.set ha h0 ?_ h1) h3)) r
  rw [nI_clamp (Nat.lt_trans hj hn)]
  rfl
theorem q_bast {a n j : Nat} {x : Int32} {v : Int32} {f : Nat → Int32} (hd : decode M.2.1 pc = .ok (.bastore, 1)) (ha : At h a (.inl (1, n, .inl f))) (hx : x = nI j) (hj : j < n) (hn : n < 2147483648) (r : RQ G M d (pc + 1) L S (hset h a (.inl (1, n, .inl (upd f j (vp_nar .byte v))))) P) : RQ G M d pc L (.int v :: .int x :: .ref a :: S) h P := by
  subst hx
  refine RQ.put (fun p e Rm s m args below meth c H locs cells slots ls Q hC hz h0 hW hS hl k => va_bast (D := gD G) (cl := CL) (ws := cw G h) (tys := TY G) (A := Aq G) hC.1 hC.2.1 hC.2.2.2.2.2.2.2.1.1 hW (cw_D G h) hS a 1 (ha.cw h0) rfl (vp_in_nI hj hn) hd (fun H1 locs1 h1 _ h3 => k H1 locs1 (hW.set ha h0 ?_ h1) h3)) r
  rw [nI_clamp (Nat.lt_trans hj hn)]
  rfl
theorem q_last {a n j : Nat} {x : Int32} {v : Int64} {f : Nat → Int64} (hd : decode M.2.1 pc = .ok (.lastore, 1)) (ha : At h a (.inl (2, n, .inr (.inl f)))) (hx : x = nI j) (hj : j < n) (hn : n < 2147483648) (r : RQ G M d (pc + 1) L S (hset h a (.inl (2, n, .inr (.inl (vp_updL f j v))))) P) : RQ G M d pc L (.long v :: .int x :: .ref a :: S) h P := by
  subst hx
  refine RQ.put (fun p e Rm s m args below meth c H locs cells slots ls Q hC hz h0 hW hS hl k => va_last (D := gD G) (cl := CL) (ws := cw G h) (tys := TY G) (A := Aq G) hC.1 hC.2.1 hC.2.2.2.2.2.2.2.1.1 hW (cw_D G h) hS a 2 (ha.cw h0) rfl (vp_in_nI hj hn) hd (fun H1 locs1 h1 _ h3 => k H1 locs1 (hW.set ha h0 ?_ h1) h3)) r
  rw [nI_clamp (Nat.lt_trans hj hn)]
  rfl
theorem q_aast3 {a n j b : Nat} {x : Int32} {vs : List Value} {f : Nat → Option Nat} (hd : decode M.2.1 pc = .ok (.aastore, 1)) (ha : At h a (.inl (3, n, .inr (.inr (.inr (.inr f)))))) (hb : At h b (.inr (3, vs))) (hx : x = nI j) (hj : j < n) (hn : n < 2147483648) (r : RQ G M d (pc + 1) L S (hset h a (.inl (3, n, .inr (.inr (.inr (.inr (va_up f j (some b)))))))) P) : RQ G M d pc L (.ref b :: .int x :: .ref a :: S) h P := by
  subst hx
  refine RQ.put (fun p e Rm s m args below meth c H locs cells slots ls Q hC hz h0 hW hS hl k => va_astq (D := gD G) (cl := CL) (ws := cw G h) (tys := TY G) (A := Aq G) (r := (RX4, TX4, 10)) hC.1 hC.2.1 hC.2.2.2.2.2.2.2.1.1 hW (cw_D G h) hS a 3 b 3 (ha.cw h0) rfl (hb.cw h0) rfl (vp_in_nI hj hn) hd (fun H1 locs1 h1 _ h3 => k H1 locs1 (hW.set ha h0 ?_ h1) h3)) r
  rw [nI_clamp (Nat.lt_trans hj hn)]
  simp only [cE, cA]
  refine congrArg (fun z => (Sum.inl (gA G 3, n, Sum.inr (Sum.inr (Sum.inr (Sum.inr z)))) : va_E)) (funext fun q => ?_)
  by_cases hq : q = j
  · subst hq
    simp [va_up]
  · simp [va_up, hq]
/-- the new cell lies where it must -/
theorem new_at {G : GT} {h : AH} {H1 : Heap} {q n : Nat} {e : va_E} {c : AC} {s : State} {cells : Nat} (hz : s.heap.size + cells = gB G + h.1) (hb : H1.size ≤ s.heap.size + (cells + 1)) (hP : va_P (gD G) CL (cw G h ++ [(q, e)]) H1) (hD : va_D (Aq G) (cw G h ++ [(q, e)])) (he : cE G c = e) : q = gB G + h.1 ∧ Wd G (hnew h n c) H1 := by
  subst he
  have hl : (cw G h ++ [(q, cE G c)])[h.1]? = some (q, cE G c) := by rw [List.getElem?_append_right (by rw [cw_len]; exact Nat.le_refl _), cw_len, Nat.sub_self]; rfl
  have h1 : q < H1.size := (hP h.1 _ hl).lt
  have h2 : gB G ≤ q := hD.2 h.1 _ hl
  have hq : q = gB G + h.1 := by
    rcases Nat.lt_or_ge q (gB G + h.1) with h3 | h3
    · have hi : q - gB G < h.1 := by omega
      have h4 : (cw G h ++ [(q, cE G c)])[q - gB G]? = some (gB G + (q - gB G), cE G (h.2.2 (q - gB G))) := by rw [List.getElem?_append_left (by rw [cw_len]; exact hi), cw_at G h hi]
      have h5 := hD.1 _ _ _ _ h4 hl (show gB G + (q - gB G) = q by omega)
      omega
    · omega
  subst hq
  rw [cw_new G h n c] at hP
  exact ⟨rfl, hP⟩

theorem q_new {index ci N : Nat} {C : String} {T : u_T} {ty0 : Nat → FieldType} {fs : List Value} (hd : decode M.2.1 pc = .ok (.new index, 3)) (hc : CL[ci]? = some (C, T, N)) (hin : ∀ w ∈ u_ws C T N, w ∈ AW) (hty : ∀ k, k < N → parseFieldDescriptor (T k).2.2.1 = some (ty0 k)) (hcl : Cond.classLink M.1.cls index C ∈ AW) (hinst : Cond.instantiable C N ∈ AW) (hini : Cond.initialized C ∈ AW) (hfs : ∀ j, j < N → defaultValue (ty0 j) = vp_V fs j) (hcv : ∀ v ∈ fs, ∀ k, v ≠ .ref k) (r : RQ G M d (pc + 3) L (.ref h.1 :: S) (hnew h N (.inr (ci, fs))) P) : RQ G M d pc L S h P := by
  have hcv : fs.map (cv G) = fs := (List.map_congr_left (fun v hv => show cv G v = id v by cases v <;> first | rfl | exact absurd rfl (hcv _ hv _))).trans (List.map_id fs)
  refine RQ.new (fun p e Rm s m args below meth c H locs cells slots ls Q hC hz hcs hss h0 hW hS hl k => va_new (D := gD G) (cl := CL) (ws := cw G h) (tys := TY G) (A := Aq G) hC.1 hC.2.1 hC.2.2.2.2.2.2.1 hin ty0 hty hC.2.2.2.2.2.1 (hC.2.2.2.2.2.2.1 _ hcl) (hC.2.2.2.2.2.2.1 _ hinst) (hC.2.2.2.2.2.2.1 _ hini) hC.2.2.2.2.2.2.2.1.1 hW (cw_D G h) hS (fun q hq => Nat.le_trans hC.2.2.2.2.2.2.2.1.2.2.1 hq) hc hfs hcs hss hd (fun q H1 h1 h2 h3 => W.bound fun hb => ?_)) r
  obtain ⟨rfl, hW1⟩ := new_at (n := N) (c := .inr (ci, fs)) hz hb h1 h2 (by simp only [cE, hcv])
  have k1 := k H1 hW1 h3
  simp only [List.map_cons, cv, gad_new G h0] at k1
  exact k1
theorem q_newaI {n : Nat} {x : Int32} (hd : decode M.2.1 pc = .ok (.newarray .int, 2)) (harr : Cond.arrayClass .int ∈ AW) (hx : x = nI n) (hn : n < 60000000) (r : RQ G M d (pc + 2) L (.ref h.1 :: S) (hnew h n (.inl (0, n, .inl (fun _ => 0)))) P) : RQ G M d pc L (.int x :: S) h P := by
  subst hx
  refine RQ.new (fun p e Rm s m args below meth c H locs cells slots ls Q hC hz hcs hss h0 hW hS hl k => va_newa (D := gD G) (cl := CL) (ws := cw G h) (tys := TY G) (A := Aq G) (atype := .int) (ty := .int) (N' := n) (a0 := (n, .inl (fun _ => 0))) hC.1 hC.2.1 (hC.2.2.2.2.2.2.1 _ harr) rfl hC.2.2.2.2.2.2.2.1.1 hW (cw_D G h) hS (fun q hq => Nat.le_trans hC.2.2.2.2.2.2.2.1.2.2.1 hq) (fun _ => rfl) (nI_pos (by omega)) (nI_clamp (by omega)) (by show n * _ ≤ _; simp only [componentBytes]; omega) hcs hss hd (fun q c9 H1 hK1 h1 h2 h3 => W.bound fun hb => ?_)) r
  have e1 : s.vm.findClass ("[" ++ FieldType.toString .int) = some c9 := (hK1.2 10 _ rfl).2
  have e2 : s.vm.findClass ("[" ++ FieldType.toString .int) = some (gA G 0) := (hK1.2 0 _ rfl).2
  have e3 : gA G 0 = c9 := Option.some.inj (e2.symm.trans e1)
  obtain ⟨rfl, hW1⟩ := new_at (n := n) (c := .inl (0, n, .inl (fun _ => 0))) hz hb h1 h2 (by simp only [cE, cA, e3])
  have k1 := k H1 hW1 h3
  simp only [List.map_cons, cv, gad_new G h0] at k1
  exact k1
theorem q_newaB {n : Nat} {x : Int32} (hd : decode M.2.1 pc = .ok (.newarray .byte, 2)) (harr : Cond.arrayClass .byte ∈ AW) (hx : x = nI n) (hn : n < 60000000) (r : RQ G M d (pc + 2) L (.ref h.1 :: S) (hnew h n (.inl (1, n, .inl (fun _ => 0)))) P) : RQ G M d pc L (.int x :: S) h P := by
  subst hx
  refine RQ.new (fun p e Rm s m args below meth c H locs cells slots ls Q hC hz hcs hss h0 hW hS hl k => va_newa (D := gD G) (cl := CL) (ws := cw G h) (tys := TY G) (A := Aq G) (atype := .byte) (ty := .byte) (N' := n) (a0 := (n, .inl (fun _ => 0))) hC.1 hC.2.1 (hC.2.2.2.2.2.2.1 _ harr) rfl hC.2.2.2.2.2.2.2.1.1 hW (cw_D G h) hS (fun q hq => Nat.le_trans hC.2.2.2.2.2.2.2.1.2.2.1 hq) (fun _ => rfl) (nI_pos (by omega)) (nI_clamp (by omega)) (by show n * _ ≤ _; simp only [componentBytes]; omega) hcs hss hd (fun q c9 H1 hK1 h1 h2 h3 => W.bound fun hb => ?_)) r
  have e1 : s.vm.findClass ("[" ++ FieldType.toString .byte) = some c9 := (hK1.2 10 _ rfl).2
  have e2 : s.vm.findClass ("[" ++ FieldType.toString .byte) = some (gA G 1) := (hK1.2 1 _ rfl).2
  have e3 : gA G 1 = c9 := Option.some.inj (e2.symm.trans e1)
  obtain ⟨rfl, hW1⟩ := new_at (n := n) (c := .inl (1, n, .inl (fun _ => 0))) hz hb h1 h2 (by simp only [cE, cA, e3])
  have k1 := k H1 hW1 h3
  simp only [List.map_cons, cv, gad_new G h0] at k1
  exact k1
theorem q_newaJ {n : Nat} {x : Int32} (hd : decode M.2.1 pc = .ok (.newarray .long, 2)) (harr : Cond.arrayClass .long ∈ AW) (hx : x = nI n) (hn : n < 60000000) (r : RQ G M d (pc + 2) L (.ref h.1 :: S) (hnew h n (.inl (2, n, .inr (.inl (fun _ => 0))))) P) : RQ G M d pc L (.int x :: S) h P := by
  subst hx
  refine RQ.new (fun p e Rm s m args below meth c H locs cells slots ls Q hC hz hcs hss h0 hW hS hl k => va_newa (D := gD G) (cl := CL) (ws := cw G h) (tys := TY G) (A := Aq G) (atype := .long) (ty := .long) (N' := n) (a0 := (n, .inr (.inl (fun _ => 0)))) hC.1 hC.2.1 (hC.2.2.2.2.2.2.1 _ harr) rfl hC.2.2.2.2.2.2.2.1.1 hW (cw_D G h) hS (fun q hq => Nat.le_trans hC.2.2.2.2.2.2.2.1.2.2.1 hq) (fun _ => rfl) (nI_pos (by omega)) (nI_clamp (by omega)) (by show n * _ ≤ _; simp only [componentBytes]; omega) hcs hss hd (fun q c9 H1 hK1 h1 h2 h3 => W.bound fun hb => ?_)) r
  have e1 : s.vm.findClass ("[" ++ FieldType.toString .long) = some c9 := (hK1.2 10 _ rfl).2
  have e2 : s.vm.findClass ("[" ++ FieldType.toString .long) = some (gA G 2) := (hK1.2 2 _ rfl).2
  have e3 : gA G 2 = c9 := Option.some.inj (e2.symm.trans e1)
  obtain ⟨rfl, hW1⟩ := new_at (n := n) (c := .inl (2, n, .inr (.inl (fun _ => 0)))) hz hb h1 h2 (by simp only [cE, cA, e3])
  have k1 := k H1 hW1 h3
  simp only [List.map_cons, cv, gad_new G h0] at k1
  exact k1
theorem q_anew3 {n index : Nat} {x : Int32} (hd : decode M.2.1 pc = .ok (.anewarray index, 3)) (hcl : Cond.classLink M.1.cls index "CupboardPoll$Jar" ∈ AW) (hx : x = nI n) (hn : n < 60000000) (r : RQ G M d (pc + 3) L (.ref h.1 :: S) (hnew h n (.inl (3, n, .inr (.inr (.inr (.inr (fun _ => none))))))) P) : RQ G M d pc L (.int x :: S) h P := by
  subst hx
  refine RQ.new (fun p e Rm s m args below meth c H locs cells slots ls Q hC hz hcs hss h0 hW hS hl k => va_newq (D := gD G) (cl := CL) (ws := cw G h) (tys := TY G) (A := Aq G) (C := "CupboardPoll$Jar") (N' := n) hC.1 hC.2.1 hC.2.2.2.2.2.1 (hC.2.2.2.2.2.2.1 _ hcl) hC.2.2.2.2.2.2.2.1.2.2.2.2.1 hC.2.2.2.2.2.2.2.1.1 hW (cw_D G h) hS (fun q hq => Nat.le_trans hC.2.2.2.2.2.2.2.1.2.2.1 hq) (nI_pos (by omega)) (nI_clamp (by omega)) (by omega) hcs hss hd (fun q c9 H1 hK1 h1 h2 h3 => W.bound fun hb => ?_)) r
  obtain ⟨-, kA, comp, -, -, -, e1⟩ := hK1.2 10 _ rfl
  obtain ⟨-, kB, comp2, -, -, -, e2⟩ := hK1.2 3 _ rfl
  have e3 : gA G 3 = c9 := Option.some.inj (e2.symm.trans e1)
  obtain ⟨rfl, hW1⟩ := new_at (n := n) (c := .inl (3, n, .inr (.inr (.inr (.inr (fun _ => none)))))) hz hb h1 h2 (by simp only [cE, cA, e3]; rfl)
  have k1 := k H1 hW1 h3
  simp only [List.map_cons, cv, gad_new G h0] at k1
  exact k1
theorem q_anew4 {n index : Nat} {x : Int32} (hd : decode M.2.1 pc = .ok (.anewarray index, 3)) (hcl : Cond.classLink M.1.cls index "CupboardPoll$Kind" ∈ AW) (hx : x = nI n) (hn : n < 60000000) (r : RQ G M d (pc + 3) L (.ref h.1 :: S) (hnew h n (.inl (4, n, .inr (.inr (.inr (.inr (fun _ => none))))))) P) : RQ G M d pc L (.int x :: S) h P := by
  subst hx
  refine RQ.new (fun p e Rm s m args below meth c H locs cells slots ls Q hC hz hcs hss h0 hW hS hl k => va_newq (D := gD G) (cl := CL) (ws := cw G h) (tys := TY G) (A := Aq G) (C := "CupboardPoll$Kind") (N' := n) hC.1 hC.2.1 hC.2.2.2.2.2.1 (hC.2.2.2.2.2.2.1 _ hcl) hC.2.2.2.2.2.2.2.1.2.2.2.2.2.1 hC.2.2.2.2.2.2.2.1.1 hW (cw_D G h) hS (fun q hq => Nat.le_trans hC.2.2.2.2.2.2.2.1.2.2.1 hq) (nI_pos (by omega)) (nI_clamp (by omega)) (by omega) hcs hss hd (fun q c9 H1 hK1 h1 h2 h3 => W.bound fun hb => ?_)) r
  obtain ⟨-, kA, comp, -, -, -, e1⟩ := hK1.2 10 _ rfl
  obtain ⟨-, kB, comp2, -, -, -, e2⟩ := hK1.2 4 _ rfl
  have e3 : gA G 4 = c9 := Option.some.inj (e2.symm.trans e1)
  obtain ⟨rfl, hW1⟩ := new_at (n := n) (c := .inl (4, n, .inr (.inr (.inr (.inr (fun _ => none)))))) hz hb h1 h2 (by simp only [cE, cA, e3]; rfl)
  have k1 := k H1 hW1 h3
  simp only [List.map_cons, cv, gad_new G h0] at k1
  exact k1
theorem RQ.fin {v : Option Value} {ST : List Value} (hk : ∀ (p : Program) (e : Env) (Rm : Room) (s : State) (m : MethodId) (args : Array Value) (below : List Frame) (meth : Method) (c : Code) (H : Heap) (locs : List Loc) (cells slots : Nat) (ls : Array Slot),
      Cx G M d p Rm s m args meth c → (∀ z ∈ locs, Aq G z.base) → (∀ t : State, t.heap = H → s.WarmedH t.vm → QR G (.inl v) h args s (.returned (v.map (cv G))) t) → W p (gL G) e Rm s m args below meth c H locs cells slots (MQ below (QR G (.inl v) h) args s cells slots (Aq G)) (F0 m pc ls (ST.map (cv G))))
    (hP : P (.inl v) h) : RQ G M d pc L ST h P := by
  refine ⟨.inl v, h, ⟨⟨Nat.le_refl _, Nat.le_refl _⟩, fun p e Rm s m args below meth c H locs cells slots ls hC hz hc hs ho hW hS hl => ?_⟩, hP⟩
  rw [Nat.sub_self, Nat.sub_self, Nat.add_zero, Nat.add_zero]
  refine vx_ret (hk p e Rm s m args below meth c H locs cells slots ls hC hS.2.2 (fun t ht _ => ?_))
  exact ⟨⟨v, rfl, rfl, by rw [ht]; exact hW⟩, hS.F ht⟩
theorem q_ireturn {x : Int32} {ty : FieldType} (hd : decode M.2.1 pc = .ok (.ireturn, 1)) (hr : M.2.2.2.1 = some ty) (hn : narrow ty (.int x) = .int x) (hP : P (.inl (some (.int x))) h) : RQ G M d pc L [.int x] h P :=
  RQ.fin (v := some (.int x)) (fun p e Rm s m args below meth c H locs cells slots ls hC hf hq => W.zret hC.1 hC.2.1 (hC.2.2.2.1.trans hr) hn hq hf hd hC.2.2.2.2.1) hP
theorem q_lreturn {x : Int64} (hd : decode M.2.1 pc = .ok (.lreturn, 1)) (hr : M.2.2.2.1 = some .long) (hP : P (.inl (some (.long x))) h) : RQ G M d pc L [.long x] h P :=
  RQ.fin (v := some (.long x)) (fun p e Rm s m args below meth c H locs cells slots ls hC hf hq => W.lret hC.1 hC.2.1 (hC.2.2.2.1.trans hr) hq hf hd hC.2.2.2.2.1) hP
theorem q_dreturn {x : UInt64} (hd : decode M.2.1 pc = .ok (.dreturn, 1)) (hr : M.2.2.2.1 = some .double) (hP : P (.inl (some (.double x))) h) : RQ G M d pc L [.double x] h P :=
  RQ.fin (v := some (.double x)) (fun p e Rm s m args below meth c H locs cells slots ls hC hf hq => W.dret hC.1 hC.2.1 (hC.2.2.2.1.trans hr) hq hf hd hC.2.2.2.2.1) hP
theorem q_areturn {r0 : Option Nat} {C : String} (hd : decode M.2.1 pc = .ok (.areturn, 1)) (hr : M.2.2.2.1 = some (.object C)) (hP : P (.inl (some (va_rf r0))) h) : RQ G M d pc L [va_rf r0] h P :=
  RQ.fin (v := some (va_rf r0)) (fun p e Rm s m args below meth c H locs cells slots ls hC hf hq => W.aret hC.1 hC.2.1 (hC.2.2.2.1.trans hr) (Or.inl ⟨C, rfl⟩) (by rw [cv_rf]; exact va_rf_or _) hq hf hd hC.2.2.2.2.1) hP
theorem q_return (hd : decode M.2.1 pc = .ok (.return_, 1)) (hr : M.2.2.2.1 = none) (hP : P (.inl none) h) : RQ G M d pc L [] h P :=
  RQ.fin (v := none) (fun p e Rm s m args below meth c H locs cells slots ls hC hf hq => W.vret hC.1 hC.2.1 (hC.2.2.2.1.trans hr) hq hf hd hC.2.2.2.2.1) hP
end OPS2
