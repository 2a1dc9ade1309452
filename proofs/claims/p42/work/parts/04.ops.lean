/-! ONE ROW AN INSTRUCTION, over the abstract world -/
def At (h : AH) (i : Nat) (c : AC) : Prop := i < h.1 ∧ h.2.2 i = c
theorem At.set_eq {h : AH} {i : Nat} {c0 c : AC} (a : At h i c0) : At (hset h i c) i c := ⟨a.1, if_pos rfl⟩
theorem At.set_ne {h : AH} {i j : Nat} {c c0 : AC} (a : At h j c0) (n : j ≠ i) : At (hset h i c) j c0 := ⟨a.1, (if_neg n).trans a.2⟩
theorem At.new_eq (h : AH) (n : Nat) (c : AC) : At (hnew h n c) h.1 c := ⟨Nat.lt_succ_self _, if_pos rfl⟩
theorem At.new_ne {h : AH} {j n : Nat} {c c0 : AC} (a : At h j c0) : At (hnew h n c) j c0 := ⟨Nat.lt_succ_of_lt a.1, (if_neg (Nat.ne_of_lt a.1)).trans a.2⟩
theorem At.cw {G : GT} {h : AH} {i : Nat} {c : AC} (a : At h i c) (h0 : h.1 < OLD) : (cw G h)[i]? = some (gad G i, cE G c) := by
  rw [cw_at G h a.1, a.2, gad_new G (Nat.lt_trans a.1 h0)]
theorem Wd.set {G : GT} {h : AH} {H H1 : Heap} (hW : Wd G h H) {i : Nat} {c0 c : AC} (ha : At h i c0) (h0 : h.1 < OLD) {e : va_E} (he : cE G c = e) (h1 : va_P (gD G) CL ((cw G h).set i (gad G i, e)) H1) : Wd G (hset h i c) H1 := by
  subst he
  rw [gad_new G (Nat.lt_trans ha.1 h0), cw_set G h c ha.1] at h1
  exact h1
theorem Wd.lt {G : GT} {h : AH} {H : Heap} (hW : Wd G h H) {i : Nat} (hi : i < h.1) : gB G + i < H.size := (hW i _ (cw_at G h hi)).lt
/-- the script and other rows of locals, as the kit has them -/
def lvL (G : GT) (L : List (Option Value)) : List (Nat × Value) := (List.range L.length).filterMap (fun i => match L[i]? with | some (some v) => some (i, cv G v) | _ => none)
theorem lvL_mem {G : GT} {L : List (Option Value)} {q : Nat × Value} : q ∈ lvL G L ↔ ∃ v, L[q.1]? = some (some v) ∧ q.2 = cv G v := by
  obtain ⟨i, w⟩ := q
  simp only [lvL, List.mem_filterMap, List.mem_range]
  constructor
  · rintro ⟨j, hj, hq⟩
    split at hq
    · rename_i v hv
      cases hq
      exact ⟨v, hv, rfl⟩
    · cases hq
  · rintro ⟨v, hv, rfl⟩
    refine ⟨i, (List.getElem?_eq_some_iff.mp hv).1, ?_⟩
    rw [hv]
theorem Rl.has {G : GT} {n : Nat} {ls : Array Slot} {L : List (Option Value)} (h : Rl G n ls L) : lv_has ls n (lvL G L) := by
  refine ⟨h.1, h.2.2.1, fun q hq => ?_⟩
  obtain ⟨v, h1, h2⟩ := lvL_mem.mp hq
  rw [h2]
  exact h.2.2.2 _ _ h1
def ok1 : Option Value → Bool
  | some (.long _) => false
  | some (.double _) => false
  | _ => true
theorem ok1_cat {v : Value} (h : ok1 (some v) = true) : v.category = 1 := by cases v <;> first | rfl | cases h
theorem ok1_rf (r : Option Nat) : ok1 (some (va_rf r)) = true := by cases r <;> rfl
def okAt (L : List (Option Value)) (i : Nat) : Bool := match i with
  | 0 => true
  | j + 1 => match L[j]? with
    | some x => ok1 x
    | none => true
theorem Rl.store1 {G : GT} {n i : Nat} {ls ls2 : Array Slot} {L : List (Option Value)} {v w : Value} (h : Rl G n ls L) (hw : w = cv G v) (hi : i < n) (hok : okAt L i = true)
    (h2 : lv_has ls2 n ((i, w) :: (lvL G L).filter (fun q => !(q.1 == i) && !(q.1 + 1 == i && q.2.category == 2)))) : Rl G n ls2 (L.set i (some v)) := by
  refine ⟨h2.1, by rw [List.length_set]; exact h.2.1, h2.2.1, fun j x hj => ?_⟩
  by_cases e : i = j
  · subst e
    rw [List.getElem?_set_self (by rw [h.2.1]; exact hi)] at hj
    cases hj
    rw [← hw]
    exact h2.2.2 (i, w) List.mem_cons_self
  · rw [List.getElem?_set_ne e] at hj
    refine h2.2.2 (j, cv G x) (List.mem_cons_of_mem _ (List.mem_filter.mpr ⟨lvL_mem.mpr ⟨x, hj, rfl⟩, ?_⟩))
    have e1 : (j == i) = false := by simp; exact fun z => e z.symm
    simp only [e1, Bool.not_false, Bool.true_and]
    by_cases e2 : j + 1 = i
    · subst e2
      have hok2 : ok1 (some x) = true := by
        have := hok
        simp only [okAt, hj] at this
        exact this
      simp [cv_cat, ok1_cat hok2]
    · simp [e2]
theorem Rl.store2 {G : GT} {n i : Nat} {ls ls2 : Array Slot} {L : List (Option Value)} {v w : Value} (h : Rl G n ls L) (hw : w = cv G v) (hi : i + 1 < n) (hok : okAt L i = true)
    (h2 : lv_has ls2 n ((i, w) :: (lvL G L).filter (fun q => !(q.1 == i) && (!(q.1 == i + 1) && !(q.1 + 1 == i && q.2.category == 2))))) : Rl G n ls2 ((L.set i (some v)).set (i + 1) none) := by
  refine ⟨h2.1, by rw [List.length_set, List.length_set]; exact h.2.1, h2.2.1, fun j x hj => ?_⟩
  by_cases e : i + 1 = j
  · subst e
    rw [List.getElem?_set_self (by rw [List.length_set, h.2.1]; exact hi)] at hj
    cases hj
  · rw [List.getElem?_set_ne e] at hj
    by_cases e0 : i = j
    · subst e0
      rw [List.getElem?_set_self (by rw [h.2.1]; omega)] at hj
      cases hj
      rw [← hw]
      exact h2.2.2 (i, w) List.mem_cons_self
    · rw [List.getElem?_set_ne e0] at hj
      refine h2.2.2 (j, cv G x) (List.mem_cons_of_mem _ (List.mem_filter.mpr ⟨lvL_mem.mpr ⟨x, hj, rfl⟩, ?_⟩))
      have e1 : (j == i) = false := by simp; exact fun z => e0 z.symm
      have e3 : (j == i + 1) = false := by simp; exact fun z => e z.symm
      simp only [e1, e3, Bool.not_false, Bool.true_and]
      by_cases e2 : j + 1 = i
      · subst e2
        have hok2 : ok1 (some x) = true := by
          have := hok
          simp only [okAt, hj] at this
          exact this
        simp [cv_cat, ok1_cat hok2]
      · simp [e2]
section OPS
variable {G : GT} {M : MI} {d pc : Nat} {L : List (Option Value)} {S : List Value} {h : AH} {P : OC → AH → Prop}

theorem q_iconst {n : Int} {v : Int32} (hd : decode M.2.1 pc = .ok (.iconst n, 1)) (hv : Int32.ofInt n = v) (r : RQ G M d (pc + 1) L (.int v :: S) h P) : RQ G M d pc L (S) h P :=
  RQ.one (fun p e Rm s m args below meth c H locs cells slots ls Q hC hz hcs hss h0 hW hS hl k => lv_iconst hC.1 hC.2.1 hd hv (k ls hl)) r
theorem q_bipush {n : Int} {v : Int32} (hd : decode M.2.1 pc = .ok (.bipush n, 2)) (hv : (Int8.ofInt n).toInt32 = v) (r : RQ G M d (pc + 2) L (.int v :: S) h P) : RQ G M d pc L (S) h P :=
  RQ.one (fun p e Rm s m args below meth c H locs cells slots ls Q hC hz hcs hss h0 hW hS hl k => lv_bipush hC.1 hC.2.1 hd hv (k ls hl)) r
theorem q_sipush {n : Int} {v : Int32} (hd : decode M.2.1 pc = .ok (.sipush n, 3)) (hv : (Int16.ofInt n).toInt32 = v) (r : RQ G M d (pc + 3) L (.int v :: S) h P) : RQ G M d pc L (S) h P :=
  RQ.one (fun p e Rm s m args below meth c H locs cells slots ls Q hC hz hcs hss h0 hW hS hl k => lv_sipush hC.1 hC.2.1 hd hv (k ls hl)) r
theorem q_lconst {n : Fin 2} {v : Int64} (hd : decode M.2.1 pc = .ok (.lconst n, 1)) (hv : Int64.ofNat (n : Nat) = v) (r : RQ G M d (pc + 1) L (.long v :: S) h P) : RQ G M d pc L (S) h P :=
  RQ.one (fun p e Rm s m args below meth c H locs cells slots ls Q hC hz hcs hss h0 hW hS hl k => lv_lconst hC.1 hC.2.1 hd hv (k ls hl)) r
theorem q_dconst0 (hd : decode M.2.1 pc = .ok (.dconst 0, 1))  (r : RQ G M d (pc + 1) L (.double FP.dconst0 :: S) h P) : RQ G M d pc L (S) h P :=
  RQ.one (fun p e Rm s m args below meth c H locs cells slots ls Q hC hz hcs hss h0 hW hS hl k => lv_dconst0 hC.1 hC.2.1 hd  (k ls hl)) r
theorem q_null (hd : decode M.2.1 pc = .ok (.aconst_null, 1)) (r : RQ G M d (pc + 1) L (.null :: S) h P) : RQ G M d pc L S h P := RQ.one (fun p e Rm s m args below meth c H locs cells slots ls Q hC hz hcs hss h0 hW hS hl k => lv_null hC.1 hC.2.1 hd (k ls hl)) r
theorem q_ldc2 {index : Nat} {v : Int64} (hd : decode M.2.1 pc = .ok (.ldc2_w index, 3)) (hc : Cond.constantLong M.1.cls index v ∈ AW) (r : RQ G M d (pc + 3) L (.long v :: S) h P) : RQ G M d pc L S h P := RQ.one (fun p e Rm s m args below meth c H locs cells slots ls Q hC hz hcs hss h0 hW hS hl k => lv_ldc2 hC.1 hC.2.1 hC.2.2.2.2.2.1 (hC.2.2.2.2.2.2.1 _ hc) hd (k ls hl)) r
theorem q_iload_n {k : Fin 4} {i : Nat} {x : Int32} (hd : decode M.2.1 pc = .ok (.iload_n k, 1)) (hi : (k : Nat) = i) (hL : L[i]? = some (some (.int x))) (r : RQ G M d (pc + 1) L (.int x :: S) h P) : RQ G M d pc L S h P :=
  RQ.one (fun p e Rm s m args below meth c H locs cells slots ls Q hC hz hcs hss h0 hW hS hl k => lv_iload_n hC.1 hC.2.1 hd hi (hl.2.2.2 _ _ hL) (k ls hl)) r
theorem q_iload {i : Nat} {x : Int32} (hd : decode M.2.1 pc = .ok (.iload i, 2)) (hL : L[i]? = some (some (.int x))) (r : RQ G M d (pc + 2) L (.int x :: S) h P) : RQ G M d pc L S h P :=
  RQ.one (fun p e Rm s m args below meth c H locs cells slots ls Q hC hz hcs hss h0 hW hS hl k => lv_iload hC.1 hC.2.1 hd (hl.2.2.2 _ _ hL) (k ls hl)) r
theorem q_istore_n {k : Fin 4} {i : Nat} {x : Int32} (hd : decode M.2.1 pc = .ok (.istore_n k, 1)) (hi : (k : Nat) = i) (hn : i < M.2.2.1) (hok : okAt L i = true) (r : RQ G M d (pc + 1) (L.set i (some (.int x))) S h P) : RQ G M d pc L (.int x :: S) h P :=
  RQ.one (fun p e Rm s m args below meth c H locs cells slots ls Q hC hz hcs hss h0 hW hS hl k => lv_istore_n hC.1 hC.2.1 hd hi hl.has hn rfl (fun ls2 h2 => k ls2 (hl.store1 (v := .int x) rfl hn hok h2))) r
theorem q_istore {i : Nat} {x : Int32} (hd : decode M.2.1 pc = .ok (.istore i, 2)) (hn : i < M.2.2.1) (hok : okAt L i = true) (r : RQ G M d (pc + 2) (L.set i (some (.int x))) S h P) : RQ G M d pc L (.int x :: S) h P :=
  RQ.one (fun p e Rm s m args below meth c H locs cells slots ls Q hC hz hcs hss h0 hW hS hl k => lv_istore hC.1 hC.2.1 hd hl.has hn rfl (fun ls2 h2 => k ls2 (hl.store1 (v := .int x) rfl hn hok h2))) r
theorem q_lload_n {k : Fin 4} {i : Nat} {x : Int64} (hd : decode M.2.1 pc = .ok (.lload_n k, 1)) (hi : (k : Nat) = i) (hL : L[i]? = some (some (.long x))) (r : RQ G M d (pc + 1) L (.long x :: S) h P) : RQ G M d pc L S h P :=
  RQ.one (fun p e Rm s m args below meth c H locs cells slots ls Q hC hz hcs hss h0 hW hS hl k => lv_lload_n hC.1 hC.2.1 hd hi (hl.2.2.2 _ _ hL) (k ls hl)) r
theorem q_lload {i : Nat} {x : Int64} (hd : decode M.2.1 pc = .ok (.lload i, 2)) (hL : L[i]? = some (some (.long x))) (r : RQ G M d (pc + 2) L (.long x :: S) h P) : RQ G M d pc L S h P :=
  RQ.one (fun p e Rm s m args below meth c H locs cells slots ls Q hC hz hcs hss h0 hW hS hl k => lv_lload hC.1 hC.2.1 hd (hl.2.2.2 _ _ hL) (k ls hl)) r
theorem q_lstore_n {k : Fin 4} {i : Nat} {x : Int64} (hd : decode M.2.1 pc = .ok (.lstore_n k, 1)) (hi : (k : Nat) = i) (hn : i + 1 < M.2.2.1) (hok : okAt L i = true) (r : RQ G M d (pc + 1) ((L.set i (some (.long x))).set (i + 1) none) S h P) : RQ G M d pc L (.long x :: S) h P :=
  RQ.one (fun p e Rm s m args below meth c H locs cells slots ls Q hC hz hcs hss h0 hW hS hl k => lv_lstore_n hC.1 hC.2.1 hd hi hl.has hn rfl (fun ls2 h2 => k ls2 (hl.store2 (v := .long x) rfl hn hok h2))) r
theorem q_lstore {i : Nat} {x : Int64} (hd : decode M.2.1 pc = .ok (.lstore i, 2)) (hn : i + 1 < M.2.2.1) (hok : okAt L i = true) (r : RQ G M d (pc + 2) ((L.set i (some (.long x))).set (i + 1) none) S h P) : RQ G M d pc L (.long x :: S) h P :=
  RQ.one (fun p e Rm s m args below meth c H locs cells slots ls Q hC hz hcs hss h0 hW hS hl k => lv_lstore hC.1 hC.2.1 hd hl.has hn rfl (fun ls2 h2 => k ls2 (hl.store2 (v := .long x) rfl hn hok h2))) r
theorem q_dload_n {k : Fin 4} {i : Nat} {x : UInt64} (hd : decode M.2.1 pc = .ok (.dload_n k, 1)) (hi : (k : Nat) = i) (hL : L[i]? = some (some (.double x))) (r : RQ G M d (pc + 1) L (.double x :: S) h P) : RQ G M d pc L S h P :=
  RQ.one (fun p e Rm s m args below meth c H locs cells slots ls Q hC hz hcs hss h0 hW hS hl k => lv_dload_n hC.1 hC.2.1 hd hi (hl.2.2.2 _ _ hL) (k ls hl)) r
theorem q_dload {i : Nat} {x : UInt64} (hd : decode M.2.1 pc = .ok (.dload i, 2)) (hL : L[i]? = some (some (.double x))) (r : RQ G M d (pc + 2) L (.double x :: S) h P) : RQ G M d pc L S h P :=
  RQ.one (fun p e Rm s m args below meth c H locs cells slots ls Q hC hz hcs hss h0 hW hS hl k => lv_dload hC.1 hC.2.1 hd (hl.2.2.2 _ _ hL) (k ls hl)) r
theorem q_dstore_n {k : Fin 4} {i : Nat} {x : UInt64} (hd : decode M.2.1 pc = .ok (.dstore_n k, 1)) (hi : (k : Nat) = i) (hn : i + 1 < M.2.2.1) (hok : okAt L i = true) (r : RQ G M d (pc + 1) ((L.set i (some (.double x))).set (i + 1) none) S h P) : RQ G M d pc L (.double x :: S) h P :=
  RQ.one (fun p e Rm s m args below meth c H locs cells slots ls Q hC hz hcs hss h0 hW hS hl k => lv_dstore_n hC.1 hC.2.1 hd hi hl.has hn rfl (fun ls2 h2 => k ls2 (hl.store2 (v := .double x) rfl hn hok h2))) r
theorem q_dstore {i : Nat} {x : UInt64} (hd : decode M.2.1 pc = .ok (.dstore i, 2)) (hn : i + 1 < M.2.2.1) (hok : okAt L i = true) (r : RQ G M d (pc + 2) ((L.set i (some (.double x))).set (i + 1) none) S h P) : RQ G M d pc L (.double x :: S) h P :=
  RQ.one (fun p e Rm s m args below meth c H locs cells slots ls Q hC hz hcs hss h0 hW hS hl k => lv_dstore hC.1 hC.2.1 hd hl.has hn rfl (fun ls2 h2 => k ls2 (hl.store2 (v := .double x) rfl hn hok h2))) r
theorem q_aload_n {k : Fin 4} {i : Nat} {r0 : Option Nat} (hd : decode M.2.1 pc = .ok (.aload_n k, 1)) (hi : (k : Nat) = i) (hL : L[i]? = some (some (va_rf r0))) (r : RQ G M d (pc + 1) L (va_rf r0 :: S) h P) : RQ G M d pc L S h P := by
  cases r0 with
  | none => exact RQ.one (fun p e Rm s m args below meth c H locs cells slots ls Q hC hz hcs hss h0 hW hS hl k => lv_aload_nN hC.1 hC.2.1 hd hi (hl.2.2.2 _ _ hL) (k ls hl)) r
  | some x => exact RQ.one (fun p e Rm s m args below meth c H locs cells slots ls Q hC hz hcs hss h0 hW hS hl k => lv_aload_n hC.1 hC.2.1 hd hi (hl.2.2.2 _ _ hL) (k ls hl)) r
theorem q_aload {i : Nat} {r0 : Option Nat} (hd : decode M.2.1 pc = .ok (.aload i, 2)) (hL : L[i]? = some (some (va_rf r0))) (r : RQ G M d (pc + 2) L (va_rf r0 :: S) h P) : RQ G M d pc L S h P := by
  cases r0 with
  | none => exact RQ.one (fun p e Rm s m args below meth c H locs cells slots ls Q hC hz hcs hss h0 hW hS hl k => lv_aloadN hC.1 hC.2.1 hd (hl.2.2.2 _ _ hL) (k ls hl)) r
  | some x => exact RQ.one (fun p e Rm s m args below meth c H locs cells slots ls Q hC hz hcs hss h0 hW hS hl k => lv_aload hC.1 hC.2.1 hd (hl.2.2.2 _ _ hL) (k ls hl)) r
theorem q_astore_n {k : Fin 4} {i : Nat} {r0 : Option Nat} (hd : decode M.2.1 pc = .ok (.astore_n k, 1)) (hi : (k : Nat) = i) (hn : i < M.2.2.1) (hok : okAt L i = true) (r : RQ G M d (pc + 1) (L.set i (some (va_rf r0))) S h P) : RQ G M d pc L (va_rf r0 :: S) h P := by
  cases r0 with
  | none => exact RQ.one (fun p e Rm s m args below meth c H locs cells slots ls Q hC hz hcs hss h0 hW hS hl k => lv_astore_nN hC.1 hC.2.1 hd hi hl.has hn rfl (fun ls2 h2 => k ls2 (hl.store1 (v := .null) rfl hn hok h2))) r
  | some x => exact RQ.one (fun p e Rm s m args below meth c H locs cells slots ls Q hC hz hcs hss h0 hW hS hl k => lv_astore_n hC.1 hC.2.1 hd hi hl.has hn rfl (fun ls2 h2 => k ls2 (hl.store1 (v := .ref x) rfl hn hok h2))) r
theorem q_astore {i : Nat} {r0 : Option Nat} (hd : decode M.2.1 pc = .ok (.astore i, 2)) (hn : i < M.2.2.1) (hok : okAt L i = true) (r : RQ G M d (pc + 2) (L.set i (some (va_rf r0))) S h P) : RQ G M d pc L (va_rf r0 :: S) h P := by
  cases r0 with
  | none => exact RQ.one (fun p e Rm s m args below meth c H locs cells slots ls Q hC hz hcs hss h0 hW hS hl k => lv_astoreN hC.1 hC.2.1 hd hl.has hn rfl (fun ls2 h2 => k ls2 (hl.store1 (v := .null) rfl hn hok h2))) r
  | some x => exact RQ.one (fun p e Rm s m args below meth c H locs cells slots ls Q hC hz hcs hss h0 hW hS hl k => lv_astore hC.1 hC.2.1 hd hl.has hn rfl (fun ls2 h2 => k ls2 (hl.store1 (v := .ref x) rfl hn hok h2))) r
theorem q_iinc {i : Nat} {n : Int} {x v : Int32} (hd : decode M.2.1 pc = .ok (.iinc i n, 3)) (hL : L[i]? = some (some (.int x))) (hv : x + Int32.ofInt n = v) (hn : i < M.2.2.1) (hok : okAt L i = true) (r : RQ G M d (pc + 3) (L.set i (some (.int v))) S h P) : RQ G M d pc L S h P :=
  RQ.one (fun p e Rm s m args below meth c H locs cells slots ls Q hC hz hcs hss h0 hW hS hl k => by
    obtain ⟨kk, hkk⟩ := List.getElem?_of_mem (lvL_mem (G := G) (q := (i, .int x)).mpr ⟨.int x, hL, rfl⟩)
    exact lv_iinc hC.1 hC.2.1 hd hl.has hkk hv hn rfl (fun ls2 h2 => k ls2 (hl.store1 (v := .int v) rfl hn hok h2))) r
theorem q_iadd {x y : Int32} (hd : decode M.2.1 pc = .ok (.iadd, 1))  (r : RQ G M d (pc + 1) L (.int (x + y) :: S) h P) : RQ G M d pc L (.int y :: .int x :: S) h P :=
  RQ.one (fun p e Rm s m args below meth c H locs cells slots ls Q hC hz hcs hss h0 hW hS hl k => lv_iadd hC.1 hC.2.1 hd  (k ls hl)) r
theorem q_isub {x y : Int32} (hd : decode M.2.1 pc = .ok (.isub, 1))  (r : RQ G M d (pc + 1) L (.int (x - y) :: S) h P) : RQ G M d pc L (.int y :: .int x :: S) h P :=
  RQ.one (fun p e Rm s m args below meth c H locs cells slots ls Q hC hz hcs hss h0 hW hS hl k => lv_isub hC.1 hC.2.1 hd  (k ls hl)) r
theorem q_imul {x y : Int32} (hd : decode M.2.1 pc = .ok (.imul, 1))  (r : RQ G M d (pc + 1) L (.int (x * y) :: S) h P) : RQ G M d pc L (.int y :: .int x :: S) h P :=
  RQ.one (fun p e Rm s m args below meth c H locs cells slots ls Q hC hz hcs hss h0 hW hS hl k => lv_imul hC.1 hC.2.1 hd  (k ls hl)) r
theorem q_iand {x y : Int32} (hd : decode M.2.1 pc = .ok (.iand, 1))  (r : RQ G M d (pc + 1) L (.int (x &&& y) :: S) h P) : RQ G M d pc L (.int y :: .int x :: S) h P :=
  RQ.one (fun p e Rm s m args below meth c H locs cells slots ls Q hC hz hcs hss h0 hW hS hl k => lv_iand hC.1 hC.2.1 hd  (k ls hl)) r
theorem q_ior {x y : Int32} (hd : decode M.2.1 pc = .ok (.ior, 1))  (r : RQ G M d (pc + 1) L (.int (x ||| y) :: S) h P) : RQ G M d pc L (.int y :: .int x :: S) h P :=
  RQ.one (fun p e Rm s m args below meth c H locs cells slots ls Q hC hz hcs hss h0 hW hS hl k => lv_ior hC.1 hC.2.1 hd  (k ls hl)) r
theorem q_ishr {x y : Int32} (hd : decode M.2.1 pc = .ok (.ishr, 1))  (r : RQ G M d (pc + 1) L (.int (x >>> (y &&& 31)) :: S) h P) : RQ G M d pc L (.int y :: .int x :: S) h P :=
  RQ.one (fun p e Rm s m args below meth c H locs cells slots ls Q hC hz hcs hss h0 hW hS hl k => lv_ishr hC.1 hC.2.1 hd  (k ls hl)) r
theorem q_idiv {x y : Int32} (hd : decode M.2.1 pc = .ok (.idiv, 1)) (hne : ¬ y = 0) (r : RQ G M d (pc + 1) L (.int (x / y) :: S) h P) : RQ G M d pc L (.int y :: .int x :: S) h P :=
  RQ.one (fun p e Rm s m args below meth c H locs cells slots ls Q hC hz hcs hss h0 hW hS hl k => lv_idiv hC.1 hC.2.1 hd hne (k ls hl)) r
theorem q_irem {x y : Int32} (hd : decode M.2.1 pc = .ok (.irem, 1)) (hne : ¬ y = 0) (r : RQ G M d (pc + 1) L (.int (x - x / y * y) :: S) h P) : RQ G M d pc L (.int y :: .int x :: S) h P :=
  RQ.one (fun p e Rm s m args below meth c H locs cells slots ls Q hC hz hcs hss h0 hW hS hl k => lv_irem hC.1 hC.2.1 hd hne (k ls hl)) r
theorem q_ladd {x y : Int64} (hd : decode M.2.1 pc = .ok (.ladd, 1))  (r : RQ G M d (pc + 1) L (.long (x + y) :: S) h P) : RQ G M d pc L (.long y :: .long x :: S) h P :=
  RQ.one (fun p e Rm s m args below meth c H locs cells slots ls Q hC hz hcs hss h0 hW hS hl k => lv_ladd hC.1 hC.2.1 hd  (k ls hl)) r
theorem q_lsub {x y : Int64} (hd : decode M.2.1 pc = .ok (.lsub, 1))  (r : RQ G M d (pc + 1) L (.long (x - y) :: S) h P) : RQ G M d pc L (.long y :: .long x :: S) h P :=
  RQ.one (fun p e Rm s m args below meth c H locs cells slots ls Q hC hz hcs hss h0 hW hS hl k => lv_lsub hC.1 hC.2.1 hd  (k ls hl)) r
theorem q_lmul {x y : Int64} (hd : decode M.2.1 pc = .ok (.lmul, 1))  (r : RQ G M d (pc + 1) L (.long (x * y) :: S) h P) : RQ G M d pc L (.long y :: .long x :: S) h P :=
  RQ.one (fun p e Rm s m args below meth c H locs cells slots ls Q hC hz hcs hss h0 hW hS hl k => lv_lmul hC.1 hC.2.1 hd  (k ls hl)) r
theorem q_i2l {x : Int32} (hd : decode M.2.1 pc = .ok (.i2l, 1)) (r : RQ G M d (pc + 1) L (.long x.toInt64 :: S) h P) : RQ G M d pc L (.int x :: S) h P := RQ.one (fun p e Rm s m args below meth c H locs cells slots ls Q hC hz hcs hss h0 hW hS hl k => lv_i2l hC.1 hC.2.1 hd rfl (k ls hl)) r
theorem q_l2i {x : Int64} (hd : decode M.2.1 pc = .ok (.l2i, 1)) (r : RQ G M d (pc + 1) L (.int x.toInt32 :: S) h P) : RQ G M d pc L (.long x :: S) h P := RQ.one (fun p e Rm s m args below meth c H locs cells slots ls Q hC hz hcs hss h0 hW hS hl k => lv_l2i hC.1 hC.2.1 hd rfl (k ls hl)) r
theorem q_i2b {x : Int32} (hd : decode M.2.1 pc = .ok (.i2b, 1)) (r : RQ G M d (pc + 1) L (.int x.toInt8.toInt32 :: S) h P) : RQ G M d pc L (.int x :: S) h P := RQ.one (fun p e Rm s m args below meth c H locs cells slots ls Q hC hz hcs hss h0 hW hS hl k => lv_i2b hC.1 hC.2.1 hd rfl (k ls hl)) r
theorem q_lcmp {x y : Int64} (hd : decode M.2.1 pc = .ok (.lcmp, 1)) (r : RQ G M d (pc + 1) L (.int (lg_cmp x y) :: S) h P) : RQ G M d pc L (.long y :: .long x :: S) h P := RQ.one (fun p e Rm s m args below meth c H locs cells slots ls Q hC hz hcs hss h0 hW hS hl k => W.lcmp hC.1 hC.2.1 hd (k ls hl)) r
theorem q_dup {v : Value} (hd : decode M.2.1 pc = .ok (.dup, 1)) (hv : ok1 (some v) = true) (r : RQ G M d (pc + 1) L (v :: v :: S) h P) : RQ G M d pc L (v :: S) h P := RQ.one (fun p e Rm s m args below meth c H locs cells slots ls Q hC hz hcs hss h0 hW hS hl k => lv_dup hC.1 hC.2.1 hd ((cv_cat G v).trans (ok1_cat hv)) (k ls hl)) r
theorem q_pop {v : Value} (hd : decode M.2.1 pc = .ok (.pop, 1)) (hv : ok1 (some v) = true) (r : RQ G M d (pc + 1) L S h P) : RQ G M d pc L (v :: S) h P := RQ.one (fun p e Rm s m args below meth c H locs cells slots ls Q hC hz hcs hss h0 hW hS hl k => lv_pop hC.1 hC.2.1 hd ((cv_cat G v).trans (ok1_cat hv)) (k ls hl)) r
theorem q_dup2 {v w : Value} (hd : decode M.2.1 pc = .ok (.dup2, 1)) (hv : ok1 (some v) = true) (hw : ok1 (some w) = true) (r : RQ G M d (pc + 1) L (v :: w :: v :: w :: S) h P) : RQ G M d pc L (v :: w :: S) h P := RQ.one (fun p e Rm s m args below meth c H locs cells slots ls Q hC hz hcs hss h0 hW hS hl k => lv_dup2_11 hC.1 hC.2.1 hd ((cv_cat G v).trans (ok1_cat hv)) ((cv_cat G w).trans (ok1_cat hw)) (k ls hl)) r
theorem q_i2d {x : Int32} (hd : decode M.2.1 pc = .ok (.i2d, 1)) (r : RQ G M d (pc + 1) L (.double (FP.i2d x) :: S) h P) : RQ G M d pc L (.int x :: S) h P := RQ.one (fun p e Rm s m args below meth c H locs cells slots ls Q hC hz hcs hss h0 hW hS hl k => lv_i2d hC.1 hC.2.1 hd (k ls hl)) r
theorem q_ddiv {x y : UInt64} (hd : decode M.2.1 pc = .ok (.ddiv, 1)) (hne : vf_n64 (FP.ddiv x y)) (r : RQ G M d (pc + 1) L (.double (FP.ddiv x y) :: S) h P) : RQ G M d pc L (.double y :: .double x :: S) h P := RQ.one (fun p e Rm s m args below meth c H locs cells slots ls Q hC hz hcs hss h0 hW hS hl k => lv_ddiv hC.1 hC.2.1 hd hne (k ls hl)) r
theorem q_dcmp {x y : UInt64} {op : CmpOp} (hd : decode M.2.1 pc = .ok (.dcmp op, 1)) (r : RQ G M d (pc + 1) L (.int (Op.cmpValue (FP.dcmp x y) op) :: S) h P) : RQ G M d pc L (.double y :: .double x :: S) h P := RQ.one (fun p e Rm s m args below meth c H locs cells slots ls Q hC hz hcs hss h0 hW hS hl k => lv_dcmp hC.1 hC.2.1 hd (k ls hl)) r
theorem q_goto {off : Int} {tgt : Nat} (hd : decode M.2.1 pc = .ok (.goto off, 3)) (ht : (pc : Int) + off = (tgt : Int)) (r : RQ G M d tgt L S h P) : RQ G M d pc L S h P := RQ.one (fun p e Rm s m args below meth c H locs cells slots ls Q hC hz hcs hss h0 hW hS hl k => lv_goto hC.1 hC.2.1 hd ht (k ls hl)) r
theorem q_if_eq {x : Int32} {off : Int} {tgt : Nat} (hd : decode M.2.1 pc = .ok (.ifCond .eq off, 3)) (ht : (pc : Int) + off = (tgt : Int)) (kt : x = 0 → RQ G M d tgt L S h P) (kf : ¬ x = 0 → RQ G M d (pc + 3) L S h P) : RQ G M d pc L (.int x :: S) h P := by
  by_cases hc : x = 0
  · exact RQ.one (fun p e Rm s m args below meth c H locs cells slots ls Q hC hz hcs hss h0 hW hS hl k => lv_if_eq hC.1 hC.2.1 hd ht (fun _ => k ls hl) (fun hf => absurd hc (by first | exact hf | exact fun z => z hf))) (kt hc)
  · have hc2 : ¬ x = 0 := by first | exact hc | exact Classical.not_not.mp hc
    exact RQ.one (fun p e Rm s m args below meth c H locs cells slots ls Q hC hz hcs hss h0 hW hS hl k => lv_if_eq hC.1 hC.2.1 hd ht (fun hf => absurd hf hc) (fun _ => k ls hl)) (kf hc2)
theorem q_icmp_eq {x y : Int32} {off : Int} {tgt : Nat} (hd : decode M.2.1 pc = .ok (.if_icmp .eq off, 3)) (ht : (pc : Int) + off = (tgt : Int)) (kt : x = y → RQ G M d tgt L S h P) (kf : ¬ x = y → RQ G M d (pc + 3) L S h P) : RQ G M d pc L (.int y :: .int x :: S) h P := by
  by_cases hc : x = y
  · exact RQ.one (fun p e Rm s m args below meth c H locs cells slots ls Q hC hz hcs hss h0 hW hS hl k => lv_icmp_eq hC.1 hC.2.1 hd ht (fun _ => k ls hl) (fun hf => absurd hc (by first | exact hf | exact fun z => z hf))) (kt hc)
  · have hc2 : ¬ x = y := by first | exact hc | exact Classical.not_not.mp hc
    exact RQ.one (fun p e Rm s m args below meth c H locs cells slots ls Q hC hz hcs hss h0 hW hS hl k => lv_icmp_eq hC.1 hC.2.1 hd ht (fun hf => absurd hf hc) (fun _ => k ls hl)) (kf hc2)
theorem q_if_ne {x : Int32} {off : Int} {tgt : Nat} (hd : decode M.2.1 pc = .ok (.ifCond .ne off, 3)) (ht : (pc : Int) + off = (tgt : Int)) (kt : ¬ x = 0 → RQ G M d tgt L S h P) (kf : x = 0 → RQ G M d (pc + 3) L S h P) : RQ G M d pc L (.int x :: S) h P := by
  by_cases hc : ¬ x = 0
  · exact RQ.one (fun p e Rm s m args below meth c H locs cells slots ls Q hC hz hcs hss h0 hW hS hl k => lv_if_ne hC.1 hC.2.1 hd ht (fun _ => k ls hl) (fun hf => absurd hc (by first | exact hf | exact fun z => z hf))) (kt hc)
  · have hc2 : x = 0 := by first | exact hc | exact Classical.not_not.mp hc
    exact RQ.one (fun p e Rm s m args below meth c H locs cells slots ls Q hC hz hcs hss h0 hW hS hl k => lv_if_ne hC.1 hC.2.1 hd ht (fun hf => absurd hf hc) (fun _ => k ls hl)) (kf hc2)
theorem q_icmp_ne {x y : Int32} {off : Int} {tgt : Nat} (hd : decode M.2.1 pc = .ok (.if_icmp .ne off, 3)) (ht : (pc : Int) + off = (tgt : Int)) (kt : ¬ x = y → RQ G M d tgt L S h P) (kf : x = y → RQ G M d (pc + 3) L S h P) : RQ G M d pc L (.int y :: .int x :: S) h P := by
  by_cases hc : ¬ x = y
  · exact RQ.one (fun p e Rm s m args below meth c H locs cells slots ls Q hC hz hcs hss h0 hW hS hl k => lv_icmp_ne hC.1 hC.2.1 hd ht (fun _ => k ls hl) (fun hf => absurd hc (by first | exact hf | exact fun z => z hf))) (kt hc)
  · have hc2 : x = y := by first | exact hc | exact Classical.not_not.mp hc
    exact RQ.one (fun p e Rm s m args below meth c H locs cells slots ls Q hC hz hcs hss h0 hW hS hl k => lv_icmp_ne hC.1 hC.2.1 hd ht (fun hf => absurd hf hc) (fun _ => k ls hl)) (kf hc2)
theorem q_if_lt {x : Int32} {off : Int} {tgt : Nat} (hd : decode M.2.1 pc = .ok (.ifCond .lt off, 3)) (ht : (pc : Int) + off = (tgt : Int)) (kt : x < 0 → RQ G M d tgt L S h P) (kf : ¬ x < 0 → RQ G M d (pc + 3) L S h P) : RQ G M d pc L (.int x :: S) h P := by
  by_cases hc : x < 0
  · exact RQ.one (fun p e Rm s m args below meth c H locs cells slots ls Q hC hz hcs hss h0 hW hS hl k => lv_if_lt hC.1 hC.2.1 hd ht (fun _ => k ls hl) (fun hf => absurd hc (by first | exact hf | exact fun z => z hf))) (kt hc)
  · have hc2 : ¬ x < 0 := by first | exact hc | exact Classical.not_not.mp hc
    exact RQ.one (fun p e Rm s m args below meth c H locs cells slots ls Q hC hz hcs hss h0 hW hS hl k => lv_if_lt hC.1 hC.2.1 hd ht (fun hf => absurd hf hc) (fun _ => k ls hl)) (kf hc2)
theorem q_icmp_lt {x y : Int32} {off : Int} {tgt : Nat} (hd : decode M.2.1 pc = .ok (.if_icmp .lt off, 3)) (ht : (pc : Int) + off = (tgt : Int)) (kt : x < y → RQ G M d tgt L S h P) (kf : ¬ x < y → RQ G M d (pc + 3) L S h P) : RQ G M d pc L (.int y :: .int x :: S) h P := by
  by_cases hc : x < y
  · exact RQ.one (fun p e Rm s m args below meth c H locs cells slots ls Q hC hz hcs hss h0 hW hS hl k => lv_icmp_lt hC.1 hC.2.1 hd ht (fun _ => k ls hl) (fun hf => absurd hc (by first | exact hf | exact fun z => z hf))) (kt hc)
  · have hc2 : ¬ x < y := by first | exact hc | exact Classical.not_not.mp hc
    exact RQ.one (fun p e Rm s m args below meth c H locs cells slots ls Q hC hz hcs hss h0 hW hS hl k => lv_icmp_lt hC.1 hC.2.1 hd ht (fun hf => absurd hf hc) (fun _ => k ls hl)) (kf hc2)
theorem q_if_ge {x : Int32} {off : Int} {tgt : Nat} (hd : decode M.2.1 pc = .ok (.ifCond .ge off, 3)) (ht : (pc : Int) + off = (tgt : Int)) (kt : 0 ≤ x → RQ G M d tgt L S h P) (kf : ¬ 0 ≤ x → RQ G M d (pc + 3) L S h P) : RQ G M d pc L (.int x :: S) h P := by
  by_cases hc : 0 ≤ x
  · exact RQ.one (fun p e Rm s m args below meth c H locs cells slots ls Q hC hz hcs hss h0 hW hS hl k => lv_if_ge hC.1 hC.2.1 hd ht (fun _ => k ls hl) (fun hf => absurd hc (by first | exact hf | exact fun z => z hf))) (kt hc)
  · have hc2 : ¬ 0 ≤ x := by first | exact hc | exact Classical.not_not.mp hc
    exact RQ.one (fun p e Rm s m args below meth c H locs cells slots ls Q hC hz hcs hss h0 hW hS hl k => lv_if_ge hC.1 hC.2.1 hd ht (fun hf => absurd hf hc) (fun _ => k ls hl)) (kf hc2)
theorem q_icmp_ge {x y : Int32} {off : Int} {tgt : Nat} (hd : decode M.2.1 pc = .ok (.if_icmp .ge off, 3)) (ht : (pc : Int) + off = (tgt : Int)) (kt : y ≤ x → RQ G M d tgt L S h P) (kf : ¬ y ≤ x → RQ G M d (pc + 3) L S h P) : RQ G M d pc L (.int y :: .int x :: S) h P := by
  by_cases hc : y ≤ x
  · exact RQ.one (fun p e Rm s m args below meth c H locs cells slots ls Q hC hz hcs hss h0 hW hS hl k => lv_icmp_ge hC.1 hC.2.1 hd ht (fun _ => k ls hl) (fun hf => absurd hc (by first | exact hf | exact fun z => z hf))) (kt hc)
  · have hc2 : ¬ y ≤ x := by first | exact hc | exact Classical.not_not.mp hc
    exact RQ.one (fun p e Rm s m args below meth c H locs cells slots ls Q hC hz hcs hss h0 hW hS hl k => lv_icmp_ge hC.1 hC.2.1 hd ht (fun hf => absurd hf hc) (fun _ => k ls hl)) (kf hc2)
theorem q_if_gt {x : Int32} {off : Int} {tgt : Nat} (hd : decode M.2.1 pc = .ok (.ifCond .gt off, 3)) (ht : (pc : Int) + off = (tgt : Int)) (kt : 0 < x → RQ G M d tgt L S h P) (kf : ¬ 0 < x → RQ G M d (pc + 3) L S h P) : RQ G M d pc L (.int x :: S) h P := by
  by_cases hc : 0 < x
  · exact RQ.one (fun p e Rm s m args below meth c H locs cells slots ls Q hC hz hcs hss h0 hW hS hl k => lv_if_gt hC.1 hC.2.1 hd ht (fun _ => k ls hl) (fun hf => absurd hc (by first | exact hf | exact fun z => z hf))) (kt hc)
  · have hc2 : ¬ 0 < x := by first | exact hc | exact Classical.not_not.mp hc
    exact RQ.one (fun p e Rm s m args below meth c H locs cells slots ls Q hC hz hcs hss h0 hW hS hl k => lv_if_gt hC.1 hC.2.1 hd ht (fun hf => absurd hf hc) (fun _ => k ls hl)) (kf hc2)
theorem q_icmp_gt {x y : Int32} {off : Int} {tgt : Nat} (hd : decode M.2.1 pc = .ok (.if_icmp .gt off, 3)) (ht : (pc : Int) + off = (tgt : Int)) (kt : y < x → RQ G M d tgt L S h P) (kf : ¬ y < x → RQ G M d (pc + 3) L S h P) : RQ G M d pc L (.int y :: .int x :: S) h P := by
  by_cases hc : y < x
  · exact RQ.one (fun p e Rm s m args below meth c H locs cells slots ls Q hC hz hcs hss h0 hW hS hl k => lv_icmp_gt hC.1 hC.2.1 hd ht (fun _ => k ls hl) (fun hf => absurd hc (by first | exact hf | exact fun z => z hf))) (kt hc)
  · have hc2 : ¬ y < x := by first | exact hc | exact Classical.not_not.mp hc
    exact RQ.one (fun p e Rm s m args below meth c H locs cells slots ls Q hC hz hcs hss h0 hW hS hl k => lv_icmp_gt hC.1 hC.2.1 hd ht (fun hf => absurd hf hc) (fun _ => k ls hl)) (kf hc2)
theorem q_if_le {x : Int32} {off : Int} {tgt : Nat} (hd : decode M.2.1 pc = .ok (.ifCond .le off, 3)) (ht : (pc : Int) + off = (tgt : Int)) (kt : x ≤ 0 → RQ G M d tgt L S h P) (kf : ¬ x ≤ 0 → RQ G M d (pc + 3) L S h P) : RQ G M d pc L (.int x :: S) h P := by
  by_cases hc : x ≤ 0
  · exact RQ.one (fun p e Rm s m args below meth c H locs cells slots ls Q hC hz hcs hss h0 hW hS hl k => lv_if_le hC.1 hC.2.1 hd ht (fun _ => k ls hl) (fun hf => absurd hc (by first | exact hf | exact fun z => z hf))) (kt hc)
  · have hc2 : ¬ x ≤ 0 := by first | exact hc | exact Classical.not_not.mp hc
    exact RQ.one (fun p e Rm s m args below meth c H locs cells slots ls Q hC hz hcs hss h0 hW hS hl k => lv_if_le hC.1 hC.2.1 hd ht (fun hf => absurd hf hc) (fun _ => k ls hl)) (kf hc2)
theorem q_icmp_le {x y : Int32} {off : Int} {tgt : Nat} (hd : decode M.2.1 pc = .ok (.if_icmp .le off, 3)) (ht : (pc : Int) + off = (tgt : Int)) (kt : x ≤ y → RQ G M d tgt L S h P) (kf : ¬ x ≤ y → RQ G M d (pc + 3) L S h P) : RQ G M d pc L (.int y :: .int x :: S) h P := by
  by_cases hc : x ≤ y
  · exact RQ.one (fun p e Rm s m args below meth c H locs cells slots ls Q hC hz hcs hss h0 hW hS hl k => lv_icmp_le hC.1 hC.2.1 hd ht (fun _ => k ls hl) (fun hf => absurd hc (by first | exact hf | exact fun z => z hf))) (kt hc)
  · have hc2 : ¬ x ≤ y := by first | exact hc | exact Classical.not_not.mp hc
    exact RQ.one (fun p e Rm s m args below meth c H locs cells slots ls Q hC hz hcs hss h0 hW hS hl k => lv_icmp_le hC.1 hC.2.1 hd ht (fun hf => absurd hf hc) (fun _ => k ls hl)) (kf hc2)
theorem q_ifnonnull {r0 : Option Nat} {off : Int} {tgt : Nat} (hd : decode M.2.1 pc = .ok (.ifnonnull off, 3)) (ht : (pc : Int) + off = (tgt : Int)) (kt : r0 ≠ none → RQ G M d tgt L S h P) (kf : r0 = none → RQ G M d (pc + 3) L S h P) : RQ G M d pc L (va_rf r0 :: S) h P := by
  cases r0 with
  | none => exact RQ.one (fun p e Rm s m args below meth c H locs cells slots ls Q hC hz hcs hss h0 hW hS hl k => lv_ifnonnullN hC.1 hC.2.1 hd (k ls hl)) (kf rfl)
  | some x => exact RQ.one (fun p e Rm s m args below meth c H locs cells slots ls Q hC hz hcs hss h0 hW hS hl k => lv_ifnonnull hC.1 hC.2.1 hd ht (k ls hl)) (kt (fun z => nomatch z))
theorem q_lookup {dflt : Int} {ps : Array (Int × Int)} {len : Nat} {x : Int32} {off : Int} {tgt : Nat} (hd : decode M.2.1 pc = .ok (.lookupswitch dflt ps, len)) (hp : (ps.toList.zip (ps.toList.drop 1)).all (fun (a, next) => a.1 < next.1) = true) (ho : Op.lookupswitch.offset ps.toList dflt x.toInt = off) (ht : (pc : Int) + off = (tgt : Int)) (r : RQ G M d tgt L S h P) : RQ G M d pc L (.int x :: S) h P := RQ.one (fun p e Rm s m args below meth c H locs cells slots ls Q hC hz hcs hss h0 hW hS hl k => lv_lookup hC.1 hC.2.1 hd hp ho ht (k ls hl)) r
theorem q_tableOut {dflt lo hi : Int} {offs : Array Int} {len : Nat} {x : Int32} {tgt : Nat} (hd : decode M.2.1 pc = .ok (.tableswitch dflt lo hi offs, len)) (hx : x.toInt < lo ∨ hi < x.toInt) (ht : (pc : Int) + dflt = (tgt : Int)) (r : RQ G M d tgt L S h P) : RQ G M d pc L (.int x :: S) h P := RQ.one (fun p e Rm s m args below meth c H locs cells slots ls Q hC hz hcs hss h0 hW hS hl k => lv_tableOut hC.1 hC.2.1 hd hx ht (k ls hl)) r
theorem q_tableIn {dflt lo hi : Int} {offs : Array Int} {len : Nat} {x : Int32} {off : Int} {tgt : Nat} (hd : decode M.2.1 pc = .ok (.tableswitch dflt lo hi offs, len)) (h1 : ¬ x.toInt < lo) (h2 : ¬ hi < x.toInt) (ho : offs[(x.toInt - lo).toNat]? = some off) (ht : (pc : Int) + off = (tgt : Int)) (r : RQ G M d tgt L S h P) : RQ G M d pc L (.int x :: S) h P := RQ.one (fun p e Rm s m args below meth c H locs cells slots ls Q hC hz hcs hss h0 hW hS hl k => lv_tableIn hC.1 hC.2.1 hd h1 h2 ho ht (k ls hl)) r
theorem q_get {index ci i kf N : Nat} {C : String} {T : u_T} {vs : List Value} {v : Value} (hd : decode M.2.1 pc = .ok (.getfield index, 3)) (hc : CL[ci]? = some (C, T, N)) (hin : ∀ w ∈ u_ws C T N, w ∈ AW) (hk : kf < N) (hT : (T kf).1 = C) (hlink : Cond.fieldLink M.1.cls index C (T kf).2.1 (T kf).2.2.1 ∈ AW) (ha : At h i (.inr (ci, vs))) (hv : vs[kf]? = some v) (r : RQ G M d (pc + 3) L (v :: S) h P) : RQ G M d pc L (.ref i :: S) h P :=
  RQ.one (fun p e Rm s m args below meth c H locs cells slots ls Q hC hz hcs hss h0 hW hS hl k => va_get (D := gD G) (cl := CL) (ws := cw G h) (tys := TY G) hC.1 hC.2.1 hC.2.2.2.2.2.2.1 hin hC.2.2.2.2.2.1 hC.2.2.2.2.2.2.2.1.1 hW i (ha.cw h0) hc kf hk (hC.2.2.2.2.2.2.1 _ hlink) (fun _ hx => hT ▸ hx) (v := cv G v) (by rw [List.getElem?_map, hv]; rfl) hd (k ls hl)) r
theorem q_getN {index ci i kf N : Nat} {C host : String} {T : u_T} {vs : List Value} {v : Value} (hd : decode M.2.1 pc = .ok (.getfield index, 3)) (hc : CL[ci]? = some (C, T, N)) (hin : ∀ w ∈ u_ws C T N, w ∈ AW) (hk : kf < N) (hT : (T kf).1 = C) (hlink : Cond.fieldLinkNest M.1.cls index C (T kf).2.1 (T kf).2.2.1 host ∈ NW) (ha : At h i (.inr (ci, vs))) (hv : vs[kf]? = some v) (r : RQ G M d (pc + 3) L (v :: S) h P) : RQ G M d pc L (.ref i :: S) h P :=
  RQ.one (fun p e Rm s m args below meth c H locs cells slots ls Q hC hz hcs hss h0 hW hS hl k => va_getN (D := gD G) (cl := CL) (ws := cw G h) (tys := TY G) hC.1 hC.2.1 hC.2.2.2.2.2.2.1 hin hC.2.2.2.2.2.1 hC.2.2.2.2.2.2.2.1.1 hW i (ha.cw h0) hc kf hk (va_Nw.use rfl (hC.2.2.2.2.2.2.2.1.2.2.2.1 _ hlink)) (fun _ hx => hT ▸ hx) (v := cv G v) (by rw [List.getElem?_map, hv]; rfl) hd (k ls hl)) r
end OPS
