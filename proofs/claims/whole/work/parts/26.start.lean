/-! THE START: the world's ground out of what the Statement gives -/
theorem st_all {Ws : List Cond} {N : Nat} {f : Nat → Cond} (ps : List Nat) (h : (List.range N).map f = ps.filterMap (fun i => Ws[i]?)) : ∀ i, i < N → f i ∈ Ws := fun i hi => by
  have h1 : f i ∈ (List.range N).map f := List.mem_map.mpr ⟨i, List.mem_range.mpr hi, rfl⟩
  rw [h] at h1
  obtain ⟨j, -, hj⟩ := List.mem_filterMap.mp h1
  exact List.mem_of_getElem? hj
def FW : List Cond := flatC (Jvm.Cond.and given_1 narrow_1)
def KO : List Int32 := [0, 1, 2, 3, 4, 5, 6, 7, 8, 9, 10, 11, 12, 13, 14, 15, 16, 17, 18, 19, 20, 21, 22, 23, 24, 25, 26, 27, 28, 29, 30, 31, 32, 33, 34, 35, 36, 37, 38, 39, 40, 41, 42]
theorem KO_ne : ∀ i, i < 43 → ∀ j, j < 43 → i ≠ j → KO.getD i 0 ≠ KO.getD j 0 := by decide +kernel

theorem st_kl : ∀ i, i < 43 → Cond.laysStatic "CupboardPoll$Kind" (KN.getD i "") KD ∈ lw_tbl := st_all [572, 607, 617, 620, 631, 647, 649, 656, 666, 762, 764, 766, 770, 768, 772, 692, 750, 752, 702, 704, 732, 730, 734, 736, 208, 623, 625, 726, 728, 698, 700, 778, 641, 744, 746, 748, 740, 742, 738, 537, 539, 375, 541] (by decide +kernel)
theorem st_kx : ∀ i, i < 43 → Cond.exactly (.static "CupboardPoll$Kind" (KN.getD i "") KD) "CupboardPoll$Kind" ∈ FW := st_all [72, 75, 78, 81, 90, 96, 99, 102, 105, 165, 168, 171, 177, 174, 180, 108, 159, 162, 117, 120, 132, 129, 135, 138, 4, 84, 87, 123, 126, 111, 114, 183, 93, 150, 153, 156, 144, 147, 141, 63, 66, 7, 69] (by decide +kernel)
theorem st_ko : ∀ i, i < 43 → Cond.eq (.field (.static "CupboardPoll$Kind" (KN.getD i "") KD) "java/lang/Enum" "ordinal" "I") (.int (KO.getD i 0)) ∈ FW := st_all [73, 76, 79, 82, 91, 97, 100, 103, 106, 166, 169, 172, 178, 175, 181, 109, 160, 163, 118, 121, 133, 130, 136, 139, 5, 85, 88, 124, 127, 112, 115, 184, 94, 151, 154, 157, 145, 148, 142, 64, 67, 8, 70] (by decide +kernel)
theorem st_ne {args : Array Value} {s : State} {E n1 n2 d C : String} {i j : Int32} (e1 : (Cond.exactly (.static E n1 d) C).before args s = true) (e2 : (Cond.exactly (.static E n2 d) C).before args s = true) (f1 : (Cond.eq (.field (.static E n1 d) "java/lang/Enum" "ordinal" "I") (.int i)).before args s = true) (f2 : (Cond.eq (.field (.static E n2 d) "java/lang/Enum" "ordinal" "I") (.int j)).before args s = true) (hij : i ≠ j) : (Cond.not (.eq (.static E n1 d) (.static E n2 d))).before args s = true := by
  obtain ⟨a, c, cell, k, q1, -⟩ := Cond.exactly_spec e1
  obtain ⟨a2, c2, cell2, k2, r1, -⟩ := Cond.exactly_spec e2
  have h1 := va_eqt f1
  have h2 := va_eqt f2
  have hne : a ≠ a2 := by
    rintro rfl
    rw [va_fe q1] at h1
    rw [va_fe r1] at h2
    rw [h1] at h2
    injection h2 with h2
    injection h2 with h2
    exact hij h2
  simp [Cond.before, Cond.holds, Cond.value, q1, r1, hne]
theorem st_prim {args : Array Value} {s : State} {ty : FieldType} (hno : ∀ C, ty ≠ .object C) (h : (Cond.arrayClass ty).before args s = true) : ∃ cA : ClassId, ArrOfT s cA ty ∧ va_RA s cA ty := by
  obtain ⟨cA, kA, comp, h1, h2, h3⟩ := Cond.arrayClass_spec h
  refine ⟨cA, fun n z => ⟨fun k h => (by cases h), kA, h2, comp, h3⟩, ?_⟩
  cases ty with
  | object C => exact absurd rfl (hno C)
  | _ => exact h1
theorem st_obj {args : Array Value} {s : State} {C : String} (h : (Cond.arrayOver (.object C)).before args s = true) : ∃ cA : ClassId, ArrOfT s cA (.object C) ∧ va_RA s cA (.object C) := by
  obtain ⟨comp, cA, kA, h1, -, h2, h3, h4⟩ := Cond.arrayOver_spec h
  exact ⟨cA, fun n z => ⟨fun k h => (by cases h), kA, h2, comp, h3⟩, kA, comp, h2, h3, h1, h4⟩

set_option maxHeartbeats 4000000 in
set_option maxRecDepth 100000 in
theorem st_K {args : Array Value} {s : State} (hT : ∀ w ∈ lw_tbl, w.before args s = true) : ∃ (D : va_G) (A : Nat → ClassId), ∀ (l : Launch) (B : Nat) (f : Nat → Nat) (n : Nat) (xs : Nat → Int32), va_K D CL (TY (l, D.1, D.2, A, B, f, n, xs)) s := by
  have hA : ∀ w ∈ AW, w.before args s = true := fun w hw => hT w (List.mem_filter.mp hw).1
  obtain ⟨c0, i0, k0⟩ := u_known (N := 11) hA inA1 (hT _ (List.mem_of_getElem? (i := 189) (by decide +kernel) : Cond.instantiable RX1 11 ∈ lw_tbl))
  obtain ⟨c1, i1, k1⟩ := u_known (N := 3) hA inA2 (hT _ (List.mem_of_getElem? (i := 402) (by decide +kernel) : Cond.instantiable RX2 3 ∈ lw_tbl))
  obtain ⟨c2, i2, k2⟩ := u_known (N := 5) hA inA3 (hT _ (List.mem_of_getElem? (i := 195) (by decide +kernel) : Cond.instantiable RX3 5 ∈ lw_tbl))
  obtain ⟨c3, i3, k3⟩ := u_known (N := 10) hA inA4 (hT _ (List.mem_of_getElem? (i := 202) (by decide +kernel) : Cond.instantiable RX4 10 ∈ lw_tbl))
  obtain ⟨c4, i4, k4⟩ := u_known (N := 7) hA inA6 (hT _ (List.mem_of_getElem? (i := 160) (by decide +kernel) : Cond.instantiable RX6 7 ∈ lw_tbl))
  obtain ⟨c5, i5, k5⟩ := u_known (N := 8) hA inA7 (hT _ (List.mem_of_getElem? (i := 285) (by decide +kernel) : Cond.instantiable RX7 8 ∈ lw_tbl))
  obtain ⟨c6, i6, k6⟩ := u_known (N := 2) hA inA8 (hT _ (List.mem_of_getElem? (i := 144) (by decide +kernel) : Cond.instantiable RX8 2 ∈ lw_tbl))
  obtain ⟨c7, i7, k7⟩ := u_known (N := 4) hA inA9 (hT _ (List.mem_of_getElem? (i := 166) (by decide +kernel) : Cond.instantiable RX9 4 ∈ lw_tbl))
  obtain ⟨c8, i8, k8⟩ := u_known (N := 7) hA inA10 (hT _ (List.mem_of_getElem? (i := 136) (by decide +kernel) : Cond.instantiable RX10 7 ∈ lw_tbl))
  obtain ⟨c9, i9, k9⟩ := u_known (N := 24) hA inA11 (hT _ (List.mem_of_getElem? (i := 1314) (by decide +kernel) : Cond.instantiable RX11 24 ∈ lw_tbl))
  obtain ⟨c10, i10, k10⟩ := u_known (N := 25) hA inA12 (hT _ (List.mem_of_getElem? (i := 1308) (by decide +kernel) : Cond.instantiable RX12 25 ∈ lw_tbl))
  obtain ⟨c11, i11, k11⟩ := u_known (T := exT) (N := 0) hA (fun w hw => absurd hw List.not_mem_nil) (hT _ (List.mem_of_getElem? (i := 881) (by decide +kernel) : Cond.instantiable "java/lang/IndexOutOfBoundsException" 6 ∈ lw_tbl))
  obtain ⟨c12, i12, k12⟩ := u_known (T := exT) (N := 0) hA (fun w hw => absurd hw List.not_mem_nil) (hT _ (List.mem_of_getElem? (i := 1142) (by decide +kernel) : Cond.instantiable "java/lang/IllegalArgumentException" 6 ∈ lw_tbl))
  obtain ⟨c13, i13, k13⟩ := u_known (T := exT) (N := 0) hA (fun w hw => absurd hw List.not_mem_nil) (hT _ (List.mem_of_getElem? (i := 1115) (by decide +kernel) : Cond.instantiable "java/lang/IllegalStateException" 6 ∈ lw_tbl))
  obtain ⟨a0, ha0⟩ := st_prim (ty := .int) (fun C q => nomatch q) (hT _ (List.mem_of_getElem? (i := 186) (by decide +kernel) : Cond.arrayClass .int ∈ lw_tbl))
  obtain ⟨a1, ha1⟩ := st_prim (ty := .byte) (fun C q => nomatch q) (hT _ (List.mem_of_getElem? (i := 158) (by decide +kernel) : Cond.arrayClass .byte ∈ lw_tbl))
  obtain ⟨a2, ha2⟩ := st_prim (ty := .long) (fun C q => nomatch q) (hT _ (List.mem_of_getElem? (i := 187) (by decide +kernel) : Cond.arrayClass .long ∈ lw_tbl))
  obtain ⟨a3, ha3⟩ := st_obj (hT _ (List.mem_of_getElem? (i := 201) (by decide +kernel) : Cond.arrayOver (.object "CupboardPoll$Jar") ∈ lw_tbl))
  obtain ⟨a4, ha4⟩ := st_obj (hT _ (List.mem_of_getElem? (i := 172) (by decide +kernel) : Cond.arrayOver (.object "CupboardPoll$Kind") ∈ lw_tbl))
  refine ⟨(fun c => [c0, c1, c2, c3, c4, c5, c6, c7, c8, c9, c10, c11, c12, c13].getD c c0, fun c => [i0, i1, i2, i3, i4, i5, i6, i7, i8, i9, i10, i11, i12, i13].getD c i0), fun j => [a0, a1, a2, a3, a4].getD j a0, fun l B f n xs => ⟨fun c q hq => ?_, fun k q hq => ?_⟩⟩
  · have hc : c < 14 := (List.getElem?_eq_some_iff.mp hq).1
    match c, hc with
    | 0, _ => cases hq; exact k0
    | 1, _ => cases hq; exact k1
    | 2, _ => cases hq; exact k2
    | 3, _ => cases hq; exact k3
    | 4, _ => cases hq; exact k4
    | 5, _ => cases hq; exact k5
    | 6, _ => cases hq; exact k6
    | 7, _ => cases hq; exact k7
    | 8, _ => cases hq; exact k8
    | 9, _ => cases hq; exact k9
    | 10, _ => cases hq; exact k10
    | 11, _ => cases hq; exact k11
    | 12, _ => cases hq; exact k12
    | 13, _ => cases hq; exact k13
  · have hc : k < 5 := (List.getElem?_eq_some_iff.mp hq).1
    match k, hc with
    | 0, _ => cases hq; exact ha0
    | 1, _ => cases hq; exact ha1
    | 2, _ => cases hq; exact ha2
    | 3, _ => cases hq; exact ha3
    | 4, _ => cases hq; exact ha4

set_option maxHeartbeats 4000000 in
set_option maxRecDepth 100000 in
theorem st_G {l : Launch} {s : State} {b L : Nat} {xs : Nat → Int32} (hfl : l.flags = flags0) (hT : ∀ w ∈ lw_tbl, w.before #[Value.ref b] s = true) (hX : va_X b L xs s s.heap) (hb : b < s.heap.size) (hg : (Jvm.Cond.and given_1 narrow_1).before #[Value.ref b] s = true) : ∃ G : GT, gL G = l ∧ gB G = s.heap.size ∧ gN G = L ∧ gX G = xs ∧ gO G 999 = b ∧ Gs G s := by
  have hF : ∀ w ∈ FW, w.before #[Value.ref b] s = true := flat_of_before _ hg
  obtain ⟨D, A, hK⟩ := st_K hT
  have hA9 : ∀ a : Nat, a < s.heap.size → ¬ (s.heap.size ≤ a) := fun a h1 h2 => absurd h1 (Nat.not_lt.mpr h2)
  obtain ⟨ad, hE, -⟩ := va_Enof2 (E := "CupboardPoll$Kind") (d := KD) (nm := KN) (F := KF) (A := fun q => s.heap.size ≤ q) (fun i hi => hT _ (st_kl i hi)) (hT _ (List.mem_of_getElem? (i := 117) (by decide +kernel) : Cond.initialized "CupboardPoll$Kind" ∈ lw_tbl)) (fun i hi => hF _ (st_kx i hi)) (fun q hq i hi => by
    cases List.mem_singleton.mp hq
    exact hF _ (st_ko i hi)) (fun i j hi hj hij => Or.inl (st_ne (hF _ (st_kx i hi)) (hF _ (st_kx j hj)) (hF _ (st_ko i hi)) (hF _ (st_ko j hj)) (KO_ne i hi j hj hij))) hA9
  refine ⟨(l, D.1, D.2, A, s.heap.size, fun k => if k = 999 then b else ad k, L, xs), rfl, rfl, rfl, rfl, (show (if 999 = 999 then b else ad 999) = b from if_pos rfl), hK _ _ _ _ _, ?_, Nat.le_refl _, fun w hw => ?_, va_AO.of (hT _ (List.mem_of_getElem? (i := 201) (by decide +kernel) : Cond.arrayOver (.object "CupboardPoll$Jar") ∈ lw_tbl)), va_AO.of (hT _ (List.mem_of_getElem? (i := 172) (by decide +kernel) : Cond.arrayOver (.object "CupboardPoll$Kind") ∈ lw_tbl)), ⟨?_, ?_, ?_, ?_⟩, ?_, ?_⟩
  · show (!l.flags.contains Jvm.noTraceFlag) = false
    rw [hfl]
    decide
  · have h1 := List.mem_filter.mp hw
    refine va_Nw.of ?_ (hT w h1.1)
    have h2 := h1.2
    cases w <;> first | rfl | (simp only [nestWord] at h2; cases h2; done)
  · exact vx_Zqof (hT _ (List.mem_of_getElem? (i := 907) (by decide +kernel) : Cond.laysStatic Bundle.tN "UNASSIGNED_STACK" Bundle.steD ∈ lw_tbl)) (hT _ (List.mem_of_getElem? (i := 123) (by decide +kernel) : Cond.initialized Bundle.tN ∈ lw_tbl)) (hF _ (List.mem_of_getElem? (i := 186) (by decide +kernel) : Cond.isRef (.static Bundle.tN "UNASSIGNED_STACK" Bundle.steD) ∈ FW)) hA9
  · exact vx_Zqof (hT _ (List.mem_of_getElem? (i := 909) (by decide +kernel) : Cond.laysStatic Bundle.tN "SUPPRESSED_SENTINEL" Bundle.listD ∈ lw_tbl)) (hT _ (List.mem_of_getElem? (i := 123) (by decide +kernel) : Cond.initialized Bundle.tN ∈ lw_tbl)) (hF _ (List.mem_of_getElem? (i := 187) (by decide +kernel) : Cond.isRef (.static Bundle.tN "SUPPRESSED_SENTINEL" Bundle.listD) ∈ FW)) hA9
  · have e : ∀ k, k < KN.length → (if k = 999 then b else ad k) = ad k := fun k hk => if_neg (fun q => by subst q; exact absurd hk (by decide))
    refine ⟨fun i hi => ?_, fun i j hi hj q => ?_⟩
    · show va_Z _ _ _ (.ref (if i = 999 then b else ad i)) _ _ _ ∧ va_O _ (if i = 999 then b else ad i) _ _ _ ∧ ∀ q ∈ KF, va_OF q.1 q.2.1 q.2.2.1 _ (if i = 999 then b else ad i) _ _ _
      rw [e i hi]
      exact hE.1 i hi
    · exact hE.2 i j hi hj ((e i hi).symm.trans (q.trans (e j hj)))
  · show va_X (if 999 = 999 then b else ad 999) L xs s s.heap ∧ _
    rw [if_pos rfl]
    exact ⟨hX, hA9 b hb, hb⟩
  · exact va_Nc.of (hF _ (List.mem_of_getElem? (i := 305) (by decide +kernel) : Cond.not (.castable "java/lang/IllegalArgumentException" "java/lang/IndexOutOfBoundsException") ∈ FW))
  · exact va_Nc.of (hF _ (List.mem_of_getElem? (i := 304) (by decide +kernel) : Cond.not (.castable "java/lang/IllegalStateException" "java/lang/IndexOutOfBoundsException") ∈ FW))

def lw_P (b : Addr) (xs : List Int32) (args : Array Value) (s : State) : Prop := args = #[.ref b] ∧ s.IntsAt b xs ∧ xs.length ≤ 3072 ∧ (Jvm.Cond.and given_1 narrow_1).before args s = true
/-- what a walk over the start with the record d0 says of its end, said of the start itself -/
theorem lw_closed {s t : State} {o : Outcome} {d0 : Drawn} {L : List Loc} {k n : Nat} (hd0 : s.drawn.sameBut d0 lw_cs) (hv : ∃ v, o = .returned v) (hW : (s.setDrawn d0).WarmedH t.vm) (hs : (s.setDrawn d0).sameButNew ({ t with vm := s.vm } : State) L k n) : State.butDraws s t lw_cs (fun t1 => Framed s o t1 L k n) := by
  have h2 : t.drawn = d0 := congrArg State.drawn hs.1
  refine ⟨⟨hv, hW, State.sameButNew.setDrawn hs s.drawn⟩, ?_, by decide⟩
  rw [h2]
  exact hd0
def lw_Q (_ : Array Value) (s : State) (o : Outcome) (t : State) : Prop := o = .returned (some (.int 1)) ∧ State.butDraws s t lw_cs (fun t1 => Framed s o t1 [] 601024 7293034)
def lw_Z (below : List Frame) (a : Array Value) (s : State) : State → Prop := fun t => ∃ o, t.status = .running ∧ Ended t below o ∧ lw_Q a s o t
/-- what holds at the law's entry: as the skeleton has it, with the law's name and its table of handlers (none) -/
def st_At (p : Program) (s : State) (m : MethodId) (meth : Method) (c : Code) (b L : Nat) (xs : Nat → Int32) : Prop :=
  p.tables.exec = Jvm.exec ∧ c.code = code ∧ meth.sig.returnType = ret ∧ c.maxLocals = 9 ∧ s.vm.findClass "CupboardPollLaw" = some m.cls ∧ (∀ w ∈ lw_tbl, w.before #[Value.ref b] s = true) ∧ va_X b L xs s s.heap ∧ b < s.heap.size ∧ meth.locks = false ∧ (Jvm.Cond.and given_1 narrow_1).before #[Value.ref b] s = true ∧ meth.name = "law" ∧ c.exceptionTable.toList = []

set_option maxHeartbeats 4000000 in
set_option maxRecDepth 100000 in
/-- from a run in the abstract world to the claim's own end -/
theorem st_end {p : Program} {e : Env} {s : State} {m : MethodId} {below : List Frame} {meth : Method} {c : Code} (l : Launch) (hflags : l.flags = flags0) {b L : Nat} {xs : Nat → Int32} (C0 : st_At p s m meth c b L xs)
    (run : ∀ G : GT, gN G = L → RQ G mL_law 2048 0 [some (.ref (OLD + 999)), none, none, none, none, none, none, none, none] [] (0, 0, fun _ => .inr (0, [])) (fun o h2 => o = .inl (some (.int (nI 1))) ∧ h2.1 ≤ 601024 ∧ h2.2.1 ≤ 7293034)) : W p l e room_1 s m #[Value.ref b] below meth c s.heap [] 0 0 (lw_Z below #[Value.ref b] s) (entryFrame m ([Value.ref b] : List Value).toArray 9) := by
  obtain ⟨c1, c2, c3, c4, c5, c6, c7, c8, c9, c10, hin, htab⟩ := C0
  obtain ⟨G, g1, g2, g3, g4, g5, hG⟩ := st_G hflags c6 c7 c8 c10
  obtain ⟨o, h2, r, rfl, r1, r2⟩ := run G g3
  subst g1
  have e9 : cv G (.ref (OLD + 999)) = .ref b := by
    show Value.ref (gad G (OLD + 999)) = _
    rw [gad_old, g5]
  have hR := Rl.entry G (As := [.ref (OLD + 999)]) (n := 9) (by decide)
  rw [show ([.ref (OLD + 999)] : List Value).map (cv G) = [.ref b] from by rw [List.map_cons, e9]; rfl] at hR
  have k := r.2 p e room_1 s m #[Value.ref b] below meth c s.heap [] 0 0 _
    ⟨c1, c2, c4, c3, c9, c5, fun w hw => c6 w (List.mem_filter.mp hw).1, hG, hin, htab, by decide, by decide⟩
    (by rw [g2]) (by show 0 + (h2.1 - 0) ≤ 601024; omega) (by show 0 + (h2.2.1 - 0) ≤ 7293034; omega) (by show h2.1 < 1000000; omega) (fun k q hk => by cases hk) va_S.rf hR
  rw [lg_entry_eq]
  refine W.mono (fun t ht => ?_) k
  obtain ⟨o, t1, t2, t3⟩ := ht
  rcases t3 with ⟨⟨⟨v, q1, q2, q3⟩, q4⟩, Ls, q5, q6⟩ | ⟨q, q1, q2⟩
  · cases q1
    refine ⟨_, t1, t2, ?_, ?_⟩
    · exact q2
    · refine lw_closed (Drawn.sameBut.refl s.drawn lw_cs) q5.1 q5.2.1 ?_
      exact (State.sameButNew.drop_fresh (L := []) (J := Ls) q5.2.2 (fun x hx => by rw [← g2]; exact q6 x hx)).mono (by show 0 + (h2.1 - 0) ≤ 601024; omega) (by show 0 + (h2.2.1 - 0) ≤ 7293034; omega)
  · obtain ⟨E, ce, L9, ⟨⟨hE, -⟩, -⟩, -⟩ := q2
    cases hE

