/-! constants of Kind, their compares, their rows; copies of rows; handlers -/
theorem cv_old (G : GT) (i : Nat) : cv G (.ref (OLD + i)) = .ref (gO G i) := by show Value.ref _ = _; rw [gad_old]
section MORE
variable {G : GT} {M M2 : MI} {d d2 pc : Nat} {L : List (Option Value)} {S : List Value} {h : AH} {P P1 : OC → AH → Prop}
theorem q_getE {index i : Nat} (hd : decode M.2.1 pc = .ok (.getstatic index, 3)) (hi : i < 43) (hlink : Cond.fieldLink M.1.cls index "CupboardPoll$Kind" (KN.getD i "") KD ∈ AW) (r : RQ G M d (pc + 3) L (.ref (OLD + i) :: S) h P) : RQ G M d pc L S h P := by
  refine RQ.one (fun p e Rm s m args below meth c H locs cells slots ls Q hC hz hcs hss h0 hW hS hl k => va_gets (C := "CupboardPoll$Kind") (n := KN.getD i "") (d := KD) (v := .ref (gO G i)) hC.1 hC.2.1 (hC.2.2.2.2.2.2.2.1.2.2.2.2.2.2.1.2.2.1.1 i hi).1 hS hC.2.2.2.2.2.1 (hC.2.2.2.2.2.2.1 _ hlink) (fun _ hx => hx) hd ?_) r
  rw [← cv_old]
  exact k ls hl
theorem q_acmp_eq {i j : Nat} {off : Int} {tgt : Nat} (hd : decode M.2.1 pc = .ok (.if_acmp .eq off, 3)) (ht : (pc : Int) + off = (tgt : Int)) (hi : i < 43) (hj : j < 43) (kt : i = j → RQ G M d tgt L S h P) (kf : ¬ i = j → RQ G M d (pc + 3) L S h P) : RQ G M d pc L (.ref (OLD + j) :: .ref (OLD + i) :: S) h P := by
  by_cases hc : i = j
  · refine RQ.one (fun p e Rm s m args below meth c H locs cells slots ls Q hC hz hcs hss h0 hW hS hl k => ?_) (kt hc)
    show W _ _ _ _ _ _ _ _ _ _ _ _ _ _ _ (F0 m pc ls (cv G (.ref (OLD + j)) :: cv G (.ref (OLD + i)) :: S.map (cv G)))
    rw [cv_old, cv_old]
    exact lv_acmp_eq (rx := some (gO G i)) (ry := some (gO G j)) hC.1 hC.2.1 hd ht (fun _ => k ls hl) (fun hf => absurd (by rw [hc]) hf)
  · refine RQ.one (fun p e Rm s m args below meth c H locs cells slots ls Q hC hz hcs hss h0 hW hS hl k => ?_) (kf hc)
    show W _ _ _ _ _ _ _ _ _ _ _ _ _ _ _ (F0 m pc ls (cv G (.ref (OLD + j)) :: cv G (.ref (OLD + i)) :: S.map (cv G)))
    rw [cv_old, cv_old]
    exact lv_acmp_eq (rx := some (gO G i)) (ry := some (gO G j)) hC.1 hC.2.1 hd ht (fun hf => absurd (hC.2.2.2.2.2.2.2.1.2.2.2.2.2.2.1.2.2.1.2 i j hi hj (Option.some.inj hf)) hc) (fun _ => k ls hl)
theorem q_acmp_ne {i j : Nat} {off : Int} {tgt : Nat} (hd : decode M.2.1 pc = .ok (.if_acmp .ne off, 3)) (ht : (pc : Int) + off = (tgt : Int)) (hi : i < 43) (hj : j < 43) (kt : ¬ i = j → RQ G M d tgt L S h P) (kf : i = j → RQ G M d (pc + 3) L S h P) : RQ G M d pc L (.ref (OLD + j) :: .ref (OLD + i) :: S) h P := by
  by_cases hc : i = j
  · refine RQ.one (fun p e Rm s m args below meth c H locs cells slots ls Q hC hz hcs hss h0 hW hS hl k => ?_) (kf hc)
    show W _ _ _ _ _ _ _ _ _ _ _ _ _ _ _ (F0 m pc ls (cv G (.ref (OLD + j)) :: cv G (.ref (OLD + i)) :: S.map (cv G)))
    rw [cv_old, cv_old]
    exact lv_acmp_ne (rx := some (gO G i)) (ry := some (gO G j)) hC.1 hC.2.1 hd ht (fun hf => absurd (by rw [hc]) hf) (fun _ => k ls hl)
  · refine RQ.one (fun p e Rm s m args below meth c H locs cells slots ls Q hC hz hcs hss h0 hW hS hl k => ?_) (kt hc)
    show W _ _ _ _ _ _ _ _ _ _ _ _ _ _ _ (F0 m pc ls (cv G (.ref (OLD + j)) :: cv G (.ref (OLD + i)) :: S.map (cv G)))
    rw [cv_old, cv_old]
    exact lv_acmp_ne (rx := some (gO G i)) (ry := some (gO G j)) hC.1 hC.2.1 hd ht (fun _ => k ls hl) (fun hf => absurd (hC.2.2.2.2.2.2.2.1.2.2.2.2.2.2.1.2.2.1.2 i j hi hj (Option.some.inj hf)) hc)
theorem q_aast4 {a n j b : Nat} {x : Int32} {f : Nat → Option Nat} (hd : decode M.2.1 pc = .ok (.aastore, 1)) (ha : At h a (.inl (4, n, .inr (.inr (.inr (.inr f)))))) (hb : b < 43) (hx : x = nI j) (hj : j < n) (hn : n < 2147483648) (r : RQ G M d (pc + 1) L S (hset h a (.inl (4, n, .inr (.inr (.inr (.inr (va_up f j (some (OLD + b))))))))) P) : RQ G M d pc L (.ref (OLD + b) :: .int x :: .ref a :: S) h P := by
  subst hx
  refine RQ.put (fun p e Rm s m args below meth c H locs cells slots ls Q hC hz h0 hW hS hl k => ?_) r
  show W _ _ _ _ _ _ _ _ _ _ _ _ _ _ _ (F0 m pc ls (cv G (.ref (OLD + b)) :: .int (nI j) :: .ref (gad G a) :: S.map (cv G)))
  rw [cv_old]
  have hAny : va_Any "CupboardPoll$Kind" s H (gO G b) := by
    obtain ⟨cell, g1, g2, g3, g4⟩ := ((hC.2.2.2.2.2.2.2.1.2.2.2.2.2.2.1.2.2.1.1 b hb).2.1).kept hS.2.1
    obtain ⟨kC, hkC, -⟩ := Vm.findClass_spec g3
    refine ⟨cell, g1, g2, ⟨kC, hkC⟩, fun comp hcomp => ?_⟩
    cases Option.some.inj (g3.symm.trans hcomp)
    exact Vm.assignable_self _ _
  refine va_astqM (D := gD G) (cl := CL) (ws := cw G h) (tys := TY G) (A := Aq G) hC.1 hC.2.1 hC.2.2.2.2.2.2.2.1.1 hW (cw_D G h) hS a 4 (ha.cw h0) rfl hAny (vp_in_nI hj hn) hd (fun H1 locs1 h1 _ h3 => k H1 locs1 (hW.set ha h0 ?_ h1) h3)
  rw [nI_clamp (Nat.lt_trans hj hn)]
  refine congrArg (fun z => (Sum.inl (gA G 4, n, Sum.inr (Sum.inr (Sum.inr (Sum.inr z)))) : va_E)) (funext fun q => ?_)
  by_cases hq : q = j
  · subst hq
    simp [va_up, gad_old]
  · simp [va_up, hq]
/-- System.arraycopy of rows of ints -/
theorem q_copy {index a0 a1 n0 n1 sp dp n : Nat} {xs xd xn : Int32} {f g : Nat → Int32} (hd : decode M.2.1 pc = .ok (.invokestatic index, 3)) (hl0 : Cond.methodLink M.1.cls index arraycopyName ∈ AW) (hi : Cond.native arraycopyName ∈ AW) (hst0 : Cond.static arraycopyName ∈ AW) (hni : Cond.initialized "java/lang/System" ∈ AW) (hdd : 2 ≤ d) (hst : (S.map fun v => v.category).sum ≤ 8)
    (ha0 : At h a0 (.inl (0, n0, .inl f))) (ha1 : At h a1 (.inl (0, n1, .inl g))) (hxs : xs = nI sp) (hxd : xd = nI dp) (hxn : xn = nI n) (hb0 : sp + n ≤ n0) (hb1 : dp + n ≤ n1) (hn0 : n0 < 2147483648) (hn1 : n1 < 2147483648)
    (r : RQ G M d (pc + 3) L S (hset h a1 (.inl (0, n1, .inl (va_cpy f g sp dp n)))) P) : RQ G M d pc L (.int xn :: .int xd :: .ref a1 :: .int xs :: .ref a0 :: S) h P := by
  subst hxs
  subst hxd
  subst hxn
  refine RQ.put (fun p e Rm s m args below meth c H locs cells slots ls Q hC hz h0 hW hS hl k => va_copyi (D := gD G) (cl := CL) (ws := cw G h) (tys := TY G) (A := Aq G) (n0 := n0) (n1 := n1) (ty := .int) hC.1 hC.2.1 (by rw [hC.2.2.1]; exact hl.1.symm) hC.2.2.2.2.2.1 (hC.2.2.2.2.2.2.1 _ hl0) (hC.2.2.2.2.2.2.1 _ hi) (hC.2.2.2.2.2.2.1 _ hst0) (hC.2.2.2.2.2.2.1 _ hni) hC.2.2.2.2.2.2.2.1.1 hW (cw_D G h) hS a0 a1 0 0 (ha0.cw h0) (ha1.cw h0) rfl rfl rfl
    (nI_pos (by omega)) (nI_pos (by omega)) (nI_pos (by omega)) (by rw [nI_clamp (by omega), nI_clamp (by omega)]; exact hb0) (by rw [nI_clamp (by omega), nI_clamp (by omega)]; exact hb1) (fun _ _ => rfl) (by have := hC.2.2.2.2.2.2.2.2.2.2.1; omega) (by have h9 := hC.2.2.2.2.2.2.2.2.2.2.2; have h8 : nativeFrameWords "java/lang/System" "arraycopy" 5 ≤ 40 := (by decide +kernel); rw [cv_cats]; omega) hd (fun H1 locs1 h1 _ h3 => k H1 locs1 (hW.set ha1 h0 ?_ h1) h3)) r
  rw [nI_clamp (by omega), nI_clamp (by omega), nI_clamp (by omega)]
  rfl
/-- the script, read by the law -/
theorem q_slen (hd : decode M.2.1 pc = .ok (.arraylength, 1)) (r : RQ G M d (pc + 1) L (.int (nI (gN G)) :: S) h P) : RQ G M d pc L (.ref (OLD + 999) :: S) h P := by
  refine RQ.one (fun p e Rm s m args below meth c H locs cells slots ls Q hC hz hcs hss h0 hW hS hl k => ?_) r
  have hX := hC.2.2.2.2.2.2.2.1.2.2.2.2.2.2.1.2.2.2
  show W _ _ _ _ _ _ _ _ _ _ _ _ _ _ _ (F0 m pc ls (cv G (.ref (OLD + 999)) :: S.map (cv G)))
  rw [cv_old]
  exact va_slen hC.1 hC.2.1 hX.1 hX.2.2 hX.2.1 hS hd (k ls hl)
theorem q_sld {j : Nat} {x : Int32} (hd : decode M.2.1 pc = .ok (.iaload, 1)) (hx : x = nI j) (hj : j < gN G) (hn : gN G < 2147483648) (r : RQ G M d (pc + 1) L (.int (gX G j) :: S) h P) : RQ G M d pc L (.int x :: .ref (OLD + 999) :: S) h P := by
  subst hx
  refine RQ.one (fun p e Rm s m args below meth c H locs cells slots ls Q hC hz hcs hss h0 hW hS hl k => ?_) r
  have hX := hC.2.2.2.2.2.2.2.1.2.2.2.2.2.2.1.2.2.2
  show W _ _ _ _ _ _ _ _ _ _ _ _ _ _ _ (F0 m pc ls (.int (nI j) :: cv G (.ref (OLD + 999)) :: S.map (cv G)))
  rw [cv_old]
  refine va_sld hC.1 hC.2.1 hX.1 hX.2.2 hX.2.1 hS (vp_in_nI hj hn) hd ?_
  rw [nI_clamp (Nat.lt_trans hj hn)]
  exact k ls hl
end MORE
