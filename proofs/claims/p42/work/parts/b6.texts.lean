/-! the texts that the law tells, as tokens -/
def WF (x : List Nat) (k : List (Nat × Nat)) (f l : Nat) : Prop := ∃ E, lxT E = x ∧ lxK E = k ∧ (∀ e ∈ E, okE e) ∧ smS E = some (some (f, l))
theorem WF.app {x y : List Nat} {k m : List (Nat × Nat)} {f l g n : Nat} (h : WF x k f l) (q : WF y m g n) (c : ¬ ((l = 1 ∧ g = 1) ∨ (l = 2 ∧ g = 2))) : WF (x ++ y) (k ++ m) f n := by
  obtain ⟨E, e1, e2, e3, e4⟩ := h
  obtain ⟨F, f1, f2, f3, f4⟩ := q
  refine ⟨E ++ F, by rw [lxT_app, e1, f1], by rw [lxK_app, e2, f2], fun e he => (List.mem_append.mp he).elim (e3 e) (f3 e), ?_⟩
  rw [smS_app, e4, f4]
  exact if_neg c
def WX (x : List Nat) (k : List (Nat × Nat)) : Prop := ∃ f l, WF x k f l
theorem WF.one {e : TE} (h : okE e) : WF (lxB e) (lxK [e]) (lxG e) (lxG e) := ⟨[e], List.append_nil _, rfl, fun a ha => by
  have := List.mem_singleton.mp ha
  subst this
  exact h, rfl⟩
/-- words and signs -/
theorem kw_ok : ∀ k, k < 39 → (∀ c ∈ txt k, lxC c = if k < 27 then 1 else 3) ∧ txt k ≠ [] ∧ kdB (txt k) = k ∧ vaT (txt k) k 0 (txt k).length = 0 ∧ (27 ≤ k → (txt k).length = 1) := by decide +kernel
theorem WF.kw {k : Nat} (hk : k < 39) : WF (txt k) [(k, 0)] (if k < 27 then 1 else 3) (if k < 27 then 1 else 3) := by
  obtain ⟨h1, h2, h3, h4, h5⟩ := kw_ok k hk
  have eg : lxG (.inr (k, 0, txt k)) = if k < 27 then 1 else 3 := by
    show (if k = 40 then 2 else if k = 39 ∨ k < 27 then 1 else 3) = _
    rw [if_neg (by omega)]
    by_cases z : k < 27
    · rw [if_pos z, if_pos (Or.inr z)]
    · rw [if_neg z, if_neg (by omega)]
  have h : okE (.inr (k, 0, txt k)) := ⟨fun c hc => by rw [eg]; exact h1 c hc, h2, h3, by show k < 41; omega, h4, fun g => h5 (by rw [eg] at g; exact Nat.le_of_not_lt (fun z => by rw [if_pos z] at g; omega))⟩
  have := WF.one h
  rw [eg] at this
  exact this
theorem WF.bl : WF [32] [] 0 0 := WF.one (e := .inl 32) ⟨fun c hc => by
  have := List.mem_singleton.mp hc
  subst this
  rfl, trivial⟩
theorem WF.nl : WF [10] [] 0 0 := WF.one (e := .inl 10) ⟨fun c hc => by
  have := List.mem_singleton.mp hc
  subst this
  rfl, trivial⟩
theorem nm_ok : ∀ k, k < 20 → ∀ p, p < 3 → (∀ c ∈ ([108, 106, 100].getD p 0 :: nam k), lxC c = 1) ∧ kdB ([108, 106, 100].getD p 0 :: nam k) = 39 ∧ vaT ([108, 106, 100].getD p 0 :: nam k) 39 0 3 = [12833, 10785, 4641].getD p 0 + k := by decide +kernel
theorem WF.nm {k p : Nat} (hk : k < 20) (hp : p < 3) : WF ([108, 106, 100].getD p 0 :: nam k) [(39, [12833, 10785, 4641].getD p 0 + k)] 1 1 := by
  obtain ⟨h1, h2, h3⟩ := nm_ok k hk p hp
  exact WF.one (e := .inr (39, [12833, 10785, 4641].getD p 0 + k, [108, 106, 100].getD p 0 :: nam k)) ⟨h1, List.cons_ne_nil _ _, h2, (by decide : 39 < 41), h3, fun g => by
    have g : (1 : Nat) = 3 := g
    omega⟩
theorem WF.nL {k : Nat} (hk : k < 20) : WF (108 :: nam k) [(39, nmL k)] 1 1 := WF.nm (p := 0) hk (by decide)
theorem WF.nJ {k : Nat} (hk : k < 20) : WF (106 :: nam k) [(39, nmJ k)] 1 1 := WF.nm (p := 1) hk (by decide)
theorem WF.nD {k : Nat} (hk : k < 20) : WF (100 :: nam k) [(39, nmD k)] 1 1 := WF.nm (p := 2) hk (by decide)
/-- numbers -/
theorem kw_nd : ∀ k, k < 43 → lxC (((SBy.getD (TXl k) []).map (fun x => x.toInt.toNat)).getD 0 0) ≠ 2 := by decide +kernel
theorem dg_cl {n : Nat} (h : n < 10000) : ∀ c ∈ dgs n, lxC c = 2 := fun c hc => by
  obtain ⟨h1, h2⟩ := dgs_128 h c hc
  unfold lxC
  rw [if_neg (by omega), if_neg (by omega), if_pos (by omega)]
theorem dg_ne (n : Nat) : dgs n ≠ [] := by
  intro e
  have := dgs_len (n := n)
  rw [e] at this
  simp only [List.length_nil] at this
  split at this
  · omega
  · split at this
    · omega
    · split at this <;> omega
theorem dg_vd {n : Nat} (h : n < 10000) : vdT (dgs n) 0 (dgs n).length = n := by
  unfold dgs
  split
  · show (0 * 10 + (48 + n - 48) : Nat) = n
    omega
  · split
    · show ((0 * 10 + (48 + n / 10 - 48)) * 10 + (48 + n % 10 - 48) : Nat) = n
      omega
    · split
      · show (((0 * 10 + (48 + n / 100 - 48)) * 10 + (48 + n / 10 % 10 - 48)) * 10 + (48 + n % 10 - 48) : Nat) = n
        omega
      · show ((((0 * 10 + (48 + n / 1000 - 48)) * 10 + (48 + n / 100 % 10 - 48)) * 10 + (48 + n / 10 % 10 - 48)) * 10 + (48 + n % 10 - 48) : Nat) = n
        omega
theorem WF.nu {n : Nat} (h : n < 10000) : WF (dgs n) [(40, n)] 2 2 := by
  have c0 : lxC ((dgs n).getD 0 0) = 2 := dg_cl h _ (gd_mem (List.length_pos_iff.mpr (dg_ne n)))
  have k1 : kdB (dgs n) = 40 := by
    unfold kdB
    have : fnN (wdB (dgs n)) 1 43 = none := fnN_none.mpr (fun k hk e => by
      unfold wdB at e
      by_cases z : (SBy.getD (TXl k) []).map (fun x => x.toInt.toNat) = dgs n
      · have := kw_nd k hk
        rw [z] at this
        exact this c0
      · rw [if_neg z] at e
        omega)
    rw [this]
    show (if lxC ((dgs n).getD 0 0) = 1 ∧ (dgs n).length ≤ 8 then 39 else if lxC ((dgs n).getD 0 0) = 2 ∧ (dgs n).length ≤ 4 then 40 else 42) = 40
    rw [if_neg (by omega), if_pos ⟨c0, dgs_le n⟩]
  have k2 : vaT (dgs n) 40 0 (dgs n).length = n := by
    unfold vaT
    rw [if_neg (by decide), if_pos rfl, Nat.sub_zero, dg_vd h]
  exact WF.one (e := .inr (40, n, dgs n)) ⟨dg_cl h, dg_ne n, k1, (by decide : 40 < 41), k2, fun g => by
    have g : (2 : Nat) = 3 := g
    omega⟩
theorem WF.ex {x : List Nat} {k : List (Nat × Nat)} {f l : Nat} (h : WF x k f l) : WX x k := ⟨f, l, h⟩
theorem WF.to {x y : List Nat} {k m : List (Nat × Nat)} {f l : Nat} (h : WF x k f l) (e : x = y) (e2 : k = m) : WF y m f l := by rw [← e, ← e2]; exact h
theorem WX.to {x y : List Nat} {k m : List (Nat × Nat)} (h : WX x k) (e : x = y) (e2 : k = m) : WX y m := by rw [← e, ← e2]; exact h
/-- behind, before a sign or a blank -/
theorem WX.suf {x y : List Nat} {k m : List (Nat × Nat)} {g n : Nat} (h : WX x k) (q : WF y m g n) (c : g = 0 ∨ g = 3) : ∃ f, WF (x ++ y) (k ++ m) f n := by
  obtain ⟨f, l, h⟩ := h
  exact ⟨f, h.app q (by omega)⟩
theorem WX.pre {x y : List Nat} {k m : List (Nat × Nat)} {f l : Nat} (q : WX y m) (h : WF x k f l) (c : l = 0 ∨ l = 3) : ∃ n, WF (x ++ y) (k ++ m) f n := by
  obtain ⟨g, n, q⟩ := q
  exact ⟨n, h.app q (by omega)⟩
/-- x, a piece whose ends are signs or blanks, y -/
theorem WX.mid {x z y : List Nat} {k o m : List (Nat × Nat)} {g n : Nat} (h : WX x k) (q : WF z o g n) (r : WX y m) (c1 : g = 0 ∨ g = 3) (c2 : n = 0 ∨ n = 3) : WX (x ++ (z ++ y)) (k ++ (o ++ m)) := by
  obtain ⟨f, l, h⟩ := h
  obtain ⟨f2, l2, r⟩ := r
  exact ⟨f, l2, h.app (q.app r (by omega)) (by omega)⟩
section TT
variable {la ja : Nat}
theorem tx_leaf {l : ELf} (l6 : la ≤ 6) (ok : okL la l) : WX (lfX l) (lfK l) := by
  obtain ⟨so, n⟩ := l
  rcases ok with ⟨z, h2⟩ | ⟨z, h2⟩ | ⟨z | z, h2⟩ <;> (have z : so = _ := z; subst z)
  · exact (WF.nu h2).ex
  · have h2 : n < 3 := h2
    rcases (by omega : n = 0 ∨ n = 1 ∨ n = 2) with rfl | rfl | rfl
    · exact ((WF.kw (k := 20) (by decide)).to (show txt 20 = lfX (1, 0) by decide +kernel) rfl).ex
    · exact ((WF.kw (k := 22) (by decide)).to (show txt 22 = lfX (1, 1) by decide +kernel) rfl).ex
    · exact ((WF.kw (k := 23) (by decide)).to (show txt 23 = lfX (1, 2) by decide +kernel) rfl).ex
  · have h2 : n < la := h2
    exact (((WF.kw (k := 21) (by decide)).app (WF.bl.app (WF.nL (k := n) (by omega)) (by decide)) (by decide)).to (show txt 21 ++ ([32] ++ (108 :: nam n)) = txt 72 ++ nam n by
      have e : txt 72 = txt 21 ++ [32, 108] := by decide +kernel
      rw [e, List.append_assoc]
      rfl) rfl).ex
  · have h2 : n < la := h2
    exact (((WF.kw (k := 2) (by decide)).app (WF.bl.app (WF.nL (k := n) (by omega)) (by decide)) (by decide)).to (show txt 2 ++ ([32] ++ (108 :: nam n)) = txt 73 ++ nam n by
      have e : txt 73 = txt 2 ++ [32, 108] := by decide +kernel
      rw [e, List.append_assoc]
      rfl) rfl).ex
theorem sg_x : ∀ s, 4 ≤ s → s ≤ 9 → txt (SGn (s - 4)) = txt (sgK s) ∧ 27 ≤ sgK s ∧ sgK s < 39 := by
  intro s h1 h2
  rcases (by omega : s = 4 ∨ s = 5 ∨ s = 6 ∨ s = 7 ∨ s = 8 ∨ s = 9) with rfl | rfl | rfl | rfl | rfl | rfl <;> decide +kernel
theorem WF.sg {s : Nat} (h1 : 4 ≤ s) (h2 : s ≤ 9) : WF (txt (SGn (s - 4))) [(sgK s, 0)] 3 3 := by
  obtain ⟨e1, e2, e3⟩ := sg_x s h1 h2
  have := WF.kw e3
  rw [if_neg (by omega)] at this
  rw [e1]
  exact this
theorem WF.s3 {k : Nat} (h1 : 27 ≤ k) (h2 : k < 39) : WF (txt k) [(k, 0)] 3 3 := by
  have := WF.kw h2
  rw [if_neg (by omega)] at this
  exact this
theorem WF.w1 {k : Nat} (h1 : k < 27) : WF (txt k) [(k, 0)] 1 1 := by
  have := WF.kw (k := k) (by omega)
  rw [if_pos h1] at this
  exact this
theorem tx_val {e : EVa} (l6 : la ≤ 6) (ok : okV la e) : WX (vaX e) (vaK e) := by
  match e, ok with
  | .inl l, ok => exact tx_leaf l6 ok
  | .inr (s, l, m), ⟨⟨h1, h2⟩, ok1, ok2⟩ =>
    have a1 := tx_leaf l6 ok1
    have a2 := tx_leaf l6 ok2
    have s1 : WF ([32] ++ txt (SGn (s - 4))) ([] ++ [(sgK s, 0)]) 0 3 := WF.bl.app (WF.sg h1 (by omega)) (by decide)
    obtain ⟨f, b1⟩ := a2.suf (WF.s3 (k := 28) (by decide) (by decide)) (Or.inr rfl)
    have b2 := a1.mid s1 b1.ex (Or.inl rfl) (Or.inr rfl)
    obtain ⟨n, b3⟩ := b2.pre (WF.s3 (k := 27) (by decide) (by decide)) (Or.inr rfl)
    refine b3.ex.to ?_ ?_
    · show _ = txt 81 ++ (lfX l ++ (txt 82 ++ (txt (SGn (s - 4)) ++ (lfX m ++ txt 83))))
      have e1 : txt 81 = txt 27 := by decide +kernel
      have e2 : txt 82 = [32] := by decide +kernel
      have e3 : txt 83 = txt 28 := by decide +kernel
      rw [e1, e2, e3]
      simp only [List.append_assoc]
    · show _ = (27, 0) :: (lfK l ++ ((sgK s, 0) :: (lfK m ++ [(28, 0)])))
      rfl
theorem tx_t0 {e : ET0} (l6 : la ≤ 6) (ok : ok0 la e) : WX (t0X e) (t0K e) := by
  match e, ok with
  | .inl (k, l), ⟨hk, hl⟩ =>
    rcases hk with rfl | rfl
    · exact (((WF.w1 (k := 18) (by decide)).app (WF.bl.app (WF.nL (k := l) (by omega)) (by decide)) (by decide)).to (show txt 18 ++ ([32] ++ (108 :: nam l)) = txt 74 ++ nam l by
        have e : txt 74 = txt 18 ++ [32, 108] := by decide +kernel
        rw [e, List.append_assoc]
        rfl) rfl).ex
    · exact (((WF.w1 (k := 19) (by decide)).app (WF.bl.app (WF.nL (k := l) (by omega)) (by decide)) (by decide)).to (show txt 19 ++ ([32] ++ (108 :: nam l)) = txt 75 ++ nam l by
        have e : txt 75 = txt 19 ++ [32, 108] := by decide +kernel
        rw [e, List.append_assoc]
        rfl) rfl).ex
  | .inr (s, e, l), ⟨⟨h1, h2⟩, ok1, ok2⟩ => exact (tx_val l6 ok1).mid (WF.sg (by omega) h2) (tx_leaf l6 ok2) (Or.inr rfl) (Or.inr rfl)
theorem tx_t1 {e : ET1} (l6 : la ≤ 6) (ok : ok1T la e) : WX (t1X e) (t1K e) := by
  match e, ok with
  | .inl t, ok => exact tx_t0 l6 ok
  | .inr (s, t, u), ⟨hs, ok1, ok2⟩ =>
    have a1 := tx_t0 l6 ok1
    have a2 := tx_t0 l6 ok2
    by_cases z : s = 12
    · have w1 : WF (txt 15 ++ [32]) ([(15, 0)] ++ []) 1 0 := (WF.w1 (k := 15) (by decide)).app WF.bl (by decide)
      obtain ⟨n, b⟩ := a1.pre w1 (Or.inl rfl)
      have e1 : t1X (.inr (s, t, u)) = txt 76 ++ t0X t := if_pos z
      have e2 : t1K (.inr (s, t, u)) = (15, 0) :: t0K t := if_pos z
      have e3 : txt 76 = txt 15 ++ [32] := by decide +kernel
      exact b.ex.to (by rw [e1, e3]) (by rw [e2]; rfl)
    · have e1 : t1X (.inr (s, t, u)) = txt 77 ++ (t0X t ++ ((if s = 13 then txt 78 else txt 80) ++ (t0X u ++ txt 79))) := if_neg z
      have e2 : t1K (.inr (s, t, u)) = (29, 0) :: (t0K t ++ ((if s = 13 then 16 else 17, 0) :: (t0K u ++ [(30, 0)]))) := if_neg z
      have w1 : WF (if s = 13 then txt 78 else txt 80) [(if s = 13 then 16 else 17, 0)] 0 0 := by
        by_cases y : s = 13
        · rw [if_pos y, if_pos y]
          exact (WF.bl.app ((WF.w1 (k := 16) (by decide)).app WF.bl (by decide)) (by decide)).to (show [32] ++ (txt 16 ++ [32]) = txt 78 by decide +kernel) rfl
        · rw [if_neg y, if_neg y]
          exact (WF.bl.app ((WF.w1 (k := 17) (by decide)).app WF.bl (by decide)) (by decide)).to (show [32] ++ (txt 17 ++ [32]) = txt 80 by decide +kernel) rfl
      obtain ⟨f, b1⟩ := a2.suf (WF.s3 (k := 30) (by decide) (by decide)) (Or.inr rfl)
      have b2 := a1.mid w1 b1.ex (Or.inl rfl) (Or.inl rfl)
      obtain ⟨n, b3⟩ := b2.pre (WF.s3 (k := 29) (by decide) (by decide)) (Or.inr rfl)
      have e3 : txt 77 = txt 29 := by decide +kernel
      have e4 : txt 79 = txt 30 := by decide +kernel
      exact b3.ex.to (by rw [e1, e3, e4]) (by rw [e2]; rfl)
theorem tx_act {e : EAc} (l6 : la ≤ 6) (j6 : ja ≤ 6) (ok : okAc la ja e) : WX (acX e) (acK e) := by
  obtain ⟨so, w, v⟩ := e
  obtain ⟨o1, o2, o3, o4⟩ := ok
  have o1 : so ≤ 4 := o1
  have o2 : so = 1 → w < ja := o2
  have o3 : so ≠ 1 → w < la := o3
  rcases (by omega : so = 0 ∨ so = 1 ∨ so = 2 ∨ so = 3 ∨ so = 4) with rfl | rfl | rfl | rfl | rfl
  · have hl : w < la := o3 (by decide)
    have w1 : WF (txt 9 ++ [32]) ([(9, 0)] ++ []) 1 0 := (WF.w1 (k := 9) (by decide)).app WF.bl (by decide)
    have w2 : WF ([32] ++ (txt 10 ++ ([32] ++ (108 :: nam w)))) ([] ++ ([(10, 0)] ++ ([] ++ [(39, nmL w)]))) 0 1 := WF.bl.app ((WF.w1 (k := 10) (by decide)).app (WF.bl.app (WF.nL (by omega)) (by decide)) (by decide)) (by decide)
    obtain ⟨f, b1⟩ := (tx_val l6 o4).suf w2 (Or.inl rfl)
    obtain ⟨n, b2⟩ := b1.ex.pre w1 (Or.inl rfl)
    refine b2.ex.to ?_ rfl
    show _ = txt 65 ++ (vaX v ++ (txt 66 ++ nam w))
    have e1 : txt 65 = txt 9 ++ [32] := by decide +kernel
    have e2 : txt 66 = [32] ++ (txt 10 ++ [32, 108]) := by decide +kernel
    rw [e1, e2]
    simp only [List.append_assoc, List.cons_append, List.nil_append]
  · have hl : w < ja := o2 rfl
    refine (((WF.w1 (k := 11) (by decide)).app (WF.bl.app (WF.nJ (k := w) (by omega)) (by decide)) (by decide)).to (?_ : txt 11 ++ ([32] ++ (106 :: nam w)) = txt 67 ++ nam w) rfl).ex
    have e : txt 67 = txt 11 ++ [32, 106] := by decide +kernel
    rw [e, List.append_assoc]
    rfl
  · exact ((WF.w1 (k := 12) (by decide)).to (show txt 12 = txt 68 by decide +kernel) rfl).ex
  · have hl : w < la := o3 (by decide)
    refine (((WF.w1 (k := 13) (by decide)).app (WF.bl.app (WF.nL (k := w) (by omega)) (by decide)) (by decide)).to (?_ : txt 13 ++ ([32] ++ (108 :: nam w)) = txt 69 ++ nam w) rfl).ex
    have e : txt 69 = txt 13 ++ [32, 108] := by decide +kernel
    rw [e, List.append_assoc]
    rfl
  · exact ((WF.w1 (k := 14) (by decide)).to (show txt 14 = txt 70 by decide +kernel) rfl).ex
theorem tx_acts : ∀ (s : List EAc), la ≤ 6 → ja ≤ 6 → (∀ e ∈ s, okAc la ja e) → ∃ f, WF (asX s ++ txt 28) (asK s ++ [(28, 0)]) f 3 ∧ (f = 0 ∨ f = 3)
  | [], _, _, _ => ⟨3, WF.s3 (k := 28) (by decide) (by decide), Or.inr rfl⟩
  | a :: s, l6, j6, ok => by
    obtain ⟨f, b, c⟩ := tx_acts s l6 j6 (fun x hx => ok x (List.mem_cons_of_mem _ hx))
    obtain ⟨g, b2⟩ := (tx_act l6 j6 (ok a List.mem_cons_self)).suf b c
    have b3 := WF.bl.app b2 (by omega)
    refine ⟨0, b3.to ?_ ?_, Or.inl rfl⟩
    · show _ = (txt 86 ++ (acX a ++ asX s)) ++ txt 28
      have e : txt 86 = [32] := by decide +kernel
      rw [e]
      simp only [List.append_assoc]
    · show _ = (acK a ++ asK s) ++ [(28, 0)]
      simp only [List.append_assoc, List.nil_append]
theorem tx_rule {r : ERu} (l6 : la ≤ 6) (j6 : ja ≤ 6) (ok : okRu la ja r) : WF (ruX r) (ruK r) 0 3 := by
  obtain ⟨t, s⟩ := r
  obtain ⟨o1, o2, o3⟩ := ok
  obtain ⟨f, b, c⟩ := tx_acts s l6 j6 o3
  have w1 : WF ([32] ++ (txt 8 ++ [32])) ([] ++ ([(8, 0)] ++ [])) 0 0 := WF.bl.app ((WF.w1 (k := 8) (by decide)).app WF.bl (by decide)) (by decide)
  have w2 : WF ([32] ++ txt 27) ([] ++ [(27, 0)]) 0 3 := WF.bl.app (WF.s3 (k := 27) (by decide) (by decide)) (by decide)
  obtain ⟨g, b2⟩ := (tx_t1 l6 o1).suf (w2.app b (by omega)) (Or.inl rfl)
  have b3 := w1.app b2 (by omega)
  refine b3.to ?_ ?_
  · show _ = txt 84 ++ (t1X t ++ (txt 85 ++ (asX s ++ txt 87)))
    have e1 : txt 84 = [32] ++ (txt 8 ++ [32]) := by decide +kernel
    have e2 : txt 85 = [32] ++ txt 27 := by decide +kernel
    have e3 : txt 87 = txt 28 := by decide +kernel
    rw [e1, e2, e3]
    try simp only [List.append_assoc]
  · show _ = (8, 0) :: (t1K t ++ ((27, 0) :: (asK s ++ [(28, 0)])))
    simp only [List.append_assoc, List.nil_append, List.cons_append]
def rsX : List ERu → List Nat
  | [] => []
  | r :: s => ruX r ++ rsX s
theorem rsX_app (s : List ERu) (a : ERu) : rsX (s ++ [a]) = rsX s ++ ruX a := by
  induction s with
  | nil => simp only [rsX, List.nil_append, List.append_nil]
  | cons b s ih => simp only [List.cons_append, rsX, ih, List.append_assoc]
theorem tx_rules : ∀ (s : List ERu), la ≤ 6 → ja ≤ 6 → (∀ e ∈ s, okRu la ja e) → ∃ f, WF (rsX s ++ txt 31) (rsK s ++ [(31, 0)]) f 3 ∧ (f = 0 ∨ f = 3)
  | [], _, _, _ => ⟨3, WF.s3 (k := 31) (by decide) (by decide), Or.inr rfl⟩
  | a :: s, l6, j6, ok => by
    obtain ⟨f, b, c⟩ := tx_rules s l6 j6 (fun x hx => ok x (List.mem_cons_of_mem _ hx))
    have b2 := (tx_rule l6 j6 (ok a List.mem_cons_self)).app b (by omega)
    refine ⟨0, b2.to ?_ ?_, Or.inl rfl⟩
    · show _ = (ruX a ++ rsX s) ++ txt 31
      simp only [List.append_assoc]
    · show _ = (ruK a ++ rsK s) ++ [(31, 0)]
      simp only [List.append_assoc]
/-- the lines -/
def lbX (alt : Bool) (k : Nat) : List Nat := txt 41 ++ (nam k ++ (if alt = true ∧ k % 2 = 1 then txt 43 else txt 42))
theorem tx_lab {alt : Bool} {k : Nat} (hk : k < 20) : ∃ l, WF (lbX alt k) [(0, 0), (39, nmL k), (31, 0)] 1 l ∧ (l = 0 ∨ l = 3) := by
  have w1 : WF (txt 0 ++ ([32] ++ (108 :: nam k))) ([(0, 0)] ++ ([] ++ [(39, nmL k)])) 1 1 := (WF.w1 (k := 0) (by decide)).app (WF.bl.app (WF.nL hk) (by decide)) (by decide)
  have e1 : txt 41 = txt 0 ++ [32, 108] := by decide +kernel
  have e2 : txt 42 = txt 31 := by decide +kernel
  have e3 : txt 43 = [32] ++ (txt 31 ++ [10]) := by decide +kernel
  unfold lbX
  by_cases z : alt = true ∧ k % 2 = 1
  · rw [if_pos z]
    refine ⟨0, (w1.app (WF.bl.app ((WF.s3 (k := 31) (by decide) (by decide)).app WF.nl (by decide)) (by decide)) (by decide)).to ?_ rfl, Or.inl rfl⟩
    rw [e1, e3]
    simp only [List.append_assoc, List.cons_append, List.nil_append]
  · rw [if_neg z]
    refine ⟨3, (w1.app (WF.s3 (k := 31) (by decide) (by decide)) (by decide)).to ?_ rfl, Or.inr rfl⟩
    rw [e1, e2]
    simp only [List.append_assoc, List.cons_append, List.nil_append]
/-- beans behind the first ones -/
def beX : List Nat → List Nat
  | [] => []
  | b :: s => txt 52 ++ (dgs b ++ beX s)
theorem beX_app (s : List Nat) (a : Nat) : beX (s ++ [a]) = beX s ++ (txt 52 ++ dgs a) := by
  induction s with
  | nil => simp only [beX, List.nil_append, List.append_nil]
  | cons b s ih => simp only [List.cons_append, beX, ih, List.append_assoc]
theorem tx_beans : ∀ (s : List Nat), (∀ b ∈ s, b < 10000) → WF (beX s ++ txt 31) (beK s ++ [(31, 0)]) 3 3
  | [], _ => WF.s3 (k := 31) (by decide) (by decide)
  | b :: s, h => by
    have b1 := tx_beans s (fun x hx => h x (List.mem_cons_of_mem _ hx))
    have b2 := (WF.nu (h b List.mem_cons_self)).app b1 (by decide)
    have b3 := (WF.s3 (k := 32) (by decide) (by decide)).app b2 (by decide)
    refine b3.to ?_ ?_
    · show _ = (txt 52 ++ (dgs b ++ beX s)) ++ txt 31
      have e : txt 52 = txt 32 := by decide +kernel
      rw [e]
      simp only [List.append_assoc]
    · show _ = ((32, 0) :: (40, b) :: beK s) ++ [(31, 0)]
      rfl
def jaX (k : Nat) (x : EJa) : List Nat := txt 47 ++ (nam k ++ (txt 48 ++ (dgs x.1 ++ (txt 49 ++ (txt (44 + x.2.1) ++ (txt 50 ++ (dgs (x.2.2.getD 0 0) ++ (beX x.2.2.tail ++ txt 42))))))))
theorem tx_jar {k : Nat} {x : EJa} (hk : k < 20) (ok : okJ la x) : WF (jaX k x) (jaK k x ++ [(31, 0)]) 1 3 := by
  obtain ⟨se, wy, bs⟩ := x
  obtain ⟨⟨o1, o2⟩, o3, ⟨o4, o5⟩, o6⟩ := ok
  have o2 : se ≤ 9 := o2
  have o3 : wy < 3 := o3
  match bs, o4, o6 with
  | b :: s, o4, o6 =>
  have o6 : ∀ y ∈ b :: s, y ≤ 200 := o6
  have b0 := (WF.nu (n := b) (by have := o6 b List.mem_cons_self; omega)).app (tx_beans s (fun y hy => by have := o6 y (List.mem_cons_of_mem _ hy); omega)) (by decide)
  have b1 := (WF.bl.app ((WF.w1 (k := 4) (by decide)).app (WF.bl.app b0 (by decide)) (by decide)) (by decide))
  have b2 := (WF.w1 (k := 24 + wy) (by omega)).app b1 (by decide)
  have b3 := (WF.nu (n := se) (by omega)).app (WF.bl.app ((WF.w1 (k := 3) (by decide)).app (WF.bl.app b2 (by decide)) (by decide)) (by decide)) (by decide)
  have b4 := (WF.nJ hk).app (WF.bl.app ((WF.w1 (k := 2) (by decide)).app (WF.bl.app b3 (by decide)) (by decide)) (by decide)) (by decide)
  have b5 := (WF.w1 (k := 1) (by decide)).app (WF.bl.app b4 (by decide)) (by decide)
  refine b5.to ?_ rfl
  show _ = txt 47 ++ (nam k ++ (txt 48 ++ (dgs se ++ (txt 49 ++ (txt (44 + wy) ++ (txt 50 ++ (dgs b ++ (beX s ++ txt 42))))))))
  have e1 : txt 47 = txt 1 ++ [32, 106] := by decide +kernel
  have e2 : txt 48 = [32] ++ (txt 2 ++ [32]) := by decide +kernel
  have e3 : txt 49 = [32] ++ (txt 3 ++ [32]) := by decide +kernel
  have e4 : txt (44 + wy) = txt (24 + wy) := by
    rcases (by omega : wy = 0 ∨ wy = 1 ∨ wy = 2) with rfl | rfl | rfl <;> decide +kernel
  have e5 : txt 50 = [32] ++ (txt 4 ++ [32]) := by decide +kernel
  have e6 : txt 42 = txt 31 := by decide +kernel
  rw [e1, e2, e3, e4, e5, e6]
  simp only [List.append_assoc, List.cons_append, List.nil_append]
def liX (k : Nat) (x : ELi) : List Nat := txt 53 ++ (nam k ++ (txt 54 ++ (nam x.1 ++ (txt 55 ++ (nam x.2.1 ++ (rsX x.2.2 ++ txt 42))))))
theorem tx_lid {k : Nat} {x : ELi} (hk : k < 20) (l6 : la ≤ 6) (j6 : ja ≤ 6) (ok : okI la ja x) : WF (liX k x) (liK k x ++ [(31, 0)]) 1 3 := by
  obtain ⟨j, l, rs⟩ := x
  obtain ⟨o1, o2, o3⟩ := ok
  have o1 : j < ja := o1
  have o2 : l < la := o2
  obtain ⟨f, b0, c⟩ := tx_rules rs l6 j6 o3
  have b1 := (WF.nL (k := l) (by omega)).app b0 (by omega)
  have b2 := (WF.nJ (k := j) (by omega)).app (WF.bl.app ((WF.w1 (k := 7) (by decide)).app (WF.bl.app b1 (by decide)) (by decide)) (by decide)) (by decide)
  have b3 := (WF.nD hk).app (WF.bl.app ((WF.w1 (k := 6) (by decide)).app (WF.bl.app b2 (by decide)) (by decide)) (by decide)) (by decide)
  have b4 := (WF.w1 (k := 5) (by decide)).app (WF.bl.app b3 (by decide)) (by decide)
  refine b4.to ?_ rfl
  show _ = txt 53 ++ (nam k ++ (txt 54 ++ (nam j ++ (txt 55 ++ (nam l ++ (rsX rs ++ txt 42))))))
  have e1 : txt 53 = txt 5 ++ [32, 100] := by decide +kernel
  have e2 : txt 54 = [32] ++ (txt 6 ++ [32, 106]) := by decide +kernel
  have e3 : txt 55 = [32] ++ (txt 7 ++ [32, 108]) := by decide +kernel
  have e6 : txt 42 = txt 31 := by decide +kernel
  rw [e1, e2, e3, e6]
  simp only [List.append_assoc, List.cons_append, List.nil_append]
end TT
