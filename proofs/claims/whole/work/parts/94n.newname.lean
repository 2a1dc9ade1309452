/-! the reference takes a new name down -/
section RMN
variable {G : GT} {d : Nat} {h0 h : AH} {m : Nat} {K : TKS} {T : List Nat} {L : Nat → Nat} {s : PST} {dp : Nat} {g : GCT} {no : Nat} {P : OC → AH → Prop}
theorem TkM.to2 {h1 : AH} (q : TkM h m K T L) (e : ∀ i c, At h i c → m < i → i < m + 6 → At h1 i c) : TkM h1 m K T L := q.to e
theorem RxM.reg (rx : RxM h h m K T L s 0 g no) {th by_ : Int32} {ea : Int32 × Int32} (a0 : At h m (MrO m s 0 g.2.2.2.2.2 th by_ ea)) {ft fk fn : Nat → Int32} {t : Nat → Nat} (n1 : At h (m + 6) (.inl (0, 20, .inl ft))) (n2 : At h (m + 7) (.inl (0, 20, .inl fk))) (n3 : At h (m + 8) (.inl (0, 20, .inl fn))) (n5 : ∀ k, k < g.2.2.2.2.2 → ft k = nI (t k) ∧ t k < K.1 ∧ K.2.1 (t k) = 39) (n6 : pEr s = 0 → ∃ kd nu : Nat → Nat, (∀ k, k < g.2.2.2.2.2 → fk k = nI (kd k) ∧ fn k = nI (nu k)) ∧ NmP K g.2.2.2.2.2 t kd nu (nmN (pDf s))) (hlt : g.2.2.2.2.2 < 20) (ek : kdP K s = 39) {w many : Nat} (hw : w = 0 ∨ w = 1 ∨ w = 5) (hok : pEr s = 0 → many = cnN w (pDf s) ∧ cnN w (pDf s) < mxN w ∧ noNm K s) : RxM (hset (hset (hset (hset h (m + 6) (.inl (0, 20, .inl (upd ft g.2.2.2.2.2 (nI (pPo s)))))) (m + 7) (.inl (0, 20, .inl (upd fk g.2.2.2.2.2 (nI w))))) (m + 8) (.inl (0, 20, .inl (upd fn g.2.2.2.2.2 (nI many))))) m (MrO m s 0 (g.2.2.2.2.2 + 1) th by_ ea)) (hset (hset (hset (hset h (m + 6) (.inl (0, 20, .inl (upd ft g.2.2.2.2.2 (nI (pPo s)))))) (m + 7) (.inl (0, 20, .inl (upd fk g.2.2.2.2.2 (nI w))))) (m + 8) (.inl (0, 20, .inl (upd fn g.2.2.2.2.2 (nI many))))) m (MrO m s 0 (g.2.2.2.2.2 + 1) th by_ ea)) m K T L (upP (adN w (vaP K s)) s) 0 (gNm g (g.2.2.2.2.2 + 1)) no := by
  have k39 := rx.k39 ek
  obtain ⟨-, a1, ⟨q2, a2, c2⟩, ⟨q3, a3, c3⟩, ⟨q4, a4, c4⟩, b1, b2, b3, b4, b5, b6, u, tk, -⟩ := rx
  have z0 := a0.1
  have y1 := n1.1
  have y2 := n2.1
  have y3 := n3.1
  have tk2 : TkM (hset (hset (hset (hset h (m + 6) (.inl (0, 20, .inl (upd ft g.2.2.2.2.2 (nI (pPo s)))))) (m + 7) (.inl (0, 20, .inl (upd fk g.2.2.2.2.2 (nI w))))) (m + 8) (.inl (0, 20, .inl (upd fn g.2.2.2.2.2 (nI many))))) m (MrO m s 0 (g.2.2.2.2.2 + 1) th by_ ea)) m K T L := tk.to (fun i c a e1 e2 => At.set_ne (At.set_ne (At.set_ne (At.set_ne a (by omega)) (by omega)) (by omega)) (by omega))
  have A0 : At (hset (hset (hset (hset h (m + 6) (.inl (0, 20, .inl (upd ft g.2.2.2.2.2 (nI (pPo s)))))) (m + 7) (.inl (0, 20, .inl (upd fk g.2.2.2.2.2 (nI w))))) (m + 8) (.inl (0, 20, .inl (upd fn g.2.2.2.2.2 (nI many))))) m (MrO m s 0 (g.2.2.2.2.2 + 1) th by_ ea)) m (MrO m s 0 (g.2.2.2.2.2 + 1) th by_ ea) := At.set_eq2 z0
  have A1 : At (hset (hset (hset (hset h (m + 6) (.inl (0, 20, .inl (upd ft g.2.2.2.2.2 (nI (pPo s)))))) (m + 7) (.inl (0, 20, .inl (upd fk g.2.2.2.2.2 (nI w))))) (m + 8) (.inl (0, 20, .inl (upd fn g.2.2.2.2.2 (nI many))))) m (MrO m s 0 (g.2.2.2.2.2 + 1) th by_ ea)) (m + 28) (MBoO (m + 28) (nI g.1) (nI g.2.1) (nI g.2.2.1) (nI g.2.2.2.1) (nI g.2.2.2.2.1) (nI no)) := by (first | assumption | (repeat (first | assumption | exact At.set_eq2 (by (first | omega | (simp only [hset, hnew]; omega) | rfl | decide)) | exact At.new_eq2 _ _ (by (first | omega | (simp only [hset, hnew]; omega) | rfl | decide)) | refine At.set_ne ?_ (by (first | omega | (simp only [hset, hnew]; omega) | rfl | decide)) | refine At.new_ne ?_)))
  have A2 : At (hset (hset (hset (hset h (m + 6) (.inl (0, 20, .inl (upd ft g.2.2.2.2.2 (nI (pPo s)))))) (m + 7) (.inl (0, 20, .inl (upd fk g.2.2.2.2.2 (nI w))))) (m + 8) (.inl (0, 20, .inl (upd fn g.2.2.2.2.2 (nI many))))) m (MrO m s 0 (g.2.2.2.2.2 + 1) th by_ ea)) (m + 28 + 16) (.inl (0, 800, .inl q2)) := by (first | assumption | (repeat (first | assumption | exact At.set_eq2 (by (first | omega | (simp only [hset, hnew]; omega) | rfl | decide)) | exact At.new_eq2 _ _ (by (first | omega | (simp only [hset, hnew]; omega) | rfl | decide)) | refine At.set_ne ?_ (by (first | omega | (simp only [hset, hnew]; omega) | rfl | decide)) | refine At.new_ne ?_)))
  have A3 : At (hset (hset (hset (hset h (m + 6) (.inl (0, 20, .inl (upd ft g.2.2.2.2.2 (nI (pPo s)))))) (m + 7) (.inl (0, 20, .inl (upd fk g.2.2.2.2.2 (nI w))))) (m + 8) (.inl (0, 20, .inl (upd fn g.2.2.2.2.2 (nI many))))) m (MrO m s 0 (g.2.2.2.2.2 + 1) th by_ ea)) (m + 28 + 17) (.inl (0, 800, .inl q3)) := by (first | assumption | (repeat (first | assumption | exact At.set_eq2 (by (first | omega | (simp only [hset, hnew]; omega) | rfl | decide)) | exact At.new_eq2 _ _ (by (first | omega | (simp only [hset, hnew]; omega) | rfl | decide)) | refine At.set_ne ?_ (by (first | omega | (simp only [hset, hnew]; omega) | rfl | decide)) | refine At.new_ne ?_)))
  have A4 : At (hset (hset (hset (hset h (m + 6) (.inl (0, 20, .inl (upd ft g.2.2.2.2.2 (nI (pPo s)))))) (m + 7) (.inl (0, 20, .inl (upd fk g.2.2.2.2.2 (nI w))))) (m + 8) (.inl (0, 20, .inl (upd fn g.2.2.2.2.2 (nI many))))) m (MrO m s 0 (g.2.2.2.2.2 + 1) th by_ ea)) (m + 28 + 18) (.inl (0, 800, .inl q4)) := by (first | assumption | (repeat (first | assumption | exact At.set_eq2 (by (first | omega | (simp only [hset, hnew]; omega) | rfl | decide)) | exact At.new_eq2 _ _ (by (first | omega | (simp only [hset, hnew]; omega) | rfl | decide)) | refine At.set_ne ?_ (by (first | omega | (simp only [hset, hnew]; omega) | rfl | decide)) | refine At.new_ne ?_)))
  have A6 : At (hset (hset (hset (hset h (m + 6) (.inl (0, 20, .inl (upd ft g.2.2.2.2.2 (nI (pPo s)))))) (m + 7) (.inl (0, 20, .inl (upd fk g.2.2.2.2.2 (nI w))))) (m + 8) (.inl (0, 20, .inl (upd fn g.2.2.2.2.2 (nI many))))) m (MrO m s 0 (g.2.2.2.2.2 + 1) th by_ ea)) (m + 6) (.inl (0, 20, .inl (upd ft g.2.2.2.2.2 (nI (pPo s))))) := At.set_ne (At.set_ne (At.set_ne (At.set_eq2 y1) (by omega)) (by omega)) (by omega)
  have A7 : At (hset (hset (hset (hset h (m + 6) (.inl (0, 20, .inl (upd ft g.2.2.2.2.2 (nI (pPo s)))))) (m + 7) (.inl (0, 20, .inl (upd fk g.2.2.2.2.2 (nI w))))) (m + 8) (.inl (0, 20, .inl (upd fn g.2.2.2.2.2 (nI many))))) m (MrO m s 0 (g.2.2.2.2.2 + 1) th by_ ea)) (m + 7) (.inl (0, 20, .inl (upd fk g.2.2.2.2.2 (nI w)))) := At.set_ne (At.set_ne (At.set_eq2 y2) (by omega)) (by omega)
  have A8 : At (hset (hset (hset (hset h (m + 6) (.inl (0, 20, .inl (upd ft g.2.2.2.2.2 (nI (pPo s)))))) (m + 7) (.inl (0, 20, .inl (upd fk g.2.2.2.2.2 (nI w))))) (m + 8) (.inl (0, 20, .inl (upd fn g.2.2.2.2.2 (nI many))))) m (MrO m s 0 (g.2.2.2.2.2 + 1) th by_ ea)) (m + 8) (.inl (0, 20, .inl (upd fn g.2.2.2.2.2 (nI many)))) := At.set_ne (At.set_eq2 y3) (by omega)
  have n5' : ∀ k, k < g.2.2.2.2.2 + 1 → upd ft g.2.2.2.2.2 (nI (pPo s)) k = nI (upN t g.2.2.2.2.2 (pPo s) k) ∧ upN t g.2.2.2.2.2 (pPo s) k < K.1 ∧ K.2.1 (upN t g.2.2.2.2.2 (pPo s) k) = 39 := fun k hk => by
    show (if k = g.2.2.2.2.2 then nI (pPo s) else ft k) = nI (if k = g.2.2.2.2.2 then pPo s else t k) ∧ (if k = g.2.2.2.2.2 then pPo s else t k) < K.1 ∧ K.2.1 (if k = g.2.2.2.2.2 then pPo s else t k) = 39
    by_cases z : k = g.2.2.2.2.2
    · rw [if_pos z, if_pos z]
      exact ⟨rfl, b3, k39⟩
    · rw [if_neg z, if_neg z]
      exact n5 k (by omega)
  by_cases z : pEr s = 0
  · obtain ⟨o1, o2, o3⟩ := hok z
    obtain ⟨kd, nu, hkn, hp⟩ := n6 z
    rw [upP_e z]
    have e := ad_nd (w := w) (v := vaP K s) (d := pDf s)
    injection e with g1 g2
    injection g2 with g2 g3
    injection g3 with g3 g4
    have ek2 : okc s no = no := if_pos z
    rw [ek2] at c2 c3 c4
    have ek3 : okc (pPo s, pEr s, pEt s, adN w (vaP K s) (pDf s)) no = no := if_pos z
    refine ⟨⟨th, by_, ea, A0⟩, A1, ⟨q2, A2, ?_⟩, ⟨q3, A3, ?_⟩, ⟨q4, A4, ?_⟩, fun _ => (b1 z).trans g1.symm, b2, b3, b4, b5, b6, Ux.rf _ _, tk2, _, _, _, upN t g.2.2.2.2.2 (pPo s), A6, A7, A8, hlt, n5', fun _ => ⟨upN kd g.2.2.2.2.2 w, upN nu g.2.2.2.2.2 (cnN w (pDf s)), fun k hk => ?_, ?_⟩⟩
    · rw [ek3]
      exact fun k hk => (c2 k hk).trans (congrArg (fun f => nI (f k)) g2.symm)
    · rw [ek3]
      exact fun k hk => (c3 k hk).trans (congrArg (fun f => nI (f k)) g3.symm)
    · rw [ek3]
      exact fun k hk => (c4 k hk).trans (congrArg (fun f => nI (f k)) g4.symm)
    · have hk : k < g.2.2.2.2.2 + 1 := hk
      show (if k = g.2.2.2.2.2 then nI w else fk k) = nI (if k = g.2.2.2.2.2 then w else kd k) ∧ (if k = g.2.2.2.2.2 then nI many else fn k) = nI (if k = g.2.2.2.2.2 then cnN w (pDf s) else nu k)
      by_cases y : k = g.2.2.2.2.2
      · rw [if_pos y, if_pos y, if_pos y, if_pos y, o1]
        exact ⟨rfl, rfl⟩
      · rw [if_neg y, if_neg y, if_neg y, if_neg y]
        exact hkn k (by omega)
    · have hf := (nm_known hp).mpr o3
      exact NmP.add hw hp o2 (fun k hk => (fnN_none.mp hf) k hk)
  · rw [upP_n z]
    exact ⟨⟨th, by_, ea, A0⟩, A1, ⟨q2, A2, fun k hk => absurd hk (okc_0 z)⟩, ⟨q3, A3, fun k hk => absurd hk (okc_0 z)⟩, ⟨q4, A4, fun k hk => absurd hk (okc_0 z)⟩, fun w => absurd w z, b2, b3, b4, b5, b6, Ux.rf _ _, tk2, _, _, _, upN t g.2.2.2.2.2 (pPo s), A6, A7, A8, hlt, n5', fun w => absurd w z⟩

set_option maxHeartbeats 4000000 in
set_option maxRecDepth 100000 in
theorem s_mnw110 (hd : 5 ≤ d) (rx : RxM h h m K T L s 0 g no) {x1 : Int32} {many most : Nat} (hb : most < 100) (hm : many ≤ most) (kk : ∀ h1, RxM h h1 m K T L (tkP K 39 s) 0 g no → P (.inl (some (.int (nI (min most many))))) h1) : RQ G mX12_newName d 110 [some (.ref m), some (.int x1), some (.int (nI many)), some (.int (nI most))] [] h P := by
  obtain ⟨⟨th, by_, ea, a0⟩, -⟩ := id rx
  refine tX12_newName_110  (r := ?_)
  refine tX12_newName_111  (r := ?_)
  refine tX12_newName_113 (hd := (by omega)) (ha := (by first | assumption | (repeat (first | assumption | exact At.set_eq2 (by first | omega | (simp only [hset, hnew]; omega) | rfl | decide) | exact At.new_eq2 _ _ (by first | omega | (simp only [hset, hnew]; omega) | rfl | decide) | refine At.set_ne ?_ (by first | omega | (simp only [hset, hnew]; omega) | rfl | decide) | refine At.new_ne ?_)))) (call := s_mtake (d := 4) (by omega) rx (k := 39) (by decide)) (k := ?_)
  intro h9 rx9
  obtain ⟨-, -, -, -, -, -, -, -, -, -, -, u9, -⟩ := id rx9
  refine tX12_newName_116  (r := ?_)
  refine tX12_newName_117  (r := ?_)
  refine tX12_newName_118 (hd := (by omega)) (r := ?_)
  rw [nI_minN (by omega) (by omega)]
  refine tX12_newName_121 (hP := ?_)
  exact kk _ rx9

set_option maxHeartbeats 4000000 in
set_option maxRecDepth 100000 in
theorem s_mnw41 (hd : 5 ≤ d) (rx : RxM h h m K T L s 0 g no) (ek : kdP K s = 39) {w many most : Nat} (hw : w = 0 ∨ w = 1 ∨ w = 5) (hb : most < 100) (hm : many ≤ most) (hok : pEr s = 0 → many = cnN w (pDf s) ∧ cnN w (pDf s) < mxN w ∧ noNm K s ∧ many < most ∧ bLa (pBk s) + bJa (pBk s) + bLi (pBk s) < 20) : RQ G mX12_newName d 41 [some (.ref m), some (.int (nI w)), some (.int (nI many)), some (.int (nI most))] [] h (Ri fun v h1 => v = nI (min most many) ∧ Uw h h1 m ∧ ∃ nm1, RxM h1 h1 m K T L (tkP K 39 (upP (adN w (vaP K s)) s)) 0 (gNm g nm1) no) := by
  obtain ⟨⟨th, by_, ea, a0⟩, a1, ⟨q2, a2, c2⟩, ⟨q3, a3, c3⟩, ⟨q4, a4, c4⟩, b1, b2, b3, b4, b5, b6, u, tk, nm⟩ := id rx
  obtain ⟨⟨v1, y1, x1⟩, ⟨v2, y2, x2⟩, ⟨v3, y3, x3⟩, ⟨v4, y4, x4⟩, ⟨v5, y5, x5⟩, tw⟩ := id tk
  have k401 := tw.2.1
  have w1 := u.at y1 (by omega) (by omega) (by omega)
  have w2 := u.at y2 (by omega) (by omega) (by omega)
  have w3 := u.at y3 (by omega) (by omega) (by omega)
  have w4 := u.at y4 (by omega) (by omega) (by omega)
  have w5 := u.at y5 (by omega) (by omega) (by omega)
  have z0 := a0.1
  have z1 := a1.1
  have l2_ := a2.1
  have l3_ := a3.1
  have l4_ := a4.1
  obtain ⟨ft, fk, fn, t, n1, n2, n3, n4, n5, n6⟩ := id nm
  have g20 : g.2.2.2.2.2 ≤ 20 := n4
  have o6 := n1.1
  have o7 := n2.1
  have o8 := n3.1
  have skip : ¬ pEr s = 0 → upP (adN w (vaP K s)) s = s := fun z => upP_n z
  have nml : pEr s = 0 → g.2.2.2.2.2 < 20 := fun z => by
    obtain ⟨kd, nu, -, hp⟩ := n6 z
    obtain ⟨y1, y2, y3, y4, y5⟩ := hok z
    have y6 : g.2.2.2.2.2 = bLa (pBk s) + bJa (pBk s) + bLi (pBk s) := hp.1
    omega
  refine tX12_newName_41  (r := ?_)
  refine tX12_newName_42  (r := ?_)
  refine tX12_newName_44 (hd := (by omega)) (ha := (by first | assumption | (repeat (first | assumption | exact At.set_eq2 (by first | omega | (simp only [hset, hnew]; omega) | rfl | decide) | exact At.new_eq2 _ _ (by first | omega | (simp only [hset, hnew]; omega) | rfl | decide) | refine At.set_ne ?_ (by first | omega | (simp only [hset, hnew]; omega) | rfl | decide) | refine At.new_ne ?_)))) (call := s_mis (d := 2) rx (k := 39) (by decide)) (k := ?_)
  rintro x_ h_ ⟨hx_, e_⟩
  rw [e_, hx_, if_pos ek]
  refine tX12_newName_47  (kt := fun c_ => by exfalso; exact absurd c_ (by decide)) (kf := fun _ => ?_)
  refine tX12_newName_50  (r := ?_)
  refine tX12_newName_51  (r := ?_)
  refine tX12_newName_52  (kt := fun c_52 => ?_) (kf := fun c_52 => ?_)
  · have z : ¬ pEr s = 0 := fun z => by
      have := (hok z).2.2.2
      have := (nI_leI (by omega) (by omega)).mp c_52
      omega
    rw [skip z]
    exact s_mnw110 hd rx hb hm (fun h1 rx1 => by
      obtain ⟨-, -, -, -, -, -, -, -, -, -, -, u1, -⟩ := id rx1
      exact ⟨_, rfl, rfl, ⟨u1.1, u1.2.1, fun i e1 e2 e3 e4 e5 => u1.2.2 i e1 e2 e3 e5⟩, _, rx1.self⟩)
  · refine tX12_newName_55  (r := ?_)
    refine tX12_newName_56 (ha := (by first | assumption | (repeat (first | assumption | exact At.set_eq2 (by first | omega | (simp only [hset, hnew]; omega) | rfl | decide) | exact At.new_eq2 _ _ (by first | omega | (simp only [hset, hnew]; omega) | rfl | decide) | refine At.set_ne ?_ (by first | omega | (simp only [hset, hnew]; omega) | rfl | decide) | refine At.new_ne ?_)))) (hv := rfl) (r := ?_)
    refine tX12_newName_59  (r := ?_)
    refine tX12_newName_60 (ha := (by first | assumption | (repeat (first | assumption | exact At.set_eq2 (by first | omega | (simp only [hset, hnew]; omega) | rfl | decide) | exact At.new_eq2 _ _ (by first | omega | (simp only [hset, hnew]; omega) | rfl | decide) | refine At.set_ne ?_ (by first | omega | (simp only [hset, hnew]; omega) | rfl | decide) | refine At.new_ne ?_)))) (hv := rfl) (r := ?_)
    refine tX12_newName_63 (ha := (by first | assumption | (repeat (first | assumption | exact At.set_eq2 (by first | omega | (simp only [hset, hnew]; omega) | rfl | decide) | exact At.new_eq2 _ _ (by first | omega | (simp only [hset, hnew]; omega) | rfl | decide) | refine At.set_ne ?_ (by first | omega | (simp only [hset, hnew]; omega) | rfl | decide) | refine At.new_ne ?_)))) (r := ?_)
    refine tX12_newName_64  (kt := fun c_64 => ?_) (kf := fun c_64 => ?_)
    · have z : ¬ pEr s = 0 := fun z => by
        have := nml z
        have := (nI_leI (by omega) (by omega)).mp c_64
        omega
      rw [skip z]
      exact s_mnw110 hd rx hb hm (fun h1 rx1 => by
        obtain ⟨-, -, -, -, -, -, -, -, -, -, -, u1, -⟩ := id rx1
        exact ⟨_, rfl, rfl, ⟨u1.1, u1.2.1, fun i e1 e2 e3 e4 e5 => u1.2.2 i e1 e2 e3 e5⟩, _, rx1.self⟩)
    · have lt : g.2.2.2.2.2 < 20 := Nat.lt_of_not_le (fun z => c_64 ((nI_leI (by omega) (by omega)).mpr z))
      refine tX12_newName_67  (r := ?_)
      refine tX12_newName_68 (ha := (by first | assumption | (repeat (first | assumption | exact At.set_eq2 (by first | omega | (simp only [hset, hnew]; omega) | rfl | decide) | exact At.new_eq2 _ _ (by first | omega | (simp only [hset, hnew]; omega) | rfl | decide) | refine At.set_ne ?_ (by first | omega | (simp only [hset, hnew]; omega) | rfl | decide) | refine At.new_ne ?_)))) (hv := rfl) (r := ?_)
      refine tX12_newName_71  (r := ?_)
      refine tX12_newName_72 (ha := (by first | assumption | (repeat (first | assumption | exact At.set_eq2 (by first | omega | (simp only [hset, hnew]; omega) | rfl | decide) | exact At.new_eq2 _ _ (by first | omega | (simp only [hset, hnew]; omega) | rfl | decide) | refine At.set_ne ?_ (by first | omega | (simp only [hset, hnew]; omega) | rfl | decide) | refine At.new_ne ?_)))) (hv := rfl) (r := ?_)
      refine tX12_newName_75  (r := ?_)
      refine tX12_newName_76 (ha := (by first | assumption | (repeat (first | assumption | exact At.set_eq2 (by first | omega | (simp only [hset, hnew]; omega) | rfl | decide) | exact At.new_eq2 _ _ (by first | omega | (simp only [hset, hnew]; omega) | rfl | decide) | refine At.set_ne ?_ (by first | omega | (simp only [hset, hnew]; omega) | rfl | decide) | refine At.new_ne ?_)))) (hv := rfl) (r := ?_)
      refine tX12_newName_79 (ha := (by first | assumption | (repeat (first | assumption | exact At.set_eq2 (by first | omega | (simp only [hset, hnew]; omega) | rfl | decide) | exact At.new_eq2 _ _ (by first | omega | (simp only [hset, hnew]; omega) | rfl | decide) | refine At.set_ne ?_ (by first | omega | (simp only [hset, hnew]; omega) | rfl | decide) | refine At.new_ne ?_)))) (hx := rfl) (hj := lt) (hn := (by decide)) (r := ?_)
      refine tX12_newName_80  (r := ?_)
      refine tX12_newName_81 (ha := (by first | assumption | (repeat (first | assumption | exact At.set_eq2 (by first | omega | (simp only [hset, hnew]; omega) | rfl | decide) | exact At.new_eq2 _ _ (by first | omega | (simp only [hset, hnew]; omega) | rfl | decide) | refine At.set_ne ?_ (by first | omega | (simp only [hset, hnew]; omega) | rfl | decide) | refine At.new_ne ?_)))) (hv := rfl) (r := ?_)
      refine tX12_newName_84  (r := ?_)
      refine tX12_newName_85 (ha := (by first | assumption | (repeat (first | assumption | exact At.set_eq2 (by first | omega | (simp only [hset, hnew]; omega) | rfl | decide) | exact At.new_eq2 _ _ (by first | omega | (simp only [hset, hnew]; omega) | rfl | decide) | refine At.set_ne ?_ (by first | omega | (simp only [hset, hnew]; omega) | rfl | decide) | refine At.new_ne ?_)))) (hv := rfl) (r := ?_)
      refine tX12_newName_88  (r := ?_)
      refine tX12_newName_89 (ha := (by first | assumption | (repeat (first | assumption | exact At.set_eq2 (by first | omega | (simp only [hset, hnew]; omega) | rfl | decide) | exact At.new_eq2 _ _ (by first | omega | (simp only [hset, hnew]; omega) | rfl | decide) | refine At.set_ne ?_ (by first | omega | (simp only [hset, hnew]; omega) | rfl | decide) | refine At.new_ne ?_)))) (hx := rfl) (hj := lt) (hn := (by decide)) (r := ?_)
      refine tX12_newName_90  (r := ?_)
      refine tX12_newName_91 (ha := (by first | assumption | (repeat (first | assumption | exact At.set_eq2 (by first | omega | (simp only [hset, hnew]; omega) | rfl | decide) | exact At.new_eq2 _ _ (by first | omega | (simp only [hset, hnew]; omega) | rfl | decide) | refine At.set_ne ?_ (by first | omega | (simp only [hset, hnew]; omega) | rfl | decide) | refine At.new_ne ?_)))) (hv := rfl) (r := ?_)
      refine tX12_newName_94  (r := ?_)
      refine tX12_newName_95 (ha := (by first | assumption | (repeat (first | assumption | exact At.set_eq2 (by first | omega | (simp only [hset, hnew]; omega) | rfl | decide) | exact At.new_eq2 _ _ (by first | omega | (simp only [hset, hnew]; omega) | rfl | decide) | refine At.set_ne ?_ (by first | omega | (simp only [hset, hnew]; omega) | rfl | decide) | refine At.new_ne ?_)))) (hv := rfl) (r := ?_)
      refine tX12_newName_98  (r := ?_)
      refine tX12_newName_99 (ha := (by first | assumption | (repeat (first | assumption | exact At.set_eq2 (by first | omega | (simp only [hset, hnew]; omega) | rfl | decide) | exact At.new_eq2 _ _ (by first | omega | (simp only [hset, hnew]; omega) | rfl | decide) | refine At.set_ne ?_ (by first | omega | (simp only [hset, hnew]; omega) | rfl | decide) | refine At.new_ne ?_)))) (hx := rfl) (hj := lt) (hn := (by decide)) (r := ?_)
      refine tX12_newName_100  (r := ?_)
      refine tX12_newName_101  (r := ?_)
      refine tX12_newName_102 (ha := (by first | assumption | (repeat (first | assumption | exact At.set_eq2 (by first | omega | (simp only [hset, hnew]; omega) | rfl | decide) | exact At.new_eq2 _ _ (by first | omega | (simp only [hset, hnew]; omega) | rfl | decide) | refine At.set_ne ?_ (by first | omega | (simp only [hset, hnew]; omega) | rfl | decide) | refine At.new_ne ?_)))) (hv := rfl) (r := ?_)
      refine tX12_newName_105  (r := ?_)
      refine tX12_newName_106  (r := ?_)
      rw [nI_add]
      refine tX12_newName_107 (ha := (by first | assumption | (repeat (first | assumption | exact At.set_eq2 (by first | omega | (simp only [hset, hnew]; omega) | rfl | decide) | exact At.new_eq2 _ _ (by first | omega | (simp only [hset, hnew]; omega) | rfl | decide) | refine At.set_ne ?_ (by first | omega | (simp only [hset, hnew]; omega) | rfl | decide) | refine At.new_ne ?_)))) (hlen := rfl) (r := ?_)
      have rxr := rx.reg a0 n1 n2 n3 n5 n6 lt ek hw (many := many) (fun z => ⟨(hok z).1, (hok z).2.1, (hok z).2.2.1⟩)
      exact s_mnw110 hd rxr hb hm (fun h1 rx1 => by
        obtain ⟨-, -, -, -, -, -, -, -, -, -, -, u1, -⟩ := id rx1
        exact ⟨_, rfl, rfl, ⟨u1.1, u1.2.1, fun i e1 e2 e3 e4 e5 => (u1.2.2 i e1 e2 e3 e5).trans ((if_neg (by omega)).trans ((if_neg (by omega)).trans ((if_neg (by omega)).trans (if_neg (by omega)))))⟩, _, rx1.self⟩)

theorem nw_po {f : Bool} : pPo (nwP K f s) = pPo s := by
  unfold nwP
  have h1 : pPo (if lbO K s = none ∧ jbO K s = none ∧ ibO K s = none then s else rpP 2 s) = pPo s := by
    split
    · rfl
    · exact rpP_po
  split
  · rw [rpP_po]
    exact h1
  · exact h1
theorem nw_kd {f : Bool} : kdP K (nwP K f s) = kdP K s := by
  unfold nwP
  have h1 : kdP K (if lbO K s = none ∧ jbO K s = none ∧ ibO K s = none then s else rpP 2 s) = kdP K s := by
    split
    · rfl
    · exact rp_kd (by decide)
  split
  · rw [rp_kd (by decide)]
    exact h1
  · exact h1
theorem nw_0 {f : Bool} (h : pEr (nwP K f s) = 0) : pEr s = 0 ∧ noNm K s ∧ f = false ∧ nwP K f s = s := by
  unfold nwP at h ⊢
  by_cases z : lbO K s = none ∧ jbO K s = none ∧ ibO K s = none
  · rw [if_pos z] at h ⊢
    cases f with
    | true =>
      rw [if_pos rfl] at h
      exact (rpP_er (by decide) h).elim
    | false =>
      rw [if_neg (by decide)] at h ⊢
      exact ⟨h, z, rfl, rfl⟩
  · rw [if_neg z] at h
    split at h
    · exact (rpP_er (by decide) h).elim
    · exact (rpP_er (by decide) h).elim

theorem nw_er {f : Bool} (h : pEr s ≠ 1) : pEr (nwP K f s) ≠ 1 := by
  unfold nwP
  have hr : ∀ n, n ≠ 1 → ∀ x : PST, pEr x ≠ 1 → pEr (rpP n x) ≠ 1 := fun n hn x hx => by
    unfold rpP
    split
    · exact hn
    · exact hx
  have h1 : pEr (if lbO K s = none ∧ jbO K s = none ∧ ibO K s = none then s else rpP 2 s) ≠ 1 := by
    split
    · exact h
    · exact hr 2 (by decide) s h
  split
  · exact hr 4 (by decide) _ h1
  · exact h1
theorem wr_nw {f : Bool} {F : DRF → DRF} (ek : kdP K s ≠ 39) : Eqv (tkP K 39 s) (tkP K 39 (upP F (nwP K f s))) := by
  have k2 : kdP K (upP F (nwP K f s)) = kdP K s := kdP_up.trans nw_kd
  rw [tkP_wr ek, tkP_wr (by rw [k2]; exact ek)]
  by_cases z : pEr s = 1
  · have e : nwP K f s = s := nw_e (by omega)
    rw [e, upP_n (by omega)]
    exact Eqv.rf _
  · have z2 : pEr (upP F (nwP K f s)) ≠ 1 := by
      rw [pEr_up]
      exact nw_er z
    unfold wrP
    rw [if_neg z, if_neg z2, pPo_up, nw_po]
    exact Eqv.mk2 (fun q => absurd q (by decide))

set_option maxHeartbeats 4000000 in
set_option maxRecDepth 100000 in
theorem s_mnew_no (hd : 8 ≤ d) (rx : RxM h h m K T L s 0 g no) (ek : kdP K s ≠ 39) {w many most : Nat} {f : Bool} (hb : most < 100) (hm : many ≤ most) : RQ G mX12_newName d 0 [some (.ref m), some (.int (nI w)), some (.int (nI many)), some (.int (nI most))] [] h (Ri fun v h1 => v = nI (min most many) ∧ Uw h h1 m ∧ ∃ nm1, RxM h1 h1 m K T L (tkP K 39 (upP (adN w (vaP K (nwP K f s))) (nwP K f s))) 0 (gNm g nm1) no) := by
  obtain ⟨⟨th, by_, ea, a0⟩, -⟩ := id rx
  refine tX12_newName_0  (r := ?_)
  refine tX12_newName_1  (r := ?_)
  refine tX12_newName_3 (hd := (by omega)) (ha := (by first | assumption | (repeat (first | assumption | exact At.set_eq2 (by first | omega | (simp only [hset, hnew]; omega) | rfl | decide) | exact At.new_eq2 _ _ (by first | omega | (simp only [hset, hnew]; omega) | rfl | decide) | refine At.set_ne ?_ (by first | omega | (simp only [hset, hnew]; omega) | rfl | decide) | refine At.new_ne ?_)))) (call := s_mis (d := 2) rx (k := 39) (by decide)) (k := ?_)
  rintro x_ h_ ⟨hx_, e_⟩
  rw [e_, hx_, if_neg ek]
  refine tX12_newName_6  (kf := fun c_ => by exfalso; exact c_ rfl) (kt := fun _ => ?_)
  refine tX12_newName_22  (r := ?_)
  refine tX12_newName_23  (r := ?_)
  refine tX12_newName_25 (hd := (by omega)) (ha := (by first | assumption | (repeat (first | assumption | exact At.set_eq2 (by first | omega | (simp only [hset, hnew]; omega) | rfl | decide) | exact At.new_eq2 _ _ (by first | omega | (simp only [hset, hnew]; omega) | rfl | decide) | refine At.set_ne ?_ (by first | omega | (simp only [hset, hnew]; omega) | rfl | decide) | refine At.new_ne ?_)))) (call := s_mis (d := 2) rx (k := 39) (by decide)) (k := ?_)
  rintro x_ h_ ⟨hx_, e_⟩
  rw [e_, hx_, if_neg ek]
  refine tX12_newName_28  (kf := fun c_ => by exfalso; exact c_ rfl) (kt := fun _ => ?_)
  refine tX12_newName_41  (r := ?_)
  refine tX12_newName_42  (r := ?_)
  refine tX12_newName_44 (hd := (by omega)) (ha := (by first | assumption | (repeat (first | assumption | exact At.set_eq2 (by first | omega | (simp only [hset, hnew]; omega) | rfl | decide) | exact At.new_eq2 _ _ (by first | omega | (simp only [hset, hnew]; omega) | rfl | decide) | refine At.set_ne ?_ (by first | omega | (simp only [hset, hnew]; omega) | rfl | decide) | refine At.new_ne ?_)))) (call := s_mis (d := 2) rx (k := 39) (by decide)) (k := ?_)
  rintro x_ h_ ⟨hx_, e_⟩
  rw [e_, hx_, if_neg ek]
  refine tX12_newName_47  (kf := fun c_ => by exfalso; exact c_ rfl) (kt := fun _ => ?_)
  exact s_mnw110 (by omega) rx hb hm (fun h1 rx1 => by
    obtain ⟨-, -, -, -, -, -, -, -, -, -, -, u1, -⟩ := id rx1
    exact ⟨_, rfl, rfl, ⟨u1.1, u1.2.1, fun i e1 e2 e3 e4 e5 => u1.2.2 i e1 e2 e3 e5⟩, _, (rx1.eqv (wr_nw ek)).self⟩)

theorem s_mnew (hd : 8 ≤ d) (rx : RxM h h m K T L s 0 g no) {w many most : Nat} {f : Bool} (hw : w = 0 ∨ w = 1 ∨ w = 5) (hb : most < 100) (hm : many ≤ most) (hf : pEr s = 0 → many = cnN w (pDf s) ∧ most = mxN w ∧ f = decide (most ≤ many) ∧ (many < most → bLa (pBk s) + bJa (pBk s) + bLi (pBk s) < 20)) : RQ G mX12_newName d 0 [some (.ref m), some (.int (nI w)), some (.int (nI many)), some (.int (nI most))] [] h (Ri fun v h1 => v = nI (min most many) ∧ Uw h h1 m ∧ ∃ nm1, RxM h1 h1 m K T L (tkP K 39 (upP (adN w (vaP K (nwP K f s))) (nwP K f s))) 0 (gNm g nm1) no) := by
  by_cases ek : kdP K s = 39
  · refine s_mnw0 (by omega) rx ek (fun h1 s1 rx1 hs1 => ?_)
    have k1 : kdP K s1 = 39 := by
      rcases hs1 with ⟨-, e⟩ | ⟨-, e⟩ | ⟨-, e⟩
      · rw [e]
        exact ek
      · rw [e, rp_kd (by decide)]
        exact ek
      · rw [e]
        exact ek
    refine s_mnw22 (by omega) rx1 k1 hm hb (fun h2 s2 rx2 hs2 => ?_)
    have e2 : s2 = nwP K f s := by
      by_cases z : pEr s = 0
      · obtain ⟨-, -, f3, -⟩ := hf z
        have e1 : s1 = (if lbO K s = none ∧ jbO K s = none ∧ ibO K s = none then s else rpP 2 s) := by
          rcases hs1 with ⟨q, e⟩ | ⟨q, e⟩ | ⟨q, e⟩
          · rw [e]
            exact (if_pos q).symm
          · rw [e]
            exact (if_neg q).symm
          · exact absurd z q
        unfold nwP
        rw [← e1, hs2, f3]
        by_cases y : most = many
        · rw [if_pos y, if_pos (decide_eq_true (by omega))]
        · rw [if_neg y, if_neg (by rw [decide_eq_false (by omega)]; decide)]
      · have e1 : s1 = s := by
          rcases hs1 with ⟨-, e⟩ | ⟨-, e⟩ | ⟨-, e⟩
          · exact e
          · rw [e]
            exact if_neg z
          · exact e
        rw [nw_e z, hs2, e1, show rpP 4 s = s from if_neg z, if_same]
    obtain ⟨-, -, -, -, -, -, -, -, -, -, -, u2, -⟩ := id rx2
    have k2 : kdP K s2 = 39 := by
      rw [e2, nw_kd]
      exact ek
    have rx3 := rx2.self
    refine (s_mnw41 (by omega) rx3 k2 hw hb hm (fun z => ?_)).imp (fun o9 h9 q9 => ?_)
    · rw [e2] at z
      obtain ⟨z1, z2, z3, z4⟩ := nw_0 z
      obtain ⟨f1, f2, f3, f4⟩ := hf z1
      have lt : many < most := by
        rw [z3] at f3
        have := of_decide_eq_false f3.symm
        omega
      rw [e2, z4]
      exact ⟨f1, by omega, z2, lt, f4 lt⟩
    · obtain ⟨v9, e9, i9, w9, nm9, r9⟩ := q9
      rw [e2] at r9
      exact ⟨v9, e9, i9, ⟨w9.1.trans u2.1, w9.2.1.trans u2.2.1, fun i y1 y2 y3 y4 y5 => (w9.2.2 i (by rw [u2.1]; exact y1) y2 y3 y4 y5).trans (u2.2.2 i y1 y2 y3 y5)⟩, nm9, r9⟩
  · exact s_mnew_no hd rx ek hb hm

end RMN
