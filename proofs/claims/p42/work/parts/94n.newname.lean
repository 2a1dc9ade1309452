/-! the reference takes a new name down -/
section RMN
variable {G : GT} {d : Nat} {h0 h : AH} {m : Nat} {K : TKS} {T : List Nat} {L : Nat → Nat} {s : PST} {dp : Nat} {g : GCT} {no : Nat} {P : OC → AH → Prop}
theorem TkM.to2 {h1 : AH} (q : TkM h m K T L) (e : ∀ i c, At h i c → m < i → i < m + 6 → At h1 i c) : TkM h1 m K T L := q.to e
theorem RxM.reg (rx : RxM h h m K T L s 0 g no) {th by_ : Int32} {ea : Int32 × Int32} (a0 : At h m (MrO m s 0 g.2.2.2.2.2 th by_ ea)) {ft fk fn : Nat → Int32} {t : Nat → Nat} (n1 : At h (m + 6) (.inl (0, 20, .inl ft))) (n2 : At h (m + 7) (.inl (0, 20, .inl fk))) (n3 : At h (m + 8) (.inl (0, 20, .inl fn))) (n5 : ∀ k, k < g.2.2.2.2.2 → ft k = nI (t k) ∧ t k < K.1 ∧ K.2.1 (t k) = 39) (n6 : pEr s = 0 → ∃ kd nu : Nat → Nat, (∀ k, k < g.2.2.2.2.2 → fk k = nI (kd k) ∧ fn k = nI (nu k)) ∧ NmP K g.2.2.2.2.2 t kd nu (nmN (pDf s))) (hlt : g.2.2.2.2.2 < 20) (ek : kdP K s = 39) {w many : Nat} (hw : w = 0 ∨ w = 1 ∨ w = 5) (hok : pEr s = 0 → many = cnN w (pDf s) ∧ cnN w (pDf s) < mxN w ∧ noNm K s) : RxM (hset (hset (hset (hset h (m + 6) (.inl (0, 20, .inl (upd ft g.2.2.2.2.2 (nI (pPo s)))))) (m + 7) (.inl (0, 20, .inl (upd fk g.2.2.2.2.2 (nI w))))) (m + 8) (.inl (0, 20, .inl (upd fn g.2.2.2.2.2 (nI many))))) m (MrO m s 0 (g.2.2.2.2.2 + 1) th by_ ea)) (hset (hset (hset (hset h (m + 6) (.inl (0, 20, .inl (upd ft g.2.2.2.2.2 (nI (pPo s)))))) (m + 7) (.inl (0, 20, .inl (upd fk g.2.2.2.2.2 (nI w))))) (m + 8) (.inl (0, 20, .inl (upd fn g.2.2.2.2.2 (nI many))))) m (MrO m s 0 (g.2.2.2.2.2 + 1) th by_ ea)) m K T L (upP (adN w (vaP K s)) s) 0 (gNm g (g.2.2.2.2.2 + 1)) no := by
  have k39 := rx.k39 ek
  obtain ⟨-, a1, ⟨q2, a2, c2⟩, ⟨q3, a3, c3⟩, ⟨q4, a4, c4⟩, b1, b2, b3, b4, b5, b6, u, tk, -⟩ := rx
  have z0 := a0.1
  have y1 := n1.1
  have y2 := n2.1
  have y3 := n3.1
  have tk2 : TkM (hset (hset (hset (hset h (m + 6) (.inl (0, 20, .inl (upd ft g.2.2.2.2.2 (nI (pPo s)))))) (m + 7) (.inl (0, 20, .inl (upd fk g.2.2.2.2.2 (nI w))))) (m + 8) (.inl (0, 20, .inl (upd fn g.2.2.2.2.2 (nI many))))) m (MrO m s 0 (g.2.2.2.2.2 + 1) th by_ ea)) m K T L := tk.to (fun i c a e1 e2 => At.set_ne (At.set_ne (At.set_ne (At.set_ne a (by omega)) (by omega)) (by omega)) (by omega))
  have A0 : At (hset (hset (hset (hset h (m + 6) (.inl (0, 20, .inl (upd ft g.2.2.2.2.2 (nI (pPo s)))))) (m + 7) (.inl (0, 20, .inl (upd fk g.2.2.2.2.2 (nI w))))) (m + 8) (.inl (0, 20, .inl (upd fn g.2.2.2.2.2 (nI many))))) m (MrO m s 0 (g.2.2.2.2.2 + 1) th by_ ea)) m (MrO m s 0 (g.2.2.2.2.2 + 1) th by_ ea) := At.set_eq2 z0
  have A1 : At (hset (hset (hset (hset h (m + 6) (.inl (0, 20, .inl (upd ft g.2.2.2.2.2 (nI (pPo s)))))) (m + 7) (.inl (0, 20, .inl (upd fk g.2.2.2.2.2 (nI w))))) (m + 8) (.inl (0, 20, .inl (upd fn g.2.2.2.2.2 (nI many))))) m (MrO m s 0 (g.2.2.2.2.2 + 1) th by_ ea)) (m + 28) (MBoO (m + 28) (nI g.1) (nI g.2.1) (nI g.2.2.1) (nI g.2.2.2.1) (nI g.2.2.2.2.1) (nI no)) := by (first | assumption | (repeat (first | assumption | exact At.set_eq2 (by (first | omega | (simp only [hset, hnew]; omega) | rfl | decide)) | exact At.new_eq2 _ _ (by (first | omega | (simp only [hset, hnew]; omega) | rfl | decide)) | refine At.set_ne ?_ (by (first | omega | (simp only [hset, hnew]; omega) | rfl | decide)) | refine At.new_ne ?_)))
  have A2 : At (hset (hset (hset (hset h (m + 6) (.inl (0, 20, .inl (upd ft g.2.2.2.2.2 (nI (pPo s)))))) (m + 7) (.inl (0, 20, .inl (upd fk g.2.2.2.2.2 (nI w))))) (m + 8) (.inl (0, 20, .inl (upd fn g.2.2.2.2.2 (nI many))))) m (MrO m s 0 (g.2.2.2.2.2 + 1) th by_ ea)) (m + 28 + 16) (.inl (0, 800, .inl q2)) := by (first | assumption | (repeat (first | assumption | exact At.set_eq2 (by (first | omega | (simp only [hset, hnew]; omega) | rfl | decide)) | exact At.new_eq2 _ _ (by (first | omega | (simp only [hset, hnew]; omega) | rfl | decide)) | refine At.set_ne ?_ (by (first | omega | (simp only [hset, hnew]; omega) | rfl | decide)) | refine At.new_ne ?_)))
  have A3 : At (hset (hset (hset (hset h (m + 6) (.inl (0, 20, .inl (upd ft g.2.2.2.2.2 (nI (pPo s)))))) (m + 7) (.inl (0, 20, .inl (upd fk g.2.2.2.2.2 (nI w))))) (m + 8) (.inl (0, 20, .inl (upd fn g.2.2.2.2.2 (nI many))))) m (MrO m s 0 (g.2.2.2.2.2 + 1) th by_ ea)) (m + 28 + 17) (.inl (0, 800, .inl q3)) := by (first | assumption | (repeat (first | assumption | exact At.set_eq2 (by (first | omega | (simp only [hset, hnew]; omega) | rfl | decide)) | exact At.new_eq2 _ _ (by (first | omega | (simp only [hset, hnew]; omega) | rfl | decide)) | refine At.set_ne ?_ (by (first | omega | (simp only [hset, hnew]; omega) | rfl | decide)) | refine At.new_ne ?_)))
  have A4 : At (hset (hset (hset (hset h (m + 6) (.inl (0, 20, .inl (upd ft g.2.2.2.2.2 (nI (pPo s)))))) (m + 7) (.inl (0, 20, .inl (upd fk g.2.2.2.2.2 (nI w))))) (m + 8) (.inl (0, 20, .inl (upd fn g.2.2.2.2.2 (nI many))))) m (MrO m s 0 (g.2.2.2.2.2 + 1) th by_ ea)) (m + 28 + 18) (.inl (0, 800, .inl q4)) := by (first | assumption | (repeat (first | assumption | exact At.set_eq2 (by (first | omega | (simp only [hset, hnew]; omega) | rfl | decide)) | exact At.new_eq2 _ _ (by (first | omega | (simp only [hset, hnew]; omega) | rfl | decide)) | refine At.set_ne ?_ (by (first | omega | (simp only [hset, hnew]; omega) | rfl | decide)) | refine At.new_ne ?_)))
  have A6 : At (hset (hset (hset (hset h (m + 6) (.inl (0, 20, .inl (upd ft g.2.2.2.2.2 (nI (pPo s)))))) (m + 7) (.inl (0, 20, .inl (upd fk g.2.2.2.2.2 (nI w))))) (m + 8) (.inl (0, 20, .inl (upd fn g.2.2.2.2.2 (nI many))))) m (MrO m s 0 (g.2.2.2.2.2 + 1) th by_ ea)) (m + 6) (.inl (0, 20, .inl (upd ft g.2.2.2.2.2 (nI (pPo s))))) := At.set_ne (At.set_ne (At.set_ne (At.set_eq2 y1) (by omega)) (by omega)) (by omega)
  have A7 : At (hset (hset (hset (hset h (m + 6) (.inl (0, 20, .inl (upd ft g.2.2.2.2.2 (nI (pPo s)))))) (m + 7) (.inl (0, 20, .inl (upd fk g.2.2.2.2.2 (nI w))))) (m + 8) (.inl (0, 20, .inl (upd fn g.2.2.2.2.2 (nI many))))) m (MrO m s 0 (g.2.2.2.2.2 + 1) th by_ ea)) (m + 7) (.inl (0, 20, .inl (upd fk g.2.2.2.2.2 (nI w)))) := At.set_ne (At.set_ne (At.set_eq2 y2) (by omega)) (by omega)
  have A8 : At (hset (hset (hset (hset h (m + 6) (.inl (0, 20, .inl (upd ft g.2.2.2.2.2 (nI (pPo s)))))) (m + 7) (.inl (0, 20, .inl (upd fk g.2.2.2.2.2 (nI w))))) (m + 8) (.inl (0, 20, .inl (upd fn g.2.2.2.2.2 (nI many))))) m (MrO m s 0 (g.2.2.2.2.2 + 1) th by_ ea)) (m + 8) (.inl (0, 20, .inl (upd fn g.2.2.2.2.2 (nI many)))) := At.set_ne (At.set_eq2 y3) (by omega)
  have n5' : ∀ k, k < g.2.2.2.2.2 + 1 → upd ft g.2.2.2.2.2 (nI (pPo s)) k = nI (upN t g.2.2.2.2.2 (pPo s) k) ∧ upN t g.2.2.2.2.2 (pPo s) k < K.1 ∧ K.2.1 (upN t g.2.2.2.2.2 (pPo s) k) = 39 := fun k hk => by
    show (if k = g.2.2.2.2.2 then nI (pPo s) else ft k) = nI (if k = g.2.2.2.2.2 then pPo s else t k) ∧ (if k = g.2.2.2.2.2 then pPo s else t k) < K.1 ∧ K.2.1 (if k = g.2.2.2.2.2 then pPo s else t k) = 39
    by_cases z : k = g.2.2.2.2.2
    · rw [if_pos z, if_pos z]
      exact ⟨rfl, b3, k39⟩
    · rw [if_neg z, if_neg z]
      exact n5 k (by omega)
  by_cases z : pEr s = 0
  · obtain ⟨o1, o2, o3⟩ := hok z
    obtain ⟨kd, nu, hkn, hp⟩ := n6 z
    rw [upP_e z]
    have e := ad_nd (w := w) (v := vaP K s) (d := pDf s)
    injection e with g1 g2
    injection g2 with g2 g3
    injection g3 with g3 g4
    have ek2 : okc s no = no := if_pos z
    rw [ek2] at c2 c3 c4
    have ek3 : okc (pPo s, pEr s, pEt s, adN w (vaP K s) (pDf s)) no = no := if_pos z
    refine ⟨⟨th, by_, ea, A0⟩, A1, ⟨q2, A2, ?_⟩, ⟨q3, A3, ?_⟩, ⟨q4, A4, ?_⟩, fun _ => (b1 z).trans g1.symm, b2, b3, b4, b5, b6, Ux.rf _ _, tk2, _, _, _, upN t g.2.2.2.2.2 (pPo s), A6, A7, A8, hlt, n5', fun _ => ⟨upN kd g.2.2.2.2.2 w, upN nu g.2.2.2.2.2 (cnN w (pDf s)), fun k hk => ?_, ?_⟩⟩
    · rw [ek3]
      exact fun k hk => (c2 k hk).trans (congrArg (fun f => nI (f k)) g2.symm)
    · rw [ek3]
      exact fun k hk => (c3 k hk).trans (congrArg (fun f => nI (f k)) g3.symm)
    · rw [ek3]
      exact fun k hk => (c4 k hk).trans (congrArg (fun f => nI (f k)) g4.symm)
    · have hk : k < g.2.2.2.2.2 + 1 := hk
      show (if k = g.2.2.2.2.2 then nI w else fk k) = nI (if k = g.2.2.2.2.2 then w else kd k) ∧ (if k = g.2.2.2.2.2 then nI many else fn k) = nI (if k = g.2.2.2.2.2 then cnN w (pDf s) else nu k)
      by_cases y : k = g.2.2.2.2.2
      · rw [if_pos y, if_pos y, if_pos y, if_pos y, o1]
        exact ⟨rfl, rfl⟩
      · rw [if_neg y, if_neg y, if_neg y, if_neg y]
        exact hkn k (by omega)
    · have hf := (nm_known hp).mpr o3
      exact NmP.add hw hp o2 (fun k hk => (fnN_none.mp hf) k hk)
  · rw [upP_n z]
    exact ⟨⟨th, by_, ea, A0⟩, A1, ⟨q2, A2, fun k hk => absurd hk (okc_0 z)⟩, ⟨q3, A3, fun k hk => absurd hk (okc_0 z)⟩, ⟨q4, A4, fun k hk => absurd hk (okc_0 z)⟩, fun w => absurd w z, b2, b3, b4, b5, b6, Ux.rf _ _, tk2, _, _, _, upN t g.2.2.2.2.2 (pPo s), A6, A7, A8, hlt, n5', fun w => absurd w z⟩

theorem nw_po {f : Bool} : pPo (nwP K f s) = pPo s := by
  unfold nwP
  have h1 : pPo (if lbO K s = none ∧ jbO K s = none ∧ ibO K s = none then s else rpP 2 s) = pPo s := by
    split
    · rfl
    · exact rpP_po
  split
  · rw [rpP_po]
    exact h1
  · exact h1
theorem nw_kd {f : Bool} : kdP K (nwP K f s) = kdP K s := by
  unfold nwP
  have h1 : kdP K (if lbO K s = none ∧ jbO K s = none ∧ ibO K s = none then s else rpP 2 s) = kdP K s := by
    split
    · rfl
    · exact rp_kd (by decide)
  split
  · rw [rp_kd (by decide)]
    exact h1
  · exact h1
theorem nw_0 {f : Bool} (h : pEr (nwP K f s) = 0) : pEr s = 0 ∧ noNm K s ∧ f = false ∧ nwP K f s = s := by
  unfold nwP at h ⊢
  by_cases z : lbO K s = none ∧ jbO K s = none ∧ ibO K s = none
  · rw [if_pos z] at h ⊢
    cases f with
    | true =>
      rw [if_pos rfl] at h
      exact (rpP_er (by decide) h).elim
    | false =>
      rw [if_neg (by decide)] at h ⊢
      exact ⟨h, z, rfl, rfl⟩
  · rw [if_neg z] at h
    split at h
    · exact (rpP_er (by decide) h).elim
    · exact (rpP_er (by decide) h).elim

theorem nw_er {f : Bool} (h : pEr s ≠ 1) : pEr (nwP K f s) ≠ 1 := by
  unfold nwP
  have hr : ∀ n, n ≠ 1 → ∀ x : PST, pEr x ≠ 1 → pEr (rpP n x) ≠ 1 := fun n hn x hx => by
    unfold rpP
    split
    · exact hn
    · exact hx
  have h1 : pEr (if lbO K s = none ∧ jbO K s = none ∧ ibO K s = none then s else rpP 2 s) ≠ 1 := by
    split
    · exact h
    · exact hr 2 (by decide) s h
  split
  · exact hr 4 (by decide) _ h1
  · exact h1
theorem wr_nw {f : Bool} {F : DRF → DRF} (ek : kdP K s ≠ 39) : Eqv (tkP K 39 s) (tkP K 39 (upP F (nwP K f s))) := by
  have k2 : kdP K (upP F (nwP K f s)) = kdP K s := kdP_up.trans nw_kd
  rw [tkP_wr ek, tkP_wr (by rw [k2]; exact ek)]
  by_cases z : pEr s = 1
  · have e : nwP K f s = s := nw_e (by omega)
    rw [e, upP_n (by omega)]
    exact Eqv.rf _
  · have z2 : pEr (upP F (nwP K f s)) ≠ 1 := by
      rw [pEr_up]
      exact nw_er z
    unfold wrP
    rw [if_neg z, if_neg z2, pPo_up, nw_po]
    exact Eqv.mk2 (fun q => absurd q (by decide))

end RMN
