/-! what seats, first ones and majorities are: no program here -/
section F4
variable {r b p : Nat → Nat} {F : Nat → Option Nat} {B : BK} {D : DY} {t se wy : Nat}
theorem rt_no {k : Nat} (e_z : F k = none) : rt F k = k := by
  show (match F k with
    | none => k
    | some j_z => rtn F 5 j_z) = k
  rw [e_z]
theorem rt_id (hb : BDok B D) {k : Nat} (hk : k < 6) : rt (dF D) (rt (dF D) k) = rt (dF D) k := rt_no (hb.2.2.2.2.2.2.2.2.2.1 k hk)
theorem po_no {k : Nat} (hr : ∀ i_z, i_z < 6 → r (r i_z) = r i_z) (hk : ¬ r k = k) : po r b k = 0 := by
  unfold po
  rw [su_congr (g := fun _ => 0) (fun i_z hi_z => if_neg (fun e_z => hk (by rw [← e_z]; exact hr i_z hi_z)))]
  exact su_zero 6
theorem po_ge {k : Nat} (hk : k < 6) : b k ≤ po r b (r k) := Nat.le_trans (Nat.le_of_eq (if_pos rfl).symm) (su_mem (f := fun i_z => if r i_z = r k then b i_z else 0) hk)
theorem fi_su0 (e_z : fiN p 6 = none) : su p 6 = 0 := by
  rw [su_congr (g := fun _ => 0) (fun i_z hi_z => fi_nn e_z i_z hi_z)]
  exact su_zero 6
theorem fi_root {f : Nat} (hr : ∀ i_z, i_z < 6 → r (r i_z) = r i_z) (e_z : fiN (po r b) 6 = some f) : r f = f := Classical.byContradiction (fun z_z => by
  have h_z := fi_pos _ _ _ e_z
  rw [po_no hr z_z] at h_z
  exact absurd h_z (Nat.lt_irrefl 0))
theorem sec_ge {f x : Nat} (hx : ¬ f = x) : ∀ n, x < n → p x ≤ sec p (some f) n
  | 0, h_z => absurd h_z (Nat.not_lt_zero x)
  | n + 1, h_z => by
    show p x ≤ (if some f = some n then sec p (some f) n else max (sec p (some f) n) (p n))
    by_cases z_z : x = n
    · rw [if_neg (fun e_z => hx (by injection e_z with e_z; exact e_z.trans z_z.symm)), z_z]
      exact Nat.le_max_right _ _
    · have ih_z := sec_ge hx n (by omega)
      split
      · exact ih_z
      · exact Nat.le_trans ih_z (Nat.le_max_left _ _)
theorem mar_gap {f x : Nat} (e_z : fiN p 6 = some f) (hx : ¬ x = f) (h6 : x < 6) : p x + mar p ≤ p f := by
  have h1 := sec_ge (p := p) (f := f) (x := x) (fun z_z => hx z_z.symm) 6 h6
  have h2 : sec p (some f) 6 ≤ p f := sec_le 6 (fun k hk => ((fi_spec e_z).2.2 k hk).1)
  rw [mar_some e_z]
  omega
theorem dv_zero {k f : Nat} (hf : f < 6) (pf : 0 < p f) (z_z : p k = 0) : ∀ s_z, dvN p s_z k = 0
  | 0 => rfl
  | s_z + 1 => by
    have h_z : p f * (dvN p s_z (bestD p (dvN p s_z) 6) + 1) ≤ p (bestD p (dvN p s_z) 6) * (dvN p s_z f + 1) := ((bestD_spec p (dvN p s_z) 6).1 f hf).1
    have nk : ¬ k = bestD p (dvN p s_z) 6 := fun e_z => by
      rw [← e_z, z_z, Nat.zero_mul] at h_z
      exact absurd (Nat.le_zero.mp h_z) (Nat.ne_of_gt (Nat.mul_pos pf (Nat.succ_pos _)))
    show (if k = bestD p (dvN p s_z) 6 then dvN p s_z k + 1 else dvN p s_z k) = 0
    rw [if_neg nk]
    exact dv_zero hf pf z_z s_z
theorem dv_mono {a_z f : Nat} (e_z : fiN p 6 = some f) (ha_z : a_z < 6) : ∀ s_z, dvN p s_z a_z ≤ dvN p s_z f
  | 0 => Nat.le_refl _
  | s_z + 1 => by
    have ih_z := dv_mono e_z ha_z s_z
    obtain ⟨f6_z, fp_z, sp_z⟩ := fi_spec e_z
    obtain ⟨s1_z, s2_z⟩ := sp_z a_z ha_z
    show (if a_z = bestD p (dvN p s_z) 6 then dvN p s_z a_z + 1 else dvN p s_z a_z) ≤ (if f = bestD p (dvN p s_z) 6 then dvN p s_z f + 1 else dvN p s_z f)
    by_cases fb : f = bestD p (dvN p s_z) 6
    · rw [if_pos fb]
      split <;> omega
    · rw [if_neg fb]
      by_cases ab : a_z = bestD p (dvN p s_z) 6
      · rw [if_pos ab]
        by_cases w_z : dvN p s_z a_z = dvN p s_z f
        · exfalso
          have h_z := (bestD_spec p (dvN p s_z) 6).1 f f6_z
          rw [← ab] at h_z
          have h1 : p f * (dvN p s_z a_z + 1) ≤ p a_z * (dvN p s_z f + 1) := h_z.1
          rw [w_z] at h1
          have h2 : p f ≤ p a_z := Nat.le_of_mul_le_mul_right h1 (Nat.succ_pos _)
          by_cases af : a_z < f
          · have := s2_z af
            omega
          · have nfa : ¬ f = a_z := fun z_z => fb (z_z.trans ab)
            have h3 : p f * (dvN p s_z a_z + 1) < p a_z * (dvN p s_z f + 1) := h_z.2 (by omega)
            rw [w_z] at h3
            have h4 : p f < p a_z := Nat.lt_of_mul_lt_mul_right h3
            omega
        · omega
      · rw [if_neg ab]
        exact ih_z
theorem qu_ge {k : Nat} : ∀ (s_z : Nat) (w_z l : Nat → Nat), w_z k ≤ (quN s_z (w_z, l)).1 k := by
  intro s_z
  induction s_z with
  | zero => exact fun w_z l => Nat.le_refl _
  | succ s_z ih_z =>
    intro w_z l
    cases e_z : fiN l 6 with
    | none => rw [quN_none e_z]; exact Nat.le_refl _
    | some c_z =>
      rw [quN_some e_z]
      refine Nat.le_trans ?_ (ih_z _ _)
      show w_z k ≤ if k = c_z then w_z k + 1 else w_z k
      split <;> omega
theorem qu_le {k : Nat} : ∀ (s_z : Nat) (w_z l : Nat → Nat), (quN s_z (w_z, l)).1 k ≤ w_z k + (if 0 < l k then 1 else 0) := by
  intro s_z
  induction s_z with
  | zero => exact fun w_z l => Nat.le_add_right _ _
  | succ s_z ih_z =>
    intro w_z l
    cases e_z : fiN l 6 with
    | none => rw [quN_none e_z]; exact Nat.le_add_right _ _
    | some c_z =>
      have lp := fi_pos _ _ _ e_z
      rw [quN_some e_z]
      refine Nat.le_trans (ih_z _ _) ?_
      show (if k = c_z then w_z k + 1 else w_z k) + (if 0 < (if k = c_z then 0 else l k) then 1 else 0) ≤ _
      by_cases z_z : k = c_z
      · rw [if_pos z_z, if_pos z_z, if_neg (Nat.lt_irrefl 0), if_pos (by rw [z_z]; exact lp)]
        exact Nat.le_refl _
      · rw [if_neg z_z, if_neg z_z]
        exact Nat.le_refl _
theorem qu_mono {a_z f : Nat} (ha_z : a_z < 6) (hf : f < 6) : ∀ (s_z : Nat) (w_z l : Nat → Nat), w_z a_z = w_z f → (l a_z < l f ∨ (l a_z = l f ∧ f ≤ a_z)) → (quN s_z (w_z, l)).1 a_z ≤ (quN s_z (w_z, l)).1 f := by
  intro s_z
  induction s_z with
  | zero => exact fun w_z l hw _ => Nat.le_of_eq hw
  | succ s_z ih_z =>
    intro w_z l hw hl
    cases e_z : fiN l 6 with
    | none => rw [quN_none e_z]; exact Nat.le_of_eq hw
    | some c_z =>
      rw [quN_some e_z]
      by_cases cf_z : f = c_z
      · by_cases ac : a_z = c_z
        · rw [ac, ← cf_z]
          exact Nat.le_refl _
        · refine Nat.le_trans (qu_le _ _ _) (Nat.le_trans ?_ (qu_ge _ _ _))
          show (if a_z = c_z then w_z a_z + 1 else w_z a_z) + (if 0 < (if a_z = c_z then 0 else l a_z) then 1 else 0) ≤ (if f = c_z then w_z f + 1 else w_z f)
          rw [if_neg ac, if_neg ac, if_pos cf_z]
          split <;> omega
      · by_cases ac : a_z = c_z
        · exfalso
          have sp_z := (fi_spec e_z).2.2 f hf
          rw [← ac] at sp_z
          have nfa : ¬ f = a_z := fun z_z => cf_z (z_z.trans ac)
          by_cases fa : f < a_z
          · have := sp_z.2 fa
            omega
          · have := sp_z.1
            omega
        · refine ih_z _ _ ?_ ?_
          · show (if a_z = c_z then w_z a_z + 1 else w_z a_z) = (if f = c_z then w_z f + 1 else w_z f)
            rw [if_neg ac, if_neg cf_z]
            exact hw
          · show (if a_z = c_z then 0 else l a_z) < (if f = c_z then 0 else l f) ∨ ((if a_z = c_z then 0 else l a_z) = (if f = c_z then 0 else l f) ∧ f ≤ a_z)
            rw [if_neg ac, if_neg cf_z]
            exact hl
theorem quo_zero {k : Nat} (z_z : p k = 0) : quo p t se k = 0 := by
  have h_z : quo p t se k ≤ p k / (t / (se + 1) + 1) + (if 0 < p k - p k / (t / (se + 1) + 1) * (t / (se + 1) + 1) then 1 else 0) := qu_le _ _ _
  rw [z_z, Nat.zero_div, Nat.zero_sub, if_neg (Nat.lt_irrefl 0)] at h_z
  omega
theorem quo_mono {a_z f : Nat} (e_z : fiN p 6 = some f) (ha_z : a_z < 6) : quo p t se a_z ≤ quo p t se f := by
  obtain ⟨f6_z, fp_z, sp_z⟩ := fi_spec e_z
  obtain ⟨s1_z, s2_z⟩ := sp_z a_z ha_z
  unfold quo
  generalize t / (se + 1) + 1 = Q
  by_cases w_z : p a_z / Q = p f / Q
  · refine qu_mono ha_z f6_z _ _ _ w_z ?_
    show p a_z - p a_z / Q * Q < p f - p f / Q * Q ∨ (p a_z - p a_z / Q * Q = p f - p f / Q * Q ∧ f ≤ a_z)
    have m1_z := Nat.div_mul_le_self (p a_z) Q
    have m2_z := Nat.div_mul_le_self (p f) Q
    rw [w_z] at m1_z ⊢
    generalize p f / Q * Q = m at m1_z m2_z ⊢
    by_cases af : a_z < f
    · have := s2_z af
      omega
    · omega
  · have dm : p a_z / Q ≤ p f / Q := Nat.div_le_div_right s1_z
    refine Nat.le_trans (qu_le _ _ _) (Nat.le_trans ?_ (qu_ge _ _ _))
    show p a_z / Q + (if 0 < p a_z - p a_z / Q * Q then 1 else 0) ≤ p f / Q
    split <;> omega
theorem wo_zero {k : Nat} (z_z : p k = 0) : wo p t se wy k = 0 := by
  cases e_z : fiN p 6 with
  | none => exact wo_none e_z k
  | some f =>
    have fp_z := fi_pos _ _ _ e_z
    rw [wo_some e_z]
    by_cases h0 : wy = 0
    · rw [if_pos h0]
      exact if_neg (fun q_z => by rw [q_z] at z_z; omega)
    · rw [if_neg h0]
      by_cases h1 : wy = 1
      · rw [if_pos h1]
        exact dv_zero (fi_lt _ _ _ e_z) fp_z z_z se
      · rw [if_neg h1]
        exact quo_zero z_z
theorem wo_mono {a_z f : Nat} (e_z : fiN p 6 = some f) (ha_z : a_z < 6) : wo p t se wy a_z ≤ wo p t se wy f := by
  rw [wo_some e_z]
  by_cases h0 : wy = 0
  · rw [if_pos h0]
    show (if a_z = f then se else 0) ≤ (if f = f then se else 0)
    rw [if_pos rfl]
    split <;> omega
  · rw [if_neg h0]
    by_cases h1 : wy = 1
    · rw [if_pos h1]
      exact dv_mono e_z ha_z se
    · rw [if_neg h1]
      exact quo_mono e_z ha_z
theorem wo_two {a_z c_z : Nat} (ha_z : a_z < 6) (hc_z : c_z < 6) (ac : ¬ a_z = c_z) (ht : su p 6 = t) (hw : wy < 3) : wo p t se wy a_z + wo p t se wy c_z ≤ se := by
  have h1 := su_two (f := wo p t se wy) ha_z hc_z ac
  have h2 := wo_sum (se := se) ht hw
  omega
/-- a_z leader's seats, nothing for others -/
def wl (r p : Nat → Nat) (t se wy : Nat) : Nat → Nat := fun k => if r k = k then wo p t se wy k else 0
theorem wo_lead {n : Nat} (n6 : n ≤ 6) (pz : ∀ k, n ≤ k → k < 6 → p k = 0) (nz : ∀ k, k < n → ¬ r k = k → p k = 0) : su (wl r p t se wy) n = su (wo p t se wy) 6 := by
  rw [su_ext (f := wo p t se wy) 6 n6 (fun i_z h1 h2 => wo_zero (pz i_z h1 h2))]
  refine su_congr (fun i_z hi_z => ?_)
  show (if r i_z = i_z then wo p t se wy i_z else 0) = _
  by_cases z_z : r i_z = i_z
  · rw [if_pos z_z]
  · rw [if_neg z_z, wo_zero (nz i_z hi_z z_z)]
theorem su_mono {f g : Nat → Nat} : ∀ n, (∀ i_z, i_z < n → f i_z ≤ g i_z) → su f n ≤ su g n
  | 0, _ => Nat.le_refl _
  | n + 1, h_z => Nat.add_le_add (su_mono n (fun i_z hi_z => h_z i_z (by omega))) (h_z n (by omega))
theorem ld_nn {T : Nat → Nat} : ∀ n, ldN T r n = none → ∀ k, k < n → ¬ r k = k
  | 0, _, k, hk => absurd hk (Nat.not_lt_zero k)
  | n + 1, h_z, k, hk => by
    by_cases c_z : r n = n ∧ ltO T (ldN T r n) n = true
    · have e_z : ldN T r (n + 1) = some n := if_pos c_z
      rw [e_z] at h_z
      cases h_z
    · have e_z : ldN T r (n + 1) = ldN T r n := if_neg c_z
      rw [e_z] at h_z
      by_cases z_z : k = n
      · intro y_z
        rw [z_z] at y_z
        exact c_z ⟨y_z, by rw [h_z]; rfl⟩
      · exact ld_nn n h_z k (by omega)
theorem ld_spec {T : Nat → Nat} : ∀ n q_z, ldN T r n = some q_z → q_z < n ∧ r q_z = q_z ∧ ∀ k, k < n → r k = k → T k ≤ T q_z
  | 0, _, h_z => nomatch h_z
  | n + 1, q_z, h_z => by
    by_cases c_z : r n = n ∧ ltO T (ldN T r n) n = true
    · have e_z : ldN T r (n + 1) = some n := if_pos c_z
      rw [e_z] at h_z
      injection h_z with h_z
      rw [← h_z]
      refine ⟨Nat.lt_succ_self _, c_z.1, fun k hk rk => ?_⟩
      by_cases z_z : k = n
      · rw [z_z]
        exact Nat.le_refl _
      · have hk2 : k < n := by omega
        have c2_z := c_z.2
        cases y_z : ldN T r n with
        | none => exact absurd rk (ld_nn n y_z k hk2)
        | some m =>
          rw [y_z] at c2_z
          have c3_z : T m < T n := of_decide_eq_true c2_z
          have := (ld_spec n m y_z).2.2 k hk2 rk
          omega
    · have e_z : ldN T r (n + 1) = ldN T r n := if_neg c_z
      rw [e_z] at h_z
      obtain ⟨i1_z, i2_z, i3_z⟩ := ld_spec n q_z h_z
      refine ⟨by omega, i2_z, fun k hk rk => ?_⟩
      by_cases z_z : k = n
      · rw [z_z] at rk ⊢
        by_cases y_z : T q_z < T n
        · exact absurd ⟨rk, by rw [h_z]; exact decide_eq_true y_z⟩ c_z
        · omega
      · exact i3_z k (by omega) rk
theorem mj_two (hb : BDok B D) {a_z c_z : Nat} (ha_z : a_z < 6) (hc_z : c_z < 6) (ra : rt (dF D) a_z = a_z) (rc : rt (dF D) c_z = c_z) (ac : ¬ a_z = c_z) : sT B D a_z + sT B D c_z ≤ su (bSe B) 8 := by
  have e_z : su (fun i_z => sw B D a_z i_z + sw B D c_z i_z) 8 = sT B D a_z + sT B D c_z := su_add 8
  rw [← e_z]
  refine su_mono 8 (fun i_z hi_z => ?_)
  show wo (po (rt (dF D)) (dB D i_z)) (su (dB D i_z) 6) (bSe B i_z) (bWy B i_z) (rt (dF D) a_z) + wo (po (rt (dF D)) (dB D i_z)) (su (dB D i_z) 6) (bSe B i_z) (bWy B i_z) (rt (dF D) c_z) ≤ bSe B i_z
  rw [ra, rc]
  exact wo_two ha_z hc_z ac (hb.ps i_z) (hb.2.2.2.1 i_z hi_z).2
theorem sT_rt (hb : BDok B D) {k : Nat} (hk : k < 6) : sT B D (rt (dF D) k) = sT B D k := su_congr (fun i_z _ => by
  show wo (po (rt (dF D)) (dB D i_z)) (su (dB D i_z) 6) (bSe B i_z) (bWy B i_z) (rt (dF D) (rt (dF D) k)) = wo (po (rt (dF D)) (dB D i_z)) (su (dB D i_z) 6) (bSe B i_z) (bWy B i_z) (rt (dF D) k)
  rw [rt_id hb hk])
theorem gov_is {k : Nat} : (su (bSe B) 8 < sT B D k * 2 ∧ gov B D k = nI 1) ∨ (¬ su (bSe B) 8 < sT B D k * 2 ∧ gov B D k = nI 0) := by
  by_cases z_z : su (bSe B) 8 < sT B D k * 2
  · exact Or.inl ⟨z_z, if_pos z_z⟩
  · exact Or.inr ⟨z_z, if_neg z_z⟩
theorem bj_spec {v : Nat → Nat} : ∀ n, (∀ q_z, bjN v n = some q_z → q_z < n ∧ 1 ≤ v q_z ∧ ∀ j_z, j_z < n → 1 ≤ v j_z → v q_z ≤ v j_z) ∧ (bjN v n = none → ∀ j_z, j_z < n → v j_z < 1)
  | 0 => ⟨(fun q_z h_z => nomatch h_z), fun _ j_z h_z => absurd h_z (Nat.not_lt_zero j_z)⟩
  | n + 1 => by
    obtain ⟨h1, h2⟩ := bj_spec (v := v) n
    by_cases c_z : 1 ≤ v n ∧ gtO v (bjN v n) n = true
    · have e_z : bjN v (n + 1) = some n := if_pos c_z
      rw [e_z]
      refine ⟨fun q_z h_z => ?_, (fun h_z => nomatch h_z)⟩
      injection h_z with h_z
      rw [← h_z]
      refine ⟨Nat.lt_succ_self _, c_z.1, fun j_z hj vj => ?_⟩
      by_cases z_z : j_z = n
      · rw [z_z]
        exact Nat.le_refl _
      · have c2_z := c_z.2
        cases y_z : bjN v n with
        | none =>
          have := h2 y_z j_z (by omega)
          omega
        | some m =>
          rw [y_z] at c2_z
          have c3_z : v n < v m := of_decide_eq_true c2_z
          have := (h1 m y_z).2.2 j_z (by omega) vj
          omega
    · have e_z : bjN v (n + 1) = bjN v n := if_neg c_z
      rw [e_z]
      refine ⟨fun q_z h_z => ?_, fun h_z j_z hj => ?_⟩
      · obtain ⟨i1_z, i2_z, i3_z⟩ := h1 q_z h_z
        refine ⟨by omega, i2_z, fun j_z hj vj => ?_⟩
        by_cases z_z : j_z = n
        · rw [z_z] at vj ⊢
          by_cases y_z : v n < v q_z
          · exact absurd ⟨vj, by rw [h_z]; exact decide_eq_true y_z⟩ c_z
          · omega
        · exact i3_z j_z (by omega) vj
      · by_cases z_z : j_z = n
        · rw [z_z]
          by_cases y_z : 1 ≤ v n
          · exact absurd ⟨y_z, by rw [h_z]; rfl⟩ c_z
          · omega
        · exact h2 h_z j_z (by omega)
theorem du_all {k : Nat} : ∀ (m i_z : Nat), i_z + m = 100 → ∃ iv_z, i_z ≤ iv_z ∧ (iv_z ≤ 100 → duV B D k m i_z = nI iv_z ∧ ¬ gov B (psN B D iv_z).1 k = 0) ∧ (100 < iv_z → duV B D k m i_z = -1) ∧ ∀ j_z, i_z ≤ j_z → j_z ≤ 100 → j_z < iv_z → gov B (psN B D j_z).1 k = 0
  | 0, i_z, hi_z => by
    by_cases g : gov B (psN B D i_z).1 k = 0
    · exact ⟨101, by omega, fun h_z => absurd h_z (by decide), fun _ => if_pos g, fun j_z j1 j2_z _ => by rw [show j_z = i_z by omega]; exact g⟩
    · exact ⟨i_z, Nat.le_refl _, fun _ => ⟨if_neg g, g⟩, fun h_z => absurd h_z (by omega), fun j_z j1 j2_z j3_z => absurd j1 (by omega)⟩
  | m + 1, i_z, hi_z => by
    by_cases g : gov B (psN B D i_z).1 k = 0
    · obtain ⟨iv_z, q1_z, q2_z, q3_z, q4_z⟩ := du_all (k := k) m (i_z + 1) (by omega)
      have e_z : duV B D k (m + 1) i_z = duV B D k m (i_z + 1) := if_pos g
      rw [e_z]
      refine ⟨iv_z, by omega, q2_z, q3_z, fun j_z j1 j2_z j3_z => ?_⟩
      by_cases z_z : j_z = i_z
      · rw [z_z]
        exact g
      · exact q4_z j_z (by omega) j2_z j3_z
    · exact ⟨i_z, Nat.le_refl _, fun _ => ⟨if_neg g, g⟩, fun h_z => absurd h_z (by omega), fun j_z j1 j2_z j3_z => absurd j1 (by omega)⟩
theorem du_spec (B : BK) (D : DY) (k : Nat) : ∃ iv_z, (iv_z ≤ 100 → duV B D k 100 0 = nI iv_z ∧ ¬ gov B (psN B D iv_z).1 k = 0) ∧ (100 < iv_z → duV B D k 100 0 = -1) ∧ ∀ j_z, j_z ≤ 100 → j_z < iv_z → gov B (psN B D j_z).1 k = 0 := by
  obtain ⟨iv_z, -, q2_z, q3_z, q4_z⟩ := du_all (B := B) (D := D) (k := k) 100 0 rfl
  exact ⟨iv_z, q2_z, q3_z, fun j_z => q4_z j_z (Nat.zero_le _)⟩
theorem su_max1 {g : Nat → Nat} : ∀ n, (∀ a_z, a_z < n → g a_z ≤ 1) → (∀ a_z c_z, a_z < n → c_z < n → ¬ g a_z = 0 → ¬ g c_z = 0 → a_z = c_z) → su g n ≤ 1
  | 0, _, _ => Nat.zero_le _
  | n + 1, h1, h2 => by
    show su g n + g n ≤ 1
    have h_z := su_max1 (g := g) n (fun a_z ha_z => h1 a_z (by omega)) (fun a_z c_z ha_z hc_z => h2 a_z c_z (by omega) (by omega))
    by_cases z_z : g n = 0
    · omega
    · have e_z : su g n = 0 := by
        rw [su_congr (g := fun _ => 0) (fun i_z hi_z => Classical.byContradiction (fun y_z => by
          have := h2 i_z n (by omega) (by omega) y_z z_z
          omega))]
        exact su_zero n
      have := h1 n (by omega)
      omega
/-- a_z leader with a_z majority counts -/
def mjN (B : BK) (D : DY) : Nat → Nat := fun k => if rt (dF D) k = k then (if gov B D k = 0 then 0 else 1) else 0
theorem mj_one (hb : BDok B D) {n : Nat} (hn : n ≤ 6) : su (mjN B D) n ≤ 1 := by
  have y_z : ∀ a_z, ¬ mjN B D a_z = 0 → rt (dF D) a_z = a_z ∧ su (bSe B) 8 < sT B D a_z * 2 := fun a_z ha_z => by
    unfold mjN at ha_z
    by_cases z_z : rt (dF D) a_z = a_z
    · rw [if_pos z_z] at ha_z
      refine ⟨z_z, ?_⟩
      rcases gov_is (B := B) (D := D) (k := a_z) with ⟨g1, g2⟩ | ⟨g1, g2⟩
      · exact g1
      · rw [if_pos (g2.trans nI_0)] at ha_z
        exact absurd rfl ha_z
    · rw [if_neg z_z] at ha_z
      exact absurd rfl ha_z
  refine su_max1 n (fun a_z _ => ?_) (fun a_z c_z ha_z hc_z za zc => Classical.byContradiction (fun ac => ?_))
  · unfold mjN
    split
    · split <;> omega
    · omega
  · obtain ⟨a1_z, a2⟩ := y_z a_z za
    obtain ⟨c1_z, c2_z⟩ := y_z c_z zc
    have := mj_two hb (show a_z < 6 by omega) (show c_z < 6 by omega) a1_z c1_z ac
    omega
theorem lead_ex (hb : BDok B D) (l0 : 0 < bLa B) : ∃ q_z, ldN (sT B D) (rt (dF D)) (bLa B) = some q_z ∧ q_z < bLa B ∧ rt (dF D) q_z = q_z ∧ ∀ k, k < bLa B → sT B D k ≤ sT B D q_z := by
  have l6 := hb.1
  cases e_z : ldN (sT B D) (rt (dF D)) (bLa B) with
  | none => exact absurd (rt_id hb (k := 0) (by decide)) (ld_nn _ e_z _ (hb.hl 0 l0))
  | some q_z =>
    obtain ⟨i1_z, i2_z, i3_z⟩ := ld_spec _ _ e_z
    refine ⟨q_z, rfl, i1_z, i2_z, fun k hk => ?_⟩
    rw [← sT_rt hb (show k < 6 by omega)]
    exact i3_z _ (hb.hl k hk) (rt_id hb (by omega))
theorem se_la (hb : BDok B D) : su (bSe B) (bJa B) = su (bSe B) 8 := (su_ext 8 hb.2.1 (fun i_z h1 h2 => (hb.2.2.2.2.1 i_z h1 h2).1)).symm
end F4
