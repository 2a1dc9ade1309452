/-! the law looks at a jar: beans wanted -/
section F6
variable {G : GT} {d c di tn bk dr ck sk : Nat} {h0 h_z h1 : AH} {B : BK} {D D2 : DY} {Rs : Nat → List ERu} {tf : Nat → Int32}
theorem ks_set {H0 h9 h2 : AH} {ar : Nat} (x : Kp6 H0 h2 ∧ Sa h9 h2 ar) (ga : H0.1 ≤ ar) (q_z : AC) : Kp6 H0 (hset h2 ar q_z) ∧ Sa h9 (hset h2 ar q_z) ar := by
  obtain ⟨⟨k1_z, k2_z⟩, s1_z, s2_z, s3_z⟩ := x
  exact ⟨⟨k1_z, fun i_z i1_z i2_z => (if_neg (by omega)).trans (k2_z i_z i1_z i2_z)⟩, s1_z, s2_z, fun z_z hz => (if_neg hz).trans (s3_z z_z hz)⟩
theorem WL.row {H0 h2 : AH} {ar : Nat} {fo ja li : Nat} {xj yl rl : Nat → Nat} {jf_z lf_z : Nat → Option Nat} (w_z : WL h0 h_z bk dr c di tn Rs B tf D D2 ck sk) (ha0 : HaX H0 c B D2 Rs tn fo ja li xj yl rl jf_z lf_z) (k : Kp6 H0 h2) (s : Sa h_z h2 ar) (ga : H0.1 ≤ ar) (g0 : 216 ≤ H0.1) (t0 : tn < H0.1) (d0 : di < H0.1) : WL h0 h2 bk dr c di tn Rs B tf D D2 ck sk := by
  have g_z := w_z.g
  obtain ⟨q1_z, -, ⟨dv, da_z⟩, q4_z, ⟨g1, g2, g3_z⟩, g4, g5_z, g6⟩ := w_z
  obtain ⟨s1_z, s2_z, s3_z⟩ := s
  exact ⟨q1_z.keep (by omega) (fun i_z _ i2_z => s3_z i_z (by omega)), ⟨fo, ja, li, xj, yl, rl, jf_z, lf_z, ha0.k6 k⟩, ⟨dv, da_z.keep (by omega) (s3_z di (by omega))⟩, q4_z.keep (by omega) (s3_z tn (by omega)), ⟨by omega, by omega, by omega⟩, g4, g5_z, g6⟩
theorem ms_pos {p : Nat → Nat} {f m : Nat} (e_z : fiN p 6 = some f) (hm : m < 6) (nm : ¬ m = f) : 1 ≤ msN p f m 6 := by
  obtain ⟨f6_z, fp_z, sp_z⟩ := fi_spec e_z
  obtain ⟨s1_z, s2_z⟩ := sp_z m hm
  refine Nat.pos_of_ne_zero (fun z_z => ?_)
  have h_z := ((msN_iff (p := p) (f := f) (m := m) (k := 0) 6).mp (by omega)).1
  by_cases y_z : f < m
  · rw [if_pos y_z] at h_z
    omega
  · rw [if_neg y_z] at h_z
    have := s2_z (by omega)
    omega
theorem pkM_lt9 {p : Nat → Nat} {f m k M : Nat} (hp : ∀ j, p j ≤ M) (hk : k ≤ M) (j : Nat) : pkM p f m k j ≤ M + M := by
  have h1 := hp f
  have h2 := hp m
  have h3 := hp j
  show (if j = f then p f - k else if j = m then p m + k else p j) ≤ _
  split
  · omega
  · split <;> omega
theorem pkM_tl9 {p : Nat → Nat} {f m k n : Nat} (hf : f < n) (hm : m < n) (hp : ∀ j, n ≤ j → j < 6 → p j = 0) : ∀ j, n ≤ j → j < 6 → pkM p f m k j = 0 := fun j h1 h2 => by
  show (if j = f then p f - k else if j = m then p m + k else p j) = 0
  rw [if_neg (by omega), if_neg (by omega)]
  exact hp j h1 h2

set_option maxHeartbeats 4000000 in
theorem s_l706 (hd : 40 ≤ d) (hb : BDok B D) {j : Nat} (hj : j < bJa B) {l : Nat} (hl : l < bLa B) {v : Nat} (v1_z : 1 ≤ v) (ev0 : bw (po (rt (dF D)) (dB D j)) (rt (dF D) l) = some v) {fi : Option Nat} {x2 x4 x8 x9 x10 x11 x12 x15 x16 : Option Value} {x19 : Option Value} {P : OC → AH → Prop} (w_z : WL h0 h_z bk dr c di tn Rs B tf D D (ck + 1) (sk + 6)) (r : ∀ (h1 : AH) (x19 : Option Value), WL h0 h1 bk dr c di tn Rs B tf D D (ck + 1) (sk + 6) → RQ G mL_law d 739 [some (.ref (OLD + 999)), some (.ref 0), x2, some (.ref di), x4, some (.ref c), some (.int (nI (bLa B))), some (.ref tn), x8, x9, x10, x11, x12, some (.int (nI (j))), some (.int (oI fi)), x15, x16, some (.int (nI (l))), some (.int (oI (bw (po (rt (dF D)) (dB D j)) (rt (dF D) l)))), x19] [] h1 P) : RQ G mL_law d 706 [some (.ref (OLD + 999)), some (.ref 0), x2, some (.ref di), x4, some (.ref c), some (.int (nI (bLa B))), some (.ref tn), x8, x9, x10, x11, x12, some (.int (nI (j))), some (.int (oI fi)), x15, x16, some (.int (nI (l))), some (.int (nI v)), x19] [] h_z P := by
  have l6 := hb.1
  have l8 := hb.2.1
  have evb : vB D (rt (dF D) l) j = v := by
    show ((bw (po (rt (dF D)) (dB D j)) (rt (dF D) l))).getD 0 = v
    rw [ev0]
    rfl
  obtain ⟨b1, b2⟩ := bj_spec (v := vB D (rt (dF D) l)) (bJa B)
  have vl := vB_le hb (m := (rt (dF D) l)) (j := j) (by omega)
  obtain ⟨q_z, eq9_z⟩ : ∃ q_z, bjN (vB D (rt (dF D) l)) (bJa B) = some q_z := by
    cases y_z : bjN (vB D (rt (dF D) l)) (bJa B) with
    | none =>
      have := b2 y_z j hj
      omega
    | some q_z => exact ⟨q_z, rfl⟩
  obtain ⟨q1_z, q2_z, q3_z⟩ := b1 q_z eq9_z
  have q3_z := q3_z j hj (by omega)
  have eq9_z : oI (bjN (vB D (rt (dF D) l)) (bJa B)) = nI q_z := by rw [eq9_z]; rfl
  have eo : oI (bw (po (rt (dF D)) (dB D j)) (rt (dF D) l)) = nI v := by rw [ev0]; rfl
  rw [eo] at r
  rw [evb] at q3_z
  refine tL_law_706  (r := ?_)
  refine tL_law_708  (kt := fun c_ => by exfalso; rw [← nI_0] at c_; exact absurd ((nI_leI (by omega) (by decide)).mp c_) (by omega)) (kf := fun _ => ?_)
  refine tL_law_711  (r := ?_)
  refine tL_law_712  (r := ?_)
  refine tL_law_714 (hd := (by omega)) (ha := w_z.1.1) (call := w_z.k (V := oI (bjN (vB D (rt (dF D) l)) (bJa B))) (k_bestJarFor_ok (d := d - 1) (by omega) w_z.1 hb w_z.g hl)) (k := ?_)
  rintro v_ u3 ⟨ev_z, w_z⟩
  rw [ev_z, eq9_z]
  refine tL_law_717  (kt := fun c_ => by exfalso; exact nI_pos (by omega) c_) (kf := fun _ => ?_)
  refine tL_law_720  (r := ?_)
  refine tL_law_721  (r := ?_)
  refine tL_law_722  (r := ?_)
  refine tL_law_724 (hd := (by omega)) (ha := w_z.1.1) (call := w_z.k (V := oI (bjN (vB D (rt (dF D) l)) (bJa B))) (k_bestJarFor_ok (d := d - 1) (by omega) w_z.1 hb w_z.g hl)) (k := ?_)
  rintro v_ u4_z ⟨ev_z, w_z⟩
  rw [ev_z, eq9_z]
  refine tL_law_727  (r := ?_)
  refine tL_law_729 (hd := (by omega)) (ha := w_z.1.1) (call := w_z.k (V := oI (bw (po (rt (dF D)) (dB D q_z)) (rt (dF D) l))) (k_beansToWin_ok (d := d - 1) (by omega) w_z.1 hb w_z.g q1_z hl)) (k := ?_)
  rintro v_ u5 ⟨ev_z, w_z⟩
  rw [ev_z, vB_some q2_z]
  refine tL_law_732  (r := ?_)
  refine tL_law_734  (kf := fun c_ => by exfalso; exact c_ ((nI_leI (by omega) (by omega)).mpr q3_z)) (kt := fun _ => ?_)
  exact r _ _ w_z
set_option maxHeartbeats 4000000 in
theorem s_l620 (hd : 40 ≤ d) (hb : BDok B D) {j : Nat} (hj : j < bJa B) {l : Nat} (hl : l < bLa B) {f v : Nat} (ef : fiN (po (rt (dF D)) (dB D j)) 6 = some f) (lff : f < bLa B) (nm : ¬ (rt (dF D) l) = f) (e_v : v = (msN (po (rt (dF D)) (dB D j)) f (rt (dF D) l) 6)) (v1_z : 1 ≤ v) (vf : v ≤ (po (rt (dF D)) (dB D j)) f) {H0 h9 : AH} {fo ja li : Nat} {xj yl rl : Nat → Nat} {jf_z lf_z : Nat → Option Nat} (ha0 : HaX H0 c B D Rs tn fo ja li xj yl rl jf_z lf_z) {x2 x4 x8 x9 x10 x11 x12 x15 x16 : Option Value} {P : OC → AH → Prop} {ar : Nat} (r : ∀ h1, Kp6 H0 h1 → Sa h9 h1 ar → RQ G mL_law d 706 [some (.ref (OLD + 999)), some (.ref 0), x2, some (.ref di), x4, some (.ref c), some (.int (nI (bLa B))), some (.ref tn), x8, x9, x10, x11, x12, some (.int (nI (j))), some (.int (nI f)), x15, x16, some (.int (nI (l))), some (.int (nI v)), some (.ref ar)] [] h1 P) {pf : Nat → Int32} (k9 : Kp6 H0 h9) (ga : H0.1 ≤ ar) (ap : At h9 ar (.inl (0, bLa B, .inl pf))) (hp : ∀ k, k < bLa B → pf k = nI ((po (rt (dF D)) (dB D j)) k)) : RQ G mL_law d 620 [some (.ref (OLD + 999)), some (.ref 0), x2, some (.ref di), x4, some (.ref c), some (.int (nI (bLa B))), some (.ref tn), x8, x9, x10, x11, x12, some (.int (nI (j))), some (.int (nI f)), x15, x16, some (.int (nI (l))), some (.int (nI v)), some (.ref ar)] [] h9 P := by
  have l6 := hb.1
  have l8 := hb.2.1
  have bs9 := hb.bs9 hj
  have se9 := hb.s9 hj
  have ps_z := hb.ps j
  have lp : ∀ k, (po (rt (dF D)) (dB D j)) k ≤ 1200 := fun k => po_le bs9 k
  have lr := hb.hl
  have rr : ∀ k, k < 6 → rt (dF D) (rt (dF D) k) = rt (dF D) k := fun k hk => rt_id hb hk
  have pz : ∀ k, bLa B ≤ k → k < 6 → (po (rt (dF D)) (dB D j)) k = 0 := fun k k1_z k2_z => po_z hb (j0 := j) (by omega) k k1_z k2_z
  have lM : (rt (dF D) l) < bLa B := lr l hl
  have lpf := lp f
  have lpM := lp (rt (dF D) l)
  have R689 : ∀ (h2 : AH) (pf : Nat → Int32), (Kp6 H0 h2 ∧ Sa h9 h2 ar) → At h2 ar (.inl (0, bLa B, .inl pf)) → (∀ k, k < bLa B → pf k = nI (pkM (po (rt (dF D)) (dB D j)) f (rt (dF D) l) v k)) → RQ G mL_law d 689 [some (.ref (OLD + 999)), some (.ref 0), x2, some (.ref di), x4, some (.ref c), some (.int (nI (bLa B))), some (.ref tn), x8, x9, x10, x11, x12, some (.int (nI (j))), some (.int (nI f)), x15, x16, some (.int (nI (l))), some (.int (nI v)), some (.ref ar)] [] h2 P := by
    intro h2 pf x9 ap q1_z
    refine tL_law_689  (r := ?_)
    refine tL_law_691 (hd := (by omega)) (call := s_hfirst (d := d - 1) (by omega) ap q1_z (fun k hk => by have := pkM_lt9 (m := (rt (dF D) l)) (f := f) (k := v) lp (by omega) k; omega)) (k := ?_)
    rintro v0_z h_ ⟨rfl, e9_z⟩
    rw [e9_z, fi_six hb.1 (pkM_tl9 lff lM pz)]
    refine tL_law_694  (r := ?_)
    refine tL_law_696  (r := ?_)
    refine tL_law_698 (hd := (by omega)) (ha := (ha0.k6 x9.1).choose_spec.choose_spec.2.1) (call := s_leader (d := d - 1) (by omega) hb.1 (ha0.k6 x9.1).to.fo hb.hF hb.hR hl) (k := ?_)
    rintro v0_z h_ ⟨rfl, e9_z⟩
    rw [e9_z]
    refine tL_law_701  (kf := fun c_ => by exfalso; exact c_ (by rw [(ms_first ef (by omega) nm vf).mpr (Nat.le_of_eq e_v.symm)]; rfl)) (kt := fun _ => ?_)
    exact r h2 x9.1 x9.2
  have R675 : ∀ (h2 : AH) (pf : Nat → Int32), (Kp6 H0 h2 ∧ Sa h9 h2 ar) → At h2 ar (.inl (0, bLa B, .inl pf)) → pf f = nI ((po (rt (dF D)) (dB D j)) f - v) → (∀ k, k < bLa B → k = (rt (dF D) l) → pf k = nI ((po (rt (dF D)) (dB D j)) (rt (dF D) l) + (v - 1))) → (∀ k, k < bLa B → ¬ k = f → ¬ k = (rt (dF D) l) → pf k = nI ((po (rt (dF D)) (dB D j)) k)) → RQ G mL_law d 675 [some (.ref (OLD + 999)), some (.ref 0), x2, some (.ref di), x4, some (.ref c), some (.int (nI (bLa B))), some (.ref tn), x8, x9, x10, x11, x12, some (.int (nI (j))), some (.int (nI f)), x15, x16, some (.int (nI (l))), some (.int (nI v)), some (.ref ar)] [] h2 P := by
    intro h2 pf x9 ap q1_z q2_z q3_z
    refine tL_law_675  (r := ?_)
    refine tL_law_677  (r := ?_)
    refine tL_law_679  (r := ?_)
    refine tL_law_681 (hd := (by omega)) (ha := (ha0.k6 x9.1).choose_spec.choose_spec.2.1) (call := s_leader (d := d - 1) (by omega) hb.1 (ha0.k6 x9.1).to.fo hb.hF hb.hR hl) (k := ?_)
    rintro v0_z h_ ⟨rfl, e9_z⟩
    rw [e9_z]
    refine tL_law_684  (r := ?_)
    refine tL_law_685 (ha := ap) (hx := rfl) (hj := lM) (hn := (by omega)) (r := ?_)
    rw [q2_z _ lM rfl]
    refine tL_law_686  (r := ?_)
    refine tL_law_687  (r := ?_)
    rw [nI_add]
    refine tL_law_688 (ha := ap) (hx := rfl) (hj := lM) (hn := (by omega)) (r := ?_)
    refine R689 _ _ (ks_set x9 ga _) (At.set_eq2 ap.1) (fun k hk => ?_)
    show (if k = (rt (dF D) l) then _ else pf k) = nI (if k = f then (po (rt (dF D)) (dB D j)) f - v else if k = (rt (dF D) l) then (po (rt (dF D)) (dB D j)) (rt (dF D) l) + v else (po (rt (dF D)) (dB D j)) k)
    by_cases z1 : k = (rt (dF D) l)
    · rw [if_pos z1, if_neg (fun y_z => nm (z1.symm.trans y_z)), if_pos z1]
      congr 1
      omega
    · rw [if_neg z1, if_neg z1]
      by_cases z2 : k = f
      · rw [if_pos z2, z2, q1_z]
      · rw [if_neg z2, q3_z k hk z2 z1]
  have R666 : ∀ (h2 : AH) (pf : Nat → Int32), (Kp6 H0 h2 ∧ Sa h9 h2 ar) → At h2 ar (.inl (0, bLa B, .inl pf)) → (∀ k, k < bLa B → pf k = nI (pkM (po (rt (dF D)) (dB D j)) f (rt (dF D) l) (v - 1) k)) → RQ G mL_law d 666 [some (.ref (OLD + 999)), some (.ref 0), x2, some (.ref di), x4, some (.ref c), some (.int (nI (bLa B))), some (.ref tn), x8, x9, x10, x11, x12, some (.int (nI (j))), some (.int (nI f)), x15, x16, some (.int (nI (l))), some (.int (nI v)), some (.ref ar)] [] h2 P := by
    intro h2 pf x9 ap q1_z
    refine tL_law_666  (r := ?_)
    refine tL_law_668  (r := ?_)
    refine tL_law_670  (r := ?_)
    refine tL_law_671 (ha := ap) (hx := rfl) (hj := lff) (hn := (by omega)) (r := ?_)
    rw [q1_z f lff, show pkM (po (rt (dF D)) (dB D j)) f (rt (dF D) l) (v - 1) f = (po (rt (dF D)) (dB D j)) f - (v - 1) from if_pos rfl]
    refine tL_law_672  (r := ?_)
    refine tL_law_673  (r := ?_)
    rw [nI_subN (show 1 ≤ (po (rt (dF D)) (dB D j)) f - (v - 1) by omega) (by omega)]
    refine tL_law_674 (ha := ap) (hx := rfl) (hj := lff) (hn := (by omega)) (r := ?_)
    refine R675 _ _ (ks_set x9 ga _) (At.set_eq2 ap.1) ((if_pos rfl).trans (by congr 1; omega)) (fun k hk e_z => ?_) (fun k hk n1_z n2_z => ?_)
    · rw [e_z]
      exact (if_neg nm).trans ((q1_z _ lM).trans (by rw [show pkM (po (rt (dF D)) (dB D j)) f (rt (dF D) l) (v - 1) (rt (dF D) l) = (po (rt (dF D)) (dB D j)) (rt (dF D) l) + (v - 1) from (if_neg nm).trans (if_pos rfl)]))
    · exact (if_neg n1_z).trans ((q1_z k hk).trans (by rw [show pkM (po (rt (dF D)) (dB D j)) f (rt (dF D) l) (v - 1) k = (po (rt (dF D)) (dB D j)) k from (if_neg n1_z).trans (if_neg n2_z)]))
  have R649 : ∀ (h2 : AH) (pf : Nat → Int32), (Kp6 H0 h2 ∧ Sa h9 h2 ar) → At h2 ar (.inl (0, bLa B, .inl pf)) → (∀ k, k < bLa B → pf k = nI (pkM (po (rt (dF D)) (dB D j)) f (rt (dF D) l) (v - 1) k)) → RQ G mL_law d 649 [some (.ref (OLD + 999)), some (.ref 0), x2, some (.ref di), x4, some (.ref c), some (.int (nI (bLa B))), some (.ref tn), x8, x9, x10, x11, x12, some (.int (nI (j))), some (.int (nI f)), x15, x16, some (.int (nI (l))), some (.int (nI v)), some (.ref ar)] [] h2 P := by
    intro h2 pf x9 ap q1_z
    refine tL_law_649  (r := ?_)
    refine tL_law_651 (hd := (by omega)) (call := s_hfirst (d := d - 1) (by omega) ap q1_z (fun k hk => by have := pkM_lt9 (m := (rt (dF D) l)) (f := f) (k := (v - 1)) lp (by omega) k; omega)) (k := ?_)
    rintro v0_z h_ ⟨rfl, e9_z⟩
    rw [e9_z, fi_six hb.1 (pkM_tl9 lff lM pz)]
    refine tL_law_654  (r := ?_)
    refine tL_law_656  (r := ?_)
    refine tL_law_658 (hd := (by omega)) (ha := (ha0.k6 x9.1).choose_spec.choose_spec.2.1) (call := s_leader (d := d - 1) (by omega) hb.1 (ha0.k6 x9.1).to.fo hb.hF hb.hR hl) (k := ?_)
    rintro v0_z h_ ⟨rfl, e9_z⟩
    rw [e9_z]
    refine tL_law_661  (kf := fun c_ => by exfalso; have y_z := (ms_first (k := v - 1) ef (by omega) nm (by omega)).mp ((oI_eq (by omega) (fun k e_z => by have := fi_lt _ _ _ e_z; omega)).mp c_.symm); omega) (kt := fun _ => ?_)
    exact R666 h2 pf x9 ap q1_z
  have R632 : ∀ (h2 : AH) (pf : Nat → Int32), (Kp6 H0 h2 ∧ Sa h9 h2 ar) → At h2 ar (.inl (0, bLa B, .inl pf)) → pf f = nI ((po (rt (dF D)) (dB D j)) f - (v - 1)) → (∀ k, k < bLa B → ¬ k = f → pf k = nI ((po (rt (dF D)) (dB D j)) k)) → RQ G mL_law d 632 [some (.ref (OLD + 999)), some (.ref 0), x2, some (.ref di), x4, some (.ref c), some (.int (nI (bLa B))), some (.ref tn), x8, x9, x10, x11, x12, some (.int (nI (j))), some (.int (nI f)), x15, x16, some (.int (nI (l))), some (.int (nI v)), some (.ref ar)] [] h2 P := by
    intro h2 pf x9 ap q1_z q2_z
    refine tL_law_632  (r := ?_)
    refine tL_law_634  (r := ?_)
    refine tL_law_636  (r := ?_)
    refine tL_law_638 (hd := (by omega)) (ha := (ha0.k6 x9.1).choose_spec.choose_spec.2.1) (call := s_leader (d := d - 1) (by omega) hb.1 (ha0.k6 x9.1).to.fo hb.hF hb.hR hl) (k := ?_)
    rintro v0_z h_ ⟨rfl, e9_z⟩
    rw [e9_z]
    refine tL_law_641  (r := ?_)
    refine tL_law_642 (ha := ap) (hx := rfl) (hj := lM) (hn := (by omega)) (r := ?_)
    rw [q2_z _ lM nm]
    refine tL_law_643  (r := ?_)
    refine tL_law_645  (r := ?_)
    refine tL_law_646  (r := ?_)
    rw [show nI v - nI 1 = nI (v - 1) from nI_subN v1_z (by omega)]
    refine tL_law_647  (r := ?_)
    rw [nI_add]
    refine tL_law_648 (ha := ap) (hx := rfl) (hj := lM) (hn := (by omega)) (r := ?_)
    refine R649 _ _ (ks_set x9 ga _) (At.set_eq2 ap.1) (fun k hk => ?_)
    show (if k = (rt (dF D) l) then _ else pf k) = nI (if k = f then (po (rt (dF D)) (dB D j)) f - (v - 1) else if k = (rt (dF D) l) then (po (rt (dF D)) (dB D j)) (rt (dF D) l) + (v - 1) else (po (rt (dF D)) (dB D j)) k)
    by_cases z1 : k = (rt (dF D) l)
    · rw [if_pos z1, if_neg (fun y_z => nm (z1.symm.trans y_z)), if_pos z1]
    · rw [if_neg z1, if_neg z1]
      by_cases z2 : k = f
      · rw [if_pos z2, z2, q1_z]
      · rw [if_neg z2, q2_z k hk z2]
  refine tL_law_620  (r := ?_)
  refine tL_law_622  (r := ?_)
  refine tL_law_624  (r := ?_)
  refine tL_law_625 (ha := ap) (hx := rfl) (hj := lff) (hn := (by omega)) (r := ?_)
  rw [hp f lff]
  refine tL_law_626  (r := ?_)
  refine tL_law_628  (r := ?_)
  refine tL_law_629  (r := ?_)
  rw [show nI v - nI 1 = nI (v - 1) from nI_subN v1_z (by omega)]
  refine tL_law_630  (r := ?_)
  rw [nI_subN (show v - 1 ≤ (po (rt (dF D)) (dB D j)) f by omega) (by omega)]
  refine tL_law_631 (ha := ap) (hx := rfl) (hj := lff) (hn := (by omega)) (r := ?_)
  exact R632 _ _ (ks_set ⟨k9, rfl, rfl, fun _ _ => rfl⟩ ga _) (At.set_eq2 ap.1) (if_pos rfl) (fun k hk nk => (if_neg nk).trans (hp k hk))
set_option maxHeartbeats 4000000 in
theorem s_l536 (hd : 40 ≤ d) (hb : BDok B D) {j : Nat} (hj : j < bJa B) {fi : Option Nat} (efi : fiN (po (rt (dF D)) (dB D j)) 6 = fi) {x2 x4 x8 x9 x10 x11 x12 x15 x16 x17 x18 x19 : Option Value} (l0 : 0 < bLa B) (o16 : ok1 x16 = true) {P : OC → AH → Prop} (w_z : WL h0 h_z bk dr c di tn Rs B tf D D ck sk) (r : ∀ (h1 : AH) (x17 x18 x19 : Option Value), WL h0 h1 bk dr c di tn Rs B tf D D (ck + 1) (sk + 6) → RQ G mL_law d 739 [some (.ref (OLD + 999)), some (.ref 0), x2, some (.ref di), x4, some (.ref c), some (.int (nI (bLa B))), some (.ref tn), x8, x9, x10, x11, x12, some (.int (nI (j))), some (.int (oI fi)), x15, x16, x17, x18, x19] [] h1 P) : RQ G mL_law d 536 [some (.ref (OLD + 999)), some (.ref 0), x2, some (.ref di), x4, some (.ref c), some (.int (nI (bLa B))), some (.ref tn), x8, x9, x10, x11, x12, some (.int (nI (j))), some (.int (oI fi)), x15, x16, x17, x18, x19] [] h_z P := by
  have l6 := hb.1
  have l8 := hb.2.1
  have bs9 := hb.bs9 hj
  have se9 := hb.s9 hj
  have ps_z := hb.ps j
  have lp : ∀ k, (po (rt (dF D)) (dB D j)) k ≤ 1200 := fun k => po_le bs9 k
  have lr := hb.hl
  have rr : ∀ k, k < 6 → rt (dF D) (rt (dF D) k) = rt (dF D) k := fun k hk => rt_id hb hk
  have pz : ∀ k, bLa B ≤ k → k < 6 → (po (rt (dF D)) (dB D j)) k = 0 := fun k k1_z k2_z => po_z hb (j0 := j) (by omega) k k1_z k2_z
  refine tL_law_536  (r := ?_)
  refine tL_law_537  (r := ?_)
  refine tL_law_539 (hd := (by omega)) (ha := w_z.2.2.1.choose_spec) (call := s_dice (d := d - 1) (n := bLa B) (by omega) w_z l0 (by omega)) (k := ?_)
  rintro v_ u0 ⟨⟨l, hl, el⟩, w_z⟩
  rw [el]
  refine tL_law_542 (ho := o16) (r := ?_)
  refine tL_law_544  (r := ?_)
  refine tL_law_545  (r := ?_)
  refine tL_law_547  (r := ?_)
  refine tL_law_549 (hd := (by omega)) (ha := w_z.1.1) (call := w_z.k (V := oI (bw (po (rt (dF D)) (dB D j)) (rt (dF D) l))) (k_beansToWin_ok (d := d - 1) (by omega) w_z.1 hb w_z.g hj hl)) (k := ?_)
  rintro v_ u1_z ⟨ev_z, w_z⟩
  rw [ev_z]
  have gu1 := w_z.g
  have tl1 := w_z.tl
  have dl1 := w_z.2.2.1.choose_spec.1
  obtain ⟨-, ⟨fo, ja, li, xj, yl, rl, jf_z, lf_z, ha⟩, -⟩ := id w_z
  obtain ⟨bj, ff_z, ⟨g1, g2, g3_z, g4⟩, a5, ⟨a6, a7⟩, ⟨a8, a9⟩, ⟨a10, a11⟩, a12, a13, a14, a15, a16, a17, a18⟩ := id ha
  refine tL_law_552  (r := ?_)
  refine tL_law_554  (r := ?_)
  refine tL_law_556  (r := ?_)
  refine tL_law_558 (ha := a5) (hv := rfl) (r := ?_)
  refine tL_law_561  (r := ?_)
  refine tL_law_563 (t := 5) (ha := a8) (ht := rfl) (hx := rfl) (hj := hj) (hn := (by omega)) (hf := (a9 j hj)) (r := ?_)
  refine tL_law_564 (hd := (by omega)) (ha := a5) (call := s_blocs (d := d - 1) (by omega) hb.1 ha.to.fo hb.hF hb.hR hb.hl (a12 j hj) (hb.b0 hj)) (k := ?_)
  rintro ar u2_z ⟨ga, ⟨pf, ap, hp⟩, ch2⟩
  have w_z := (w_z.ch ch2).sub (show ck + 1 ≤ ck + 1 by omega) (show sk + bLa B ≤ sk + 6 by omega)
  refine tL_law_567  (r := ?_)
  cases fi with
  | none =>
    have eb : (bw (po (rt (dF D)) (dB D j)) (rt (dF D) l)) = none := bw_none efi
    rw [eb]
    refine tL_law_569  (r := ?_)
    refine tL_law_571  (kf := fun c_ => by exfalso; exact absurd c_ (by decide)) (kt := fun _ => ?_)
    refine tL_law_578  (r := ?_)
    refine tL_law_579  (r := ?_)
    refine tL_law_581  (kf := fun c_ => by exfalso; exact c_ (by decide)) (kt := fun _ => ?_)
    refine tL_law_599  (r := ?_)
    refine tL_law_600  (kt := fun c_ => by exfalso; exact c_ rfl) (kf := fun _ => ?_)
    refine tL_law_603  (r := ?_)
    refine tL_law_605  (kf := fun c_ => by exfalso; exact c_ (by decide)) (kt := fun _ => ?_)
    refine tL_law_615  (r := ?_)
    refine tL_law_617  (kf := fun c_ => by exfalso; exact c_ (by decide)) (kt := fun _ => ?_)
    refine tL_law_706  (r := ?_)
    refine tL_law_708  (kf := fun c_ => by exfalso; exact c_ (by decide)) (kt := fun _ => ?_)
    exact r _ _ _ _ w_z
  | some f =>
    obtain ⟨f6_z, fp_z, sp_z⟩ := fi_spec efi
    have lff : f < bLa B := Classical.byContradiction (fun z_z => by
      have := pz f (by omega) f6_z
      omega)
    have lM := lr l hl
    have lpf := lp f
    rw [show oI (some f) = nI f from rfl]
    by_cases ez : (rt (dF D) l) = f
    · have eb : (bw (po (rt (dF D)) (dB D j)) (rt (dF D) l)) = some 0 := by rw [bw_some efi, if_pos ez]
      rw [eb]
      refine tL_law_569  (r := ?_)
      refine tL_law_571  (kt := fun c_ => by exfalso; exact c_ (by decide)) (kf := fun _ => ?_)
      refine tL_law_574  (r := ?_)
      refine tL_law_575 (r := ?_)
      refine tL_law_579  (r := ?_)
      refine tL_law_581  (kt := fun c_ => by exfalso; exact nI_pos (by omega) c_) (kf := fun _ => ?_)
      refine tL_law_584  (r := ?_)
      refine tL_law_585  (r := ?_)
      refine tL_law_587 (hd := (by omega)) (ha := w_z.1.1) (call := w_z.k (V := nI (rt (dF D) l)) (k_leaderOf_ok (d := d - 1) (by omega) w_z.1 hb w_z.g hl)) (k := ?_)
      rintro v_ u3 ⟨ev_z, w_z⟩
      rw [ev_z, ez]
      refine tL_law_590  (r := ?_)
      refine tL_law_592  (kt := fun c_ => by exfalso; exact c_ rfl) (kf := fun _ => ?_)
      refine tL_law_595  (r := ?_)
      refine tL_law_596 (r := ?_)
      refine tL_law_600  (kt := fun c_ => by exfalso; exact c_ rfl) (kf := fun _ => ?_)
      refine tL_law_603  (r := ?_)
      refine tL_law_605  (kf := fun c_ => by exfalso; exact c_ (by decide)) (kt := fun _ => ?_)
      refine tL_law_615  (r := ?_)
      refine tL_law_617  (kf := fun c_ => by exfalso; exact c_ (by decide)) (kt := fun _ => ?_)
      refine tL_law_706  (r := ?_)
      refine tL_law_708  (kf := fun c_ => by exfalso; exact c_ (by decide)) (kt := fun _ => ?_)
      exact r _ _ _ _ w_z
    · by_cases vf : (msN (po (rt (dF D)) (dB D j)) f (rt (dF D) l) 6) ≤ (po (rt (dF D)) (dB D j)) f
      · have eb : (bw (po (rt (dF D)) (dB D j)) (rt (dF D) l)) = some (msN (po (rt (dF D)) (dB D j)) f (rt (dF D) l) 6) := by rw [bw_some efi, if_neg ez, if_pos vf]
        have v1_z := ms_pos efi (show (rt (dF D) l) < 6 by omega) ez
        obtain ⟨v, e_v⟩ : ∃ v, v = (msN (po (rt (dF D)) (dB D j)) f (rt (dF D) l) 6) := ⟨_, rfl⟩
        rw [eb]
        rw [← e_v] at v1_z vf ⊢
        have vf2 : v ≤ (po (rt (dF D)) (dB D j)) f := vf
        rw [show oI (some v) = nI v from rfl]
        refine tL_law_569  (r := ?_)
        refine tL_law_571  (kf := fun c_ => by exfalso; have y_z := (nI_eq (by omega) (by decide)).mp (c_.trans nI_0.symm); omega) (kt := fun _ => ?_)
        refine tL_law_578  (r := ?_)
        refine tL_law_579  (r := ?_)
        refine tL_law_581  (kt := fun c_ => by exfalso; exact nI_pos (by omega) c_) (kf := fun _ => ?_)
        refine tL_law_584  (r := ?_)
        refine tL_law_585  (r := ?_)
        refine tL_law_587 (hd := (by omega)) (ha := w_z.1.1) (call := CK.ri (V := nI (rt (dF D) l)) (k_leaderOf_ok (d := d - 1) (by omega) w_z.1 hb w_z.g hl)) (k := ?_)
        rintro v_ u3 ⟨ev_z, q9_z, x9⟩
        rw [ev_z]
        have k3_z := (Ch.k60 ch2).trans x9.k6
        have ap3 := x9.k6.at (by omega) ap
        have w_z := w_z.cls q9_z x9
        refine tL_law_590  (r := ?_)
        refine tL_law_592  (kf := fun c_ => by exfalso; exact ez ((nI_eq (by omega) (by omega)).mp c_)) (kt := fun _ => ?_)
        refine tL_law_599  (r := ?_)
        refine tL_law_600  (kt := fun c_ => by exfalso; exact c_ rfl) (kf := fun _ => ?_)
        refine tL_law_603  (r := ?_)
        refine tL_law_605  (kt := fun c_ => by exfalso; rw [← nI_0] at c_; exact absurd ((nI_leI (by omega) (by decide)).mp c_) (by omega)) (kf := fun _ => ?_)
        refine tL_law_608  (r := ?_)
        refine tL_law_610  (kf := fun c_ => by exfalso; exact c_ (nI_pos' (by omega))) (kt := fun _ => ?_)
        refine tL_law_615  (r := ?_)
        refine tL_law_617  (kt := fun c_ => by exfalso; rw [← nI_0] at c_; exact absurd ((nI_leI (by omega) (by decide)).mp c_) (by omega)) (kf := fun _ => ?_)
        exact s_l620 hd hb hj hl efi lff ez e_v v1_z vf2 ha (fun h1 k1_z s1_z => s_l706 hd hb hj hl v1_z (eb.trans (by rw [e_v])) (w_z.row ha k1_z s1_z ga gu1 tl1 dl1) (fun h2 x19 w_z => r h2 _ _ _ w_z)) k3_z ga ap3 hp
      · have eb : (bw (po (rt (dF D)) (dB D j)) (rt (dF D) l)) = none := by rw [bw_some efi, if_neg ez, if_neg vf]
        rw [eb]
        refine tL_law_569  (r := ?_)
        refine tL_law_571  (kf := fun c_ => by exfalso; exact absurd c_ (by decide)) (kt := fun _ => ?_)
        refine tL_law_578  (r := ?_)
        refine tL_law_579  (r := ?_)
        refine tL_law_581  (kt := fun c_ => by exfalso; exact nI_pos (by omega) c_) (kf := fun _ => ?_)
        refine tL_law_584  (r := ?_)
        refine tL_law_585  (r := ?_)
        refine tL_law_587 (hd := (by omega)) (ha := w_z.1.1) (call := w_z.k (V := nI (rt (dF D) l)) (k_leaderOf_ok (d := d - 1) (by omega) w_z.1 hb w_z.g hl)) (k := ?_)
        rintro v_ u3 ⟨ev_z, w_z⟩
        rw [ev_z]
        refine tL_law_590  (r := ?_)
        refine tL_law_592  (kf := fun c_ => by exfalso; exact ez ((nI_eq (by omega) (by omega)).mp c_)) (kt := fun _ => ?_)
        refine tL_law_599  (r := ?_)
        refine tL_law_600  (kt := fun c_ => by exfalso; exact c_ rfl) (kf := fun _ => ?_)
        refine tL_law_603  (r := ?_)
        refine tL_law_605  (kf := fun c_ => by exfalso; exact c_ (by decide)) (kt := fun _ => ?_)
        refine tL_law_615  (r := ?_)
        refine tL_law_617  (kf := fun c_ => by exfalso; exact c_ (by decide)) (kt := fun _ => ?_)
        refine tL_law_706  (r := ?_)
        refine tL_law_708  (kf := fun c_ => by exfalso; exact c_ (by decide)) (kt := fun _ => ?_)
        exact r _ _ _ _ w_z
end F6
