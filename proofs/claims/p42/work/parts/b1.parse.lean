/-! reading what the law tells: values, tests, acts, rules; K the tokens -/
def nmL (k : Nat) : Nat := 12833 + k
def nmJ (k : Nat) : Nat := 10785 + k
def nmD (k : Nat) : Nat := 4641 + k
theorem kd_go {K : TKS} {p et : Nat} {d : DRF} : kdP K (p, 0, et, d) = kdT K p := if_neg (by decide : ¬ (0 : Nat) = 1)
theorem tk_go {K : TKS} {p et w : Nat} {d : DRF} (h : kdT K p = w) : tkP K w (p, 0, et, d) = (p + 1, 0, et, d) := by
  unfold tkP
  rw [if_neg (by decide : ¬ (0 : Nat) = 1), kd_go, if_pos h]
theorem up_go {f : DRF → DRF} {p et : Nat} {d : DRF} : upP f (p, 0, et, d) = (p, 0, et, f d) := if_pos rfl
theorem st_go {kd n p et : Nat} {d : DRF} : stP kd n (p, 0, et, d) = (p, 0, et, stD kd n d) := up_go
theorem no_go {so l r p et : Nat} {d : DRF} : noP so l r (p, 0, et, d) = (p, 0, et, noD so l r d) := up_go
/-- a draft without its nodes -/
def nz (d : DRF) : DRF := (ndB (0, nAn d.1, fun _ => 0, fun _ => 0, fun _ => 0, fun _ => (0, 0, 0, 0), fun _ => (0, 0, 0, 0)) d.1, d.2)
theorem nz_no {so l r : Nat} {d : DRF} : nz (noD so l r d) = nz d := rfl
theorem nz_st {kd n : Nat} {d : DRF} : nz (stD kd n d) = stD kd n (nz d) := by
  unfold stD
  by_cases z : cSt d.1 < 400
  · rw [if_pos z, if_pos (show cSt (nz d).1 < 400 from z)]
    rfl
  · rw [if_neg z, if_neg (show ¬ cSt (nz d).1 < 400 from z)]
theorem nz_ac {d : DRF} : nz (acD d) = acD (nz d) := rfl
theorem nz_ar {k : Nat} {x : Nat × Nat × Nat × Nat} {d : DRF} : nz (arD k x d) = nz d := rfl
theorem nz_rr {k : Nat} {x : Nat × Nat × Nat × Nat} {d : DRF} : nz (rrD k x d) = nz d := rfl
theorem nz_ru {d : DRF} : nz (ruD d) = ruD (nz d) := by
  unfold ruD
  by_cases z : 0 < bLi d.1 ∧ bRs d.1 < 24
  · rw [if_pos z, if_pos (show 0 < bLi (nz d).1 ∧ bRs (nz d).1 < 24 from z)]
    rfl
  · rw [if_neg z, if_neg (show ¬ (0 < bLi (nz d).1 ∧ bRs (nz d).1 < 24) from z)]
theorem nz_te {d : DRF} : nz (teD d) = teD (nz d) := by
  unfold teD
  by_cases z : 0 < bRs d.1
  · rw [if_pos z, if_pos (show 0 < bRs (nz d).1 from z)]
    rfl
  · rw [if_neg z, if_neg (show ¬ 0 < bRs (nz d).1 from z)]
theorem nz_ae {d : DRF} : nz (aeD d) = aeD (nz d) := by
  unfold aeD
  by_cases z : 0 < bRs d.1
  · rw [if_pos z, if_pos (show 0 < bRs (nz d).1 from z)]
    rfl
  · rw [if_neg z, if_neg (show ¬ 0 < bRs (nz d).1 from z)]
/-- what a piece does to a draft: 0 a step, 1 an act, 2 a rule, 3 its test's end, 4 its acts' end -/
abbrev OP3 : Type := Nat × Nat × Nat
def apO1 (o : OP3) (d : DRF) : DRF := if o.1 = 0 then stD o.2.1 o.2.2 d else if o.1 = 1 then acD d else if o.1 = 2 then ruD d else if o.1 = 3 then teD d else aeD d
def apO : List OP3 → DRF → DRF
  | [], d => d
  | o :: s, d => apO s (apO1 o d)
theorem apO_app (a b : List OP3) : ∀ d, apO (a ++ b) d = apO b (apO a d) := by
  induction a with
  | nil => intro d; rfl
  | cons o s ih => intro d; exact ih (apO1 o d)
def opA : List OP3 → Nat
  | [] => 0
  | o :: s => (if o.1 = 1 then 1 else 0) + opA s
def opR : List OP3 → Nat
  | [] => 0
  | o :: s => (if o.1 = 2 then 1 else 0) + opR s
theorem opA_app (a b : List OP3) : opA (a ++ b) = opA a + opA b := by
  induction a with
  | nil => exact (Nat.zero_add _).symm
  | cons o s ih => show _ + opA (s ++ b) = _ + opA s + opA b; rw [ih]; omega
theorem opR_app (a b : List OP3) : opR (a ++ b) = opR a + opR b := by
  induction a with
  | nil => exact (Nat.zero_add _).symm
  | cons o s ih => show _ + opR (s ++ b) = _ + opR s + opR b; rw [ih]; omega
theorem ap1_id (o : OP3) (d : DRF) : bLa (apO1 o d).1 = bLa d.1 ∧ bJa (apO1 o d).1 = bJa d.1 ∧ bLi (apO1 o d).1 = bLi d.1 ∧ (apO1 o d).2 = d.2 ∧ nAn (apO1 o d).1 ≤ nAn d.1 + (if o.1 = 1 then 1 else 0) ∧ bRs (apO1 o d).1 ≤ bRs d.1 + (if o.1 = 2 then 1 else 0) := by
  unfold apO1
  by_cases z0 : o.1 = 0
  · rw [if_pos z0, if_neg (by omega), if_neg (by omega)]
    unfold stD
    by_cases z : cSt d.1 < 400
    · rw [if_pos z]
      exact ⟨rfl, rfl, rfl, rfl, Nat.le_refl _, Nat.le_refl _⟩
    · rw [if_neg z]
      exact ⟨rfl, rfl, rfl, rfl, Nat.le_refl _, Nat.le_refl _⟩
  · rw [if_neg z0]
    by_cases z1 : o.1 = 1
    · rw [if_pos z1, if_pos z1, if_neg (by omega)]
      exact ⟨rfl, rfl, rfl, rfl, Nat.le_refl _, Nat.le_refl _⟩
    · rw [if_neg z1, if_neg z1]
      by_cases z2 : o.1 = 2
      · rw [if_pos z2, if_pos z2]
        unfold ruD
        by_cases z : 0 < bLi d.1 ∧ bRs d.1 < 24
        · rw [if_pos z]
          exact ⟨rfl, rfl, rfl, rfl, Nat.le_refl _, Nat.le_refl _⟩
        · rw [if_neg z]
          exact ⟨rfl, rfl, rfl, rfl, Nat.le_refl _, Nat.le_add_right _ _⟩
      · rw [if_neg z2, if_neg z2]
        by_cases z3 : o.1 = 3
        · rw [if_pos z3]
          unfold teD
          by_cases z : 0 < bRs d.1
          · rw [if_pos z]
            exact ⟨rfl, rfl, rfl, rfl, Nat.le_refl _, Nat.le_refl _⟩
          · rw [if_neg z]
            exact ⟨rfl, rfl, rfl, rfl, Nat.le_refl _, Nat.le_refl _⟩
        · rw [if_neg z3]
          unfold aeD
          by_cases z : 0 < bRs d.1
          · rw [if_pos z]
            exact ⟨rfl, rfl, rfl, rfl, Nat.le_refl _, Nat.le_refl _⟩
          · rw [if_neg z]
            exact ⟨rfl, rfl, rfl, rfl, Nat.le_refl _, Nat.le_refl _⟩
theorem ap_id : ∀ (l : List OP3) (d : DRF), bLa (apO l d).1 = bLa d.1 ∧ bJa (apO l d).1 = bJa d.1 ∧ bLi (apO l d).1 = bLi d.1 ∧ (apO l d).2 = d.2 ∧ nAn (apO l d).1 ≤ nAn d.1 + opA l ∧ bRs (apO l d).1 ≤ bRs d.1 + opR l
  | [], d => ⟨rfl, rfl, rfl, rfl, Nat.le_refl _, Nat.le_refl _⟩
  | o :: s, d => by
    obtain ⟨a1, a2, a3, a4, a5, a6⟩ := ap1_id o d
    obtain ⟨b1, b2, b3, b4, b5, b6⟩ := ap_id s (apO1 o d)
    refine ⟨b1.trans a1, b2.trans a2, b3.trans a3, b4.trans a4, ?_, ?_⟩
    · show nAn (apO s (apO1 o d)).1 ≤ nAn d.1 + ((if o.1 = 1 then 1 else 0) + opA s)
      omega
    · show bRs (apO s (apO1 o d)).1 ≤ bRs d.1 + ((if o.1 = 2 then 1 else 0) + opR s)
      omega
/-- the names that are told -/
def En (la ja : Nat) (d : DRF) : Prop := bLa d.1 = la ∧ bJa d.1 = ja ∧ (∀ k, k < la → dfL d k = nmL k) ∧ ∀ k, k < ja → dfJ d k = nmJ k
def Pre (la ja : Nat) (d : DRF) (l : List OP3) : Prop := En la ja d ∧ nAn d.1 + opA l ≤ 60 ∧ bRs d.1 + opR l ≤ 24
theorem nz_id {d d' : DRF} {l : List OP3} (e : nz d' = apO l (nz d)) : bLa d'.1 = bLa d.1 ∧ bJa d'.1 = bJa d.1 ∧ bLi d'.1 = bLi d.1 ∧ d'.2 = d.2 ∧ nAn d'.1 ≤ nAn d.1 + opA l ∧ bRs d'.1 ≤ bRs d.1 + opR l := by
  have q := ap_id l (nz d)
  rw [← e] at q
  exact q
theorem En.ap {la ja : Nat} {d d' : DRF} {l : List OP3} (h : En la ja d) (e : nz d' = apO l (nz d)) : En la ja d' := by
  obtain ⟨e1, e2, -, e4, -, -⟩ := nz_id e
  obtain ⟨h1, h2, h3, h4⟩ := h
  have e5 : dfL d' = dfL d := congrArg (fun x => x.1) e4
  have e6 : dfJ d' = dfJ d := congrArg (fun x => x.2.1) e4
  exact ⟨e1.trans h1, e2.trans h2, by rw [e5]; exact h3, by rw [e6]; exact h4⟩
theorem Pre.left {la ja : Nat} {d : DRF} {a b : List OP3} (h : Pre la ja d (a ++ b)) : Pre la ja d a := by
  obtain ⟨h1, h2, h3⟩ := h
  rw [opA_app] at h2
  rw [opR_app] at h3
  exact ⟨h1, by omega, by omega⟩
theorem Pre.right {la ja : Nat} {d d' : DRF} {a b : List OP3} (h : Pre la ja d (a ++ b)) (e : nz d' = apO a (nz d)) : Pre la ja d' b := by
  obtain ⟨h1, h2, h3⟩ := h
  obtain ⟨-, -, -, -, e5, e6⟩ := nz_id e
  rw [opA_app] at h2
  rw [opR_app] at h3
  exact ⟨h1.ap e, by omega, by omega⟩
/-- from token p to token q a piece goes through without an error, and does l -/
def GsP (K : TKS) (la ja : Nat) (f : PST → PST) (p q : Nat) (l : List OP3) : Prop := ∀ et d, Pre la ja d l → ∃ d', f (p, 0, et, d) = (q, 0, et, d') ∧ nz d' = apO l (nz d)
abbrev GoP (K : TKS) (la ja : Nat) (f : PST → PST × Nat) (p q : Nat) (l : List OP3) : Prop := GsP K la ja (fun s => (f s).1) p q l
section GO
variable {K : TKS} {la ja p q r et : Nat} {a b : List OP3} {f g : PST → PST}
theorem GsP.then (h1 : GsP K la ja f p q a) (h2 : GsP K la ja g q r b) : GsP K la ja (fun s => g (f s)) p r (a ++ b) := fun et d hp => by
  obtain ⟨d1, e1, n1⟩ := h1 et d hp.left
  obtain ⟨d2, e2, n2⟩ := h2 et d1 (hp.right n1)
  exact ⟨d2, by show g (f _) = _; rw [e1]; exact e2, by rw [n2, n1, apO_app]⟩
theorem GsP.tk {w : Nat} (h : kdT K p = w) : GsP K la ja (tkP K w) p (p + 1) [] := fun et d _ => ⟨d, tk_go h, rfl⟩
theorem GsP.st {kd n : Nat} : GsP K la ja (stP kd n) p p [(0, kd, n)] := fun et d _ => ⟨_, st_go, nz_st⟩
theorem GsP.up {F : DRF → DRF} {o : OP3} (h : ∀ d, nz (F d) = apO1 o (nz d)) : GsP K la ja (upP F) p p [o] := fun et d _ => ⟨_, up_go, h d⟩
theorem GsP.up0 {F : PST → DRF → DRF} (h1 : GsP K la ja f p q a) (h : ∀ s d, nz (F s d) = nz d) : GsP K la ja (fun s => upP (F s) (f s)) p q a := fun et d hp => by
  obtain ⟨d1, e1, n1⟩ := h1 et d hp
  exact ⟨_, by show upP _ (f _) = _; rw [e1]; exact up_go, (h _ _).trans n1⟩
theorem GsP.nil (h : GsP K la ja f p q (a ++ [])) : GsP K la ja f p q a := by rw [List.append_nil] at h; exact h
theorem GsP.to (h : GsP K la ja f p q a) (e : q = r) (e2 : a = b) : GsP K la ja f p r b := by rw [← e, ← e2]; exact h
theorem GsP.eq (h : GsP K la ja g p q a) (e : ∀ et d, Pre la ja d a → f (p, 0, et, d) = g (p, 0, et, d)) : GsP K la ja f p q a := fun et d hp => by
  obtain ⟨d1, e1, n1⟩ := h et d hp
  exact ⟨d1, (e et d hp).trans e1, n1⟩
/-- two values joined -/
theorem jn_go {w l r p et : Nat} {d : DRF} : (jnP w l r (p, 0, et, d)).1 = (p, 0, et, noD (soK w) l r (stD w 0 d)) := by
  show noP (soK w) l r (stP w 0 (p, 0, et, d)) = _
  rw [st_go, no_go]
theorem lp_stop {op : Nat → Bool} {x : PST → PST × Nat} {n : Nat} {z : PST × Nat} (h : op (kdP K z.1) = false) : lpP K op x (n + 1) z = z := if_neg (by rw [h]; decide)
theorem lp_step {op : Nat → Bool} {x : PST → PST × Nat} {n : Nat} {z : PST × Nat} (h : op (kdP K z.1) = true) : lpP K op x (n + 1) z = lpP K op x n (jnP (kdP K z.1) z.2 (x (tkP K (kdP K z.1) z.1)).2 (x (tkP K (kdP K z.1) z.1)).1) := if_pos h
theorem GoP.op0 {op : Nat → Bool} {x : PST → PST × Nat} (h : GoP K la ja x p q a) (n : op (kdT K q) = false) : GoP K la ja (opP K op x) p q a := fun et d hp => by
  obtain ⟨d1, e1, n1⟩ := h et d hp
  have e1 : (x (p, 0, et, d)).1 = (q, 0, et, d1) := e1
  have e2 : opP K op x (p, 0, et, d) = x (p, 0, et, d) := lp_stop (n := 399) (by rw [e1, kd_go]; exact n)
  exact ⟨d1, by show (opP K op x _).1 = _; rw [e2, e1], n1⟩
theorem GoP.op1 {op : Nat → Bool} {x : PST → PST × Nat} {w : Nat} (h : GoP K la ja x p q a) (hw : kdT K q = w) (n : op w = true) (h2 : GoP K la ja x (q + 1) r b) (n2 : op (kdT K r) = false) : GoP K la ja (opP K op x) p r (a ++ (b ++ [(0, w, 0)])) := fun et d hp => by
  obtain ⟨d1, e1, n1⟩ := h et d hp.left
  obtain ⟨d2, e2, n2'⟩ := h2 et d1 (hp.right n1).left
  have e1 : (x (p, 0, et, d)).1 = (q, 0, et, d1) := e1
  have e2 : (x (q + 1, 0, et, d1)).1 = (r, 0, et, d2) := e2
  have k1 : kdP K (x (p, 0, et, d)).1 = w := by rw [e1, kd_go]; exact hw
  have s1 : opP K op x (p, 0, et, d) = lpP K op x 399 (jnP w (x (p, 0, et, d)).2 (x (q + 1, 0, et, d1)).2 (r, 0, et, d2)) := by
    have := lp_step (K := K) (op := op) (x := x) (n := 399) (z := x (p, 0, et, d)) (by rw [k1]; exact n)
    rw [k1, e1, tk_go hw, e2] at this
    exact this
  have s2 := lp_stop (K := K) (op := op) (x := x) (n := 398) (z := jnP w (x (p, 0, et, d)).2 (x (q + 1, 0, et, d1)).2 (r, 0, et, d2)) (by rw [jn_go, kd_go]; exact n2)
  refine ⟨_, by show (opP K op x _).1 = _; rw [s1, s2, jn_go], ?_⟩
  rw [nz_no, nz_st, n2', n1, apO_app, apO_app]
  rfl
/-- a label's, a jar's name is known -/
theorem fnN_lab {la k : Nat} {F : Nat → Nat} {g : Nat → Nat} (h : ∀ j, j < la → F j = g j) (inj : ∀ i j, g i = g j → i = j) (hk : k < la) : fnN F (g k) la = some k :=
  fnN_first (h k hk) (fun j hj => by rw [h j (by omega)]; exact fun e => by have := inj _ _ e; omega) hk
theorem lb_go {d : DRF} {k et : Nat} (h : En la ja d) (hv : vvT K p = nmL k) (hk : k < la) : lbO K (p, 0, et, d) = some k := by
  show fnN (dfL d) (vvT K p) (bLa d.1) = some k
  rw [hv, h.1]
  exact fnN_lab h.2.2.1 (fun i j e => by unfold nmL at e; omega) hk
theorem jb_go {d : DRF} {k et : Nat} (h : En la ja d) (hv : vvT K p = nmJ k) (hk : k < ja) : jbO K (p, 0, et, d) = some k := by
  show fnN (dfJ d) (vvT K p) (bJa d.1) = some k
  rw [hv, h.2.1]
  exact fnN_lab h.2.2.2 (fun i j e => by unfold nmJ at e; omega) hk
theorem la_go {d : DRF} {k et : Nat} (h : En la ja d) (hv : vvT K p = nmL k) (hk : k < la) : laP K (p, 0, et, d) = (p, 0, et, d) := by
  unfold laP
  rw [lb_go h hv hk]
  exact if_neg (fun z => nomatch z)
theorem ja_go {d : DRF} {k et : Nat} (h : En la ja d) (hv : vvT K p = nmJ k) (hk : k < ja) : jaP K (p, 0, et, d) = (p, 0, et, d) := by
  unfold jaP
  rw [jb_go h hv hk]
  exact if_neg (fun z => nomatch z)
/-- a word and a label -/
theorem GoP.lk {w k : Nat} (hw : kdT K p = w) (h39 : kdT K (p + 1) = 39) (hv : vvT K (p + 1) = nmL k) (hk : k < la) : GoP K la ja (lkP K w) p (p + 1 + 1) [(0, w, k)] := fun et d hp => by
  refine ⟨noD (soK w) k 0 (stD w k d), ?_, nz_no.trans nz_st⟩
  show noP (soK w) ((lbO K (tkP K w (p, 0, et, d))).getD 0) 0 (tkP K 39 (stP w ((lbO K (tkP K w (p, 0, et, d))).getD 0) (laP K (tkP K w (p, 0, et, d))))) = _
  rw [tk_go hw, la_go hp.1 hv hk, lb_go hp.1 hv hk]
  show noP (soK w) k 0 (tkP K 39 (stP w k (p + 1, 0, et, d))) = _
  rw [st_go, tk_go h39, no_go]
theorem GoP.wd {w : Nat} {sub : Option (PST → PST × Nat)} (hw : kdT K p = w) (h : w = 20 ∨ w = 22 ∨ w = 23) : GoP K la ja (atP K sub) p (p + 1) [(0, w, 0)] := fun et d hp => by
  refine ⟨noD (soK w) 0 0 (stD w 0 d), ?_, nz_no.trans nz_st⟩
  show (atP K sub (p, 0, et, d)).1 = _
  unfold atP
  rw [kd_go, hw, if_neg (fun z => by omega), if_neg (by omega), if_pos h]
  show noP (soK w) 0 0 (tkP K w (stP w 0 (p, 0, et, d))) = _
  rw [st_go, tk_go hw, no_go]
theorem GoP.nu {v : Nat} {sub : Option (PST → PST × Nat)} (hw : kdT K p = 40) (hv : vvT K p = v) : GoP K la ja (atP K sub) p (p + 1) [(0, 40, v)] := fun et d hp => by
  refine ⟨noD 31 v 0 (stD 40 v d), ?_, nz_no.trans nz_st⟩
  show (atP K sub (p, 0, et, d)).1 = _
  unfold atP
  rw [kd_go, hw, if_neg (fun z => by omega), if_neg (by omega), if_neg (by omega)]
  show noP 31 (vaP K (p, 0, et, d)) 0 (tkP K 40 (stP 40 (vaP K (p, 0, et, d)) (p, 0, et, d))) = _
  rw [show vaP K (p, 0, et, d) = v from hv, st_go, tk_go hw, no_go]
theorem GoP.lkA {w k : Nat} {sub : Option (PST → PST × Nat)} (hw : kdT K p = w) (h : w = 21 ∨ w = 2) (h39 : kdT K (p + 1) = 39) (hv : vvT K (p + 1) = nmL k) (hk : k < la) : GoP K la ja (atP K sub) p (p + 1 + 1) [(0, w, k)] :=
  GsP.eq (GoP.lk hw h39 hv hk) (fun et d _ => by
    show (atP K sub (p, 0, et, d)).1 = (lkP K w (p, 0, et, d)).1
    unfold atP
    rw [kd_go, hw, if_neg (fun z => by omega), if_pos h])
theorem GoP.br {sub : PST → PST × Nat} (hw : kdT K p = 27) (h : GoP K la ja sub (p + 1) q a) (h2 : kdT K q = 28) : GoP K la ja (atP K (some sub)) p (q + 1) a := fun et d hp => by
  obtain ⟨d1, e1, n1⟩ := h et d hp
  have e1 : (sub (p + 1, 0, et, d)).1 = (q, 0, et, d1) := e1
  refine ⟨d1, ?_, n1⟩
  show (atP K (some sub) (p, 0, et, d)).1 = _
  unfold atP
  rw [kd_go, if_pos ⟨hw, rfl⟩]
  show tkP K 28 (sub (tkP K 27 (p, 0, et, d))).1 = _
  rw [tk_go hw, e1, tk_go h2]
/-- tokens lie there -/
def PosL (K : TKS) (p : Nat) : List (Nat × Nat) → Prop
  | [] => True
  | t :: s => (kdT K p = t.1 ∧ vvT K p = t.2) ∧ PosL K (p + 1) s
theorem PosL.app : ∀ {a b : List (Nat × Nat)} {p : Nat}, PosL K p (a ++ b) → PosL K p a ∧ PosL K (p + a.length) b
  | [], _, _, h => ⟨trivial, h⟩
  | t :: s, b, p, h => by
    obtain ⟨h1, h2⟩ := PosL.app (a := s) h.2
    refine ⟨⟨h.1, h1⟩, ?_⟩
    rw [show p + (t :: s).length = p + 1 + s.length by simp only [List.length_cons]; omega]
    exact h2
def wdK (n : Nat) : Nat := if n = 0 then 20 else if n = 1 then 22 else 23
def lfK (l : ELf) : List (Nat × Nat) := if l.1 = 0 then [(40, l.2)] else if l.1 = 1 then [(wdK l.2, 0)] else if l.1 = 2 then [(21, 0), (39, nmL l.2)] else [(2, 0), (39, nmL l.2)]
def lfC (l : ELf) : List OP3 := if l.1 = 0 then [(0, 40, l.2)] else if l.1 = 1 then [(0, wdK l.2, 0)] else if l.1 = 2 then [(0, 21, l.2)] else [(0, 2, l.2)]
theorem GoP.lf {l : ELf} {sub : Option (PST → PST × Nat)} (ok : okL la l) (h : PosL K p (lfK l)) : GoP K la ja (atP K sub) p (p + (lfK l).length) (lfC l) := by
  obtain ⟨so, n⟩ := l
  rcases ok with ⟨z, h2⟩ | ⟨z, h2⟩ | ⟨z | z, h2⟩ <;> (have z : so = _ := z; subst z)
  · exact GoP.nu h.1.1 h.1.2
  · refine GoP.wd h.1.1 ?_
    show wdK n = 20 ∨ wdK n = 22 ∨ wdK n = 23
    unfold wdK
    split
    · exact Or.inl rfl
    · split
      · exact Or.inr (Or.inl rfl)
      · exact Or.inr (Or.inr rfl)
  · exact GoP.lkA h.1.1 (Or.inl rfl) h.2.1.1 h.2.1.2 h2
  · exact GoP.lkA h.1.1 (Or.inr rfl) h.2.1.1 h.2.1.2 h2
def sgK (s : Nat) : Nat := if s = 4 then 36 else if s = 5 then 37 else if s = 6 then 38 else if s = 7 then 33 else if s = 8 then 34 else 35
def vaK : EVa → List (Nat × Nat)
  | .inl l => lfK l
  | .inr (s, l, m) => (27, 0) :: (lfK l ++ ((sgK s, 0) :: (lfK m ++ [(28, 0)])))
def vaC : EVa → List OP3
  | .inl l => lfC l
  | .inr (s, l, m) => lfC l ++ (lfC m ++ [(0, sgK s, 0)])
/-- no sign of a sum or a product -/
def nS (w : Nat) : Prop := w ≠ 36 ∧ w ≠ 37 ∧ w ≠ 38
theorem nS.m8 {w : Nat} (h : nS w) : is38 w = false := by
  have := h.2.2
  unfold is38
  simpa using this
theorem nS.pm {w : Nat} (h : nS w) : isPM w = false := by
  obtain ⟨h1, h2, -⟩ := h
  unfold isPM
  simp [h1, h2]
theorem GoP.sl {l : ELf} {sub : Option (PST → PST × Nat)} (ok : okL la l) (h : PosL K p (lfK l)) (n : nS (kdT K (p + (lfK l).length))) : GoP K la ja (smF K sub) p (p + (lfK l).length) (lfC l) :=
  GoP.op0 (GoP.op0 (GoP.lf ok h) n.m8) n.pm
/-- what stands in brackets -/
theorem GoP.sg {s : Nat} {l m : ELf} {sub : Option (PST → PST × Nat)} (hs : 4 ≤ s ∧ s ≤ 6) (ok1 : okL la l) (ok2 : okL la m) (h : PosL K p (lfK l ++ ((sgK s, 0) :: (lfK m ++ [(28, 0)])))) : GoP K la ja (smF K sub) p (p + (lfK l).length + 1 + (lfK m).length) (lfC l ++ (lfC m ++ [(0, sgK s, 0)])) ∧ kdT K (p + (lfK l).length + 1 + (lfK m).length) = 28 := by
  obtain ⟨h1, h2, h3⟩ := h.app
  obtain ⟨h4, h5, -⟩ := h3.app
  have h28 : kdT K (p + (lfK l).length + 1 + (lfK m).length) = 28 := h5.1
  have hsg : kdT K (p + (lfK l).length) = sgK s := h2.1
  have n28 : nS (kdT K (p + (lfK l).length + 1 + (lfK m).length)) := by rw [h28]; exact ⟨by decide, by decide, by decide⟩
  refine ⟨?_, h28⟩
  rcases (by omega : s = 4 ∨ s = 5 ∨ s = 6) with rfl | rfl | rfl
  · have hsg : kdT K (p + (lfK l).length) = 36 := hsg
    exact GoP.op1 (GoP.op0 (GoP.lf ok1 h1) (by rw [hsg]; rfl)) hsg rfl (GoP.op0 (GoP.lf ok2 h4) n28.m8) n28.pm
  · have hsg : kdT K (p + (lfK l).length) = 37 := hsg
    exact GoP.op1 (GoP.op0 (GoP.lf ok1 h1) (by rw [hsg]; rfl)) hsg rfl (GoP.op0 (GoP.lf ok2 h4) n28.m8) n28.pm
  · have hsg : kdT K (p + (lfK l).length) = 38 := hsg
    exact GoP.op0 (GoP.op1 (GoP.lf ok1 h1) hsg rfl (GoP.lf ok2 h4) n28.m8) n28.pm
theorem sm_some {b : Nat} : smP K (b + 1) = smF K (some (smP K b)) := rfl
theorem sm_F (b : Nat) : ∃ sub, smP K b = smF K sub := by
  cases b with
  | zero => exact ⟨none, rfl⟩
  | succ b => exact ⟨_, rfl⟩
theorem vaK_len {e : EVa} : ∀ {s l m}, e = .inr (s, l, m) → (vaK e).length = (lfK l).length + (lfK m).length + 3 := by
  rintro s l m rfl
  simp only [vaK, List.length_cons, List.length_append, List.length_nil]
  omega
/-- a value -/
theorem GoP.va {e : EVa} {b : Nat} (ok : okV la e) (h : PosL K p (vaK e)) (n : nS (kdT K (p + (vaK e).length))) : GoP K la ja (smP K (b + 1)) p (p + (vaK e).length) (vaC e) := by
  match e, ok, h, n with
  | .inl l, ok, h, n => exact GoP.sl ok h n
  | .inr (s, l, m), ⟨hs, ok1, ok2⟩, h, n =>
    obtain ⟨sub, es⟩ := sm_F (K := K) b
    rw [vaK_len rfl] at n ⊢
    have h1 := h.1.1
    obtain ⟨g1, g2⟩ := GoP.sg (K := K) (la := la) (ja := ja) (sub := sub) hs ok1 ok2 h.2
    rw [← es] at g1
    have e9 : p + 1 + (lfK l).length + 1 + (lfK m).length + 1 = p + ((lfK l).length + (lfK m).length + 3) := by omega
    have g3 := GoP.br h1 g1 g2
    rw [e9] at g3
    exact GoP.op0 (GoP.op0 g3 n.m8) n.pm
theorem GoP.vl {l : ELf} {b : Nat} (ok : okL la l) (h : PosL K p (lfK l)) (n : nS (kdT K (p + (lfK l).length))) : GoP K la ja (smP K b) p (p + (lfK l).length) (lfC l) := by
  obtain ⟨sub, es⟩ := sm_F (K := K) b
  rw [es]
  exact GoP.sl ok h n
end GO
