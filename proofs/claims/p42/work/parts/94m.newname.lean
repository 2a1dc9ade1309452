/-! the reference's new names -/
/-- a lid's name alone -/
def lnD (v : Nat) (d : DRF) : DRF := if bLi d.1 < 6 then ((bLa d.1, bJa d.1, bLi d.1 + 1, bSe d.1, bWy d.1, bLl d.1, bRu d.1, bRs d.1, bSc d.1, bNd d.1), dfL d, dfJ d, upN (dfI d) (bLi d.1) v, dfE d, dfO d) else d
/-- a label's, a jar's, a lid's name: how many, how many at most, one more -/
def cnN (w : Nat) (d : DRF) : Nat := if w = 0 then bLa d.1 else if w = 1 then bJa d.1 else bLi d.1
def mxN (w : Nat) : Nat := if w = 1 then 8 else 6
def adN (w v : Nat) (d : DRF) : DRF := if w = 0 then laD v d else if w = 1 then jaD v d else lnD v d
theorem ad_nd {w v : Nat} {d : DRF} : ndN (adN w v d).1 = ndN d.1 := by
  unfold adN
  split
  · unfold laD
    split <;> rfl
  · split
    · unfold jaD
      split <;> rfl
    · unfold lnD
      split <;> rfl
section RMM
variable {G : GT} {d : Nat} {h0 h : AH} {m : Nat} {K : TKS} {T : List Nat} {L : Nat → Nat} {s : PST} {dp : Nat} {g : GCT} {no : Nat} {P : OC → AH → Prop}
abbrev gNm (g : GCT) (nm : Nat) : GCT := (g.1, g.2.1, g.2.2.1, g.2.2.2.1, g.2.2.2.2.1, nm)
/-- names' rows and the reference's cell change, nothing else -/
def Uw (h h1 : AH) (m : Nat) : Prop := h1.1 = h.1 ∧ h1.2.1 = h.2.1 ∧ ∀ i, i < h.1 → i ≠ m → i ≠ m + 28 → (i < m + 6 ∨ m + 9 ≤ i) → (i < m + 28 + 16 ∨ m + 28 + 19 ≤ i) → h1.2.2 i = h.2.2 i
theorem Uw.at {h h1 : AH} {m i : Nat} {c : AC} (u : Uw h h1 m) (a : At h i c) (e1 : i ≠ m) (e0 : i ≠ m + 28) (e2 : i < m + 6 ∨ m + 9 ≤ i) (e3 : i < m + 28 + 16 ∨ m + 28 + 19 ≤ i) : At h1 i c := ⟨by rw [u.1]; exact a.1, (u.2.2 i a.1 e1 e0 e2 e3).trans a.2⟩
theorem rp_kd {n : Nat} (hn : n ≠ 1) : kdP K (rpP n s) = kdP K s := by
  unfold rpP
  by_cases z : pEr s = 0
  · rw [if_pos z]
    unfold kdP
    rw [if_neg hn, if_neg (by omega)]
  · rw [if_neg z]
/-- nobody has this name -/
def noNm (K : TKS) (s : PST) : Prop := lbO K s = none ∧ jbO K s = none ∧ ibO K s = none
theorem nm_known {nm : Nat} {t kd nu : Nat → Nat} (hp : NmP K nm t kd nu (nmN (pDf s))) : fnN (fun k => vvT K (t k)) (vaP K s) nm = none ↔ noNm K s := by
  obtain ⟨hn, p1, p2, p3, p4, p5⟩ := hp
  refine ⟨fun e => ⟨?_, ?_, ?_⟩, fun e => ?_⟩
  · refine Option.eq_none_iff_forall_ne_some.mpr (fun i hi => ?_)
    obtain ⟨f1, f2, -⟩ := fnN_some hi
    obtain ⟨k, q1, q2, q3⟩ := p2 i f1
    rcases p1 k q1 with q | q | q
    · exact fnN_none.mp e k q1 (q.2.2.symm.trans (by rw [q3]; exact f2))
    · omega
    · omega
  · refine Option.eq_none_iff_forall_ne_some.mpr (fun i hi => ?_)
    obtain ⟨f1, f2, -⟩ := fnN_some hi
    obtain ⟨k, q1, q2, q3⟩ := p3 i f1
    rcases p1 k q1 with q | q | q
    · omega
    · exact fnN_none.mp e k q1 (q.2.2.symm.trans (by rw [q3]; exact f2))
    · omega
  · refine Option.eq_none_iff_forall_ne_some.mpr (fun i hi => ?_)
    obtain ⟨f1, f2, -⟩ := fnN_some hi
    obtain ⟨k, q1, q2, q3⟩ := p4 i f1
    rcases p1 k q1 with q | q | q
    · omega
    · omega
    · exact fnN_none.mp e k q1 (q.2.2.symm.trans (by rw [q3]; exact f2))
  · obtain ⟨e1, e2, e3⟩ := e
    refine fnN_none.mpr (fun k hk z => ?_)
    rcases p1 k hk with q | q | q
    · exact fnN_none.mp e1 _ q.2.1 (q.2.2.trans z)
    · exact fnN_none.mp e2 _ q.2.1 (q.2.2.trans z)
    · exact fnN_none.mp e3 _ q.2.1 (q.2.2.trans z)
theorem if_dec {p : Prop} {dp dq : Decidable p} {α : Type} {a b : α} : (@ite α p dp a b) = (@ite α p dq a b) := by
  by_cases z : p
  · rw [if_pos z, if_pos z]
  · rw [if_neg z, if_neg z]
/-- one name more -/
theorem NmP.add {w nm k0 : Nat} {t kd nu : Nat → Nat} {d : DRF} (hw : w = 0 ∨ w = 1 ∨ w = 5) (hp : NmP K nm t kd nu (nmN d)) (hlt : cnN w d < mxN w) (hf : ∀ k, k < nm → vvT K (t k) ≠ vvT K k0) : NmP K (nm + 1) (upN t nm k0) (upN kd nm w) (upN nu nm (cnN w d)) (nmN (adN w (vvT K k0) d)) := by
  obtain ⟨hn, p1, p2, p3, p4, p5⟩ := hp
  have hn : nm = bLa d.1 + bJa d.1 + bLi d.1 := hn
  have ut : ∀ k, k < nm → upN t nm k0 k = t k := fun k hk => if_neg (by omega)
  have uk : ∀ k, k < nm → upN kd nm w k = kd k := fun k hk => if_neg (by omega)
  have un : ∀ k, k < nm → upN nu nm (cnN w d) k = nu k := fun k hk => if_neg (by omega)
  have ut' : upN t nm k0 nm = k0 := if_pos rfl
  have uk' : upN kd nm w nm = w := if_pos rfl
  have un' : upN nu nm (cnN w d) nm = cnN w d := if_pos rfl
  have d5 : ∀ k k', k < nm + 1 → k' < nm + 1 → vvT K (upN t nm k0 k) = vvT K (upN t nm k0 k') → k = k' := fun k k' hk hk' e => by
    by_cases z : k = nm
    · by_cases z' : k' = nm
      · omega
      · rw [z, ut', ut k' (by omega)] at e
        exact absurd e.symm (hf k' (by omega))
    · by_cases z' : k' = nm
      · rw [z', ut', ut k (by omega)] at e
        exact absurd e (hf k (by omega))
      · rw [ut k (by omega), ut k' (by omega)] at e
        exact p5 k k' (by omega) (by omega) e
  rcases hw with rfl | rfl | rfl
  · have lt : bLa d.1 < 6 := hlt
    have ea : adN 0 (vvT K k0) d = ((bLa d.1 + 1, bJa d.1, bLi d.1, bSe d.1, bWy d.1, bLl d.1, bRu d.1, bRs d.1, bSc d.1, bNd d.1), upN (dfL d) (bLa d.1) (vvT K k0), dfJ d, dfI d, dfE d, dfO d) := if_pos lt
    rw [ea]
    refine ⟨by show nm + 1 = bLa d.1 + 1 + bJa d.1 + bLi d.1; omega, fun k hk => ?_, fun i hi => ?_, fun i hi => ?_, fun i hi => ?_, d5⟩
    · by_cases z : k = nm
      · rw [z, ut', uk', un']
        exact Or.inl ⟨rfl, Nat.lt_succ_self _, if_pos rfl⟩
      · rw [ut k (by omega), uk k (by omega), un k (by omega)]
        rcases p1 k (by omega) with q | q | q
        · exact Or.inl ⟨q.1, Nat.lt_succ_of_lt q.2.1, (if_neg (Nat.ne_of_lt q.2.1)).trans q.2.2⟩
        · exact Or.inr (Or.inl ⟨q.1, q.2.1, q.2.2⟩)
        · exact Or.inr (Or.inr ⟨q.1, q.2.1, q.2.2⟩)
    · have hi : i < bLa d.1 + 1 := hi
      by_cases z : i = bLa d.1
      · exact ⟨nm, Nat.lt_succ_self _, uk', by rw [un', z]; rfl⟩
      · obtain ⟨k, k1, k2, k3⟩ := p2 i (by show i < bLa d.1; omega)
        exact ⟨k, by omega, by rw [uk k k1, k2], by rw [un k k1, k3]⟩
    · skip
      by_cases z : False
      · exact z.elim
      · obtain ⟨k, k1, k2, k3⟩ := p3 i hi
        exact ⟨k, by omega, by rw [uk k k1, k2], by rw [un k k1, k3]⟩
    · skip
      by_cases z : False
      · exact z.elim
      · obtain ⟨k, k1, k2, k3⟩ := p4 i hi
        exact ⟨k, by omega, by rw [uk k k1, k2], by rw [un k k1, k3]⟩
  · have lt : bJa d.1 < 8 := hlt
    have ea : adN 1 (vvT K k0) d = ((bLa d.1, bJa d.1 + 1, bLi d.1, bSe d.1, bWy d.1, bLl d.1, bRu d.1, bRs d.1, bSc d.1, bNd d.1), dfL d, upN (dfJ d) (bJa d.1) (vvT K k0), dfI d, dfE d, dfO d) := if_pos lt
    rw [ea]
    refine ⟨by show nm + 1 = bLa d.1 + (bJa d.1 + 1) + bLi d.1; omega, fun k hk => ?_, fun i hi => ?_, fun i hi => ?_, fun i hi => ?_, d5⟩
    · by_cases z : k = nm
      · rw [z, ut', uk', un']
        exact Or.inr (Or.inl ⟨rfl, Nat.lt_succ_self _, if_pos rfl⟩)
      · rw [ut k (by omega), uk k (by omega), un k (by omega)]
        rcases p1 k (by omega) with q | q | q
        · exact Or.inl ⟨q.1, q.2.1, q.2.2⟩
        · exact Or.inr (Or.inl ⟨q.1, Nat.lt_succ_of_lt q.2.1, (if_neg (Nat.ne_of_lt q.2.1)).trans q.2.2⟩)
        · exact Or.inr (Or.inr ⟨q.1, q.2.1, q.2.2⟩)
    · skip
      by_cases z : False
      · exact z.elim
      · obtain ⟨k, k1, k2, k3⟩ := p2 i hi
        exact ⟨k, by omega, by rw [uk k k1, k2], by rw [un k k1, k3]⟩
    · have hi : i < bJa d.1 + 1 := hi
      by_cases z : i = bJa d.1
      · exact ⟨nm, Nat.lt_succ_self _, uk', by rw [un', z]; rfl⟩
      · obtain ⟨k, k1, k2, k3⟩ := p3 i (by show i < bJa d.1; omega)
        exact ⟨k, by omega, by rw [uk k k1, k2], by rw [un k k1, k3]⟩
    · skip
      by_cases z : False
      · exact z.elim
      · obtain ⟨k, k1, k2, k3⟩ := p4 i hi
        exact ⟨k, by omega, by rw [uk k k1, k2], by rw [un k k1, k3]⟩
  · have lt : bLi d.1 < 6 := hlt
    have ea : adN 5 (vvT K k0) d = ((bLa d.1, bJa d.1, bLi d.1 + 1, bSe d.1, bWy d.1, bLl d.1, bRu d.1, bRs d.1, bSc d.1, bNd d.1), dfL d, dfJ d, upN (dfI d) (bLi d.1) (vvT K k0), dfE d, dfO d) := if_pos lt
    rw [ea]
    refine ⟨by show nm + 1 = bLa d.1 + bJa d.1 + (bLi d.1 + 1); omega, fun k hk => ?_, fun i hi => ?_, fun i hi => ?_, fun i hi => ?_, d5⟩
    · by_cases z : k = nm
      · rw [z, ut', uk', un']
        exact Or.inr (Or.inr ⟨rfl, Nat.lt_succ_self _, if_pos rfl⟩)
      · rw [ut k (by omega), uk k (by omega), un k (by omega)]
        rcases p1 k (by omega) with q | q | q
        · exact Or.inl ⟨q.1, q.2.1, q.2.2⟩
        · exact Or.inr (Or.inl ⟨q.1, q.2.1, q.2.2⟩)
        · exact Or.inr (Or.inr ⟨q.1, Nat.lt_succ_of_lt q.2.1, (if_neg (Nat.ne_of_lt q.2.1)).trans q.2.2⟩)
    · skip
      by_cases z : False
      · exact z.elim
      · obtain ⟨k, k1, k2, k3⟩ := p2 i hi
        exact ⟨k, by omega, by rw [uk k k1, k2], by rw [un k k1, k3]⟩
    · skip
      by_cases z : False
      · exact z.elim
      · obtain ⟨k, k1, k2, k3⟩ := p3 i hi
        exact ⟨k, by omega, by rw [uk k k1, k2], by rw [un k k1, k3]⟩
    · have hi : i < bLi d.1 + 1 := hi
      by_cases z : i = bLi d.1
      · exact ⟨nm, Nat.lt_succ_self _, uk', by rw [un', z]; rfl⟩
      · obtain ⟨k, k1, k2, k3⟩ := p4 i (by show i < bLi d.1; omega)
        exact ⟨k, by omega, by rw [uk k k1, k2], by rw [un k k1, k3]⟩

/-- behind the two looks at a new name -/
theorem nw_e {f : Bool} (h : pEr s ≠ 0) : nwP K f s = s := by
  unfold nwP
  have z : ∀ n, rpP n s = s := fun n => if_neg h
  have hi : (if lbO K s = none ∧ jbO K s = none ∧ ibO K s = none then s else rpP 2 s) = s := by
    rw [z 2, if_same]
  rw [hi, z 4, if_same]

end RMM
