/-! the JDK's texts: String, StringBuilder (bytes below 128 alone) -/
def txt (i : Nat) : List Nat := (SBy.getD i []).map (fun x => x.toInt.toNat)
theorem txt_len (i : Nat) : (txt i).length = tln i := List.length_map ..
theorem txt_get {i j : Nat} (hi : i < 88) (hj : j < tln i) : (SBy.getD i []).getD j 0 = nI ((txt i).getD j 0) := by
  have e : (txt i).getD j 0 = tby i j := by
    unfold txt tby
    have h1 : j < (SBy.getD i []).length := hj
    have key : ∀ (l : List Int32), j < l.length → (l.map (fun x => x.toInt.toNat)).getD j 0 = (l.getD j 0).toInt.toNat := fun l hl => by
      simp only [List.getD_eq_getElem?_getD, List.getElem?_map, List.getElem?_eq_getElem hl]
      rfl
    exact key _ h1
  rw [e]
  exact (tby_eq i hi j hj).1
theorem txt_128 {i : Nat} (hi : i < 88) : ∀ c ∈ txt i, c < 128 := by
  revert i
  decide +kernel
theorem txt_sm : ∀ i, i < 88 → tln i < 12 := by decide +kernel
def ByF (f : Nat → Int32) : Prop := ∀ j, fits .byte (.int (f j)) = true
theorem by128 : ∀ c, c < 128 → fits .byte (.int (nI c)) = true ∧ vp_nar .byte (nI c) = nI c ∧ (nI c).toInt8.toInt32 = nI c ∧ ((nI c).toUInt32 % 65536).toInt32 = nI c ∧ (nI c &&& nI 255) = nI c := by decide +kernel
theorem ByF.zero : ByF (fun _ => 0) := fun _ => (by decide : fits .byte (.int 0) = true)
theorem ByF.cpy {f g : Nat → Int32} {sp dp n : Nat} (hg : ByF g) (hf : ∀ j, j < n → fits .byte (.int (f (sp + j))) = true) : ByF (va_cpy f g sp dp n) := fun j => by
  unfold va_cpy
  split
  · rename_i hj
    have := hf (j - dp) (by omega)
    exact this
  · exact hg j
theorem ByF.ups {f : Nat → Int32} {i c : Nat} (hf : ByF f) (hc : c < 128) : ByF (upd f i (vp_nar .byte (nI c))) := fun j => by
  unfold upd
  split
  · rw [(by128 c hc).2.1]
    exact (by128 c hc).1
  · exact hf j
/-- a new text: its object and its bytes -/
def StN (h : AH) (k v : Nat) (t : List Nat) : Prop := (∃ hs hz, At h k (.inr (16, [.ref v, .int 0, .int hs, .int hz]))) ∧ ∃ f, At h v (.inl (1, t.length, .inl f)) ∧ (∀ j, j < t.length → f j = nI (t.getD j 0)) ∧ ByF f
/-- a text: a constant or a new one -/
def StR (h : AH) (k : Nat) (t : List Nat) : Prop := ((∃ i, i < 88 ∧ k = OLD + (100 + i) ∧ t = txt i) ∨ ∃ v, StN h k v t) ∧ t.length ≤ 4000 ∧ ∀ c ∈ t, c < 128
theorem StR.old {h : AH} {i : Nat} (hi : i < 88) : StR h (OLD + (100 + i)) (txt i) := ⟨Or.inl ⟨i, hi, rfl, rfl⟩, by rw [txt_len]; have := txt_sm i hi; omega, txt_128 hi⟩
theorem StR.o {h : AH} {k : Nat} {t : List Nat} (s : StR h k t) : StO h k := by
  rcases s.1 with ⟨i, hi, e, -⟩ | ⟨v, ⟨hs, hz, a⟩, -⟩
  · exact Or.inl ⟨i, hi, e⟩
  · exact Or.inr ⟨_, a⟩
/-- a builder: its object, its bytes' row at v -/
def SbX (h : AH) (b v cap : Nat) (f : Nat → Int32) (mb : Int32) (n : Nat) : Prop := At h b (.inr (17, [.ref v, .int 0, .int mb, .int (nI n)])) ∧ At h v (.inl (1, cap, .inl f)) ∧ ByF f ∧ n ≤ cap ∧ cap ≤ 20000
def SbW (h : AH) (b v : Nat) (t : List Nat) (m : Nat) : Prop := (∃ cap f mb, SbX h b v cap f mb t.length ∧ cap ≤ 2 * m + 34 ∧ ∀ j, j < t.length → f j = nI (t.getD j 0)) ∧ t.length ≤ 4000 ∧ ∀ c ∈ t, c < 128
def SbV (h : AH) (b v : Nat) (t : List Nat) : Prop := (∃ cap f mb, SbX h b v cap f mb t.length ∧ cap ≤ 2 * t.length + 34 ∧ ∀ j, j < t.length → f j = nI (t.getD j 0)) ∧ t.length ≤ 4000 ∧ ∀ c ∈ t, c < 128
theorem SbV.w {h : AH} {b v m : Nat} {t : List Nat} (x : SbV h b v t) : SbW h b v t (t.length + m) := by
  obtain ⟨⟨cap, f, mb, x1, x2, x3⟩, x4⟩ := x
  exact ⟨⟨cap, f, mb, x1, by omega, x3⟩, x4⟩
/-- only b has changed of what there was -/
def Fc (h h1 : AH) (b ck sk : Nat) : Prop := h.1 ≤ h1.1 ∧ h1.1 ≤ h.1 + ck ∧ h1.2.1 ≤ h.2.1 + sk ∧ ∀ j, j < h.1 → j ≠ b → h1.2.2 j = h.2.2 j
/-- only b and v -/
def Fb (h h1 : AH) (b v ck sk : Nat) : Prop := h.1 ≤ h1.1 ∧ h1.1 ≤ h.1 + ck ∧ h1.2.1 ≤ h.2.1 + sk ∧ ∀ j, j < h.1 → j ≠ b → j ≠ v → h1.2.2 j = h.2.2 j
theorem Fc.rf (h : AH) (b ck sk : Nat) : Fc h h b ck sk := ⟨Nat.le_refl _, Nat.le_add_right _ _, Nat.le_add_right _ _, fun _ _ _ => rfl⟩
theorem Fb.rf (h : AH) (b v ck sk : Nat) : Fb h h b v ck sk := ⟨Nat.le_refl _, Nat.le_add_right _ _, Nat.le_add_right _ _, fun _ _ _ _ => rfl⟩
theorem Fc.at {h h1 : AH} {b ck sk j : Nat} {c : AC} (q : Fc h h1 b ck sk) (a : At h j c) (n : j ≠ b) : At h1 j c := ⟨Nat.lt_of_lt_of_le a.1 q.1, (q.2.2.2 j a.1 n).trans a.2⟩
theorem Fb.at {h h1 : AH} {b v ck sk j : Nat} {c : AC} (q : Fb h h1 b v ck sk) (a : At h j c) (n : j ≠ b) (n2 : j ≠ v) : At h1 j c := ⟨Nat.lt_of_lt_of_le a.1 q.1, (q.2.2.2 j a.1 n n2).trans a.2⟩
theorem At.ne {h : AH} {i j : Nat} {a b : AC} (x : At h i a) (y : At h j b) (n : a ≠ b) : i ≠ j := fun e => by
  subst e
  exact n (x.2.symm.trans y.2)
theorem StR.fc {h h1 : AH} {b ck sk k : Nat} {t : List Nat} (s : StR h k t) (q : Fc h h1 b ck sk) (hb : ∃ vs, At h b (.inr (17, vs))) : StR h1 k t := by
  obtain ⟨vs, hb⟩ := hb
  obtain ⟨s1, s2, s3⟩ := s
  refine ⟨?_, s2, s3⟩
  rcases s1 with z | ⟨v, ⟨hs, hz, a⟩, f, a2, a3, a4⟩
  · exact Or.inl z
  · exact Or.inr ⟨v, ⟨hs, hz, q.at a (a.ne hb (by simp))⟩, f, q.at a2 (a2.ne hb (by simp)), a3, a4⟩
section JD
variable {G : GT} {d : Nat} {h : AH}

theorem s_scod {k : Nat} {t : List Nat} (s : StR h k t) : RQ G mJ0_coder_7d493 d 0 [some (.ref k)] [] h (Ri fun v h1 => v = 0 ∧ h1 = h) := by
  rcases s.1 with ⟨i, hi, rfl, -⟩ | ⟨v, ⟨hs, hz, a⟩, -⟩
  · skip
    refine tJ0_coder_7d493_0  (r := ?_)
    refine tJ0_coder_7d493_3  (kt := fun c_ => by exfalso; exact absurd c_ (by decide)) (kf := fun _ => ?_)
    refine tJ0_coder_7d493_6  (r := ?_)
    refine tJ0_coder_7d493_7o (hi := hi) (r := ?_)
    refine tJ0_coder_7d493_10 (r := ?_)
    refine tJ0_coder_7d493_14 (hn := (by first | rfl | decide | assumption)) (hP := ?_)
    exact ⟨_, rfl, rfl, rfl⟩
  · skip
    refine tJ0_coder_7d493_0  (r := ?_)
    refine tJ0_coder_7d493_3  (kt := fun c_ => by exfalso; exact absurd c_ (by decide)) (kf := fun _ => ?_)
    refine tJ0_coder_7d493_6  (r := ?_)
    refine tJ0_coder_7d493_7 (ha := (by first | assumption | (repeat (first | assumption | exact At.set_eq2 (by first | omega | (simp only [hset, hnew]; omega) | rfl | decide) | exact At.new_eq2 _ _ (by first | omega | (simp only [hset, hnew]; omega) | rfl | decide) | refine At.set_ne ?_ (by first | omega | (simp only [hset, hnew]; omega) | rfl | decide) | refine At.new_ne ?_)))) (hv := rfl) (r := ?_)
    refine tJ0_coder_7d493_10 (r := ?_)
    refine tJ0_coder_7d493_14 (hn := (by first | rfl | decide | assumption)) (hP := ?_)
    exact ⟨_, rfl, rfl, rfl⟩
theorem s_slen (hd : 1 ≤ d) {k : Nat} {t : List Nat} (s : StR h k t) : RQ G mJ0_length_8abf5 d 0 [some (.ref k)] [] h (Ri fun v h1 => v = nI t.length ∧ h1 = h) := by
  have so := s.o
  have sc := s_scod (G := G) (d := 0) s
  rcases s.1 with ⟨i, hi, rfl, rfl⟩ | ⟨v, ⟨hs, hz, a⟩, f, a2, -⟩
  · skip
    refine tJ0_length_8abf5_0  (r := ?_)
    refine tJ0_length_8abf5_1o (hi := hi) (r := ?_)
    refine tJ0_length_8abf5_4o (hi := hi) (r := ?_)
    refine tJ0_length_8abf5_5  (r := ?_)
    refine tJ0_length_8abf5_6s (hs := so) (hd := (by omega)) (call := sc) (k := ?_)
    rintro x_ h_ ⟨e_, e2_⟩
    rw [e_, e2_]
    refine tJ0_length_8abf5_9  (r := ?_)
    rw [sb_shr0]
    refine tJ0_length_8abf5_10  (hP := ?_)
    exact ⟨_, rfl, by rw [txt_len], rfl⟩
  · skip
    refine tJ0_length_8abf5_0  (r := ?_)
    refine tJ0_length_8abf5_1 (ha := (by first | assumption | (repeat (first | assumption | exact At.set_eq2 (by first | omega | (simp only [hset, hnew]; omega) | rfl | decide) | exact At.new_eq2 _ _ (by first | omega | (simp only [hset, hnew]; omega) | rfl | decide) | refine At.set_ne ?_ (by first | omega | (simp only [hset, hnew]; omega) | rfl | decide) | refine At.new_ne ?_)))) (hv := rfl) (r := ?_)
    refine tJ0_length_8abf5_4 (t := 1) (ha := (by first | assumption | (repeat (first | assumption | exact At.set_eq2 (by first | omega | (simp only [hset, hnew]; omega) | rfl | decide) | exact At.new_eq2 _ _ (by first | omega | (simp only [hset, hnew]; omega) | rfl | decide) | refine At.set_ne ?_ (by first | omega | (simp only [hset, hnew]; omega) | rfl | decide) | refine At.new_ne ?_)))) (ht := rfl) (r := ?_)
    refine tJ0_length_8abf5_5  (r := ?_)
    refine tJ0_length_8abf5_6s (hs := so) (hd := (by omega)) (call := sc) (k := ?_)
    rintro x_ h_ ⟨e_, e2_⟩
    rw [e_, e2_]
    refine tJ0_length_8abf5_9  (r := ?_)
    rw [sb_shr0]
    refine tJ0_length_8abf5_10  (hP := ?_)
    exact ⟨_, rfl, rfl, rfl⟩
theorem s_getBytes (hd : 2 ≤ d) {k v cap n : Nat} {g : Nat → Int32} {t : List Nat} (s : StR h k t) (av : At h v (.inl (1, cap, .inl g))) (hn : n + t.length ≤ cap) (hc : cap ≤ 20000) : RQ G mJ0_getBytes_840e7 d 0 [some (.ref k), some (.ref v), some (.int (nI n)), some (.int 0)] [] h (Rv fun h1 => ∃ F : Nat → Int32, (∀ j, j < t.length → F j = nI (t.getD j 0) ∧ fits .byte (.int (F j)) = true) ∧ h1 = hset h v (.inl (1, cap, .inl (va_cpy F g 0 n t.length)))) := by
  have so := s.o
  have sc := s_scod (G := G) (d := 0) s
  have s2 := s.2.1
  have s3 := s.2.2
  rcases s.1 with ⟨i, hi, rfl, rfl⟩ | ⟨vs, ⟨hs, hz, a⟩, f, a2, a3, a4⟩
  · skip
    refine tJ0_getBytes_840e7_0  (r := ?_)
    refine tJ0_getBytes_840e7_1s (hs := so) (hd := (by omega)) (call := sc) (k := ?_)
    rintro x_ h_ ⟨e_, e2_⟩
    rw [e_, e2_]
    refine tJ0_getBytes_840e7_4  (r := ?_)
    refine tJ0_getBytes_840e7_5  (kt := fun c_ => by exfalso; exact c_ rfl) (kf := fun _ => ?_)
    refine tJ0_getBytes_840e7_8  (r := ?_)
    refine tJ0_getBytes_840e7_9o (hi := hi) (r := ?_)
    refine tJ0_getBytes_840e7_12  (r := ?_)
    refine tJ0_getBytes_840e7_13  (r := ?_)
    refine tJ0_getBytes_840e7_14  (r := ?_)
    refine tJ0_getBytes_840e7_15  (r := ?_)
    refine tJ0_getBytes_840e7_16  (r := ?_)
    rw [sb_shl0]
    refine tJ0_getBytes_840e7_17  (r := ?_)
    refine tJ0_getBytes_840e7_18o (hi := hi) (r := ?_)
    refine tJ0_getBytes_840e7_21o (hi := hi) (r := ?_)
    refine tJ0_getBytes_840e7_22o (hi := hi) (hd := (by omega)) (ha1 := (by first | assumption | (repeat (first | assumption | exact At.set_eq2 (by first | omega | (simp only [hset, hnew]; omega) | rfl | decide) | exact At.new_eq2 _ _ (by first | omega | (simp only [hset, hnew]; omega) | rfl | decide) | refine At.set_ne ?_ (by first | omega | (simp only [hset, hnew]; omega) | rfl | decide) | refine At.new_ne ?_)))) (hxd := (by first | rfl | assumption | exact nI_add _ _)) (hxn := rfl) (hb0 := (Nat.le_refl _)) (hb1 := (by rw [txt_len] at hn; exact hn)) (hn1 := (by omega)) (r := ?_)
    refine tJ0_getBytes_840e7_25 (r := ?_)
    refine tJ0_getBytes_840e7_43  (hP := ?_)
    exact ⟨rfl, _, fun j hj => ⟨txt_get hi (by rw [txt_len] at hj; exact hj), tfit i hi j (by rw [txt_len] at hj; exact hj)⟩, by rw [txt_len]⟩
  · skip
    refine tJ0_getBytes_840e7_0  (r := ?_)
    refine tJ0_getBytes_840e7_1s (hs := so) (hd := (by omega)) (call := sc) (k := ?_)
    rintro x_ h_ ⟨e_, e2_⟩
    rw [e_, e2_]
    refine tJ0_getBytes_840e7_4  (r := ?_)
    refine tJ0_getBytes_840e7_5  (kt := fun c_ => by exfalso; exact c_ rfl) (kf := fun _ => ?_)
    refine tJ0_getBytes_840e7_8  (r := ?_)
    refine tJ0_getBytes_840e7_9 (ha := (by first | assumption | (repeat (first | assumption | exact At.set_eq2 (by first | omega | (simp only [hset, hnew]; omega) | rfl | decide) | exact At.new_eq2 _ _ (by first | omega | (simp only [hset, hnew]; omega) | rfl | decide) | refine At.set_ne ?_ (by first | omega | (simp only [hset, hnew]; omega) | rfl | decide) | refine At.new_ne ?_)))) (hv := rfl) (r := ?_)
    refine tJ0_getBytes_840e7_12  (r := ?_)
    refine tJ0_getBytes_840e7_13  (r := ?_)
    refine tJ0_getBytes_840e7_14  (r := ?_)
    refine tJ0_getBytes_840e7_15  (r := ?_)
    refine tJ0_getBytes_840e7_16  (r := ?_)
    rw [sb_shl0]
    refine tJ0_getBytes_840e7_17  (r := ?_)
    refine tJ0_getBytes_840e7_18 (ha := (by first | assumption | (repeat (first | assumption | exact At.set_eq2 (by first | omega | (simp only [hset, hnew]; omega) | rfl | decide) | exact At.new_eq2 _ _ (by first | omega | (simp only [hset, hnew]; omega) | rfl | decide) | refine At.set_ne ?_ (by first | omega | (simp only [hset, hnew]; omega) | rfl | decide) | refine At.new_ne ?_)))) (hv := rfl) (r := ?_)
    refine tJ0_getBytes_840e7_21 (t := 1) (ha := (by first | assumption | (repeat (first | assumption | exact At.set_eq2 (by first | omega | (simp only [hset, hnew]; omega) | rfl | decide) | exact At.new_eq2 _ _ (by first | omega | (simp only [hset, hnew]; omega) | rfl | decide) | refine At.set_ne ?_ (by first | omega | (simp only [hset, hnew]; omega) | rfl | decide) | refine At.new_ne ?_)))) (ht := rfl) (r := ?_)
    refine tJ0_getBytes_840e7_22 (sp := 0) (hd := (by omega)) (ha0 := (by first | assumption | (repeat (first | assumption | exact At.set_eq2 (by first | omega | (simp only [hset, hnew]; omega) | rfl | decide) | exact At.new_eq2 _ _ (by first | omega | (simp only [hset, hnew]; omega) | rfl | decide) | refine At.set_ne ?_ (by first | omega | (simp only [hset, hnew]; omega) | rfl | decide) | refine At.new_ne ?_)))) (ha1 := (by first | assumption | (repeat (first | assumption | exact At.set_eq2 (by first | omega | (simp only [hset, hnew]; omega) | rfl | decide) | exact At.new_eq2 _ _ (by first | omega | (simp only [hset, hnew]; omega) | rfl | decide) | refine At.set_ne ?_ (by first | omega | (simp only [hset, hnew]; omega) | rfl | decide) | refine At.new_ne ?_)))) (hxs := (by first | rfl | assumption | exact nI_add _ _)) (hxd := (by first | rfl | assumption | exact nI_add _ _)) (hxn := rfl) (hb0 := (by omega)) (hb1 := (by omega)) (hn0 := (by omega)) (hn1 := (by omega)) (hf := (fun i _ => a4 _)) (r := ?_)
    refine tJ0_getBytes_840e7_25 (r := ?_)
    refine tJ0_getBytes_840e7_43  (hP := ?_)
    exact ⟨rfl, f, fun j hj => ⟨a3 j hj, a4 j⟩, rfl⟩
theorem s_newLength (hd : 1 ≤ d) {a x y : Nat} (hs : a + x + y ≤ 100000) (h0 : 0 < y) : RQ G mJ8_newLength_cabcc d 0 [some (.int (nI a)), some (.int (nI x)), some (.int (nI y)), none] [] h (Ri fun v h1 => v = nI (a + max x y) ∧ h1 = h) := by
  have em : (if nI x < nI y then nI y else nI x) = nI (max x y) := by
    by_cases z : x < y
    · rw [if_pos ((nI_ltI (by omega) (by omega)).mpr z), Nat.max_eq_right (by omega)]
    · rw [if_neg (fun q => z ((nI_ltI (by omega) (by omega)).mp q)), Nat.max_eq_left (by omega)]
  have hm : max x y ≤ x + y := by omega
  refine tJ8_newLength_cabcc_0  (r := ?_)
  refine tJ8_newLength_cabcc_1  (r := ?_)
  refine tJ8_newLength_cabcc_2  (r := ?_)
  refine tJ8_newLength_cabcc_3 (hd := (by omega)) (r := ?_)
  rw [em]
  refine tJ8_newLength_cabcc_6  (r := ?_)
  rw [nI_add]
  refine tJ8_newLength_cabcc_7  (r := ?_)
  refine tJ8_newLength_cabcc_8  (r := ?_)
  refine tJ8_newLength_cabcc_9  (r := ?_)
  refine tJ8_newLength_cabcc_10  (kt := fun c_ => by exfalso; exact absurd ((nI_leI (by omega) (by decide)).mp c_) (by omega)) (kf := fun _ => ?_)
  refine tJ8_newLength_cabcc_13  (r := ?_)
  refine tJ8_newLength_cabcc_14  (r := ?_)
  refine tJ8_newLength_cabcc_16  (kt := fun c_ => by exfalso; exact absurd (show nI 2147483639 < nI (a + max x y) from c_) (nI_nlt (by omega) (by decide))) (kf := fun _ => ?_)
  refine tJ8_newLength_cabcc_19  (r := ?_)
  refine tJ8_newLength_cabcc_20  (hP := ?_)
  exact ⟨_, rfl, rfl, rfl⟩
theorem s_newCap (hd : 2 ≤ d) {b v cap n q : Nat} {f : Nat → Int32} {mb : Int32} (x : SbX h b v cap f mb n) (h1 : cap < q) (h2 : q ≤ 9000) (h3 : cap ≤ 9000) : RQ G mJ5_newCapacity_0f7a4 d 0 [some (.ref b), some (.int (nI q)), none, none, none, none] [] h (Ri fun r h1 => r = nI (cap + max (q - cap) (cap + 2)) ∧ h1 = h) := by
  obtain ⟨ab, av, bf, nc, cc⟩ := x
  have nbv : b ≠ v := ab.ne av (by simp)
  refine tJ5_newCapacity_0f7a4_0  (r := ?_)
  refine tJ5_newCapacity_0f7a4_1 (ha := (by first | assumption | (repeat (first | assumption | exact At.set_eq2 (by first | omega | (simp only [hset, hnew]; omega) | rfl | decide) | exact At.new_eq2 _ _ (by first | omega | (simp only [hset, hnew]; omega) | rfl | decide) | refine At.set_ne ?_ (by first | omega | (simp only [hset, hnew]; omega) | rfl | decide) | refine At.new_ne ?_)))) (hv := rfl) (r := ?_)
  refine tJ5_newCapacity_0f7a4_4 (t := 1) (ha := (by first | assumption | (repeat (first | assumption | exact At.set_eq2 (by first | omega | (simp only [hset, hnew]; omega) | rfl | decide) | exact At.new_eq2 _ _ (by first | omega | (simp only [hset, hnew]; omega) | rfl | decide) | refine At.set_ne ?_ (by first | omega | (simp only [hset, hnew]; omega) | rfl | decide) | refine At.new_ne ?_)))) (ht := rfl) (r := ?_)
  refine tJ5_newCapacity_0f7a4_5  (r := ?_)
  refine tJ5_newCapacity_0f7a4_6  (r := ?_)
  refine tJ5_newCapacity_0f7a4_7  (r := ?_)
  refine tJ5_newCapacity_0f7a4_8 (ha := (by first | assumption | (repeat (first | assumption | exact At.set_eq2 (by first | omega | (simp only [hset, hnew]; omega) | rfl | decide) | exact At.new_eq2 _ _ (by first | omega | (simp only [hset, hnew]; omega) | rfl | decide) | refine At.set_ne ?_ (by first | omega | (simp only [hset, hnew]; omega) | rfl | decide) | refine At.new_ne ?_)))) (hv := rfl) (r := ?_)
  refine tJ5_newCapacity_0f7a4_11  (r := ?_)
  rw [sb_shl0]
  refine tJ5_newCapacity_0f7a4_12  (r := ?_)
  refine tJ5_newCapacity_0f7a4_13  (r := ?_)
  refine tJ5_newCapacity_0f7a4_14  (r := ?_)
  refine tJ5_newCapacity_0f7a4_15  (r := ?_)
  rw [show nI q - nI cap = nI (q - cap) from pk_sub (by omega)]
  refine tJ5_newCapacity_0f7a4_16  (r := ?_)
  refine tJ5_newCapacity_0f7a4_18  (r := ?_)
  refine tJ5_newCapacity_0f7a4_19  (r := ?_)
  refine tJ5_newCapacity_0f7a4_21  (r := ?_)
  refine tJ5_newCapacity_0f7a4_22  (r := ?_)
  refine tJ5_newCapacity_0f7a4_23  (r := ?_)
  refine tJ5_newCapacity_0f7a4_24 (ha := (by first | assumption | (repeat (first | assumption | exact At.set_eq2 (by first | omega | (simp only [hset, hnew]; omega) | rfl | decide) | exact At.new_eq2 _ _ (by first | omega | (simp only [hset, hnew]; omega) | rfl | decide) | refine At.set_ne ?_ (by first | omega | (simp only [hset, hnew]; omega) | rfl | decide) | refine At.new_ne ?_)))) (hv := rfl) (r := ?_)
  refine tJ5_newCapacity_0f7a4_27  (r := ?_)
  rw [sb_shl0]
  refine tJ5_newCapacity_0f7a4_28  (r := ?_)
  rw [nI_add]
  refine tJ5_newCapacity_0f7a4_29 (hd := (by omega)) (call := s_newLength (d := 1) (by decide) (a := cap) (x := q - cap) (y := cap + 2) (by omega) (by omega)) (k := ?_)
  rintro x_ h_ ⟨e_, e2_⟩
  rw [e_, e2_]
  refine tJ5_newCapacity_0f7a4_32  (r := ?_)
  refine tJ5_newCapacity_0f7a4_34  (r := ?_)
  refine tJ5_newCapacity_0f7a4_36  (r := ?_)
  refine tJ5_newCapacity_0f7a4_38  (kf := fun c_ => by exfalso; have := (nI_eq (by omega) (by decide)).mp (show nI (cap + max (q - cap) (cap + 2)) = nI 2147483647 from c_); omega) (kt := fun _ => ?_)
  refine tJ5_newCapacity_0f7a4_51  (r := ?_)
  refine tJ5_newCapacity_0f7a4_53  (r := ?_)
  refine tJ5_newCapacity_0f7a4_54 (ha := (by first | assumption | (repeat (first | assumption | exact At.set_eq2 (by first | omega | (simp only [hset, hnew]; omega) | rfl | decide) | exact At.new_eq2 _ _ (by first | omega | (simp only [hset, hnew]; omega) | rfl | decide) | refine At.set_ne ?_ (by first | omega | (simp only [hset, hnew]; omega) | rfl | decide) | refine At.new_ne ?_)))) (hv := rfl) (r := ?_)
  refine tJ5_newCapacity_0f7a4_57  (r := ?_)
  rw [sb_shr0]
  refine tJ5_newCapacity_0f7a4_58  (hP := ?_)
  exact ⟨_, rfl, rfl, rfl⟩
theorem s_copyOf (hd : 2 ≤ d) {v cap nc : Nat} {f : Nat → Int32} (av : At h v (.inl (1, cap, .inl f))) (bf : ByF f) (h1 : cap < nc) (h2 : nc ≤ 20000) : RQ G mJ7_copyOf_9075b d 0 [some (.ref v), some (.int (nI nc)), none] [] h (Rr fun r h1 => r = h.1 ∧ h1 = hset (hnew h nc (.inl (1, nc, .inl (fun _ => 0)))) h.1 (.inl (1, nc, .inl (va_cpy f (fun _ => 0) 0 0 cap)))) := by
  have em : (if nI nc < nI cap then nI nc else nI cap) = nI cap := if_neg (nI_nlt (by omega) (by omega))
  refine tJ7_copyOf_9075b_0  (r := ?_)
  refine tJ7_copyOf_9075b_1  (r := ?_)
  refine tJ7_copyOf_9075b_2 (t := 1) (ha := (by first | assumption | (repeat (first | assumption | exact At.set_eq2 (by first | omega | (simp only [hset, hnew]; omega) | rfl | decide) | exact At.new_eq2 _ _ (by first | omega | (simp only [hset, hnew]; omega) | rfl | decide) | refine At.set_ne ?_ (by first | omega | (simp only [hset, hnew]; omega) | rfl | decide) | refine At.new_ne ?_)))) (ht := rfl) (r := ?_)
  refine tJ7_copyOf_9075b_3  (kf := fun c_ => by exfalso; have := (nI_eq (by omega) (by omega)).mp (show nI nc = nI cap from c_); omega) (kt := fun _ => ?_)
  refine tJ7_copyOf_9075b_14  (r := ?_)
  refine tJ7_copyOf_9075b_15 (hx := rfl) (hn := (by omega)) (r := ?_)
  refine tJ7_copyOf_9075b_17  (r := ?_)
  refine tJ7_copyOf_9075b_18  (r := ?_)
  refine tJ7_copyOf_9075b_19  (r := ?_)
  refine tJ7_copyOf_9075b_20  (r := ?_)
  refine tJ7_copyOf_9075b_21  (r := ?_)
  refine tJ7_copyOf_9075b_22  (r := ?_)
  refine tJ7_copyOf_9075b_23 (t := 1) (ha := (by first | assumption | (repeat (first | assumption | exact At.set_eq2 (by first | omega | (simp only [hset, hnew]; omega) | rfl | decide) | exact At.new_eq2 _ _ (by first | omega | (simp only [hset, hnew]; omega) | rfl | decide) | refine At.set_ne ?_ (by first | omega | (simp only [hset, hnew]; omega) | rfl | decide) | refine At.new_ne ?_)))) (ht := rfl) (r := ?_)
  refine tJ7_copyOf_9075b_24  (r := ?_)
  refine tJ7_copyOf_9075b_25 (hd := (by omega)) (r := ?_)
  rw [em]
  refine tJ7_copyOf_9075b_28 (sp := 0) (dp := 0) (hd := (by omega)) (ha0 := (by first | assumption | (repeat (first | assumption | exact At.set_eq2 (by first | omega | (simp only [hset, hnew]; omega) | rfl | decide) | exact At.new_eq2 _ _ (by first | omega | (simp only [hset, hnew]; omega) | rfl | decide) | refine At.set_ne ?_ (by first | omega | (simp only [hset, hnew]; omega) | rfl | decide) | refine At.new_ne ?_)))) (ha1 := (At.new_eq h nc _)) (hxs := (by first | rfl | assumption | exact nI_add _ _)) (hxd := (by first | rfl | assumption | exact nI_add _ _)) (hxn := (by first | rfl | assumption | exact nI_add _ _)) (hb0 := (by omega)) (hb1 := (by omega)) (hn0 := (by omega)) (hn1 := (by omega)) (hf := (fun i _ => bf _)) (r := ?_)
  refine tJ7_copyOf_9075b_31  (r := ?_)
  refine tJ7_copyOf_9075b_32  (hP := ?_)
  exact ⟨_, rfl, rfl, rfl⟩
theorem s_ensure (hd : 3 ≤ d) {b v cap n q : Nat} {f : Nat → Int32} {mb : Int32} (x : SbX h b v cap f mb n) (h2 : q ≤ 4000) (h3 : cap ≤ 9000) : RQ G mJ5_ensureCapacityInternal_d00df d 0 [some (.ref b), some (.int (nI q)), none] [] h (Rv fun h1 => ∃ v1 cap1 f1, SbX h1 b v1 cap1 f1 mb n ∧ q ≤ cap1 ∧ cap1 ≤ max cap (2 * q + 2) ∧ (∀ j, j < cap → f1 j = f j) ∧ (v1 = v ∨ h.1 ≤ v1) ∧ Fc h h1 b 1 (2 * q + 2)) := by
  have hx := x
  obtain ⟨ab, av, bf, nc, cc⟩ := x
  have nbv : b ≠ v := ab.ne av (by simp)
  refine tJ5_ensureCapacityInternal_d00df_0  (r := ?_)
  refine tJ5_ensureCapacityInternal_d00df_1 (ha := (by first | assumption | (repeat (first | assumption | exact At.set_eq2 (by first | omega | (simp only [hset, hnew]; omega) | rfl | decide) | exact At.new_eq2 _ _ (by first | omega | (simp only [hset, hnew]; omega) | rfl | decide) | refine At.set_ne ?_ (by first | omega | (simp only [hset, hnew]; omega) | rfl | decide) | refine At.new_ne ?_)))) (hv := rfl) (r := ?_)
  refine tJ5_ensureCapacityInternal_d00df_4 (t := 1) (ha := (by first | assumption | (repeat (first | assumption | exact At.set_eq2 (by first | omega | (simp only [hset, hnew]; omega) | rfl | decide) | exact At.new_eq2 _ _ (by first | omega | (simp only [hset, hnew]; omega) | rfl | decide) | refine At.set_ne ?_ (by first | omega | (simp only [hset, hnew]; omega) | rfl | decide) | refine At.new_ne ?_)))) (ht := rfl) (r := ?_)
  refine tJ5_ensureCapacityInternal_d00df_5  (r := ?_)
  refine tJ5_ensureCapacityInternal_d00df_6 (ha := (by first | assumption | (repeat (first | assumption | exact At.set_eq2 (by first | omega | (simp only [hset, hnew]; omega) | rfl | decide) | exact At.new_eq2 _ _ (by first | omega | (simp only [hset, hnew]; omega) | rfl | decide) | refine At.set_ne ?_ (by first | omega | (simp only [hset, hnew]; omega) | rfl | decide) | refine At.new_ne ?_)))) (hv := rfl) (r := ?_)
  refine tJ5_ensureCapacityInternal_d00df_9  (r := ?_)
  rw [sb_shr0]
  refine tJ5_ensureCapacityInternal_d00df_10  (r := ?_)
  refine tJ5_ensureCapacityInternal_d00df_11  (r := ?_)
  refine tJ5_ensureCapacityInternal_d00df_12  (r := ?_)
  refine tJ5_ensureCapacityInternal_d00df_13  (r := ?_)
  refine tJ5_ensureCapacityInternal_d00df_14  (kt := fun c_14 => ?_) (kf := fun c_14 => ?_)
  · have hq : q ≤ cap := by
      have e1 : (nI q - nI cap).toInt = (q : Int) - cap := pk_sub_toInt (by omega) (by omega)
      rw [Int32.le_iff_toInt_le, e1, Int32.toInt_zero] at c_14
      omega
    refine tJ5_ensureCapacityInternal_d00df_38  (hP := ?_)
    exact ⟨rfl, v, cap, f, hx, hq, by omega, fun _ _ => rfl, Or.inl rfl, Fc.rf _ _ _ _⟩
  · have hq : cap < q := by
      have e1 : (nI q - nI cap).toInt = (q : Int) - cap := pk_sub_toInt (by omega) (by omega)
      rw [Int32.le_iff_toInt_le, e1, Int32.toInt_zero] at c_14
      omega
    refine tJ5_ensureCapacityInternal_d00df_17  (r := ?_)
    refine tJ5_ensureCapacityInternal_d00df_18  (r := ?_)
    refine tJ5_ensureCapacityInternal_d00df_19 (ha := (by first | assumption | (repeat (first | assumption | exact At.set_eq2 (by first | omega | (simp only [hset, hnew]; omega) | rfl | decide) | exact At.new_eq2 _ _ (by first | omega | (simp only [hset, hnew]; omega) | rfl | decide) | refine At.set_ne ?_ (by first | omega | (simp only [hset, hnew]; omega) | rfl | decide) | refine At.new_ne ?_)))) (hv := rfl) (r := ?_)
    refine tJ5_ensureCapacityInternal_d00df_22  (r := ?_)
    refine tJ5_ensureCapacityInternal_d00df_23  (r := ?_)
    refine tJ5_ensureCapacityInternal_d00df_24 (hd := (by omega)) (ha := (by first | assumption | (repeat (first | assumption | exact At.set_eq2 (by first | omega | (simp only [hset, hnew]; omega) | rfl | decide) | exact At.new_eq2 _ _ (by first | omega | (simp only [hset, hnew]; omega) | rfl | decide) | refine At.set_ne ?_ (by first | omega | (simp only [hset, hnew]; omega) | rfl | decide) | refine At.new_ne ?_)))) (call := s_newCap (d := 2) (by decide) hx hq (by omega) h3) (k := ?_)
    rintro x_ h_ ⟨e_, e2_⟩
    rw [e_, e2_]
    refine tJ5_ensureCapacityInternal_d00df_27  (r := ?_)
    refine tJ5_ensureCapacityInternal_d00df_28 (ha := (by first | assumption | (repeat (first | assumption | exact At.set_eq2 (by first | omega | (simp only [hset, hnew]; omega) | rfl | decide) | exact At.new_eq2 _ _ (by first | omega | (simp only [hset, hnew]; omega) | rfl | decide) | refine At.set_ne ?_ (by first | omega | (simp only [hset, hnew]; omega) | rfl | decide) | refine At.new_ne ?_)))) (hv := rfl) (r := ?_)
    refine tJ5_ensureCapacityInternal_d00df_31  (r := ?_)
    rw [sb_shl0]
    refine tJ5_ensureCapacityInternal_d00df_32 (hd := (by omega)) (call := s_copyOf (d := 2) (by decide) av bf (nc := cap + max (q - cap) (cap + 2)) (by omega) (by omega)) (k := ?_)
    rintro x_ h_ ⟨e_, e2_⟩
    rw [e_, e2_]
    refine tJ5_ensureCapacityInternal_d00df_35 (ha := (At.set_ne (At.new_ne ab) (Nat.ne_of_lt ab.1))) (hlen := rfl) (r := ?_)
    refine tJ5_ensureCapacityInternal_d00df_38  (hP := ?_)
    refine ⟨rfl, h.1, cap + max (q - cap) (cap + 2), va_cpy f (fun _ => 0) 0 0 cap, ⟨At.set_eq2 (by show b < h.1 + 1; have := ab.1; omega), At.set_ne (At.set_eq2 (Nat.lt_succ_self _)) (fun e => by have := ab.1; omega), ByF.zero.cpy (fun j _ => bf _), by omega, by omega⟩, by omega, by omega, fun j hj => ?_, Or.inr (Nat.le_refl _), ?_⟩
    · show va_cpy f (fun _ => 0) 0 0 cap j = f j
      exact sb_cpy0 hj
    · refine ⟨Nat.le_succ _, Nat.le_refl _, by show h.2.1 + (cap + max (q - cap) (cap + 2)) ≤ _; omega, fun j hj hb => ?_⟩
      simp only [hset, hnew]
      rw [if_neg hb, if_neg (by omega), if_neg (by omega)]
theorem s_inflIf (hd : 1 ≤ d) {b v cap n k : Nat} {f : Nat → Int32} {mb : Int32} {t : List Nat} (x : SbX h b v cap f mb n) (s : StR h k t) : RQ G mJ5_inflateIfNeededFor_a7421 d 0 [some (.ref b), some (.ref k)] [] h (Rv fun h1 => h1 = h) := by
  have so := s.o
  have sc := s_scod (G := G) (d := 0) s
  obtain ⟨ab, av, bf, nc, cc⟩ := x
  have nbv : b ≠ v := ab.ne av (by simp)
  refine tJ5_inflateIfNeededFor_a7421_0  (r := ?_)
  refine tJ5_inflateIfNeededFor_a7421_3  (kt := fun c_ => by exfalso; exact absurd c_ (by decide)) (kf := fun _ => ?_)
  refine tJ5_inflateIfNeededFor_a7421_6  (r := ?_)
  refine tJ5_inflateIfNeededFor_a7421_7 (ha := (by first | assumption | (repeat (first | assumption | exact At.set_eq2 (by first | omega | (simp only [hset, hnew]; omega) | rfl | decide) | exact At.new_eq2 _ _ (by first | omega | (simp only [hset, hnew]; omega) | rfl | decide) | refine At.set_ne ?_ (by first | omega | (simp only [hset, hnew]; omega) | rfl | decide) | refine At.new_ne ?_)))) (hv := rfl) (r := ?_)
  refine tJ5_inflateIfNeededFor_a7421_10  (r := ?_)
  refine tJ5_inflateIfNeededFor_a7421_11s (hs := so) (hd := (by omega)) (call := sc) (k := ?_)
  rintro x_ h_ ⟨e_, e2_⟩
  rw [e_, e2_]
  refine tJ5_inflateIfNeededFor_a7421_14  (kf := fun c_ => by exfalso; exact c_ rfl) (kt := fun _ => ?_)
  refine tJ5_inflateIfNeededFor_a7421_21  (hP := ?_)
  exact ⟨rfl, rfl⟩
theorem s_putStr (hd : 3 ≤ d) {b v cap n k : Nat} {f : Nat → Int32} {mb : Int32} {t : List Nat} (x : SbX h b v cap f mb n) (s : StR h k t) (hn : n + t.length ≤ cap) : RQ G mJ5_putStringAt_47b60 d 0 [some (.ref b), some (.int (nI n)), some (.ref k)] [] h (Rv fun h1 => ∃ F : Nat → Int32, (∀ j, j < t.length → F j = nI (t.getD j 0) ∧ fits .byte (.int (F j)) = true) ∧ h1 = hset h v (.inl (1, cap, .inl (va_cpy F f 0 n t.length)))) := by
  have hx := x
  have so := s.o
  obtain ⟨ab, av, bf, nc, cc⟩ := x
  have nbv : b ≠ v := ab.ne av (by simp)
  refine tJ5_putStringAt_47b60_0  (r := ?_)
  refine tJ5_putStringAt_47b60_1  (r := ?_)
  refine tJ5_putStringAt_47b60_2 (hd := (by omega)) (ha := (by first | assumption | (repeat (first | assumption | exact At.set_eq2 (by first | omega | (simp only [hset, hnew]; omega) | rfl | decide) | exact At.new_eq2 _ _ (by first | omega | (simp only [hset, hnew]; omega) | rfl | decide) | refine At.set_ne ?_ (by first | omega | (simp only [hset, hnew]; omega) | rfl | decide) | refine At.new_ne ?_)))) (call := s_inflIf (d := 2) (by decide) hx s) (k := ?_)
  rintro h_ e_
  rw [e_]
  refine tJ5_putStringAt_47b60_5  (r := ?_)
  refine tJ5_putStringAt_47b60_6  (r := ?_)
  refine tJ5_putStringAt_47b60_7 (ha := (by first | assumption | (repeat (first | assumption | exact At.set_eq2 (by first | omega | (simp only [hset, hnew]; omega) | rfl | decide) | exact At.new_eq2 _ _ (by first | omega | (simp only [hset, hnew]; omega) | rfl | decide) | refine At.set_ne ?_ (by first | omega | (simp only [hset, hnew]; omega) | rfl | decide) | refine At.new_ne ?_)))) (hv := rfl) (r := ?_)
  refine tJ5_putStringAt_47b60_10  (r := ?_)
  refine tJ5_putStringAt_47b60_11  (r := ?_)
  refine tJ5_putStringAt_47b60_12 (ha := (by first | assumption | (repeat (first | assumption | exact At.set_eq2 (by first | omega | (simp only [hset, hnew]; omega) | rfl | decide) | exact At.new_eq2 _ _ (by first | omega | (simp only [hset, hnew]; omega) | rfl | decide) | refine At.set_ne ?_ (by first | omega | (simp only [hset, hnew]; omega) | rfl | decide) | refine At.new_ne ?_)))) (hv := rfl) (r := ?_)
  refine tJ5_putStringAt_47b60_15s (hs := so) (hd := (by omega)) (call := s_getBytes (d := 2) (by decide) s av hn cc) (k := ?_)
  rintro h_ ⟨F, q1, q2⟩
  refine tJ5_putStringAt_47b60_18  (hP := ?_)
  exact ⟨rfl, F, q1, q2⟩
theorem getD_app {t s : List Nat} {j : Nat} : (t ++ s).getD j 0 = if j < t.length then t.getD j 0 else s.getD (j - t.length) 0 := by
  simp only [List.getD_eq_getElem?_getD]
  by_cases z : j < t.length
  · rw [if_pos z, List.getElem?_append_left z]
  · rw [if_neg z, List.getElem?_append_right (by omega)]

theorem s_appStr5w (hd : 4 ≤ d) {b v k : Nat} {t s : List Nat} (x : SbW h b v t (t.length + s.length)) (y : StR h k s) (hl : t.length + s.length ≤ 4000) : RQ G mJ5_append_cf1ce d 0 [some (.ref b), some (.ref k), none] [] h (Rr fun r h1 => r = b ∧ ∃ v1, SbV h1 b v1 (t ++ s) ∧ (v1 = v ∨ h.1 ≤ v1) ∧ Fb h h1 b v 1 (2 * (t.length + s.length) + 2)) := by
  have so := y.o
  obtain ⟨⟨cap, f, mb, hx, hc, hf⟩, tl, tb⟩ := x
  have ab0 := hx.1
  obtain ⟨ab, av, bf, nc, cc⟩ := hx
  refine tJ5_append_cf1ce_0  (r := ?_)
  refine tJ5_append_cf1ce_1 (r := ?_)
  refine tJ5_append_cf1ce_9  (r := ?_)
  refine tJ5_append_cf1ce_10s (hs := so) (hd := (by omega)) (call := s_slen (d := 3) (by decide) y) (k := ?_)
  rintro x_ h_ ⟨e_, e2_⟩
  rw [e_, e2_]
  refine tJ5_append_cf1ce_13  (r := ?_)
  refine tJ5_append_cf1ce_14  (r := ?_)
  refine tJ5_append_cf1ce_15  (r := ?_)
  refine tJ5_append_cf1ce_16 (ha := (by first | assumption | (repeat (first | assumption | exact At.set_eq2 (by first | omega | (simp only [hset, hnew]; omega) | rfl | decide) | exact At.new_eq2 _ _ (by first | omega | (simp only [hset, hnew]; omega) | rfl | decide) | refine At.set_ne ?_ (by first | omega | (simp only [hset, hnew]; omega) | rfl | decide) | refine At.new_ne ?_)))) (hv := rfl) (r := ?_)
  refine tJ5_append_cf1ce_19  (r := ?_)
  refine tJ5_append_cf1ce_20  (r := ?_)
  rw [nI_add]
  refine tJ5_append_cf1ce_21 (hd := (by omega)) (ha := (by first | assumption | (repeat (first | assumption | exact At.set_eq2 (by first | omega | (simp only [hset, hnew]; omega) | rfl | decide) | exact At.new_eq2 _ _ (by first | omega | (simp only [hset, hnew]; omega) | rfl | decide) | refine At.set_ne ?_ (by first | omega | (simp only [hset, hnew]; omega) | rfl | decide) | refine At.new_ne ?_)))) (call := s_ensure (d := 3) (by decide) ⟨ab, av, bf, nc, cc⟩ (q := t.length + s.length) (by omega) (by omega)) (k := ?_)
  rintro h1 ⟨v1, cap1, f1, ⟨bb, vv, ff, nc1, cc1⟩, g1, g2, g3, g4, g5⟩
  have y1 := y.fc g5 ⟨_, ab⟩
  have so1 := y1.o
  have nbv : b ≠ v1 := bb.ne vv (by simp)
  refine tJ5_append_cf1ce_24  (r := ?_)
  refine tJ5_append_cf1ce_25  (r := ?_)
  refine tJ5_append_cf1ce_26 (ha := (by first | assumption | (repeat (first | assumption | exact At.set_eq2 (by first | omega | (simp only [hset, hnew]; omega) | rfl | decide) | exact At.new_eq2 _ _ (by first | omega | (simp only [hset, hnew]; omega) | rfl | decide) | refine At.set_ne ?_ (by first | omega | (simp only [hset, hnew]; omega) | rfl | decide) | refine At.new_ne ?_)))) (hv := rfl) (r := ?_)
  refine tJ5_append_cf1ce_29  (r := ?_)
  refine tJ5_append_cf1ce_30 (hd := (by omega)) (ha := (by first | assumption | (repeat (first | assumption | exact At.set_eq2 (by first | omega | (simp only [hset, hnew]; omega) | rfl | decide) | exact At.new_eq2 _ _ (by first | omega | (simp only [hset, hnew]; omega) | rfl | decide) | refine At.set_ne ?_ (by first | omega | (simp only [hset, hnew]; omega) | rfl | decide) | refine At.new_ne ?_)))) (call := s_putStr (d := 3) (by decide) ⟨bb, vv, ff, nc1, cc1⟩ y1 (by omega)) (k := ?_)
  rintro h2 ⟨F, q1, q2⟩
  subst q2
  refine tJ5_append_cf1ce_33  (r := ?_)
  refine tJ5_append_cf1ce_34  (r := ?_)
  refine tJ5_append_cf1ce_35 (ha := (by first | assumption | (repeat (first | assumption | exact At.set_eq2 (by first | omega | (simp only [hset, hnew]; omega) | rfl | decide) | exact At.new_eq2 _ _ (by first | omega | (simp only [hset, hnew]; omega) | rfl | decide) | refine At.set_ne ?_ (by first | omega | (simp only [hset, hnew]; omega) | rfl | decide) | refine At.new_ne ?_)))) (hv := rfl) (r := ?_)
  refine tJ5_append_cf1ce_38  (r := ?_)
  refine tJ5_append_cf1ce_39  (r := ?_)
  rw [nI_add]
  refine tJ5_append_cf1ce_40 (ha := (At.set_ne bb nbv)) (hlen := rfl) (r := ?_)
  refine tJ5_append_cf1ce_43  (r := ?_)
  refine tJ5_append_cf1ce_44  (hP := ?_)
  have el : (t ++ s).length = t.length + s.length := List.length_append
  refine ⟨_, rfl, rfl, v1, ⟨⟨cap1, va_cpy F f1 0 t.length s.length, mb, ⟨?_, ?_, ?_, by omega, by omega⟩, by omega, fun j hj => ?_⟩, by omega, fun c hc => ?_⟩, g4, ?_⟩
  · rw [el]
    exact At.set_eq2 (by show b < h1.1; exact bb.1)
  · exact At.set_ne (At.set_eq2 vv.1) (Ne.symm nbv)
  · exact ff.cpy (fun j hj => by rw [Nat.zero_add]; exact (q1 j hj).2)
  · rw [getD_app]
    by_cases z : j < t.length
    · rw [if_pos z, pk_cpy_out (by omega), g3 j (by omega)]
      exact hf j z
    · rw [if_neg z, pk_cpy_in (by omega) (by omega), show 0 + (j - t.length) = j - t.length by omega]
      exact (q1 _ (by omega)).1
  · rcases List.mem_append.mp hc with z | z
    · exact tb c z
    · exact y.2.2 c z
  · obtain ⟨k1, k2, k3, k4⟩ := g5
    refine ⟨k1, k2, by have : h1.2.1 ≤ _ := k3; show h1.2.1 ≤ _; omega, fun j hj n1 n2 => ?_⟩
    simp only [hset]
    rw [if_neg n1]
    by_cases z : j = v1
    · exfalso
      rcases g4 with e | e
      · exact n2 (z.trans e)
      · omega
    · rw [if_neg z]
      exact k4 j hj n1
theorem s_appStrw (hd : 5 ≤ d) {b v k : Nat} {t s : List Nat} (x : SbW h b v t (t.length + s.length)) (y : StR h k s) (hl : t.length + s.length ≤ 4000) : RQ G mJ4_append_15ec4 d 0 [some (.ref b), some (.ref k)] [] h (Rr fun r h1 => r = b ∧ ∃ v1, SbV h1 b v1 (t ++ s) ∧ (v1 = v ∨ h.1 ≤ v1) ∧ Fb h h1 b v 1 (2 * (t.length + s.length) + 2)) := by
  obtain ⟨cap, f, mb, hx, -⟩ := x.1
  have ab := hx.1
  refine tJ4_append_15ec4_0  (r := ?_)
  refine tJ4_append_15ec4_1  (r := ?_)
  refine tJ4_append_15ec4_2 (hd := (by omega)) (ha := (by first | assumption | (repeat (first | assumption | exact At.set_eq2 (by first | omega | (simp only [hset, hnew]; omega) | rfl | decide) | exact At.new_eq2 _ _ (by first | omega | (simp only [hset, hnew]; omega) | rfl | decide) | refine At.set_ne ?_ (by first | omega | (simp only [hset, hnew]; omega) | rfl | decide) | refine At.new_ne ?_)))) (call := s_appStr5w (d := 4) (by decide) x y hl) (k := ?_)
  rintro x_ h_ ⟨e_, q_⟩
  rw [e_]
  refine tJ4_append_15ec4_5  (r := ?_)
  refine tJ4_append_15ec4_6  (r := ?_)
  refine tJ4_append_15ec4_7  (hP := ?_)
  exact ⟨_, rfl, rfl, q_⟩
theorem s_appStr (hd : 5 ≤ d) {b v k : Nat} {t s : List Nat} (x : SbV h b v t) (y : StR h k s) (hl : t.length + s.length ≤ 4000) : RQ G mJ4_append_15ec4 d 0 [some (.ref b), some (.ref k)] [] h (Rr fun r h1 => r = b ∧ ∃ v1, SbV h1 b v1 (t ++ s) ∧ (v1 = v ∨ h.1 ≤ v1) ∧ Fb h h1 b v 1 (2 * (t.length + s.length) + 2)) := s_appStrw hd x.w y hl
theorem s_appBrw (hd : 6 ≤ d) {b v k : Nat} {t s : List Nat} (x : SbW h b v t (t.length + s.length)) (y : StR h k s) (hl : t.length + s.length ≤ 4000) : RQ G mJ4_append_cf1ce d 0 [some (.ref b), some (.ref k)] [] h (Rr fun r h1 => r = b ∧ ∃ v1, SbV h1 b v1 (t ++ s) ∧ (v1 = v ∨ h.1 ≤ v1) ∧ Fb h h1 b v 1 (2 * (t.length + s.length) + 2)) := by
  obtain ⟨cap, f, mb, hx, -⟩ := x.1
  have ab := hx.1
  refine tJ4_append_cf1ce_0  (r := ?_)
  refine tJ4_append_cf1ce_1  (r := ?_)
  refine tJ4_append_cf1ce_2 (hd := (by omega)) (ha := (by first | assumption | (repeat (first | assumption | exact At.set_eq2 (by first | omega | (simp only [hset, hnew]; omega) | rfl | decide) | exact At.new_eq2 _ _ (by first | omega | (simp only [hset, hnew]; omega) | rfl | decide) | refine At.set_ne ?_ (by first | omega | (simp only [hset, hnew]; omega) | rfl | decide) | refine At.new_ne ?_)))) (call := s_appStrw (d := 5) (by decide) x y hl) (k := ?_)
  rintro x_ h_ ⟨e_, q_⟩
  rw [e_]
  refine tJ4_append_cf1ce_5  (hP := ?_)
  exact ⟨_, rfl, rfl, q_⟩
theorem s_appBr (hd : 6 ≤ d) {b v k : Nat} {t s : List Nat} (x : SbV h b v t) (y : StR h k s) (hl : t.length + s.length ≤ 4000) : RQ G mJ4_append_cf1ce d 0 [some (.ref b), some (.ref k)] [] h (Rr fun r h1 => r = b ∧ ∃ v1, SbV h1 b v1 (t ++ s) ∧ (v1 = v ∨ h.1 ≤ v1) ∧ Fb h h1 b v 1 (2 * (t.length + s.length) + 2)) := s_appBrw hd x.w y hl
theorem s_isLat (h : AH) {b v cap n : Nat} {f : Nat → Int32} {mb : Int32} (x : SbX h b v cap f mb n) : RQ G mJ5_isLatin1_aae02 d 0 [some (.ref b)] [] h (Ri fun r h1 => r = nI 1 ∧ h1 = h) := by
  obtain ⟨ab, av, bf, nc, cc⟩ := x
  have nbv : b ≠ v := ab.ne av (by simp)
  refine tJ5_isLatin1_aae02_0  (r := ?_)
  refine tJ5_isLatin1_aae02_3  (kt := fun c_ => by exfalso; exact absurd c_ (by decide)) (kf := fun _ => ?_)
  refine tJ5_isLatin1_aae02_6  (r := ?_)
  refine tJ5_isLatin1_aae02_7 (ha := (by first | assumption | (repeat (first | assumption | exact At.set_eq2 (by first | omega | (simp only [hset, hnew]; omega) | rfl | decide) | exact At.new_eq2 _ _ (by first | omega | (simp only [hset, hnew]; omega) | rfl | decide) | refine At.set_ne ?_ (by first | omega | (simp only [hset, hnew]; omega) | rfl | decide) | refine At.new_ne ?_)))) (hv := rfl) (r := ?_)
  refine tJ5_isLatin1_aae02_10  (kt := fun c_ => by exfalso; exact c_ rfl) (kf := fun _ => ?_)
  refine tJ5_isLatin1_aae02_13  (r := ?_)
  refine tJ5_isLatin1_aae02_14 (r := ?_)
  refine tJ5_isLatin1_aae02_18 (hb := (by first | exact Or.inl rfl | exact Or.inr rfl | assumption)) (hP := ?_)
  exact ⟨_, rfl, rfl, rfl⟩
theorem s_canEnc {c : Nat} (hc : c < 128) : RQ G mJ1_canEncode_fc78d d 0 [some (.int (nI c))] [] h (Ri fun r h1 => r = nI 1 ∧ h1 = h) := by
  refine tJ1_canEncode_fc78d_0  (r := ?_)
  refine tJ1_canEncode_fc78d_1  (r := ?_)
  refine tJ1_canEncode_fc78d_4  (kt := fun c_ => by exfalso; exact absurd c_ (nI_nlt (by omega) (by omega))) (kf := fun _ => ?_)
  refine tJ1_canEncode_fc78d_7  (r := ?_)
  refine tJ1_canEncode_fc78d_8 (r := ?_)
  refine tJ1_canEncode_fc78d_12 (hb := (by first | exact Or.inl rfl | exact Or.inr rfl | assumption)) (hP := ?_)
  exact ⟨_, rfl, rfl, rfl⟩
theorem s_appCh5 (hd : 4 ≤ d) {b v c : Nat} {t : List Nat} (x : SbV h b v t) (hcc : c < 128) (hl : t.length + 1 ≤ 4000) : RQ G mJ5_append_3fe6f d 0 [some (.ref b), some (.int (nI c))] [] h (Rr fun r h1 => r = b ∧ ∃ v1, SbV h1 b v1 (t ++ [c]) ∧ (v1 = v ∨ h.1 ≤ v1) ∧ Fb h h1 b v 1 (2 * (t.length + 1) + 2)) := by
  obtain ⟨⟨cap, f, mb, hx, hc, hf⟩, tl, tb⟩ := x
  obtain ⟨ab, av, bf, nc, cc⟩ := hx
  refine tJ5_append_3fe6f_0  (r := ?_)
  refine tJ5_append_3fe6f_1  (r := ?_)
  refine tJ5_append_3fe6f_2 (ha := (by first | assumption | (repeat (first | assumption | exact At.set_eq2 (by first | omega | (simp only [hset, hnew]; omega) | rfl | decide) | exact At.new_eq2 _ _ (by first | omega | (simp only [hset, hnew]; omega) | rfl | decide) | refine At.set_ne ?_ (by first | omega | (simp only [hset, hnew]; omega) | rfl | decide) | refine At.new_ne ?_)))) (hv := rfl) (r := ?_)
  refine tJ5_append_3fe6f_5  (r := ?_)
  refine tJ5_append_3fe6f_6  (r := ?_)
  rw [nI_add]
  refine tJ5_append_3fe6f_7 (hd := (by omega)) (ha := (by first | assumption | (repeat (first | assumption | exact At.set_eq2 (by first | omega | (simp only [hset, hnew]; omega) | rfl | decide) | exact At.new_eq2 _ _ (by first | omega | (simp only [hset, hnew]; omega) | rfl | decide) | refine At.set_ne ?_ (by first | omega | (simp only [hset, hnew]; omega) | rfl | decide) | refine At.new_ne ?_)))) (call := s_ensure (d := 3) (by decide) ⟨ab, av, bf, nc, cc⟩ (q := t.length + 1) (by omega) (by omega)) (k := ?_)
  rintro h1 ⟨v1, cap1, f1, ⟨bb, vv, ff, nc1, cc1⟩, g1, g2, g3, g4, g5⟩
  have nbv : b ≠ v1 := bb.ne vv (by simp)
  refine tJ5_append_3fe6f_10  (r := ?_)
  refine tJ5_append_3fe6f_11 (hd := (by omega)) (ha := (by first | assumption | (repeat (first | assumption | exact At.set_eq2 (by first | omega | (simp only [hset, hnew]; omega) | rfl | decide) | exact At.new_eq2 _ _ (by first | omega | (simp only [hset, hnew]; omega) | rfl | decide) | refine At.set_ne ?_ (by first | omega | (simp only [hset, hnew]; omega) | rfl | decide) | refine At.new_ne ?_)))) (call := s_isLat (d := 2) h1 ⟨bb, vv, ff, nc1, cc1⟩) (k := ?_)
  rintro x_ h_ ⟨e_, e2_⟩
  rw [e_, e2_]
  refine tJ5_append_3fe6f_14  (kt := fun c_ => by exfalso; exact absurd c_ (by decide)) (kf := fun _ => ?_)
  refine tJ5_append_3fe6f_17  (r := ?_)
  refine tJ5_append_3fe6f_18 (hd := (by omega)) (call := s_canEnc (d := 2) hcc) (k := ?_)
  rintro x_ h_ ⟨e_, e2_⟩
  rw [e_, e2_]
  refine tJ5_append_3fe6f_21  (kt := fun c_ => by exfalso; exact absurd c_ (by decide)) (kf := fun _ => ?_)
  refine tJ5_append_3fe6f_24  (r := ?_)
  refine tJ5_append_3fe6f_25 (ha := (by first | assumption | (repeat (first | assumption | exact At.set_eq2 (by first | omega | (simp only [hset, hnew]; omega) | rfl | decide) | exact At.new_eq2 _ _ (by first | omega | (simp only [hset, hnew]; omega) | rfl | decide) | refine At.set_ne ?_ (by first | omega | (simp only [hset, hnew]; omega) | rfl | decide) | refine At.new_ne ?_)))) (hv := rfl) (r := ?_)
  refine tJ5_append_3fe6f_28  (r := ?_)
  refine tJ5_append_3fe6f_29  (r := ?_)
  refine tJ5_append_3fe6f_30 (ha := (by first | assumption | (repeat (first | assumption | exact At.set_eq2 (by first | omega | (simp only [hset, hnew]; omega) | rfl | decide) | exact At.new_eq2 _ _ (by first | omega | (simp only [hset, hnew]; omega) | rfl | decide) | refine At.set_ne ?_ (by first | omega | (simp only [hset, hnew]; omega) | rfl | decide) | refine At.new_ne ?_)))) (hv := rfl) (r := ?_)
  refine tJ5_append_3fe6f_33  (r := ?_)
  refine tJ5_append_3fe6f_34  (r := ?_)
  refine tJ5_append_3fe6f_35  (r := ?_)
  rw [nI_add]
  refine tJ5_append_3fe6f_36 (ha := bb) (hlen := rfl) (r := ?_)
  refine tJ5_append_3fe6f_39  (r := ?_)
  refine tJ5_append_3fe6f_40  (r := ?_)
  rw [(by128 c hcc).2.2.1]
  refine tJ5_append_3fe6f_41 (ha := (At.set_ne vv (Ne.symm nbv))) (hx := rfl) (hj := (by omega)) (hn := (by omega)) (r := ?_)
  refine tJ5_append_3fe6f_42 (r := ?_)
  refine tJ5_append_3fe6f_75  (r := ?_)
  refine tJ5_append_3fe6f_76  (hP := ?_)
  have el : (t ++ [c]).length = t.length + 1 := List.length_append
  refine ⟨_, rfl, rfl, v1, ⟨⟨cap1, upd f1 t.length (vp_nar .byte (nI c)), mb, ⟨?_, ?_, ff.ups hcc, by omega, by omega⟩, by omega, fun j hj => ?_⟩, by omega, fun z hz => ?_⟩, g4, ?_⟩
  · rw [el]
    exact At.set_ne (At.set_eq2 bb.1) nbv
  · exact At.set_eq2 (by show v1 < h1.1; exact vv.1)
  · rw [getD_app]
    by_cases z : j < t.length
    · rw [if_pos z]
      show (if j = t.length then _ else f1 j) = _
      rw [if_neg (by omega), g3 j (by omega)]
      exact hf j z
    · have ej : j = t.length := by omega
      rw [if_neg z, ej, Nat.sub_self]
      show (if t.length = t.length then _ else _) = nI c
      rw [if_pos rfl]
      exact (by128 c hcc).2.1
  · rcases List.mem_append.mp hz with y | y
    · exact tb z y
    · cases List.mem_singleton.mp y
      exact hcc
  · obtain ⟨k1, k2, k3, k4⟩ := g5
    refine ⟨k1, k2, by have : h1.2.1 ≤ _ := k3; show h1.2.1 ≤ _; omega, fun j hj n1 n2 => ?_⟩
    simp only [hset]
    by_cases z : j = v1
    · exfalso
      rcases g4 with e | e
      · exact n2 (z.trans e)
      · omega
    · rw [if_neg z, if_neg n1]
      exact k4 j hj n1
theorem s_appCh (hd : 5 ≤ d) {b v c : Nat} {t : List Nat} (x : SbV h b v t) (hcc : c < 128) (hl : t.length + 1 ≤ 4000) : RQ G mJ4_append_cf468 d 0 [some (.ref b), some (.int (nI c))] [] h (Rr fun r h1 => r = b ∧ ∃ v1, SbV h1 b v1 (t ++ [c]) ∧ (v1 = v ∨ h.1 ≤ v1) ∧ Fb h h1 b v 1 (2 * (t.length + 1) + 2)) := by
  obtain ⟨cap, f, mb, hx, -⟩ := x.1
  have ab := hx.1
  refine tJ4_append_cf468_0  (r := ?_)
  refine tJ4_append_cf468_1  (r := ?_)
  refine tJ4_append_cf468_2 (hd := (by omega)) (ha := (by first | assumption | (repeat (first | assumption | exact At.set_eq2 (by first | omega | (simp only [hset, hnew]; omega) | rfl | decide) | exact At.new_eq2 _ _ (by first | omega | (simp only [hset, hnew]; omega) | rfl | decide) | refine At.set_ne ?_ (by first | omega | (simp only [hset, hnew]; omega) | rfl | decide) | refine At.new_ne ?_)))) (call := s_appCh5 (d := 4) (by decide) x hcc hl) (k := ?_)
  rintro x_ h_ ⟨e_, q_⟩
  rw [e_]
  refine tJ4_append_cf468_5  (r := ?_)
  refine tJ4_append_cf468_6  (r := ?_)
  refine tJ4_append_cf468_7  (hP := ?_)
  exact ⟨_, rfl, rfl, q_⟩
/-! numbers as texts -/
def dgs (n : Nat) : List Nat := if n < 10 then [48 + n] else if n < 100 then [48 + n / 10, 48 + n % 10] else if n < 1000 then [48 + n / 100, 48 + n / 10 % 10, 48 + n % 10] else [48 + n / 1000, 48 + n / 100 % 10, 48 + n / 10 % 10, 48 + n % 10]
theorem dgs_len {n : Nat} : (dgs n).length = if n < 10 then 1 else if n < 100 then 2 else if n < 1000 then 3 else 4 := by
  unfold dgs
  split
  · rfl
  · split
    · rfl
    · split <;> rfl
theorem dgs_128 {n : Nat} (h : n < 10000) : ∀ c ∈ dgs n, 48 ≤ c ∧ c < 58 := by
  intro c hc
  unfold dgs at hc
  split at hc
  · simp at hc; omega
  · split at hc
    · simp at hc; omega
    · split at hc
      · simp at hc; omega
      · simp at hc; omega
theorem neg_toInt {n : Nat} (h : n ≤ 100000) : (-(nI n)).toInt = -(n : Int) := by
  have e : -(nI n) = nI 0 - nI n := by rw [nI_0, Int32.zero_sub]
  rw [e, pk_sub_toInt (by decide) (by omega)]
  omega
theorem neg_le {a b : Nat} (ha : a ≤ 100000) (hb : b ≤ 100000) : (-(nI a) ≤ -(nI b)) = (b ≤ a) := by
  rw [Int32.le_iff_toInt_le, neg_toInt ha, neg_toInt hb]
  apply propext
  omega
theorem neg_lt {a b : Nat} (ha : a ≤ 100000) (hb : b ≤ 100000) : (-(nI a) < -(nI b)) = (b < a) := by
  rw [Int32.lt_iff_toInt_lt, neg_toInt ha, neg_toInt hb]
  apply propext
  omega
theorem nI_one9 : nI 1 = (1 : Int32) := rfl
theorem nI_dc1 {e : Nat} (h : 1 ≤ e) : nI e + (-1) = nI (e - 1) := by
  have e1 : nI e + (-1) = nI e - nI 1 := by rw [nI_one9, Int32.sub_eq_add_neg]
  rw [e1]
  exact pk_sub h
theorem dv100 : ∀ a, a < 100 → ∀ b, b < 100 → (-(nI (100 * a + b))) / nI 100 = -(nI a) ∧ -(nI a) * nI 100 - -(nI (100 * a + b)) = nI b := by decide +kernel

theorem s_ssize {n : Nat} (hn : n < 10000) : RQ G mJ6_stringSize_0f7a4 d 0 [some (.int (nI n)), none, none, none] [] h (Ri fun r h1 => r = nI (dgs n).length ∧ h1 = h) := by
  refine tJ6_stringSize_0f7a4_0  (r := ?_)
  refine tJ6_stringSize_0f7a4_1  (r := ?_)
  refine tJ6_stringSize_0f7a4_2  (r := ?_)
  refine tJ6_stringSize_0f7a4_3  (kt := fun c_ => by exfalso; (simp (disch := first | omega | decide) only [ci_lt, ci_le, ci_eq, ci_lt0, ci_ge0, ci_gt0, ci_le0, ci_eq0, ci_m1_lt, ci_m1_le, ci_lt_m1, ci_le_m1, ci_eq_m1, ci_m1_eq, not_true, not_false_iff, Nat.not_lt, Nat.not_le] at c_ <;> omega)) (kf := fun _ => ?_)
  refine tJ6_stringSize_0f7a4_6  (r := ?_)
  refine tJ6_stringSize_0f7a4_7  (r := ?_)
  refine tJ6_stringSize_0f7a4_8  (r := ?_)
  refine tJ6_stringSize_0f7a4_9  (r := ?_)
  refine tJ6_stringSize_0f7a4_10  (r := ?_)
  refine tJ6_stringSize_0f7a4_11  (r := ?_)
  refine tJ6_stringSize_0f7a4_13  (r := ?_)
  refine tJ6_stringSize_0f7a4_14  (r := ?_)
  refine tJ6_stringSize_0f7a4_15  (r := ?_)
  refine tJ6_stringSize_0f7a4_16  (r := ?_)
  refine tJ6_stringSize_0f7a4_17  (r := ?_)
  refine tJ6_stringSize_0f7a4_19  (kt := fun c_ => by exfalso; exact absurd c_ (by decide)) (kf := fun _ => ?_)
  refine tJ6_stringSize_0f7a4_22  (r := ?_)
  refine tJ6_stringSize_0f7a4_23  (r := ?_)
  refine tJ6_stringSize_0f7a4_24  (kt := fun c_24 => ?_) (kf := fun c_24 => ?_)
  · have g1 : 10 ≤ n := (neg_le (a := n) (b := 10) (by omega) (by decide)) ▸ (show -(nI n) ≤ -(nI 10) from c_24)
    refine tJ6_stringSize_0f7a4_31  (r := ?_)
    refine tJ6_stringSize_0f7a4_33  (r := ?_)
    refine tJ6_stringSize_0f7a4_34  (r := ?_)
    rw [show nI 10 * (-10 : Int32) = (-100 : Int32) from by decide]
    refine tJ6_stringSize_0f7a4_35  (r := ?_)
    refine tJ6_stringSize_0f7a4_36  (r := ?_)
    rw [nI_add]
    refine tJ6_stringSize_0f7a4_39 (r := ?_)
    refine tJ6_stringSize_0f7a4_16  (r := ?_)
    refine tJ6_stringSize_0f7a4_17  (r := ?_)
    refine tJ6_stringSize_0f7a4_19  (kt := fun c_ => by exfalso; exact absurd c_ (by decide)) (kf := fun _ => ?_)
    refine tJ6_stringSize_0f7a4_22  (r := ?_)
    refine tJ6_stringSize_0f7a4_23  (r := ?_)
    refine tJ6_stringSize_0f7a4_24  (kt := fun c_24 => ?_) (kf := fun c_24 => ?_)
    · have g2 : 100 ≤ n := (neg_le (a := n) (b := 100) (by omega) (by decide)) ▸ (show -(nI n) ≤ -(nI 100) from c_24)
      refine tJ6_stringSize_0f7a4_31  (r := ?_)
      refine tJ6_stringSize_0f7a4_33  (r := ?_)
      refine tJ6_stringSize_0f7a4_34  (r := ?_)
      rw [show nI 10 * (-100 : Int32) = (-1000 : Int32) from by decide]
      refine tJ6_stringSize_0f7a4_35  (r := ?_)
      refine tJ6_stringSize_0f7a4_36  (r := ?_)
      rw [nI_add]
      refine tJ6_stringSize_0f7a4_39 (r := ?_)
      refine tJ6_stringSize_0f7a4_16  (r := ?_)
      refine tJ6_stringSize_0f7a4_17  (r := ?_)
      refine tJ6_stringSize_0f7a4_19  (kt := fun c_ => by exfalso; exact absurd c_ (by decide)) (kf := fun _ => ?_)
      refine tJ6_stringSize_0f7a4_22  (r := ?_)
      refine tJ6_stringSize_0f7a4_23  (r := ?_)
      refine tJ6_stringSize_0f7a4_24  (kt := fun c_24 => ?_) (kf := fun c_24 => ?_)
      · have g3 : 1000 ≤ n := (neg_le (a := n) (b := 1000) (by omega) (by decide)) ▸ (show -(nI n) ≤ -(nI 1000) from c_24)
        refine tJ6_stringSize_0f7a4_31  (r := ?_)
        refine tJ6_stringSize_0f7a4_33  (r := ?_)
        refine tJ6_stringSize_0f7a4_34  (r := ?_)
        rw [show nI 10 * (-1000 : Int32) = (-10000 : Int32) from by decide]
        refine tJ6_stringSize_0f7a4_35  (r := ?_)
        refine tJ6_stringSize_0f7a4_36  (r := ?_)
        rw [nI_add]
        refine tJ6_stringSize_0f7a4_39 (r := ?_)
        refine tJ6_stringSize_0f7a4_16  (r := ?_)
        refine tJ6_stringSize_0f7a4_17  (r := ?_)
        refine tJ6_stringSize_0f7a4_19  (kt := fun c_ => by exfalso; exact absurd c_ (by decide)) (kf := fun _ => ?_)
        refine tJ6_stringSize_0f7a4_22  (r := ?_)
        refine tJ6_stringSize_0f7a4_23  (r := ?_)
        refine tJ6_stringSize_0f7a4_24  (kt := fun c_ => by exfalso; have := (neg_le (a := n) (b := 10000) (by omega) (by decide)) ▸ (show -(nI n) ≤ -(nI 10000) from c_); omega) (kf := fun _ => ?_)
        refine tJ6_stringSize_0f7a4_27  (r := ?_)
        refine tJ6_stringSize_0f7a4_28  (r := ?_)
        refine tJ6_stringSize_0f7a4_29  (r := ?_)
        refine tJ6_stringSize_0f7a4_30  (hP := ?_)
        refine ⟨_, rfl, ?_, rfl⟩
        rw [dgs_len, if_neg (by omega), if_neg (by omega), if_neg (by omega)]
        rfl
      · have g3 : ¬ 1000 ≤ n := fun z => c_24 (show -(nI n) ≤ -(nI 1000) from (neg_le (a := n) (b := 1000) (by omega) (by decide)).symm ▸ z)
        refine tJ6_stringSize_0f7a4_27  (r := ?_)
        refine tJ6_stringSize_0f7a4_28  (r := ?_)
        refine tJ6_stringSize_0f7a4_29  (r := ?_)
        refine tJ6_stringSize_0f7a4_30  (hP := ?_)
        refine ⟨_, rfl, ?_, rfl⟩
        rw [dgs_len]
        rw [if_neg (by omega)]
        rw [if_neg (by omega)]
        rw [if_pos (by omega)]
        rfl
    · have g2 : ¬ 100 ≤ n := fun z => c_24 (show -(nI n) ≤ -(nI 100) from (neg_le (a := n) (b := 100) (by omega) (by decide)).symm ▸ z)
      refine tJ6_stringSize_0f7a4_27  (r := ?_)
      refine tJ6_stringSize_0f7a4_28  (r := ?_)
      refine tJ6_stringSize_0f7a4_29  (r := ?_)
      refine tJ6_stringSize_0f7a4_30  (hP := ?_)
      refine ⟨_, rfl, ?_, rfl⟩
      rw [dgs_len]
      rw [if_neg (by omega)]
      rw [if_pos (by omega)]
      rfl
  · have g1 : ¬ 10 ≤ n := fun z => c_24 (show -(nI n) ≤ -(nI 10) from (neg_le (a := n) (b := 10) (by omega) (by decide)).symm ▸ z)
    refine tJ6_stringSize_0f7a4_27  (r := ?_)
    refine tJ6_stringSize_0f7a4_28  (r := ?_)
    refine tJ6_stringSize_0f7a4_29  (r := ?_)
    refine tJ6_stringSize_0f7a4_30  (hP := ?_)
    refine ⟨_, rfl, ?_, rfl⟩
    rw [dgs_len]
    rw [if_pos (by omega)]
    rfl
theorem s_getChars {n e v cap : Nat} {f : Nat → Int32} (hn : n < 10000) (av : At h v (.inl (1, cap, .inl f))) (bf : ByF f) (he : (dgs n).length ≤ e) (hc : e ≤ cap) (h3 : cap ≤ 20000) : RQ G mJ6_getChars_ba4f3 d 0 [some (.int (nI n)), some (.int (nI e)), some (.ref v), none, none, none, none] [] h (Ri fun r h1 => ∃ f1, At h1 v (.inl (1, cap, .inl f1)) ∧ ByF f1 ∧ (∀ j, j < e - (dgs n).length → f1 j = f j) ∧ (∀ j, j < (dgs n).length → f1 (e - (dgs n).length + j) = nI ((dgs n).getD j 0)) ∧ Fc h h1 v 0 0) := by
  have he2 := he
  rw [dgs_len] at he2
  have he4 : 1 ≤ e ∧ (10 ≤ n → 2 ≤ e) ∧ (100 ≤ n → 3 ≤ e) ∧ (1000 ≤ n → 4 ≤ e) := by
    split at he2
    · omega
    · split at he2
      · omega
      · split at he2 <;> omega
  refine tJ6_getChars_ba4f3_0  (r := ?_)
  refine tJ6_getChars_ba4f3_1  (r := ?_)
  refine tJ6_getChars_ba4f3_3  (r := ?_)
  refine tJ6_getChars_ba4f3_4  (kf := fun c_ => by exfalso; exact c_ (nI_pos' (by omega))) (kt := fun _ => ?_)
  refine tJ6_getChars_ba4f3_11  (r := ?_)
  refine tJ6_getChars_ba4f3_12  (r := ?_)
  refine tJ6_getChars_ba4f3_14  (r := ?_)
  refine tJ6_getChars_ba4f3_16  (kt := fun c_ => by exfalso; exact c_ rfl) (kf := fun _ => ?_)
  refine tJ6_getChars_ba4f3_19  (r := ?_)
  refine tJ6_getChars_ba4f3_20  (r := ?_)
  refine tJ6_getChars_ba4f3_21  (r := ?_)
  refine tJ6_getChars_ba4f3_22  (r := ?_)
  refine tJ6_getChars_ba4f3_23  (r := ?_)
  refine tJ6_getChars_ba4f3_25  (kt := fun c_25 => ?_) (kf := fun c_25 => ?_)
  · have z8 : n < 100 := (neg_lt (a := 100) (b := n) (by decide) (by omega)) ▸ (show -(nI 100) < -(nI n) from c_25)
    refine tJ6_getChars_ba4f3_72  (r := ?_)
    refine tJ6_getChars_ba4f3_73  (r := ?_)
    rw [nI_dc1 (by omega)]
    refine tJ6_getChars_ba4f3_76  (r := ?_)
    refine tJ6_getChars_ba4f3_78  (r := ?_)
    refine tJ6_getChars_ba4f3_81  (r := ?_)
    refine tJ6_getChars_ba4f3_82  (r := ?_)
    rw [Int32.neg_neg]
    refine tJ6_getChars_ba4f3_83u (hx := rfl) (hj := (by omega)) (r := ?_)
    refine tJ6_getChars_ba4f3_84 (ha := (by first | assumption | exact At.set_eq2 av.1)) (hx := rfl) (hj := (by omega)) (hn := (by omega)) (r := ?_)
    refine tJ6_getChars_ba4f3_85  (r := ?_)
    refine tJ6_getChars_ba4f3_86  (r := ?_)
    refine tJ6_getChars_ba4f3_88  (kt := fun c_88 => ?_) (kf := fun c_88 => ?_)
    · have z9 : n ≤ 9 := (neg_le (a := 9) (b := n) (by decide) (by omega)) ▸ (show -(nI 9) ≤ -(nI (n)) from c_88)
      refine tJ6_getChars_ba4f3_104  (r := ?_)
      refine tJ6_getChars_ba4f3_106  (kf := fun c_ => by exfalso; exact c_ rfl) (kt := fun _ => ?_)
      refine tJ6_getChars_ba4f3_118  (r := ?_)
      refine tJ6_getChars_ba4f3_120  (hP := ?_)
      have dl : (dgs n).length = 1 := by
        rw [dgs_len]
        exact if_pos (by omega)
      have dv : dgs n = [48 + n] := by
        unfold dgs
        exact if_pos (by omega)
      refine ⟨_, rfl, upd (f) (e - 1) (vp_nar .byte (nI (48 + (n) % 10))), At.set_eq2 av.1, ByF.ups (bf) (by omega), fun j hj => ?_, fun j hj => ?_, ?_⟩
      · rw [dl] at hj
        simp only [upd]
        rw [if_neg (by omega)]
      · rw [dl] at hj ⊢
        rw [dv]
        simp only [upd]
        have hj4 : j = 0 := by omega
        subst hj4
        · rw [if_pos (by omega), (by128 _ (by omega)).2.1]
          exact congrArg nI (by simp; try omega)
      · refine ⟨Nat.le_refl _, Nat.le_refl _, Nat.le_refl _, fun j hj nj => ?_⟩
        first | exact if_neg nj | exact (if_neg nj).trans (if_neg nj) | exact (if_neg nj).trans ((if_neg nj).trans (if_neg nj)) | exact (if_neg nj).trans ((if_neg nj).trans ((if_neg nj).trans (if_neg nj)))
    · have z9 : ¬ n ≤ 9 := fun z => c_88 (show -(nI 9) ≤ -(nI (n)) from (neg_le (a := 9) (b := n) (by decide) (by omega)).symm ▸ z)
      refine tJ6_getChars_ba4f3_91  (r := ?_)
      refine tJ6_getChars_ba4f3_92  (r := ?_)
      rw [nI_dc1 (by omega)]
      refine tJ6_getChars_ba4f3_95  (r := ?_)
      refine tJ6_getChars_ba4f3_97  (r := ?_)
      refine tJ6_getChars_ba4f3_100  (r := ?_)
      refine tJ6_getChars_ba4f3_101  (r := ?_)
      rw [Int32.neg_neg]
      refine tJ6_getChars_ba4f3_102t (hx := rfl) (hj := (by omega)) (r := ?_)
      refine tJ6_getChars_ba4f3_103 (ha := (by first | assumption | exact At.set_eq2 av.1)) (hx := rfl) (hj := (by omega)) (hn := (by omega)) (r := ?_)
      refine tJ6_getChars_ba4f3_104  (r := ?_)
      refine tJ6_getChars_ba4f3_106  (kf := fun c_ => by exfalso; exact c_ rfl) (kt := fun _ => ?_)
      refine tJ6_getChars_ba4f3_118  (r := ?_)
      refine tJ6_getChars_ba4f3_120  (hP := ?_)
      have dl : (dgs n).length = 2 := by
        rw [dgs_len]
        rw [if_neg (by omega)]
        exact if_pos (by omega)
      have dv : dgs n = [48 + n / 10, 48 + n % 10] := by
        unfold dgs
        rw [if_neg (by omega)]
        exact if_pos (by omega)
      refine ⟨_, rfl, upd (upd (f) (e - 1) (vp_nar .byte (nI (48 + (n) % 10)))) (e - 1 - 1) (vp_nar .byte (nI (48 + (n) / 10))), At.set_eq2 av.1, ByF.ups (ByF.ups (bf) (by omega)) (by omega), fun j hj => ?_, fun j hj => ?_, ?_⟩
      · rw [dl] at hj
        simp only [upd]
        rw [if_neg (by omega)]
        rw [if_neg (by omega)]
      · rw [dl] at hj ⊢
        rw [dv]
        simp only [upd]
        have hj4 : j = 0 ∨ j = 1 := by omega
        rcases hj4 with rfl | rfl
        · rw [if_pos (by omega), (by128 _ (by omega)).2.1]
          exact congrArg nI (by simp; try omega)
        · rw [if_neg (by omega)]
          rw [if_pos (by omega), (by128 _ (by omega)).2.1]
          exact congrArg nI (by simp; try omega)
      · refine ⟨Nat.le_refl _, Nat.le_refl _, Nat.le_refl _, fun j hj nj => ?_⟩
        first | exact if_neg nj | exact (if_neg nj).trans (if_neg nj) | exact (if_neg nj).trans ((if_neg nj).trans (if_neg nj)) | exact (if_neg nj).trans ((if_neg nj).trans ((if_neg nj).trans (if_neg nj)))
  · have z8 : ¬ n < 100 := fun z => c_25 (show -(nI 100) < -(nI n) from (neg_lt (a := 100) (b := n) (by decide) (by omega)).symm ▸ z)
    have en : 100 * (n / 100) + n % 100 = n := Nat.div_add_mod n 100
    have dv1 := dv100 (n / 100) (by omega) (n % 100) (by omega)
    rw [en] at dv1
    refine tJ6_getChars_ba4f3_28  (r := ?_)
    refine tJ6_getChars_ba4f3_29  (r := ?_)
    refine tJ6_getChars_ba4f3_31 (hne := (by decide)) (r := ?_)
    rw [dv1.1]
    refine tJ6_getChars_ba4f3_32  (r := ?_)
    refine tJ6_getChars_ba4f3_33  (r := ?_)
    refine tJ6_getChars_ba4f3_34  (r := ?_)
    refine tJ6_getChars_ba4f3_36  (r := ?_)
    refine tJ6_getChars_ba4f3_37  (r := ?_)
    refine tJ6_getChars_ba4f3_38  (r := ?_)
    rw [dv1.2]
    refine tJ6_getChars_ba4f3_39  (r := ?_)
    refine tJ6_getChars_ba4f3_41  (r := ?_)
    refine tJ6_getChars_ba4f3_42  (r := ?_)
    refine tJ6_getChars_ba4f3_43  (r := ?_)
    refine tJ6_getChars_ba4f3_44  (r := ?_)
    rw [nI_dc1 (by omega)]
    refine tJ6_getChars_ba4f3_47  (r := ?_)
    refine tJ6_getChars_ba4f3_49  (r := ?_)
    refine tJ6_getChars_ba4f3_52  (r := ?_)
    refine tJ6_getChars_ba4f3_54u (hx := rfl) (hj := (by omega)) (r := ?_)
    refine tJ6_getChars_ba4f3_55 (ha := (by first | assumption | exact At.set_eq2 av.1)) (hx := rfl) (hj := (by omega)) (hn := (by omega)) (r := ?_)
    refine tJ6_getChars_ba4f3_56  (r := ?_)
    refine tJ6_getChars_ba4f3_57  (r := ?_)
    rw [nI_dc1 (by omega)]
    refine tJ6_getChars_ba4f3_60  (r := ?_)
    refine tJ6_getChars_ba4f3_62  (r := ?_)
    refine tJ6_getChars_ba4f3_65  (r := ?_)
    refine tJ6_getChars_ba4f3_67t (hx := rfl) (hj := (by omega)) (r := ?_)
    refine tJ6_getChars_ba4f3_68 (ha := (by first | assumption | exact At.set_eq2 av.1)) (hx := rfl) (hj := (by omega)) (hn := (by omega)) (r := ?_)
    refine tJ6_getChars_ba4f3_69 (r := ?_)
    refine tJ6_getChars_ba4f3_22  (r := ?_)
    refine tJ6_getChars_ba4f3_23  (r := ?_)
    refine tJ6_getChars_ba4f3_25  (kf := fun c_ => by exfalso; exact c_ (show -(nI 100) < -(nI (n / 100)) from (neg_lt (a := 100) (b := n / 100) (by decide) (by omega)).symm ▸ (show n / 100 < 100 by omega))) (kt := fun _ => ?_)
    refine tJ6_getChars_ba4f3_72  (r := ?_)
    refine tJ6_getChars_ba4f3_73  (r := ?_)
    rw [nI_dc1 (by omega)]
    refine tJ6_getChars_ba4f3_76  (r := ?_)
    refine tJ6_getChars_ba4f3_78  (r := ?_)
    refine tJ6_getChars_ba4f3_81  (r := ?_)
    refine tJ6_getChars_ba4f3_82  (r := ?_)
    rw [Int32.neg_neg]
    refine tJ6_getChars_ba4f3_83u (hx := rfl) (hj := (by omega)) (r := ?_)
    refine tJ6_getChars_ba4f3_84 (ha := (by first | assumption | exact At.set_eq2 av.1)) (hx := rfl) (hj := (by omega)) (hn := (by omega)) (r := ?_)
    refine tJ6_getChars_ba4f3_85  (r := ?_)
    refine tJ6_getChars_ba4f3_86  (r := ?_)
    refine tJ6_getChars_ba4f3_88  (kt := fun c_88 => ?_) (kf := fun c_88 => ?_)
    · have z9 : n / 100 ≤ 9 := (neg_le (a := 9) (b := n / 100) (by decide) (by omega)) ▸ (show -(nI 9) ≤ -(nI (n / 100)) from c_88)
      refine tJ6_getChars_ba4f3_104  (r := ?_)
      refine tJ6_getChars_ba4f3_106  (kf := fun c_ => by exfalso; exact c_ rfl) (kt := fun _ => ?_)
      refine tJ6_getChars_ba4f3_118  (r := ?_)
      refine tJ6_getChars_ba4f3_120  (hP := ?_)
      have dl : (dgs n).length = 3 := by
        rw [dgs_len]
        rw [if_neg (by omega)]
        rw [if_neg (by omega)]
        exact if_pos (by omega)
      have dv : dgs n = [48 + n / 100, 48 + n / 10 % 10, 48 + n % 10] := by
        unfold dgs
        rw [if_neg (by omega)]
        rw [if_neg (by omega)]
        exact if_pos (by omega)
      refine ⟨_, rfl, upd (upd (upd (f) (e - 1) (vp_nar .byte (nI (48 + n % 100 % 10)))) (e - 1 - 1) (vp_nar .byte (nI (48 + n % 100 / 10)))) (e - 1 - 1 - 1) (vp_nar .byte (nI (48 + (n / 100) % 10))), At.set_eq2 av.1, ByF.ups (ByF.ups (ByF.ups (bf) (by omega)) (by omega)) (by omega), fun j hj => ?_, fun j hj => ?_, ?_⟩
      · rw [dl] at hj
        simp only [upd]
        rw [if_neg (by omega)]
        rw [if_neg (by omega)]
        rw [if_neg (by omega)]
      · rw [dl] at hj ⊢
        rw [dv]
        simp only [upd]
        have hj4 : j = 0 ∨ j = 1 ∨ j = 2 := by omega
        rcases hj4 with rfl | rfl | rfl
        · rw [if_pos (by omega), (by128 _ (by omega)).2.1]
          exact congrArg nI (by simp; try omega)
        · rw [if_neg (by omega)]
          rw [if_pos (by omega), (by128 _ (by omega)).2.1]
          exact congrArg nI (by simp; try omega)
        · rw [if_neg (by omega)]
          rw [if_neg (by omega)]
          rw [if_pos (by omega), (by128 _ (by omega)).2.1]
          exact congrArg nI (by simp; try omega)
      · refine ⟨Nat.le_refl _, Nat.le_refl _, Nat.le_refl _, fun j hj nj => ?_⟩
        first | exact if_neg nj | exact (if_neg nj).trans (if_neg nj) | exact (if_neg nj).trans ((if_neg nj).trans (if_neg nj)) | exact (if_neg nj).trans ((if_neg nj).trans ((if_neg nj).trans (if_neg nj)))
    · have z9 : ¬ n / 100 ≤ 9 := fun z => c_88 (show -(nI 9) ≤ -(nI (n / 100)) from (neg_le (a := 9) (b := n / 100) (by decide) (by omega)).symm ▸ z)
      refine tJ6_getChars_ba4f3_91  (r := ?_)
      refine tJ6_getChars_ba4f3_92  (r := ?_)
      rw [nI_dc1 (by omega)]
      refine tJ6_getChars_ba4f3_95  (r := ?_)
      refine tJ6_getChars_ba4f3_97  (r := ?_)
      refine tJ6_getChars_ba4f3_100  (r := ?_)
      refine tJ6_getChars_ba4f3_101  (r := ?_)
      rw [Int32.neg_neg]
      refine tJ6_getChars_ba4f3_102t (hx := rfl) (hj := (by omega)) (r := ?_)
      refine tJ6_getChars_ba4f3_103 (ha := (by first | assumption | exact At.set_eq2 av.1)) (hx := rfl) (hj := (by omega)) (hn := (by omega)) (r := ?_)
      refine tJ6_getChars_ba4f3_104  (r := ?_)
      refine tJ6_getChars_ba4f3_106  (kf := fun c_ => by exfalso; exact c_ rfl) (kt := fun _ => ?_)
      refine tJ6_getChars_ba4f3_118  (r := ?_)
      refine tJ6_getChars_ba4f3_120  (hP := ?_)
      have dl : (dgs n).length = 4 := by
        rw [dgs_len]
        rw [if_neg (by omega)]
        rw [if_neg (by omega)]
        rw [if_neg (by omega)]
      have dv : dgs n = [48 + n / 1000, 48 + n / 100 % 10, 48 + n / 10 % 10, 48 + n % 10] := by
        unfold dgs
        rw [if_neg (by omega)]
        rw [if_neg (by omega)]
        rw [if_neg (by omega)]
      refine ⟨_, rfl, upd (upd (upd (upd (f) (e - 1) (vp_nar .byte (nI (48 + n % 100 % 10)))) (e - 1 - 1) (vp_nar .byte (nI (48 + n % 100 / 10)))) (e - 1 - 1 - 1) (vp_nar .byte (nI (48 + (n / 100) % 10)))) (e - 1 - 1 - 1 - 1) (vp_nar .byte (nI (48 + (n / 100) / 10))), At.set_eq2 av.1, ByF.ups (ByF.ups (ByF.ups (ByF.ups (bf) (by omega)) (by omega)) (by omega)) (by omega), fun j hj => ?_, fun j hj => ?_, ?_⟩
      · rw [dl] at hj
        simp only [upd]
        rw [if_neg (by omega)]
        rw [if_neg (by omega)]
        rw [if_neg (by omega)]
        rw [if_neg (by omega)]
      · rw [dl] at hj ⊢
        rw [dv]
        simp only [upd]
        have hj4 : j = 0 ∨ j = 1 ∨ j = 2 ∨ j = 3 := by omega
        rcases hj4 with rfl | rfl | rfl | rfl
        · rw [if_pos (by omega), (by128 _ (by omega)).2.1]
          exact congrArg nI (by simp; try omega)
        · rw [if_neg (by omega)]
          rw [if_pos (by omega), (by128 _ (by omega)).2.1]
          exact congrArg nI (by simp; try omega)
        · rw [if_neg (by omega)]
          rw [if_neg (by omega)]
          rw [if_pos (by omega), (by128 _ (by omega)).2.1]
          exact congrArg nI (by simp; try omega)
        · rw [if_neg (by omega)]
          rw [if_neg (by omega)]
          rw [if_neg (by omega)]
          rw [if_pos (by omega), (by128 _ (by omega)).2.1]
          exact congrArg nI (by simp; try omega)
      · refine ⟨Nat.le_refl _, Nat.le_refl _, Nat.le_refl _, fun j hj nj => ?_⟩
        first | exact if_neg nj | exact (if_neg nj).trans (if_neg nj) | exact (if_neg nj).trans ((if_neg nj).trans (if_neg nj)) | exact (if_neg nj).trans ((if_neg nj).trans ((if_neg nj).trans (if_neg nj)))
theorem s_appI5 (hd : 4 ≤ d) {b v n : Nat} {t : List Nat} (x : SbV h b v t) (hn : n < 10000) (hl : t.length + 4 ≤ 4000) : RQ G mJ5_append_c97b9 d 0 [some (.ref b), some (.int (nI n)), none, none] [] h (Rr fun r h1 => r = b ∧ ∃ v1, SbV h1 b v1 (t ++ dgs n) ∧ (v1 = v ∨ h.1 ≤ v1) ∧ Fb h h1 b v 1 (2 * (t.length + (dgs n).length) + 2)) := by
  obtain ⟨⟨cap, f, mb, hx, hc, hf⟩, tl, tb⟩ := x
  obtain ⟨ab, av, bf, nc, cc⟩ := hx
  have dl4 : (dgs n).length ≤ 4 := by
    rw [dgs_len]
    split
    · omega
    · split
      · omega
      · split <;> omega
  refine tJ5_append_c97b9_0  (r := ?_)
  refine tJ5_append_c97b9_1 (ha := (by first | assumption | (repeat (first | assumption | exact At.set_eq2 (by first | omega | (simp only [hset, hnew]; omega) | rfl | decide) | exact At.new_eq2 _ _ (by first | omega | (simp only [hset, hnew]; omega) | rfl | decide) | refine At.set_ne ?_ (by first | omega | (simp only [hset, hnew]; omega) | rfl | decide) | refine At.new_ne ?_)))) (hv := rfl) (r := ?_)
  refine tJ5_append_c97b9_4  (r := ?_)
  refine tJ5_append_c97b9_5  (r := ?_)
  refine tJ5_append_c97b9_6  (r := ?_)
  refine tJ5_append_c97b9_7 (hd := (by omega)) (call := s_ssize (d := 3) hn) (k := ?_)
  rintro x_ h_ ⟨e_, e2_⟩
  rw [e_, e2_]
  refine tJ5_append_c97b9_10  (r := ?_)
  rw [nI_add]
  refine tJ5_append_c97b9_11  (r := ?_)
  refine tJ5_append_c97b9_12  (r := ?_)
  refine tJ5_append_c97b9_13  (r := ?_)
  refine tJ5_append_c97b9_14 (hd := (by omega)) (ha := (by first | assumption | (repeat (first | assumption | exact At.set_eq2 (by first | omega | (simp only [hset, hnew]; omega) | rfl | decide) | exact At.new_eq2 _ _ (by first | omega | (simp only [hset, hnew]; omega) | rfl | decide) | refine At.set_ne ?_ (by first | omega | (simp only [hset, hnew]; omega) | rfl | decide) | refine At.new_ne ?_)))) (call := s_ensure (d := 3) (by decide) ⟨ab, av, bf, nc, cc⟩ (q := t.length + (dgs n).length) (by omega) (by omega)) (k := ?_)
  rintro h1 ⟨v1, cap1, f1, ⟨bb, vv, ff, nc1, cc1⟩, g1, g2, g3, g4, g5⟩
  have nbv : b ≠ v1 := bb.ne vv (by simp)
  refine tJ5_append_c97b9_17  (r := ?_)
  refine tJ5_append_c97b9_18 (hd := (by omega)) (ha := (by first | assumption | (repeat (first | assumption | exact At.set_eq2 (by first | omega | (simp only [hset, hnew]; omega) | rfl | decide) | exact At.new_eq2 _ _ (by first | omega | (simp only [hset, hnew]; omega) | rfl | decide) | refine At.set_ne ?_ (by first | omega | (simp only [hset, hnew]; omega) | rfl | decide) | refine At.new_ne ?_)))) (call := s_isLat (d := 2) h1 ⟨bb, vv, ff, nc1, cc1⟩) (k := ?_)
  rintro x_ h_ ⟨e_, e2_⟩
  rw [e_, e2_]
  refine tJ5_append_c97b9_21  (kt := fun c_ => by exfalso; exact absurd c_ (by decide)) (kf := fun _ => ?_)
  refine tJ5_append_c97b9_24  (r := ?_)
  refine tJ5_append_c97b9_25  (r := ?_)
  refine tJ5_append_c97b9_26  (r := ?_)
  refine tJ5_append_c97b9_27 (ha := (by first | assumption | (repeat (first | assumption | exact At.set_eq2 (by first | omega | (simp only [hset, hnew]; omega) | rfl | decide) | exact At.new_eq2 _ _ (by first | omega | (simp only [hset, hnew]; omega) | rfl | decide) | refine At.set_ne ?_ (by first | omega | (simp only [hset, hnew]; omega) | rfl | decide) | refine At.new_ne ?_)))) (hv := rfl) (r := ?_)
  refine tJ5_append_c97b9_30 (hd := (by omega)) (call := s_getChars (d := 3) hn vv ff (e := t.length + (dgs n).length) (by omega) g1 cc1) (k := ?_)
  rintro r_ h2 ⟨f2, k1, k2, k3, k4, k5⟩
  have bb2 := k5.at bb nbv
  refine tJ5_append_c97b9_33  (r := ?_)
  refine tJ5_append_c97b9_34 (r := ?_)
  refine tJ5_append_c97b9_48  (r := ?_)
  refine tJ5_append_c97b9_49  (r := ?_)
  refine tJ5_append_c97b9_50 (ha := bb2) (hlen := rfl) (r := ?_)
  refine tJ5_append_c97b9_53  (r := ?_)
  refine tJ5_append_c97b9_54  (hP := ?_)
  have el : (t ++ dgs n).length = t.length + (dgs n).length := List.length_append
  refine ⟨_, rfl, rfl, v1, ⟨⟨cap1, f2, mb, ⟨?_, At.set_ne k1 (Ne.symm nbv), k2, by omega, by omega⟩, by omega, fun j hj => ?_⟩, by omega, fun z hz => ?_⟩, g4, ?_⟩
  · rw [el]
    exact At.set_eq2 bb2.1
  · rw [getD_app]
    by_cases z : j < t.length
    · rw [if_pos z, k3 j (by omega), g3 j (by omega)]
      exact hf j z
    · rw [if_neg z]
      have := k4 (j - t.length) (by omega)
      rw [show t.length + (dgs n).length - (dgs n).length + (j - t.length) = j by omega] at this
      exact this
  · rcases List.mem_append.mp hz with y | y
    · exact tb z y
    · have := dgs_128 hn z y
      omega
  · obtain ⟨p1, p2, p3, p4⟩ := g5
    obtain ⟨q1, q2, q3, q4⟩ := k5
    refine ⟨?_, ?_, ?_, fun j hj n1 n2 => ?_⟩
    · show h.1 ≤ h2.1
      omega
    · show h2.1 ≤ _
      omega
    · show h2.2.1 ≤ _
      omega
    · simp only [hset]
      rw [if_neg n1]
      have z : j ≠ v1 := fun z => by
        rcases g4 with e | e
        · exact n2 (z.trans e)
        · omega
      rw [q4 j (by omega) z]
      exact p4 j hj n1
theorem s_appI (hd : 5 ≤ d) {b v n : Nat} {t : List Nat} (x : SbV h b v t) (hn : n < 10000) (hl : t.length + 4 ≤ 4000) : RQ G mJ4_append_bf812 d 0 [some (.ref b), some (.int (nI n))] [] h (Rr fun r h1 => r = b ∧ ∃ v1, SbV h1 b v1 (t ++ dgs n) ∧ (v1 = v ∨ h.1 ≤ v1) ∧ Fb h h1 b v 1 (2 * (t.length + (dgs n).length) + 2)) := by
  obtain ⟨cap, f, mb, hx, -⟩ := x.1
  have ab := hx.1
  refine tJ4_append_bf812_0  (r := ?_)
  refine tJ4_append_bf812_1  (r := ?_)
  refine tJ4_append_bf812_2 (hd := (by omega)) (ha := (by first | assumption | (repeat (first | assumption | exact At.set_eq2 (by first | omega | (simp only [hset, hnew]; omega) | rfl | decide) | exact At.new_eq2 _ _ (by first | omega | (simp only [hset, hnew]; omega) | rfl | decide) | refine At.set_ne ?_ (by first | omega | (simp only [hset, hnew]; omega) | rfl | decide) | refine At.new_ne ?_)))) (call := s_appI5 (d := 4) (by decide) x hn hl) (k := ?_)
  rintro x_ h_ ⟨e_, q_⟩
  rw [e_]
  refine tJ4_append_bf812_5  (r := ?_)
  refine tJ4_append_bf812_6  (r := ?_)
  refine tJ4_append_bf812_7  (hP := ?_)
  exact ⟨_, rfl, rfl, q_⟩
theorem s_sbInit5 (hd : 1 ≤ d) {b : Nat} (ab : At h b (.inr (17, [.null, .int 0, .int 0, .int 0]))) : RQ G mJ5_init_d00df d 0 [some (.ref b), some (.int (nI 16))] [] h (Rv fun h1 => SbV h1 b h.1 [] ∧ Fc h h1 b 1 16) := by
  refine tJ5_init_d00df_0  (r := ?_)
  refine tJ5_init_d00df_1 (hd := (by omega)) (r := ?_)
  refine tJ5_init_d00df_4  (r := ?_)
  refine tJ5_init_d00df_7  (kt := fun c_ => by exfalso; exact absurd c_ (by decide)) (kf := fun _ => ?_)
  refine tJ5_init_d00df_10  (r := ?_)
  refine tJ5_init_d00df_11  (r := ?_)
  refine tJ5_init_d00df_12 (hx := rfl) (hn := (by decide)) (r := ?_)
  refine tJ5_init_d00df_14 (ha := (At.new_ne ab)) (hlen := rfl) (r := ?_)
  refine tJ5_init_d00df_17  (r := ?_)
  refine tJ5_init_d00df_18  (r := ?_)
  refine tJ5_init_d00df_19 (ha := (At.set_eq2 (Nat.lt_succ_of_lt ab.1))) (hlen := rfl) (hb := (by decide)) (r := ?_)
  refine tJ5_init_d00df_22 (r := ?_)
  refine tJ5_init_d00df_38  (hP := ?_)
  have nb : b ≠ h.1 := Nat.ne_of_lt ab.1
  refine ⟨rfl, ⟨⟨16, fun _ => 0, 0, ⟨At.set_eq2 (Nat.lt_succ_of_lt ab.1), At.set_ne (At.set_ne (At.new_eq _ _ _) (Ne.symm nb)) (Ne.symm nb), ByF.zero, Nat.zero_le _, by decide⟩, by decide, fun j hj => absurd hj (Nat.not_lt_zero j)⟩, by decide, fun c hc => nomatch hc⟩, Nat.le_succ _, Nat.le_refl _, Nat.le_refl _, fun j hj n1 => ?_⟩
  simp only [hset, hnew]
  rw [if_neg n1, if_neg n1, if_neg (by omega)]
theorem s_sbInit (hd : 2 ≤ d) {b : Nat} (ab : At h b (.inr (17, [.null, .int 0, .int 0, .int 0]))) : RQ G mJ4_init_da8c8 d 0 [some (.ref b)] [] h (Rv fun h1 => SbV h1 b h.1 [] ∧ Fc h h1 b 1 16) := by
  refine tJ4_init_da8c8_0  (r := ?_)
  refine tJ4_init_da8c8_1  (r := ?_)
  refine tJ4_init_da8c8_3 (hd := (by omega)) (call := s_sbInit5 (d := 1) (by decide) ab) (k := ?_)
  rintro h_ q_
  refine tJ4_init_da8c8_6  (hP := ?_)
  exact ⟨rfl, q_⟩
theorem s_sbInitS5 (hd : 7 ≤ d) {b k : Nat} {s : List Nat} (ab : At h b (.inr (17, [.null, .int 0, .int 0, .int 0]))) (y : StR h k s) : RQ G mJ5_init_a7421 d 0 [some (.ref b), some (.ref k), none, none, none] [] h (Rv fun h1 => ∃ v1, SbV h1 b v1 s ∧ h.1 ≤ v1 ∧ Fc h h1 b 2 (4 * s.length + 40)) := by
  have so := y.o
  have sl := y.2.1
  refine tJ5_init_a7421_0  (r := ?_)
  refine tJ5_init_a7421_1 (hd := (by omega)) (r := ?_)
  refine tJ5_init_a7421_4  (r := ?_)
  refine tJ5_init_a7421_5s (hs := so) (hd := (by omega)) (call := s_slen (d := 6) (by decide) y) (k := ?_)
  rintro x_ h_ ⟨e_, e2_⟩
  rw [e_, e2_]
  refine tJ5_init_a7421_8  (r := ?_)
  refine tJ5_init_a7421_9  (r := ?_)
  refine tJ5_init_a7421_10  (r := ?_)
  refine tJ5_init_a7421_12  (kt := fun c_ => by exfalso; exact absurd (show nI 2147483631 ≤ nI s.length from c_) (fun z => by have := (nI_leI (by decide) (by omega)).mp z; omega)) (kf := fun _ => ?_)
  refine tJ5_init_a7421_15  (r := ?_)
  refine tJ5_init_a7421_16  (r := ?_)
  refine tJ5_init_a7421_18  (r := ?_)
  rw [nI_add]
  refine tJ5_init_a7421_19 (r := ?_)
  refine tJ5_init_a7421_24  (r := ?_)
  refine tJ5_init_a7421_25  (r := ?_)
  refine tJ5_init_a7421_26s (hs := so) (hd := (by omega)) (call := s_scod (d := 6) y) (k := ?_)
  rintro x_ h_ ⟨e_, e2_⟩
  rw [e_, e2_]
  refine tJ5_init_a7421_29  (r := ?_)
  refine tJ5_init_a7421_31  (r := ?_)
  refine tJ5_init_a7421_32  (r := ?_)
  refine tJ5_init_a7421_34 (ha := ab) (hlen := rfl) (hb := (by decide)) (r := ?_)
  refine tJ5_init_a7421_37  (r := ?_)
  refine tJ5_init_a7421_38  (r := ?_)
  refine tJ5_init_a7421_40  (kt := fun c_ => by exfalso; exact c_ rfl) (kf := fun _ => ?_)
  refine tJ5_init_a7421_43  (r := ?_)
  refine tJ5_init_a7421_44 (hx := rfl) (hn := (by omega)) (r := ?_)
  refine tJ5_init_a7421_46 (r := ?_)
  refine tJ5_init_a7421_53 (ha := (At.new_ne (At.set_eq2 ab.1))) (hlen := rfl) (r := ?_)
  have nb : b ≠ h.1 := Nat.ne_of_lt ab.1
  generalize eh3 : hset (hnew (hset h b _) _ _) b _ = h3
  have sb3 : SbW h3 b h.1 [] (([] : List Nat).length + s.length) := by
    rw [← eh3]
    exact ⟨⟨s.length + 16, fun _ => 0, 0, ⟨At.set_eq2 (Nat.lt_succ_of_lt ab.1), At.set_ne (At.new_eq _ _ _) (Ne.symm nb), ByF.zero, Nat.zero_le _, by omega⟩, by show s.length + 16 ≤ 2 * (0 + s.length) + 34; omega, fun j hj => absurd hj (Nat.not_lt_zero j)⟩, by decide, fun c hc => nomatch hc⟩
  have fc3 : Fc h h3 b 1 (s.length + 16) := by
    rw [← eh3]
    refine ⟨Nat.le_succ _, Nat.le_refl _, Nat.le_refl _, fun j hj n1 => ?_⟩
    exact (if_neg n1).trans ((if_neg (show ¬ j = h.1 by omega)).trans (if_neg n1))
  have y3 := y.fc fc3 ⟨_, ab⟩
  have ab3 := sb3.1.choose_spec.choose_spec.choose_spec.1.1
  refine tJ5_init_a7421_56  (r := ?_)
  refine tJ5_init_a7421_57  (r := ?_)
  refine tJ5_init_a7421_58 (hd := (by omega)) (ha := ab3) (call := s_appBrw (d := 6) (by decide) sb3 y3 (by show 0 + s.length ≤ 4000; omega)) (k := ?_)
  rintro r_ h4 ⟨e_, v1, q1, q2, q3⟩
  rw [e_]
  refine tJ5_init_a7421_61  (r := ?_)
  refine tJ5_init_a7421_62  (hP := ?_)
  obtain ⟨k1, k2, k3, k4⟩ := fc3
  obtain ⟨p1, p2, p3, p4⟩ := q3
  have p3 : h4.2.1 ≤ h3.2.1 + (2 * (0 + s.length) + 2) := p3
  refine ⟨rfl, v1, q1, by omega, by omega, by omega, by omega, fun j hj n1 => ?_⟩
  rw [p4 j (by omega) n1 (by omega)]
  exact k4 j hj n1
theorem s_sbInitS (hd : 8 ≤ d) {b k : Nat} {s : List Nat} (ab : At h b (.inr (17, [.null, .int 0, .int 0, .int 0]))) (y : StR h k s) : RQ G mJ4_init_a7421 d 0 [some (.ref b), some (.ref k)] [] h (Rv fun h1 => ∃ v1, SbV h1 b v1 s ∧ h.1 ≤ v1 ∧ Fc h h1 b 2 (4 * s.length + 40)) := by
  refine tJ4_init_a7421_0  (r := ?_)
  refine tJ4_init_a7421_1  (r := ?_)
  refine tJ4_init_a7421_2 (hd := (by omega)) (call := s_sbInitS5 (d := 7) (by decide) ab y) (k := ?_)
  rintro h_ q_
  refine tJ4_init_a7421_5  (hP := ?_)
  exact ⟨rfl, q_⟩
theorem s_chkLen {a b : Nat} (hb : b < 100000) (h1 : a ≤ b) : RQ G mJ7_checkLength_df160 d 0 [some (.int (nI a)), some (.int (nI b))] [] h (Rv fun h1 => h1 = h) := by
  refine tJ7_checkLength_df160_0  (r := ?_)
  refine tJ7_checkLength_df160_1  (r := ?_)
  refine tJ7_checkLength_df160_2  (kf := fun c_ => by exfalso; exact c_ ((nI_leI (by omega) (by omega)).mpr h1)) (kt := fun _ => ?_)
  refine tJ7_checkLength_df160_37  (hP := ?_)
  exact ⟨rfl, rfl⟩
theorem s_cRangeB (hd : 2 ≤ d) {v cap n : Nat} {f : Nat → Int32} (av : At h v (.inl (1, cap, .inl f))) (bf : ByF f) (h1 : n ≤ cap) (h2 : cap ≤ 20000) : RQ G mJ7_copyOfRangeByte_39247 d 0 [some (.ref v), some (.int (nI 0)), some (.int (nI n)), none, none] [] h (Rr fun r h1 => r = h.1 ∧ (∃ f1, At h1 h.1 (.inl (1, n, .inl f1)) ∧ (∀ j, j < n → f1 j = f j) ∧ ByF f1) ∧ Ch h h1 0 0 1 n) := by
  have em : (if nI n < nI cap then nI n else nI cap) = nI n := by
    by_cases z : n < cap
    · exact if_pos ((nI_ltI (by omega) (by omega)).mpr z)
    · rw [if_neg (nI_nlt (by omega) (by omega)), show cap = n by omega]
  refine tJ7_copyOfRangeByte_39247_0  (r := ?_)
  refine tJ7_copyOfRangeByte_39247_1  (r := ?_)
  refine tJ7_copyOfRangeByte_39247_2 (hd := (by omega)) (call := s_chkLen (d := 1) (by omega) (Nat.zero_le _)) (k := ?_)
  rintro h_ e_
  rw [e_]
  refine tJ7_copyOfRangeByte_39247_5  (r := ?_)
  refine tJ7_copyOfRangeByte_39247_6  (r := ?_)
  refine tJ7_copyOfRangeByte_39247_7  (r := ?_)
  rw [show nI n - nI 0 = nI n from pk_sub (a := n) (b := 0) (Nat.zero_le _)]
  refine tJ7_copyOfRangeByte_39247_8  (r := ?_)
  refine tJ7_copyOfRangeByte_39247_9  (r := ?_)
  refine tJ7_copyOfRangeByte_39247_10 (hx := rfl) (hn := (by omega)) (r := ?_)
  refine tJ7_copyOfRangeByte_39247_12  (r := ?_)
  refine tJ7_copyOfRangeByte_39247_14  (r := ?_)
  refine tJ7_copyOfRangeByte_39247_15  (r := ?_)
  refine tJ7_copyOfRangeByte_39247_16  (r := ?_)
  refine tJ7_copyOfRangeByte_39247_18  (r := ?_)
  refine tJ7_copyOfRangeByte_39247_19  (r := ?_)
  refine tJ7_copyOfRangeByte_39247_20 (t := 1) (ha := (by first | assumption | (repeat (first | assumption | exact At.set_eq2 (by first | omega | (simp only [hset, hnew]; omega) | rfl | decide) | exact At.new_eq2 _ _ (by first | omega | (simp only [hset, hnew]; omega) | rfl | decide) | refine At.set_ne ?_ (by first | omega | (simp only [hset, hnew]; omega) | rfl | decide) | refine At.new_ne ?_)))) (ht := rfl) (r := ?_)
  refine tJ7_copyOfRangeByte_39247_21  (r := ?_)
  refine tJ7_copyOfRangeByte_39247_22  (r := ?_)
  rw [show nI cap - nI 0 = nI cap from pk_sub (a := cap) (b := 0) (Nat.zero_le _)]
  refine tJ7_copyOfRangeByte_39247_23  (r := ?_)
  refine tJ7_copyOfRangeByte_39247_24 (hd := (by omega)) (r := ?_)
  rw [em]
  refine tJ7_copyOfRangeByte_39247_27 (sp := 0) (dp := 0) (hd := (by omega)) (ha0 := (by first | assumption | (repeat (first | assumption | exact At.set_eq2 (by first | omega | (simp only [hset, hnew]; omega) | rfl | decide) | exact At.new_eq2 _ _ (by first | omega | (simp only [hset, hnew]; omega) | rfl | decide) | refine At.set_ne ?_ (by first | omega | (simp only [hset, hnew]; omega) | rfl | decide) | refine At.new_ne ?_)))) (ha1 := (At.new_eq h n _)) (hxs := (by first | rfl | assumption | exact nI_add _ _)) (hxd := (by first | rfl | assumption | exact nI_add _ _)) (hxn := (by first | rfl | assumption | exact nI_add _ _)) (hb0 := (by omega)) (hb1 := (by omega)) (hn0 := (by omega)) (hn1 := (by omega)) (hf := (fun i _ => bf _)) (r := ?_)
  refine tJ7_copyOfRangeByte_39247_30  (r := ?_)
  refine tJ7_copyOfRangeByte_39247_32  (hP := ?_)
  refine ⟨_, rfl, rfl, ⟨_, At.set_eq2 (Nat.lt_succ_self _), fun j hj => sb_cpy0 hj, ByF.zero.cpy (fun j _ => bf _)⟩, ((Ch.rf h 0 0 0 0).new (Nat.zero_le _)).set9 (Nat.le_refl _) (Nat.zero_le _) |>.sub (Nat.le_refl _) (Nat.le_refl _) (by omega) (by omega)⟩
theorem s_cRange (hd : 3 ≤ d) {v cap n : Nat} {f : Nat → Int32} (av : At h v (.inl (1, cap, .inl f))) (bf : ByF f) (h1 : n ≤ cap) (h2 : cap ≤ 20000) : RQ G mJ7_copyOfRange_39247 d 0 [some (.ref v), some (.int (nI 0)), some (.int (nI n))] [] h (Rr fun r h1 => r = h.1 ∧ (∃ f1, At h1 h.1 (.inl (1, n, .inl f1)) ∧ (∀ j, j < n → f1 j = f j) ∧ ByF f1) ∧ Ch h h1 0 0 1 n) := by
  refine tJ7_copyOfRange_39247_0  (r := ?_)
  refine tJ7_copyOfRange_39247_1  (kt := fun c_ => by exfalso; exact c_ rfl) (kf := fun _ => ?_)
  refine tJ7_copyOfRange_39247_4  (r := ?_)
  refine tJ7_copyOfRange_39247_5  (r := ?_)
  refine tJ7_copyOfRange_39247_6 (t := 1) (ha := (by first | assumption | (repeat (first | assumption | exact At.set_eq2 (by first | omega | (simp only [hset, hnew]; omega) | rfl | decide) | exact At.new_eq2 _ _ (by first | omega | (simp only [hset, hnew]; omega) | rfl | decide) | refine At.set_ne ?_ (by first | omega | (simp only [hset, hnew]; omega) | rfl | decide) | refine At.new_ne ?_)))) (ht := rfl) (r := ?_)
  refine tJ7_copyOfRange_39247_7  (kt := fun c_7 => ?_) (kf := fun c_7 => ?_)
  · have e9 : n = cap := (nI_eq (by omega) (by omega)).mp c_7
    subst e9
    refine tJ7_copyOfRange_39247_17  (r := ?_)
    refine tJ7_copyOfRange_39247_18 (ha := (by first | assumption | (repeat (first | assumption | exact At.set_eq2 (by first | omega | (simp only [hset, hnew]; omega) | rfl | decide) | exact At.new_eq2 _ _ (by first | omega | (simp only [hset, hnew]; omega) | rfl | decide) | refine At.set_ne ?_ (by first | omega | (simp only [hset, hnew]; omega) | rfl | decide) | refine At.new_ne ?_)))) (hfit := bf) (hdd := (by omega)) (r := ?_)
    refine tJ7_copyOfRange_39247_21 (ha := (At.new_eq h n _)) (r := ?_)
    refine tJ7_copyOfRange_39247_24  (hP := ?_)
    exact ⟨_, rfl, rfl, ⟨f, At.new_eq h n _, fun _ _ => rfl, bf⟩, ((Ch.rf h 0 0 0 0).new (Nat.zero_le _)).sub (Nat.le_refl _) (Nat.le_refl _) (by omega) (by omega)⟩
  · refine tJ7_copyOfRange_39247_10  (r := ?_)
    refine tJ7_copyOfRange_39247_11  (r := ?_)
    refine tJ7_copyOfRange_39247_12  (r := ?_)
    refine tJ7_copyOfRange_39247_13 (hd := (by omega)) (call := s_cRangeB (d := 2) (by decide) av bf h1 h2) (k := ?_)
    rintro r_ h_ ⟨e_, q_⟩
    rw [e_]
    refine tJ7_copyOfRange_39247_16  (hP := ?_)
    exact ⟨_, rfl, rfl, q_⟩
theorem s_sbVal {b v cap n : Nat} {f : Nat → Int32} {mb : Int32} (x : SbX h b v cap f mb n) : RQ G mJ5_getValue_6d5f1 d 0 [some (.ref b)] [] h (Rr fun r h1 => r = v ∧ h1 = h) := by
  obtain ⟨ab, av, bf, nc, cc⟩ := x
  have nbv : b ≠ v := ab.ne av (by simp)
  refine tJ5_getValue_6d5f1_0  (r := ?_)
  refine tJ5_getValue_6d5f1_1 (ha := (by first | assumption | (repeat (first | assumption | exact At.set_eq2 (by first | omega | (simp only [hset, hnew]; omega) | rfl | decide) | exact At.new_eq2 _ _ (by first | omega | (simp only [hset, hnew]; omega) | rfl | decide) | refine At.set_ne ?_ (by first | omega | (simp only [hset, hnew]; omega) | rfl | decide) | refine At.new_ne ?_)))) (hv := rfl) (r := ?_)
  refine tJ5_getValue_6d5f1_4  (hP := ?_)
  exact ⟨_, rfl, rfl, rfl⟩
theorem s_sbLen5 {b v cap n : Nat} {f : Nat → Int32} {mb : Int32} (x : SbX h b v cap f mb n) : RQ G mJ5_length_8abf5 d 0 [some (.ref b)] [] h (Ri fun r h1 => r = nI n ∧ h1 = h) := by
  obtain ⟨ab, av, bf, nc, cc⟩ := x
  have nbv : b ≠ v := ab.ne av (by simp)
  refine tJ5_length_8abf5_0  (r := ?_)
  refine tJ5_length_8abf5_1 (ha := (by first | assumption | (repeat (first | assumption | exact At.set_eq2 (by first | omega | (simp only [hset, hnew]; omega) | rfl | decide) | exact At.new_eq2 _ _ (by first | omega | (simp only [hset, hnew]; omega) | rfl | decide) | refine At.set_ne ?_ (by first | omega | (simp only [hset, hnew]; omega) | rfl | decide) | refine At.new_ne ?_)))) (hv := rfl) (r := ?_)
  refine tJ5_length_8abf5_4  (hP := ?_)
  exact ⟨_, rfl, rfl, rfl⟩
theorem s_sbLen (hd : 1 ≤ d) {b v cap n : Nat} {f : Nat → Int32} {mb : Int32} (x : SbX h b v cap f mb n) : RQ G mJ4_length_8abf5 d 0 [some (.ref b)] [] h (Ri fun r h1 => r = nI n ∧ h1 = h) := by
  have ab := x.1
  refine tJ4_length_8abf5_0  (r := ?_)
  refine tJ4_length_8abf5_1 (hd := (by omega)) (ha := (by first | assumption | (repeat (first | assumption | exact At.set_eq2 (by first | omega | (simp only [hset, hnew]; omega) | rfl | decide) | exact At.new_eq2 _ _ (by first | omega | (simp only [hset, hnew]; omega) | rfl | decide) | refine At.set_ne ?_ (by first | omega | (simp only [hset, hnew]; omega) | rfl | decide) | refine At.new_ne ?_)))) (call := s_sbLen5 (d := 0) x) (k := ?_)
  rintro r_ h_ ⟨e_, e2_⟩
  rw [e_, e2_]
  refine tJ4_length_8abf5_4  (hP := ?_)
  exact ⟨_, rfl, rfl, rfl⟩
theorem s_sInit5 (hd : 4 ≤ d) {k b v : Nat} {t : List Nat} (ak : At h k (.inr (16, [.null, .int 0, .int 0, .int 0]))) (x : SbV h b v t) : RQ G mJ0_init_db425 d 0 [some (.ref k), some (.ref b), some .null, none, none] [] h (Rv fun h1 => StN h1 k h.1 t ∧ Fc h h1 k 1 t.length) := by
  obtain ⟨⟨cap, f, mb, hx, hc, hf⟩, tl, tb⟩ := x
  have ab := hx.1
  have av := hx.2.1
  have nkb : k ≠ b := ak.ne ab (by simp)
  have nkv : k ≠ v := ak.ne av (by simp)
  refine tJ0_init_db425_0  (r := ?_)
  refine tJ0_init_db425_1 (hd := (by omega)) (r := ?_)
  refine tJ0_init_db425_4  (r := ?_)
  refine tJ0_init_db425_5 (hd := (by omega)) (ha := (by first | assumption | (repeat (first | assumption | exact At.set_eq2 (by first | omega | (simp only [hset, hnew]; omega) | rfl | decide) | exact At.new_eq2 _ _ (by first | omega | (simp only [hset, hnew]; omega) | rfl | decide) | refine At.set_ne ?_ (by first | omega | (simp only [hset, hnew]; omega) | rfl | decide) | refine At.new_ne ?_)))) (call := s_sbVal (d := 3) hx) (k := ?_)
  rintro r_ h_ ⟨e_, e2_⟩
  rw [e_, e2_]
  refine tJ0_init_db425_8  (r := ?_)
  refine tJ0_init_db425_9  (r := ?_)
  refine tJ0_init_db425_10 (hd := (by omega)) (ha := (by first | assumption | (repeat (first | assumption | exact At.set_eq2 (by first | omega | (simp only [hset, hnew]; omega) | rfl | decide) | exact At.new_eq2 _ _ (by first | omega | (simp only [hset, hnew]; omega) | rfl | decide) | refine At.set_ne ?_ (by first | omega | (simp only [hset, hnew]; omega) | rfl | decide) | refine At.new_ne ?_)))) (call := s_sbLen (d := 3) (by decide) hx) (k := ?_)
  rintro r_ h_ ⟨e_, e2_⟩
  rw [e_, e2_]
  refine tJ0_init_db425_13  (r := ?_)
  refine tJ0_init_db425_15  (r := ?_)
  refine tJ0_init_db425_16 (hd := (by omega)) (ha := (by first | assumption | (repeat (first | assumption | exact At.set_eq2 (by first | omega | (simp only [hset, hnew]; omega) | rfl | decide) | exact At.new_eq2 _ _ (by first | omega | (simp only [hset, hnew]; omega) | rfl | decide) | refine At.set_ne ?_ (by first | omega | (simp only [hset, hnew]; omega) | rfl | decide) | refine At.new_ne ?_)))) (call := s_isLat (d := 3) h hx) (k := ?_)
  rintro r_ h_ ⟨e_, e2_⟩
  rw [e_, e2_]
  refine tJ0_init_db425_19  (kt := fun c_ => by exfalso; exact absurd c_ (by decide)) (kf := fun _ => ?_)
  refine tJ0_init_db425_22  (r := ?_)
  refine tJ0_init_db425_23  (r := ?_)
  refine tJ0_init_db425_24 (ha := ak) (hlen := rfl) (hb := (by decide)) (r := ?_)
  refine tJ0_init_db425_27  (r := ?_)
  refine tJ0_init_db425_28  (r := ?_)
  refine tJ0_init_db425_29  (r := ?_)
  refine tJ0_init_db425_30  (r := ?_)
  refine tJ0_init_db425_32 (hd := (by omega)) (call := s_cRange (d := 3) (by decide) (h := hset h k (.inr (16, [.null, .int 0, .int 0, .int 0]))) (At.set_ne av (Ne.symm nkv)) hx.2.2.1 hx.2.2.2.1 hx.2.2.2.2) (k := ?_)
  rintro r_ h2 ⟨e_, ⟨f1, q1, q2, q3⟩, q4⟩
  rw [e_]
  have ak2 : At h2 k (.inr (16, [.null, .int 0, .int 0, .int 0])) := At.keep (At.set_eq2 ak.1) q4.1 (q4.2.2.2.2 k (Nat.zero_le _) ak.1)
  refine tJ0_init_db425_35 (ha := ak2) (hlen := rfl) (r := ?_)
  refine tJ0_init_db425_38 (r := ?_)
  refine tJ0_init_db425_97  (hP := ?_)
  have hk := ak.1
  refine ⟨rfl, ⟨⟨0, 0, At.set_eq2 ak2.1⟩, f1, At.set_ne q1 (show h.1 ≠ k by omega), fun j hj => (q2 j hj).trans (hf j hj), q3⟩, q4.1, q4.2.1, q4.2.2.1, fun j hj n1 => ?_⟩
  simp only [hset]
  rw [if_neg n1, q4.2.2.2.2 j (Nat.zero_le _) hj]
  exact if_neg n1
theorem s_sInit (hd : 5 ≤ d) {k b v : Nat} {t : List Nat} (ak : At h k (.inr (16, [.null, .int 0, .int 0, .int 0]))) (x : SbV h b v t) : RQ G mJ0_init_81219 d 0 [some (.ref k), some (.ref b)] [] h (Rv fun h1 => StN h1 k h.1 t ∧ Fc h h1 k 1 t.length) := by
  refine tJ0_init_81219_0  (r := ?_)
  refine tJ0_init_81219_1  (r := ?_)
  refine tJ0_init_81219_2  (r := ?_)
  refine tJ0_init_81219_3 (a0 := some b) (a1 := none) (hd := (by omega)) (call := s_sInit5 (d := 4) (by decide) ak x) (k := ?_)
  rintro h_ q_
  refine tJ0_init_81219_6  (hP := ?_)
  exact ⟨rfl, q_⟩
theorem SbV.new {h : AH} {b v n : Nat} {t : List Nat} {c : AC} (x : SbV h b v t) : SbV (hnew h n c) b v t := by
  obtain ⟨⟨cap, f, mb, ⟨a1, a2, a3, a4, a5⟩, hc, hf⟩, tl, tb⟩ := x
  exact ⟨⟨cap, f, mb, ⟨At.new_ne a1, At.new_ne a2, a3, a4, a5⟩, hc, hf⟩, tl, tb⟩

theorem s_toStr (hd : 6 ≤ d) {b v : Nat} {t : List Nat} (x : SbV h b v t) : RQ G mJ4_toString_0e30d d 0 [some (.ref b)] [] h (Rr fun r h1 => r = h.1 ∧ StN h1 h.1 (h.1 + 1) t ∧ Ch h h1 0 0 2 (t.length + 4)) := by
  refine tJ4_toString_0e30d_0  (r := ?_)
  refine tJ4_toString_0e30d_3  (r := ?_)
  refine tJ4_toString_0e30d_4  (r := ?_)
  refine tJ4_toString_0e30d_5 (hd := (by omega)) (call := s_sInit (d := 5) (by decide) (k := h.1) (At.new_eq h 4 _) x.new) (k := ?_)
  rintro h2 ⟨q1, q2, q3, q4, q5⟩
  refine tJ4_toString_0e30d_8  (hP := ?_)
  have q2 : h.1 + 1 ≤ h2.1 := q2
  have q3 : h2.1 ≤ h.1 + 1 + 1 := q3
  have q4 : h2.2.1 ≤ h.2.1 + 4 + t.length := q4
  refine ⟨_, rfl, rfl, q1, by omega, by omega, by omega, fun i a b9 => absurd b9 (Nat.not_lt_zero i), fun i _ b9 => ?_⟩
  rw [q5 i (Nat.lt_succ_of_lt b9) (by omega)]
  exact if_neg (by omega)
end JD
