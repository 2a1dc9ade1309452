theorem dfJ0 : ∀ j, j < 4 → defaultValue (tyJ0 j) = vp_V [.null, .int 0, .int 0, .int 0] j := by decide +kernel
theorem dnJ0 : ∀ v ∈ ([.null, .int 0, .int 0, .int 0] : List Value), ∀ k, v ≠ .ref k := by intro v hv k e; subst e; revert hv; simp
theorem dfJ4 : ∀ j, j < 4 → defaultValue (tyJ4 j) = vp_V [.null, .int 0, .int 0, .int 0] j := by decide +kernel
theorem dnJ4 : ∀ v ∈ ([.null, .int 0, .int 0, .int 0] : List Value), ∀ k, v ≠ .ref k := by intro v hv k e; subst e; revert hv; simp
theorem dfX1 : ∀ j, j < 11 → defaultValue (tyX1 j) = vp_V [.null, .null, .null, .null, .null, .null, .null, .null, .int 0, .int 0, .int 0] j := by decide +kernel
theorem dnX1 : ∀ v ∈ ([.null, .null, .null, .null, .null, .null, .null, .null, .int 0, .int 0, .int 0] : List Value), ∀ k, v ≠ .ref k := by intro v hv k e; subst e; revert hv; simp
theorem dfX10 : ∀ j, j < 7 → defaultValue (tyX10 j) = vp_V [.null, .null, .null, .null, .null, .null, .int 0] j := by decide +kernel
theorem dnX10 : ∀ v ∈ ([.null, .null, .null, .null, .null, .null, .int 0] : List Value), ∀ k, v ≠ .ref k := by intro v hv k e; subst e; revert hv; simp
theorem dfX11 : ∀ j, j < 3 → defaultValue (tyX11 j) = vp_V [.int 0, .int 0, .null] j := by decide +kernel
theorem dnX11 : ∀ v ∈ ([.int 0, .int 0, .null] : List Value), ∀ k, v ≠ .ref k := by intro v hv k e; subst e; revert hv; simp
theorem dfX12 : ∀ j, j < 4 → defaultValue (tyX12 j) = vp_V [.null, .null, .null, .int 0] j := by decide +kernel
theorem dnX12 : ∀ v ∈ ([.null, .null, .null, .int 0] : List Value), ∀ k, v ≠ .ref k := by intro v hv k e; subst e; revert hv; simp
theorem dfX13 : ∀ j, j < 1 → defaultValue (tyX13 j) = vp_V [.int 0] j := by decide +kernel
theorem dnX13 : ∀ v ∈ ([.int 0] : List Value), ∀ k, v ≠ .ref k := by intro v hv k e; subst e; revert hv; simp
theorem dfX14 : ∀ j, j < 3 → defaultValue (tyX14 j) = vp_V [.int 0, .int 0, .null] j := by decide +kernel
theorem dnX14 : ∀ v ∈ ([.int 0, .int 0, .null] : List Value), ∀ k, v ≠ .ref k := by intro v hv k e; subst e; revert hv; simp
theorem dfX15 : ∀ j, j < 3 → defaultValue (tyX15 j) = vp_V [.int 0, .int 0, .null] j := by decide +kernel
theorem dnX15 : ∀ v ∈ ([.int 0, .int 0, .null] : List Value), ∀ k, v ≠ .ref k := by intro v hv k e; subst e; revert hv; simp
theorem dfX16 : ∀ j, j < 4 → defaultValue (tyX16 j) = vp_V [.int 0, .int 0, .null, .null] j := by decide +kernel
theorem dnX16 : ∀ v ∈ ([.int 0, .int 0, .null, .null] : List Value), ∀ k, v ≠ .ref k := by intro v hv k e; subst e; revert hv; simp
theorem dfX17 : ∀ j, j < 2 → defaultValue (tyX17 j) = vp_V [.null, .null] j := by decide +kernel
theorem dnX17 : ∀ v ∈ ([.null, .null] : List Value), ∀ k, v ≠ .ref k := by intro v hv k e; subst e; revert hv; simp
theorem dfX2 : ∀ j, j < 3 → defaultValue (tyX2 j) = vp_V [.null, .int 0, .int 0] j := by decide +kernel
theorem dnX2 : ∀ v ∈ ([.null, .int 0, .int 0] : List Value), ∀ k, v ≠ .ref k := by intro v hv k e; subst e; revert hv; simp
theorem dfX3 : ∀ j, j < 5 → defaultValue (tyX3 j) = vp_V [.null, .null, .null, .null, .int 0] j := by decide +kernel
theorem dnX3 : ∀ v ∈ ([.null, .null, .null, .null, .int 0] : List Value), ∀ k, v ≠ .ref k := by intro v hv k e; subst e; revert hv; simp
theorem dfX4 : ∀ j, j < 10 → defaultValue (tyX4 j) = vp_V [.null, .null, .null, .null, .int 0, .null, .int 0, .int 0, .int 0, .int 0] j := by decide +kernel
theorem dnX4 : ∀ v ∈ ([.null, .null, .null, .null, .int 0, .null, .int 0, .int 0, .int 0, .int 0] : List Value), ∀ k, v ≠ .ref k := by intro v hv k e; subst e; revert hv; simp
theorem dfX6 : ∀ j, j < 7 → defaultValue (tyX6 j) = vp_V [.null, .null, .int 0, .null, .int 0, .int 0, .int 0] j := by decide +kernel
theorem dnX6 : ∀ v ∈ ([.null, .null, .int 0, .null, .int 0, .int 0, .int 0] : List Value), ∀ k, v ≠ .ref k := by intro v hv k e; subst e; revert hv; simp
theorem dfX7 : ∀ j, j < 8 → defaultValue (tyX7 j) = vp_V [.null, .null, .null, .null, .null, .int 0, .int 0, .int 0] j := by decide +kernel
theorem dnX7 : ∀ v ∈ ([.null, .null, .null, .null, .null, .int 0, .int 0, .int 0] : List Value), ∀ k, v ≠ .ref k := by intro v hv k e; subst e; revert hv; simp
theorem dfX8 : ∀ j, j < 2 → defaultValue (tyX8 j) = vp_V [.null, .int 0] j := by decide +kernel
theorem dnX8 : ∀ v ∈ ([.null, .int 0] : List Value), ∀ k, v ≠ .ref k := by intro v hv k e; subst e; revert hv; simp
theorem dfX9 : ∀ j, j < 4 → defaultValue (tyX9 j) = vp_V [.null, .null, .null, .int 0] j := by decide +kernel
theorem dnX9 : ∀ v ∈ ([.null, .null, .null, .int 0] : List Value), ∀ k, v ≠ .ref k := by intro v hv k e; subst e; revert hv; simp
/-! what a call gives, by its answer's kind -/
def Ri (Q : Int32 → AH → Prop) : OC → AH → Prop := fun o h => ∃ x, o = .inl (some (.int x)) ∧ Q x h
def Rj (Q : Int64 → AH → Prop) : OC → AH → Prop := fun o h => ∃ x, o = .inl (some (.long x)) ∧ Q x h
def Rd (Q : UInt64 → AH → Prop) : OC → AH → Prop := fun o h => ∃ x, o = .inl (some (.double x)) ∧ Q x h
def Rr (Q : Nat → AH → Prop) : OC → AH → Prop := fun o h => ∃ x, o = .inl (some (.ref x)) ∧ Q x h
def Rv (Q : AH → Prop) : OC → AH → Prop := fun o h => o = .inl none ∧ Q h
def Rx (R0 : OC → AH → Prop) (QX : String → AH → Prop) : OC → AH → Prop := fun o h => R0 o h ∨ ∃ E, o = .inr E ∧ QX E h
section CK
variable {G : GT} {M : MI} {d pc : Nat} {L : List (Option Value)} {S : List Value} {P : OC → AH → Prop} {QX : String → AH → Prop}
theorem callk_i {Q : Int32 → AH → Prop} (k : ∀ x h1, Q x h1 → RQ G M d pc L (.int x :: S) h1 P) : ∀ o h1, Ri Q o h1 → ∃ v, o = .inl v ∧ RQ G M d pc L (v.toList ++ S) h1 P := by
  rintro o h1 ⟨x, rfl, q⟩
  exact ⟨_, rfl, k x h1 q⟩
theorem callk_ix {Q : Int32 → AH → Prop} (k : ∀ x h1, Q x h1 → RQ G M d pc L (.int x :: S) h1 P) (kx : ∀ E h1, QX E h1 → P (.inr E) h1) : ∀ o h1, Rx (Ri Q) QX o h1 → (∃ v, o = .inl v ∧ RQ G M d pc L (v.toList ++ S) h1 P) ∨ ∃ E, o = .inr E ∧ P (.inr E) h1 := by
  rintro o h1 (⟨x, rfl, q⟩ | ⟨E, rfl, q⟩)
  · exact Or.inl ⟨_, rfl, k x h1 q⟩
  · exact Or.inr ⟨E, rfl, kx E h1 q⟩
theorem callk_j {Q : Int64 → AH → Prop} (k : ∀ x h1, Q x h1 → RQ G M d pc L (.long x :: S) h1 P) : ∀ o h1, Rj Q o h1 → ∃ v, o = .inl v ∧ RQ G M d pc L (v.toList ++ S) h1 P := by
  rintro o h1 ⟨x, rfl, q⟩
  exact ⟨_, rfl, k x h1 q⟩
theorem callk_jx {Q : Int64 → AH → Prop} (k : ∀ x h1, Q x h1 → RQ G M d pc L (.long x :: S) h1 P) (kx : ∀ E h1, QX E h1 → P (.inr E) h1) : ∀ o h1, Rx (Rj Q) QX o h1 → (∃ v, o = .inl v ∧ RQ G M d pc L (v.toList ++ S) h1 P) ∨ ∃ E, o = .inr E ∧ P (.inr E) h1 := by
  rintro o h1 (⟨x, rfl, q⟩ | ⟨E, rfl, q⟩)
  · exact Or.inl ⟨_, rfl, k x h1 q⟩
  · exact Or.inr ⟨E, rfl, kx E h1 q⟩
theorem callk_d {Q : UInt64 → AH → Prop} (k : ∀ x h1, Q x h1 → RQ G M d pc L (.double x :: S) h1 P) : ∀ o h1, Rd Q o h1 → ∃ v, o = .inl v ∧ RQ G M d pc L (v.toList ++ S) h1 P := by
  rintro o h1 ⟨x, rfl, q⟩
  exact ⟨_, rfl, k x h1 q⟩
theorem callk_dx {Q : UInt64 → AH → Prop} (k : ∀ x h1, Q x h1 → RQ G M d pc L (.double x :: S) h1 P) (kx : ∀ E h1, QX E h1 → P (.inr E) h1) : ∀ o h1, Rx (Rd Q) QX o h1 → (∃ v, o = .inl v ∧ RQ G M d pc L (v.toList ++ S) h1 P) ∨ ∃ E, o = .inr E ∧ P (.inr E) h1 := by
  rintro o h1 (⟨x, rfl, q⟩ | ⟨E, rfl, q⟩)
  · exact Or.inl ⟨_, rfl, k x h1 q⟩
  · exact Or.inr ⟨E, rfl, kx E h1 q⟩
theorem callk_r {Q : Nat → AH → Prop} (k : ∀ x h1, Q x h1 → RQ G M d pc L (.ref x :: S) h1 P) : ∀ o h1, Rr Q o h1 → ∃ v, o = .inl v ∧ RQ G M d pc L (v.toList ++ S) h1 P := by
  rintro o h1 ⟨x, rfl, q⟩
  exact ⟨_, rfl, k x h1 q⟩
theorem callk_rx {Q : Nat → AH → Prop} (k : ∀ x h1, Q x h1 → RQ G M d pc L (.ref x :: S) h1 P) (kx : ∀ E h1, QX E h1 → P (.inr E) h1) : ∀ o h1, Rx (Rr Q) QX o h1 → (∃ v, o = .inl v ∧ RQ G M d pc L (v.toList ++ S) h1 P) ∨ ∃ E, o = .inr E ∧ P (.inr E) h1 := by
  rintro o h1 (⟨x, rfl, q⟩ | ⟨E, rfl, q⟩)
  · exact Or.inl ⟨_, rfl, k x h1 q⟩
  · exact Or.inr ⟨E, rfl, kx E h1 q⟩
theorem callk_v {Q : AH → Prop} (k : ∀ h1, Q h1 → RQ G M d pc L S h1 P) : ∀ o h1, Rv Q o h1 → ∃ v, o = .inl v ∧ RQ G M d pc L (v.toList ++ S) h1 P := by
  rintro o h1 ⟨rfl, q⟩
  exact ⟨_, rfl, k h1 q⟩
theorem callk_vx {Q : AH → Prop} (k : ∀ h1, Q h1 → RQ G M d pc L S h1 P) (kx : ∀ E h1, QX E h1 → P (.inr E) h1) : ∀ o h1, Rx (Rv Q) QX o h1 → (∃ v, o = .inl v ∧ RQ G M d pc L (v.toList ++ S) h1 P) ∨ ∃ E, o = .inr E ∧ P (.inr E) h1 := by
  rintro o h1 (⟨rfl, q⟩ | ⟨E, rfl, q⟩)
  · exact Or.inl ⟨_, rfl, k h1 q⟩
  · exact Or.inr ⟨E, rfl, kx E h1 q⟩
end CK
theorem nfit_int (v : Int32) : nfit .int (.int v) = true := by simp [nfit, narrow, fits]
theorem nfit_obj (C : String) (k : Nat) : nfit (.object C) (.ref k) = true := by simp [nfit, narrow, fits]
theorem nfit_arr (t : FieldType) (k : Nat) : nfit (.array t) (.ref k) = true := by simp [nfit, narrow, fits]
theorem nfit_long (v : Int64) : nfit .long (.long v) = true := by simp [nfit, narrow, fits]
theorem nfit_bool {v : Int32} (h : v = nI 0 ∨ v = nI 1) : nfit .boolean (.int v) = true := by rcases h with rfl | rfl <;> decide
theorem nar_bool {v : Int32} (h : v = nI 0 ∨ v = nI 1) : narrow .boolean (.int v) = .int v := by rcases h with rfl | rfl <;> decide
/-- more frames to spare do no harm -/
theorem RQ.up {G : GT} {M : MI} {d d' pc : Nat} {L : List (Option Value)} {S : List Value} {h : AH} {P : OC → AH → Prop} (hd : d ≤ d') (r : RQ G M d pc L S h P) : RQ G M d' pc L S h P := by
  refine RQ.map (fun o h' r => ⟨r.1, fun p e Rm s m args below meth c H locs cells slots ls hC hz hc hs ho hW hS hl => ?_⟩) r
  obtain ⟨c1, c2, c3, c4, c5, c6, c7, c8, c9, c10, c11, c12⟩ := hC
  exact r.2 p e Rm s m args below meth c H locs cells slots ls ⟨c1, c2, c3, c4, c5, c6, c7, c8, c9, c10, by omega, by omega⟩ hz hc hs ho hW hS hl
