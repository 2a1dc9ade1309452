/-! means: equal to themselves, never below 0 -/
section F1
theorem nn_dec {x : UInt64} (h : vf_n64 x) : FP.Core.decode FP.Core.b64 x.toNat ≠ .nan := by
  intro e
  unfold FP.Core.decode at e
  split at e
  · rename_i h1
    split at e
    · cases e
    · rename_i h2
      have h1 : x.toNat / 4503599627370496 % 2048 = 2047 := h1
      have h2 : ¬ x.toNat % 4503599627370496 = 0 := h2
      have h3 : (x &&& 0x7fffffffffffffff).toNat ≤ (0x7ff0000000000000 : UInt64).toNat := UInt64.le_iff_toNat_le.mp h
      rw [UInt64.toNat_and] at h3
      have e1 : (0x7fffffffffffffff : UInt64).toNat = 2 ^ 63 - 1 := rfl
      have e2 : (0x7ff0000000000000 : UInt64).toNat = 9218868437227405312 := rfl
      rw [e1, Nat.and_two_pow_sub_one_eq_mod, e2] at h3
      omega
  · split at e <;> cases e
theorem or_refl {d : FP.Core.Datum} (h : d ≠ .nan) : FP.Core.order d d = some .eq := by
  cases d with
  | nan => exact absurd rfl h
  | inf s => simp [FP.Core.order]
  | fin s c q => simp [FP.Core.order]
theorem dc_refl {x : UInt64} (h : vf_n64 x) : Op.cmpValue (FP.dcmp x x) .l = 0 := by
  have e : FP.dcmp x x = some .eq := or_refl (nn_dec h)
  rw [e]
  rfl
def NnD : FP.Core.Datum → Prop
  | .nan => True
  | .inf s => s = false
  | .fin s _ _ => s = false
theorem dec_nn {n : Nat} (h : n < 9223372036854775808) : NnD (FP.Core.decode FP.Core.b64 n) := by
  have s0 : FP.Core.fieldS FP.Core.b64 n = false := by
    have e : FP.Core.fieldS FP.Core.b64 n = (n / 4503599627370496 / 2048 % 2 == 1) := rfl
    rw [e]
    have : n / 4503599627370496 / 2048 % 2 = 0 := by omega
    rw [this]
    rfl
  unfold FP.Core.decode
  split
  · split
    · exact s0
    · exact trivial
  · split <;> exact s0
theorem en_lt {c : Nat} {q : Int} (h : c < 9007199254740992) (hq : q ≤ 971) : FP.Core.encode FP.Core.b64 (.fin false c q) < 9223372036854775808 := by
  show (if c < 4503599627370496 then (0 * 2048 + 0) * 4503599627370496 + c else (0 * 2048 + ((q - (-1074)).toNat + 1)) * 4503599627370496 + (c - 4503599627370496)) < _
  split <;> omega
theorem bo_lt {c : Nat} {q : Int} (h : c < 9007199254740992) : FP.Core.encode FP.Core.b64 (FP.Core.bound FP.Core.b64 false c q) < 9223372036854775808 := by
  unfold FP.Core.bound
  split
  · rename_i hq
    exact en_lt h hq
  · show (0 * 2048 + 2047) * 4503599627370496 + 0 < _
    omega
theorem rr_lt {a b : Nat} {e : Int} : FP.Core.encode FP.Core.b64 (FP.Core.roundRatio FP.Core.b64 false a b e) < 9223372036854775808 := by
  unfold FP.Core.roundRatio
  split
  · exact en_lt (by decide) (by decide)
  · unfold FP.Core.roundAt FP.Core.settle
    split
    · rename_i hc
      exact bo_lt hc
    · exact bo_lt (by decide)
theorem qu_lt {a b : FP.Core.Datum} (ha : NnD a) (hb : NnD b) : FP.Core.encode FP.Core.b64 (FP.Core.quotient FP.Core.b64 a b) < 9223372036854775808 := by
  have nn : FP.Core.encode FP.Core.b64 .nan < 9223372036854775808 := by decide
  have ii : FP.Core.encode FP.Core.b64 (.inf false) < 9223372036854775808 := by decide
  cases a with
  | nan => exact nn
  | inf s =>
    have ha : s = false := ha
    subst ha
    cases b with
    | nan => exact nn
    | inf t => exact nn
    | fin t d r =>
      have hb : t = false := hb
      subst hb
      exact ii
  | fin s c q =>
    have ha : s = false := ha
    subst ha
    cases b with
    | nan => exact nn
    | inf t =>
      have hb : t = false := hb
      subst hb
      exact en_lt (by decide) (by decide)
    | fin t d r =>
      have hb : t = false := hb
      subst hb
      show FP.Core.encode FP.Core.b64 (if d = 0 then (if c = 0 then FP.Core.Datum.nan else .inf false) else FP.Core.roundRatio FP.Core.b64 false c d (q - r)) < _
      split
      · split
        · exact nn
        · exact ii
      · exact rr_lt
theorem u64_nn {n : Nat} (h : n < 9223372036854775808) : NnD (FP.Core.decode FP.Core.b64 (UInt64.ofNat n).toNat) := by
  have e : (UInt64.ofNat n).toNat = n := by
    rw [UInt64.toNat_ofNat']
    exact Nat.mod_eq_of_lt (by omega)
  rw [e]
  exact dec_nn h
theorem i2d_nn {a : Nat} (h : a < 2147483648) : NnD (FP.Core.decode FP.Core.b64 (FP.i2d (nI a)).toNat) := by
  have e : FP.i2d (nI a) = UInt64.ofNat (FP.Core.encode FP.Core.b64 (FP.Core.roundRatio FP.Core.b64 false a 1 0)) := by
    show UInt64.ofNat (FP.Core.encode FP.Core.b64 (FP.Core.round FP.Core.b64 (FP.Core.ofInt (nI a).toInt))) = _
    rw [nI_toInt h]
    rfl
  rw [e]
  exact u64_nn rr_lt
theorem mm_nn {a b : Nat} (h : a < 2147483648) (hb : b < 2147483648) : NnD (FP.Core.decode FP.Core.b64 (FP.ddiv (FP.i2d (nI a)) (FP.i2d (nI b))).toNat) := u64_nn (qu_lt (i2d_nn h) (i2d_nn hb))
theorem dg_nn {x : UInt64} (h : NnD (FP.Core.decode FP.Core.b64 x.toNat)) : ¬ Op.cmpValue (FP.dcmp x FP.dconst0) .g < 0 := by
  have e : FP.dcmp x FP.dconst0 = FP.Core.order (FP.Core.decode FP.Core.b64 x.toNat) (.fin false 0 (-1074)) := rfl
  rw [e]
  generalize FP.Core.decode FP.Core.b64 x.toNat = d at h
  cases d with
  | nan => decide
  | inf s =>
    have h : s = false := h
    subst h
    decide
  | fin s c q =>
    have h : s = false := h
    subst h
    have e2 : FP.Core.order (.fin false c q) (.fin false 0 (-1074)) = some (compare ((FP.Core.inUnits c q (min q (-1074)) : Nat) : Int) ((FP.Core.inUnits 0 (-1074) (min q (-1074)) : Nat) : Int)) := rfl
    rw [e2]
    have e3 : FP.Core.inUnits 0 (-1074) (min q (-1074)) = 0 := Nat.zero_mul _
    rw [e3]
    generalize FP.Core.inUnits c q (min q (-1074)) = u
    rcases Nat.eq_zero_or_pos u with z | z
    · subst z
      decide
    · have e4 : compare ((u : Nat) : Int) ((0 : Nat) : Int) = .gt := by
        rw [Int.compare_eq_gt]
        omega
      rw [e4]
      decide
/-- the mean margin -/
theorem mmV_n {B : BK} {D : DY} (hb : BDok B D) : vf_n64 (mmV B D) ∧ ¬ Op.cmpValue (FP.dcmp (mmV B D) FP.dconst0) .g < 0 := by
  have j8 := hb.2.1
  have ms := mS_le hb
  unfold mmV
  by_cases z : bJa B = 0
  · rw [if_pos z]
    exact ⟨(by decide : FP.dconst0 &&& 0x7fffffffffffffff ≤ 0x7ff0000000000000), by decide⟩
  · rw [if_neg z]
    have b9 : bJa B * 1200 ≤ 9600 := by omega
    exact ⟨mq_all (by omega) j8 ms, dg_nn (mm_nn (by omega) (by omega))⟩
end F1
