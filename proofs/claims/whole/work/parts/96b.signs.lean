/-! the reference's signs -/
/-- the kind of one byte alone -/
def w1B (c k : Nat) : Nat := if tln (TXl k) = 1 ∧ tby (TXl k) 0 = c then 1 else 0
def k1B (c : Nat) : Nat := (fnN (w1B c) 1 43).getD 42
theorem wd_1 {T : List Nat} {p k : Nat} (hp : p < T.length) : wdT T p (p + 1) k = w1B (T.getD p 0) k := by
  unfold wdT w1B
  by_cases z : tln (TXl k) = 1 ∧ tby (TXl k) 0 = T.getD p 0
  · rw [if_pos z]
    refine if_pos (decide_eq_true ⟨by omega, fun j hj => ?_⟩)
    have j0 : j = 0 := by omega
    rw [j0]
    exact ⟨hp, z.2.symm⟩
  · rw [if_neg z]
    refine if_neg (fun w => z ?_)
    obtain ⟨w1, w2⟩ := of_decide_eq_true w
    have w3 : tln (TXl k) = 1 := by omega
    exact ⟨w3, (w2 0 (by omega)).2.symm⟩
theorem ki_1 {T : List Nat} {p : Nat} (hp : p < T.length) (h1 : ¬ ltT T p = true) (h2 : ¬ dgT T p = true) : kiT T p (p + 1) = k1B (T.getD p 0) := by
  unfold kiT k1B
  rw [if_neg (by omega), show wdT T p (p + 1) = w1B (T.getD p 0) from funext (fun k => wd_1 hp)]
  cases fnN (w1B (T.getD p 0)) 1 43 with
  | some k => rfl
  | none =>
    show (if ltT T p = true ∧ p + 1 - p ≤ 8 then 39 else if dgT T p = true ∧ p + 1 - p ≤ 4 then 40 else 42) = 42
    rw [if_neg (fun z => h1 z.1), if_neg (fun z => h2 z.1)]
theorem sw_1 : ∀ c, c < 256 → (sw_X12_sign c = 108 ∧ soK (k1B c) = 46) ∨ (sw_X12_sign c = 111 ∧ soK (k1B c) = 47) ∨ (sw_X12_sign c = 114 ∧ soK (k1B c) = 48) ∨ (sw_X12_sign c = 117 ∧ soK (k1B c) = 49) ∨ (sw_X12_sign c = 120 ∧ soK (k1B c) = 50) ∨ (sw_X12_sign c = 123 ∧ soK (k1B c) = 51) ∨ (sw_X12_sign c = 126 ∧ soK (k1B c) = 40) ∨ (sw_X12_sign c = 129 ∧ soK (k1B c) = 41) ∨ (sw_X12_sign c = 132 ∧ soK (k1B c) = 42) ∨ (sw_X12_sign c = 135 ∧ soK (k1B c) = 43) ∨ (sw_X12_sign c = 138 ∧ soK (k1B c) = 44) ∨ (sw_X12_sign c = 141 ∧ soK (k1B c) = 45) ∨ (sw_X12_sign c = 144 ∧ soK (k1B c) = 32) := by decide +kernel
section RTS
variable {G : GT} {d : Nat} {h : AH} {m : Nat} {T : List Nat}
theorem s_sign {c : Nat} (hc : c < 256) : RQ G mX12_sign d 0 [some (.int (nI c))] [] h (Ri fun v h1 => v = nI (soK (k1B c)) ∧ h1 = h) := by
  refine tX12_sign_0 (tX12_sign_1 hc ?_)
  rcases sw_1 c hc with ⟨e1, e2⟩ | ⟨e1, e2⟩ | ⟨e1, e2⟩ | ⟨e1, e2⟩ | ⟨e1, e2⟩ | ⟨e1, e2⟩ | ⟨e1, e2⟩ | ⟨e1, e2⟩ | ⟨e1, e2⟩ | ⟨e1, e2⟩ | ⟨e1, e2⟩ | ⟨e1, e2⟩ | ⟨e1, e2⟩
  · rw [e1, e2]
    exact tX12_sign_108 (tX12_sign_110 ⟨_, rfl, rfl, rfl⟩)
  · rw [e1, e2]
    exact tX12_sign_111 (tX12_sign_113 ⟨_, rfl, rfl, rfl⟩)
  · rw [e1, e2]
    exact tX12_sign_114 (tX12_sign_116 ⟨_, rfl, rfl, rfl⟩)
  · rw [e1, e2]
    exact tX12_sign_117 (tX12_sign_119 ⟨_, rfl, rfl, rfl⟩)
  · rw [e1, e2]
    exact tX12_sign_120 (tX12_sign_122 ⟨_, rfl, rfl, rfl⟩)
  · rw [e1, e2]
    exact tX12_sign_123 (tX12_sign_125 ⟨_, rfl, rfl, rfl⟩)
  · rw [e1, e2]
    exact tX12_sign_126 (tX12_sign_128 ⟨_, rfl, rfl, rfl⟩)
  · rw [e1, e2]
    exact tX12_sign_129 (tX12_sign_131 ⟨_, rfl, rfl, rfl⟩)
  · rw [e1, e2]
    exact tX12_sign_132 (tX12_sign_134 ⟨_, rfl, rfl, rfl⟩)
  · rw [e1, e2]
    exact tX12_sign_135 (tX12_sign_137 ⟨_, rfl, rfl, rfl⟩)
  · rw [e1, e2]
    exact tX12_sign_138 (tX12_sign_140 ⟨_, rfl, rfl, rfl⟩)
  · rw [e1, e2]
    exact tX12_sign_141 (tX12_sign_143 ⟨_, rfl, rfl, rfl⟩)
  · rw [e1, e2]
    exact tX12_sign_144 (tX12_sign_146 ⟨_, rfl, rfl, rfl⟩)

theorem s_mskip (hd : 1 ≤ d) (tp : TpM h m T) {p : Nat} (hp : p ≤ 1600) : RQ G mX12_skip d 0 [some (.ref m), some (.int (nI p)), none] [] h (Ri fun v h1 => v = nI (skT T p) ∧ h1 = h) :=
  tX12_skip_0 (tX12_skip_1 (r := s_mskip_l hd tp 1600 p (by have := tp.2.2.1; omega) (by omega)))
end RTS

