/-! the reference reads a token: its rows -/
section RTF
variable {G : GT} {d : Nat} {h : AH} {m : Nat} {T : List Nat} {P : OC → AH → Prop}

set_option maxHeartbeats 4000000 in
set_option maxRecDepth 100000 in
theorem s_mread44 (hd : 8 ≤ d) (tp : TpM h m T) {p k e : Nat} {w : Int32} {f2 f5 : Nat → Int32} (hk : k < 402) (a2 : At h (m + 2) (.inl (0, 402, .inl f2))) (a5 : At h (m + 5) (.inl (0, 402, .inl f5))) (he : p < e ∧ e ≤ T.length) (kk : P (.inl (some (.int (nI e)))) (hset (hset h (m + 2) (.inl (0, 402, .inl (upd f2 k (nI (kwT T p (e - p))))))) (m + 5) (.inl (0, 402, .inl (upd f5 k (nI (e - p))))))) : RQ G mX12_read d 44 [some (.ref m), some (.int (nI p)), some (.int (nI k)), some (.int w), some (.int (nI e)), none] [] h P := by
  obtain ⟨⟨th, ea, tk, iw, er, et, dp, nm, a0⟩, ⟨f, a1, hf⟩, l16, hT⟩ := id tp
  have z2 := a2.1
  have z5 := a5.1
  refine tX12_read_44  (r := ?_)
  refine tX12_read_45 (ha := (by first | assumption | (repeat (first | assumption | exact At.set_eq2 (by first | omega | (simp only [hset, hnew]; omega) | rfl | decide) | exact At.new_eq2 _ _ (by first | omega | (simp only [hset, hnew]; omega) | rfl | decide) | refine At.set_ne ?_ (by first | omega | (simp only [hset, hnew]; omega) | rfl | decide) | refine At.new_ne ?_)))) (hv := rfl) (r := ?_)
  refine tX12_read_48  (r := ?_)
  refine tX12_read_49  (r := ?_)
  refine tX12_read_50  (r := ?_)
  refine tX12_read_51  (r := ?_)
  refine tX12_read_53  (r := ?_)
  refine tX12_read_54  (r := ?_)
  rw [nI_subN (by omega) (by omega)]
  refine tX12_read_55 (hd := (by omega)) (ha := (by first | assumption | (repeat (first | assumption | exact At.set_eq2 (by first | omega | (simp only [hset, hnew]; omega) | rfl | decide) | exact At.new_eq2 _ _ (by first | omega | (simp only [hset, hnew]; omega) | rfl | decide) | refine At.set_ne ?_ (by first | omega | (simp only [hset, hnew]; omega) | rfl | decide) | refine At.new_ne ?_)))) (call := s_mkey (d := 7) (by decide) tp (p := p) (c := e - p) (by omega)) (k := ?_)
  rintro x_ h_ ⟨hx_, e_⟩
  rw [e_, hx_]
  refine tX12_read_58 (ha := (by first | assumption | (repeat (first | assumption | exact At.set_eq2 (by first | omega | (simp only [hset, hnew]; omega) | rfl | decide) | exact At.new_eq2 _ _ (by first | omega | (simp only [hset, hnew]; omega) | rfl | decide) | refine At.set_ne ?_ (by first | omega | (simp only [hset, hnew]; omega) | rfl | decide) | refine At.new_ne ?_)))) (hx := rfl) (hj := hk) (hn := (by decide)) (r := ?_)
  refine tX12_read_59 (r := ?_)
  refine tX12_read_165  (r := ?_)
  refine tX12_read_166 (ha := (by first | assumption | (repeat (first | assumption | exact At.set_eq2 (by first | omega | (simp only [hset, hnew]; omega) | rfl | decide) | exact At.new_eq2 _ _ (by first | omega | (simp only [hset, hnew]; omega) | rfl | decide) | refine At.set_ne ?_ (by first | omega | (simp only [hset, hnew]; omega) | rfl | decide) | refine At.new_ne ?_)))) (hv := rfl) (r := ?_)
  refine tX12_read_169  (r := ?_)
  refine tX12_read_170  (r := ?_)
  refine tX12_read_172  (r := ?_)
  refine tX12_read_173  (r := ?_)
  rw [nI_subN (by omega) (by omega)]
  refine tX12_read_174 (ha := (by first | assumption | (repeat (first | assumption | exact At.set_eq2 (by first | omega | (simp only [hset, hnew]; omega) | rfl | decide) | exact At.new_eq2 _ _ (by first | omega | (simp only [hset, hnew]; omega) | rfl | decide) | refine At.set_ne ?_ (by first | omega | (simp only [hset, hnew]; omega) | rfl | decide) | refine At.new_ne ?_)))) (hx := rfl) (hj := hk) (hn := (by decide)) (r := ?_)
  refine tX12_read_175  (r := ?_)
  refine tX12_read_177  (hP := ?_)
  exact kk

set_option maxHeartbeats 4000000 in
set_option maxRecDepth 100000 in
theorem s_mread155 (hd : 8 ≤ d) (tp : TpM h m T) {p k e c : Nat} {f2 f5 : Nat → Int32} (hk : k < 402) (a2 : At h (m + 2) (.inl (0, 402, .inl f2))) (a5 : At h (m + 5) (.inl (0, 402, .inl f5))) (hc : c < 256) (he : p < e ∧ e ≤ T.length) (kk : P (.inl (some (.int (nI e)))) (hset (hset h (m + 2) (.inl (0, 402, .inl (upd f2 k (nI (soK (k1B c))))))) (m + 5) (.inl (0, 402, .inl (upd f5 k (nI (e - p))))))) : RQ G mX12_read d 155 [some (.ref m), some (.int (nI p)), some (.int (nI k)), some (.int (nI c)), some (.int (nI e)), none] [] h P := by
  obtain ⟨⟨th, ea, tk, iw, er, et, dp, nm, a0⟩, ⟨f, a1, hf⟩, l16, hT⟩ := id tp
  have z2 := a2.1
  have z5 := a5.1
  refine tX12_read_155  (r := ?_)
  refine tX12_read_156 (ha := (by first | assumption | (repeat (first | assumption | exact At.set_eq2 (by first | omega | (simp only [hset, hnew]; omega) | rfl | decide) | exact At.new_eq2 _ _ (by first | omega | (simp only [hset, hnew]; omega) | rfl | decide) | refine At.set_ne ?_ (by first | omega | (simp only [hset, hnew]; omega) | rfl | decide) | refine At.new_ne ?_)))) (hv := rfl) (r := ?_)
  refine tX12_read_159  (r := ?_)
  refine tX12_read_160  (r := ?_)
  refine tX12_read_161 (hd := (by omega)) (call := s_sign (d := 0) hc) (k := ?_)
  rintro x_ h_ ⟨hx_, e_⟩
  rw [e_, hx_]
  refine tX12_read_164 (ha := (by first | assumption | (repeat (first | assumption | exact At.set_eq2 (by first | omega | (simp only [hset, hnew]; omega) | rfl | decide) | exact At.new_eq2 _ _ (by first | omega | (simp only [hset, hnew]; omega) | rfl | decide) | refine At.set_ne ?_ (by first | omega | (simp only [hset, hnew]; omega) | rfl | decide) | refine At.new_ne ?_)))) (hx := rfl) (hj := hk) (hn := (by decide)) (r := ?_)
  refine tX12_read_165  (r := ?_)
  refine tX12_read_166 (ha := (by first | assumption | (repeat (first | assumption | exact At.set_eq2 (by first | omega | (simp only [hset, hnew]; omega) | rfl | decide) | exact At.new_eq2 _ _ (by first | omega | (simp only [hset, hnew]; omega) | rfl | decide) | refine At.set_ne ?_ (by first | omega | (simp only [hset, hnew]; omega) | rfl | decide) | refine At.new_ne ?_)))) (hv := rfl) (r := ?_)
  refine tX12_read_169  (r := ?_)
  refine tX12_read_170  (r := ?_)
  refine tX12_read_172  (r := ?_)
  refine tX12_read_173  (r := ?_)
  rw [nI_subN (by omega) (by omega)]
  refine tX12_read_174 (ha := (by first | assumption | (repeat (first | assumption | exact At.set_eq2 (by first | omega | (simp only [hset, hnew]; omega) | rfl | decide) | exact At.new_eq2 _ _ (by first | omega | (simp only [hset, hnew]; omega) | rfl | decide) | refine At.set_ne ?_ (by first | omega | (simp only [hset, hnew]; omega) | rfl | decide) | refine At.new_ne ?_)))) (hx := rfl) (hj := hk) (hn := (by decide)) (r := ?_)
  refine tX12_read_175  (r := ?_)
  refine tX12_read_177  (hP := ?_)
  exact kk

set_option maxHeartbeats 4000000 in
set_option maxRecDepth 100000 in
theorem s_mread123 (hd : 8 ≤ d) (tp : TpM h m T) {p k e : Nat} {w : Int32} {f2 f3 f5 : Nat → Int32} (hk : k < 402) (a2 : At h (m + 2) (.inl (0, 402, .inl f2))) (a5 : At h (m + 5) (.inl (0, 402, .inl f5))) (a3 : At h (m + 3) (.inl (0, 402, .inl f3))) (he : p < e ∧ e ≤ T.length) (kk : P (.inl (some (.int (nI e)))) (hset (hset (hset h (m + 3) (.inl (0, 402, .inl (upd f3 k (nI (vdT T p (min (e - p) 5))))))) (m + 2) (.inl (0, 402, .inl (upd f2 k (nI (if e - p ≤ 4 then 31 else 32)))))) (m + 5) (.inl (0, 402, .inl (upd f5 k (nI (e - p))))))) : RQ G mX12_read d 123 [some (.ref m), some (.int (nI p)), some (.int (nI k)), some (.int w), some (.int (nI e)), (some (.int (nI (vdT T p (min (e - p) 5)))))] [] h P := by
  obtain ⟨⟨th, ea, tk, iw, er, et, dp, nm, a0⟩, ⟨f, a1, hf⟩, l16, hT⟩ := id tp
  have z2 := a2.1
  have z5 := a5.1
  have z3 := a3.1
  refine tX12_read_123  (r := ?_)
  refine tX12_read_124 (ha := (by first | assumption | (repeat (first | assumption | exact At.set_eq2 (by first | omega | (simp only [hset, hnew]; omega) | rfl | decide) | exact At.new_eq2 _ _ (by first | omega | (simp only [hset, hnew]; omega) | rfl | decide) | refine At.set_ne ?_ (by first | omega | (simp only [hset, hnew]; omega) | rfl | decide) | refine At.new_ne ?_)))) (hv := rfl) (r := ?_)
  refine tX12_read_127  (r := ?_)
  refine tX12_read_128  (r := ?_)
  refine tX12_read_130 (ha := (by first | assumption | (repeat (first | assumption | exact At.set_eq2 (by first | omega | (simp only [hset, hnew]; omega) | rfl | decide) | exact At.new_eq2 _ _ (by first | omega | (simp only [hset, hnew]; omega) | rfl | decide) | refine At.set_ne ?_ (by first | omega | (simp only [hset, hnew]; omega) | rfl | decide) | refine At.new_ne ?_)))) (hx := rfl) (hj := hk) (hn := (by decide)) (r := ?_)
  refine tX12_read_131  (r := ?_)
  refine tX12_read_132 (ha := (by first | assumption | (repeat (first | assumption | exact At.set_eq2 (by first | omega | (simp only [hset, hnew]; omega) | rfl | decide) | exact At.new_eq2 _ _ (by first | omega | (simp only [hset, hnew]; omega) | rfl | decide) | refine At.set_ne ?_ (by first | omega | (simp only [hset, hnew]; omega) | rfl | decide) | refine At.new_ne ?_)))) (hv := rfl) (r := ?_)
  refine tX12_read_135  (r := ?_)
  refine tX12_read_136  (r := ?_)
  refine tX12_read_138  (r := ?_)
  refine tX12_read_139  (r := ?_)
  rw [nI_subN (by omega) (by omega)]
  refine tX12_read_140  (r := ?_)
  refine tX12_read_141  (kt := fun c_141 => ?_) (kf := fun c_141 => ?_)
  · have g4 : e - p ≤ 4 := (nI_leI (by omega) (by decide)).mp c_141
    rw [if_pos g4] at kk
    refine tX12_read_149  (r := ?_)
    refine tX12_read_151 (ha := (by first | assumption | (repeat (first | assumption | exact At.set_eq2 (by first | omega | (simp only [hset, hnew]; omega) | rfl | decide) | exact At.new_eq2 _ _ (by first | omega | (simp only [hset, hnew]; omega) | rfl | decide) | refine At.set_ne ?_ (by first | omega | (simp only [hset, hnew]; omega) | rfl | decide) | refine At.new_ne ?_)))) (hx := rfl) (hj := hk) (hn := (by decide)) (r := ?_)
    refine tX12_read_152 (r := ?_)
    refine tX12_read_165  (r := ?_)
    refine tX12_read_166 (ha := (by first | assumption | (repeat (first | assumption | exact At.set_eq2 (by first | omega | (simp only [hset, hnew]; omega) | rfl | decide) | exact At.new_eq2 _ _ (by first | omega | (simp only [hset, hnew]; omega) | rfl | decide) | refine At.set_ne ?_ (by first | omega | (simp only [hset, hnew]; omega) | rfl | decide) | refine At.new_ne ?_)))) (hv := rfl) (r := ?_)
    refine tX12_read_169  (r := ?_)
    refine tX12_read_170  (r := ?_)
    refine tX12_read_172  (r := ?_)
    refine tX12_read_173  (r := ?_)
    rw [nI_subN (by omega) (by omega)]
    refine tX12_read_174 (ha := (by first | assumption | (repeat (first | assumption | exact At.set_eq2 (by first | omega | (simp only [hset, hnew]; omega) | rfl | decide) | exact At.new_eq2 _ _ (by first | omega | (simp only [hset, hnew]; omega) | rfl | decide) | refine At.set_ne ?_ (by first | omega | (simp only [hset, hnew]; omega) | rfl | decide) | refine At.new_ne ?_)))) (hx := rfl) (hj := hk) (hn := (by decide)) (r := ?_)
    refine tX12_read_175  (r := ?_)
    refine tX12_read_177  (hP := ?_)
    exact kk
  · have g4 : ¬ e - p ≤ 4 := fun z => c_141 ((nI_leI (by omega) (by decide)).mpr z)
    rw [if_neg g4] at kk
    refine tX12_read_144  (r := ?_)
    refine tX12_read_146 (r := ?_)
    refine tX12_read_151 (ha := (by first | assumption | (repeat (first | assumption | exact At.set_eq2 (by first | omega | (simp only [hset, hnew]; omega) | rfl | decide) | exact At.new_eq2 _ _ (by first | omega | (simp only [hset, hnew]; omega) | rfl | decide) | refine At.set_ne ?_ (by first | omega | (simp only [hset, hnew]; omega) | rfl | decide) | refine At.new_ne ?_)))) (hx := rfl) (hj := hk) (hn := (by decide)) (r := ?_)
    refine tX12_read_152 (r := ?_)
    refine tX12_read_165  (r := ?_)
    refine tX12_read_166 (ha := (by first | assumption | (repeat (first | assumption | exact At.set_eq2 (by first | omega | (simp only [hset, hnew]; omega) | rfl | decide) | exact At.new_eq2 _ _ (by first | omega | (simp only [hset, hnew]; omega) | rfl | decide) | refine At.set_ne ?_ (by first | omega | (simp only [hset, hnew]; omega) | rfl | decide) | refine At.new_ne ?_)))) (hv := rfl) (r := ?_)
    refine tX12_read_169  (r := ?_)
    refine tX12_read_170  (r := ?_)
    refine tX12_read_172  (r := ?_)
    refine tX12_read_173  (r := ?_)
    rw [nI_subN (by omega) (by omega)]
    refine tX12_read_174 (ha := (by first | assumption | (repeat (first | assumption | exact At.set_eq2 (by first | omega | (simp only [hset, hnew]; omega) | rfl | decide) | exact At.new_eq2 _ _ (by first | omega | (simp only [hset, hnew]; omega) | rfl | decide) | refine At.set_ne ?_ (by first | omega | (simp only [hset, hnew]; omega) | rfl | decide) | refine At.new_ne ?_)))) (hx := rfl) (hj := hk) (hn := (by decide)) (r := ?_)
    refine tX12_read_175  (r := ?_)
    refine tX12_read_177  (hP := ?_)
    exact kk

end RTF
