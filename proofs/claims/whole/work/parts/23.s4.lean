section S4
variable {G : GT} {d : Nat} {h : AH}
/-- the reference's book -/
def MBoO (b : Nat) (la ja li ru ac no : Int32) : AC := .inr (9, [.int la, .int ja, .ref (b + 1), .ref (b + 2), .ref (b + 3), .int li, .ref (b + 4), .ref (b + 5), .ref (b + 6), .ref (b + 7), .int ru, .ref (b + 8), .ref (b + 9), .ref (b + 10), .ref (b + 11), .int ac, .ref (b + 12), .ref (b + 13), .ref (b + 14), .ref (b + 15), .int no, .ref (b + 16), .ref (b + 17), .ref (b + 18)])
def mbLen (k : Nat) : Nat := [9, 9, 54, 7, 7, 7, 7, 25, 25, 25, 25, 61, 61, 61, 61, 800, 800, 800].getD k 0
def MBoE (h : AH) (b : Nat) (la ja li ru ac no : Int32) : Prop := At h b (MBoO b la ja li ru ac no) ∧ ∀ k, k < 18 → ArI h (b + 1 + k) (mbLen k)
theorem MBoE.keep {h h' : AH} {b : Nat} {la ja li ru ac no : Int32} (q : MBoE h b la ja li ru ac no) (e : h.1 ≤ h'.1) (u : Un h h' b (b + 19)) : MBoE h' b la ja li ru ac no := ⟨q.1.keep e (u _ (by omega) (by omega)), fun k hk => (q.2 k hk).keep e (u _ (by omega) (by omega))⟩
theorem all18 {P : Nat → Prop} (h0 : P 0) (h1 : P 1) (h2 : P 2) (h3 : P 3) (h4 : P 4) (h5 : P 5) (h6 : P 6) (h7 : P 7) (h8 : P 8) (h9 : P 9) (h10 : P 10) (h11 : P 11) (h12 : P 12) (h13 : P 13) (h14 : P 14) (h15 : P 15) (h16 : P 16) (h17 : P 17) : ∀ k, k < 18 → P k
  | 0, _ => h0 | 1, _ => h1 | 2, _ => h2 | 3, _ => h3 | 4, _ => h4 | 5, _ => h5 | 6, _ => h6 | 7, _ => h7 | 8, _ => h8 | 9, _ => h9 | 10, _ => h10 | 11, _ => h11 | 12, _ => h12 | 13, _ => h13 | 14, _ => h14 | 15, _ => h15 | 16, _ => h16 | 17, _ => h17
  | n + 18, q => absurd q (by omega)

set_option maxHeartbeats 4000000 in
set_option maxRecDepth 100000 in
theorem s_MBook_init (hd : 1 ≤ d) {b : Nat} (a0 : At h b (.inr (9, [.int 0, .int 0, .null, .null, .null, .int 0, .null, .null, .null, .null, .int 0, .null, .null, .null, .null, .int 0, .null, .null, .null, .null, .int 0, .null, .null, .null]))) (hj : h.1 = b + 1) : RQ G mX11_init d 0 [some (.ref b)] [] h (Rv fun h2 => MBoE h2 b 0 0 0 0 0 0 ∧ Gw h h2 b 18 2844) := by
  refine tX11_init_0  (r := ?_)
  refine tX11_init_1 (hd := (by omega)) (r := ?_)
  refine tX11_init_4  (r := ?_)
  refine tX11_init_5  (r := ?_)
  refine tX11_init_7 (hx := (by first | rfl | assumption | exact nI_add _ _)) (hn := (by decide)) (r := ?_)
  refine RQ.refId (k' := b + 1) (by (first | omega | (simp only [hset, hnew]; omega) | rfl | decide)) ?_
  refine tX11_init_9 (ha := (by first | assumption | (repeat (first | assumption | exact At.set_eq2 (by first | omega | (simp only [hset, hnew]; omega) | rfl | decide) | exact At.new_eq2 _ _ (by first | omega | (simp only [hset, hnew]; omega) | rfl | decide) | refine At.set_ne ?_ (by first | omega | (simp only [hset, hnew]; omega) | rfl | decide) | refine At.new_ne ?_)))) (hlen := rfl) (r := ?_)
  refine tX11_init_12  (r := ?_)
  refine tX11_init_13  (r := ?_)
  refine tX11_init_15 (hx := (by first | rfl | assumption | exact nI_add _ _)) (hn := (by decide)) (r := ?_)
  refine RQ.refId (k' := b + 2) (by (first | omega | (simp only [hset, hnew]; omega) | rfl | decide)) ?_
  refine tX11_init_17 (ha := (by first | assumption | (repeat (first | assumption | exact At.set_eq2 (by first | omega | (simp only [hset, hnew]; omega) | rfl | decide) | exact At.new_eq2 _ _ (by first | omega | (simp only [hset, hnew]; omega) | rfl | decide) | refine At.set_ne ?_ (by first | omega | (simp only [hset, hnew]; omega) | rfl | decide) | refine At.new_ne ?_)))) (hlen := rfl) (r := ?_)
  refine tX11_init_20  (r := ?_)
  refine tX11_init_21  (r := ?_)
  refine tX11_init_23 (hx := (by first | rfl | assumption | exact nI_add _ _)) (hn := (by decide)) (r := ?_)
  refine RQ.refId (k' := b + 3) (by (first | omega | (simp only [hset, hnew]; omega) | rfl | decide)) ?_
  refine tX11_init_25 (ha := (by first | assumption | (repeat (first | assumption | exact At.set_eq2 (by first | omega | (simp only [hset, hnew]; omega) | rfl | decide) | exact At.new_eq2 _ _ (by first | omega | (simp only [hset, hnew]; omega) | rfl | decide) | refine At.set_ne ?_ (by first | omega | (simp only [hset, hnew]; omega) | rfl | decide) | refine At.new_ne ?_)))) (hlen := rfl) (r := ?_)
  refine tX11_init_28  (r := ?_)
  refine tX11_init_29  (r := ?_)
  refine tX11_init_31 (hx := (by first | rfl | assumption | exact nI_add _ _)) (hn := (by decide)) (r := ?_)
  refine RQ.refId (k' := b + 4) (by (first | omega | (simp only [hset, hnew]; omega) | rfl | decide)) ?_
  refine tX11_init_33 (ha := (by first | assumption | (repeat (first | assumption | exact At.set_eq2 (by first | omega | (simp only [hset, hnew]; omega) | rfl | decide) | exact At.new_eq2 _ _ (by first | omega | (simp only [hset, hnew]; omega) | rfl | decide) | refine At.set_ne ?_ (by first | omega | (simp only [hset, hnew]; omega) | rfl | decide) | refine At.new_ne ?_)))) (hlen := rfl) (r := ?_)
  refine tX11_init_36  (r := ?_)
  refine tX11_init_37  (r := ?_)
  refine tX11_init_39 (hx := (by first | rfl | assumption | exact nI_add _ _)) (hn := (by decide)) (r := ?_)
  refine RQ.refId (k' := b + 5) (by (first | omega | (simp only [hset, hnew]; omega) | rfl | decide)) ?_
  refine tX11_init_41 (ha := (by first | assumption | (repeat (first | assumption | exact At.set_eq2 (by first | omega | (simp only [hset, hnew]; omega) | rfl | decide) | exact At.new_eq2 _ _ (by first | omega | (simp only [hset, hnew]; omega) | rfl | decide) | refine At.set_ne ?_ (by first | omega | (simp only [hset, hnew]; omega) | rfl | decide) | refine At.new_ne ?_)))) (hlen := rfl) (r := ?_)
  refine tX11_init_44  (r := ?_)
  refine tX11_init_45  (r := ?_)
  refine tX11_init_47 (hx := (by first | rfl | assumption | exact nI_add _ _)) (hn := (by decide)) (r := ?_)
  refine RQ.refId (k' := b + 6) (by (first | omega | (simp only [hset, hnew]; omega) | rfl | decide)) ?_
  refine tX11_init_49 (ha := (by first | assumption | (repeat (first | assumption | exact At.set_eq2 (by first | omega | (simp only [hset, hnew]; omega) | rfl | decide) | exact At.new_eq2 _ _ (by first | omega | (simp only [hset, hnew]; omega) | rfl | decide) | refine At.set_ne ?_ (by first | omega | (simp only [hset, hnew]; omega) | rfl | decide) | refine At.new_ne ?_)))) (hlen := rfl) (r := ?_)
  refine tX11_init_52  (r := ?_)
  refine tX11_init_53  (r := ?_)
  refine tX11_init_55 (hx := (by first | rfl | assumption | exact nI_add _ _)) (hn := (by decide)) (r := ?_)
  refine RQ.refId (k' := b + 7) (by (first | omega | (simp only [hset, hnew]; omega) | rfl | decide)) ?_
  refine tX11_init_57 (ha := (by first | assumption | (repeat (first | assumption | exact At.set_eq2 (by first | omega | (simp only [hset, hnew]; omega) | rfl | decide) | exact At.new_eq2 _ _ (by first | omega | (simp only [hset, hnew]; omega) | rfl | decide) | refine At.set_ne ?_ (by first | omega | (simp only [hset, hnew]; omega) | rfl | decide) | refine At.new_ne ?_)))) (hlen := rfl) (r := ?_)
  refine tX11_init_60  (r := ?_)
  refine tX11_init_61  (r := ?_)
  refine tX11_init_63 (hx := (by first | rfl | assumption | exact nI_add _ _)) (hn := (by decide)) (r := ?_)
  refine RQ.refId (k' := b + 8) (by (first | omega | (simp only [hset, hnew]; omega) | rfl | decide)) ?_
  refine tX11_init_65 (ha := (by first | assumption | (repeat (first | assumption | exact At.set_eq2 (by first | omega | (simp only [hset, hnew]; omega) | rfl | decide) | exact At.new_eq2 _ _ (by first | omega | (simp only [hset, hnew]; omega) | rfl | decide) | refine At.set_ne ?_ (by first | omega | (simp only [hset, hnew]; omega) | rfl | decide) | refine At.new_ne ?_)))) (hlen := rfl) (r := ?_)
  refine tX11_init_68  (r := ?_)
  refine tX11_init_69  (r := ?_)
  refine tX11_init_71 (hx := (by first | rfl | assumption | exact nI_add _ _)) (hn := (by decide)) (r := ?_)
  refine RQ.refId (k' := b + 9) (by (first | omega | (simp only [hset, hnew]; omega) | rfl | decide)) ?_
  refine tX11_init_73 (ha := (by first | assumption | (repeat (first | assumption | exact At.set_eq2 (by first | omega | (simp only [hset, hnew]; omega) | rfl | decide) | exact At.new_eq2 _ _ (by first | omega | (simp only [hset, hnew]; omega) | rfl | decide) | refine At.set_ne ?_ (by first | omega | (simp only [hset, hnew]; omega) | rfl | decide) | refine At.new_ne ?_)))) (hlen := rfl) (r := ?_)
  refine tX11_init_76  (r := ?_)
  refine tX11_init_77  (r := ?_)
  refine tX11_init_79 (hx := (by first | rfl | assumption | exact nI_add _ _)) (hn := (by decide)) (r := ?_)
  refine RQ.refId (k' := b + 10) (by (first | omega | (simp only [hset, hnew]; omega) | rfl | decide)) ?_
  refine tX11_init_81 (ha := (by first | assumption | (repeat (first | assumption | exact At.set_eq2 (by first | omega | (simp only [hset, hnew]; omega) | rfl | decide) | exact At.new_eq2 _ _ (by first | omega | (simp only [hset, hnew]; omega) | rfl | decide) | refine At.set_ne ?_ (by first | omega | (simp only [hset, hnew]; omega) | rfl | decide) | refine At.new_ne ?_)))) (hlen := rfl) (r := ?_)
  refine tX11_init_84  (r := ?_)
  refine tX11_init_85  (r := ?_)
  refine tX11_init_87 (hx := (by first | rfl | assumption | exact nI_add _ _)) (hn := (by decide)) (r := ?_)
  refine RQ.refId (k' := b + 11) (by (first | omega | (simp only [hset, hnew]; omega) | rfl | decide)) ?_
  refine tX11_init_89 (ha := (by first | assumption | (repeat (first | assumption | exact At.set_eq2 (by first | omega | (simp only [hset, hnew]; omega) | rfl | decide) | exact At.new_eq2 _ _ (by first | omega | (simp only [hset, hnew]; omega) | rfl | decide) | refine At.set_ne ?_ (by first | omega | (simp only [hset, hnew]; omega) | rfl | decide) | refine At.new_ne ?_)))) (hlen := rfl) (r := ?_)
  refine tX11_init_92  (r := ?_)
  refine tX11_init_93  (r := ?_)
  refine tX11_init_95 (hx := (by first | rfl | assumption | exact nI_add _ _)) (hn := (by decide)) (r := ?_)
  refine RQ.refId (k' := b + 12) (by (first | omega | (simp only [hset, hnew]; omega) | rfl | decide)) ?_
  refine tX11_init_97 (ha := (by first | assumption | (repeat (first | assumption | exact At.set_eq2 (by first | omega | (simp only [hset, hnew]; omega) | rfl | decide) | exact At.new_eq2 _ _ (by first | omega | (simp only [hset, hnew]; omega) | rfl | decide) | refine At.set_ne ?_ (by first | omega | (simp only [hset, hnew]; omega) | rfl | decide) | refine At.new_ne ?_)))) (hlen := rfl) (r := ?_)
  refine tX11_init_100  (r := ?_)
  refine tX11_init_101  (r := ?_)
  refine tX11_init_103 (hx := (by first | rfl | assumption | exact nI_add _ _)) (hn := (by decide)) (r := ?_)
  refine RQ.refId (k' := b + 13) (by (first | omega | (simp only [hset, hnew]; omega) | rfl | decide)) ?_
  refine tX11_init_105 (ha := (by first | assumption | (repeat (first | assumption | exact At.set_eq2 (by first | omega | (simp only [hset, hnew]; omega) | rfl | decide) | exact At.new_eq2 _ _ (by first | omega | (simp only [hset, hnew]; omega) | rfl | decide) | refine At.set_ne ?_ (by first | omega | (simp only [hset, hnew]; omega) | rfl | decide) | refine At.new_ne ?_)))) (hlen := rfl) (r := ?_)
  refine tX11_init_108  (r := ?_)
  refine tX11_init_109  (r := ?_)
  refine tX11_init_111 (hx := (by first | rfl | assumption | exact nI_add _ _)) (hn := (by decide)) (r := ?_)
  refine RQ.refId (k' := b + 14) (by (first | omega | (simp only [hset, hnew]; omega) | rfl | decide)) ?_
  refine tX11_init_113 (ha := (by first | assumption | (repeat (first | assumption | exact At.set_eq2 (by first | omega | (simp only [hset, hnew]; omega) | rfl | decide) | exact At.new_eq2 _ _ (by first | omega | (simp only [hset, hnew]; omega) | rfl | decide) | refine At.set_ne ?_ (by first | omega | (simp only [hset, hnew]; omega) | rfl | decide) | refine At.new_ne ?_)))) (hlen := rfl) (r := ?_)
  refine tX11_init_116  (r := ?_)
  refine tX11_init_117  (r := ?_)
  refine tX11_init_119 (hx := (by first | rfl | assumption | exact nI_add _ _)) (hn := (by decide)) (r := ?_)
  refine RQ.refId (k' := b + 15) (by (first | omega | (simp only [hset, hnew]; omega) | rfl | decide)) ?_
  refine tX11_init_121 (ha := (by first | assumption | (repeat (first | assumption | exact At.set_eq2 (by first | omega | (simp only [hset, hnew]; omega) | rfl | decide) | exact At.new_eq2 _ _ (by first | omega | (simp only [hset, hnew]; omega) | rfl | decide) | refine At.set_ne ?_ (by first | omega | (simp only [hset, hnew]; omega) | rfl | decide) | refine At.new_ne ?_)))) (hlen := rfl) (r := ?_)
  refine tX11_init_124  (r := ?_)
  refine tX11_init_125  (r := ?_)
  refine tX11_init_128 (hx := (by first | rfl | assumption | exact nI_add _ _)) (hn := (by decide)) (r := ?_)
  refine RQ.refId (k' := b + 16) (by (first | omega | (simp only [hset, hnew]; omega) | rfl | decide)) ?_
  refine tX11_init_130 (ha := (by first | assumption | (repeat (first | assumption | exact At.set_eq2 (by first | omega | (simp only [hset, hnew]; omega) | rfl | decide) | exact At.new_eq2 _ _ (by first | omega | (simp only [hset, hnew]; omega) | rfl | decide) | refine At.set_ne ?_ (by first | omega | (simp only [hset, hnew]; omega) | rfl | decide) | refine At.new_ne ?_)))) (hlen := rfl) (r := ?_)
  refine tX11_init_133  (r := ?_)
  refine tX11_init_134  (r := ?_)
  refine tX11_init_137 (hx := (by first | rfl | assumption | exact nI_add _ _)) (hn := (by decide)) (r := ?_)
  refine RQ.refId (k' := b + 17) (by (first | omega | (simp only [hset, hnew]; omega) | rfl | decide)) ?_
  refine tX11_init_139 (ha := (by first | assumption | (repeat (first | assumption | exact At.set_eq2 (by first | omega | (simp only [hset, hnew]; omega) | rfl | decide) | exact At.new_eq2 _ _ (by first | omega | (simp only [hset, hnew]; omega) | rfl | decide) | refine At.set_ne ?_ (by first | omega | (simp only [hset, hnew]; omega) | rfl | decide) | refine At.new_ne ?_)))) (hlen := rfl) (r := ?_)
  refine tX11_init_142  (r := ?_)
  refine tX11_init_143  (r := ?_)
  refine tX11_init_146 (hx := (by first | rfl | assumption | exact nI_add _ _)) (hn := (by decide)) (r := ?_)
  refine RQ.refId (k' := b + 18) (by (first | omega | (simp only [hset, hnew]; omega) | rfl | decide)) ?_
  refine tX11_init_148 (ha := (by first | assumption | (repeat (first | assumption | exact At.set_eq2 (by first | omega | (simp only [hset, hnew]; omega) | rfl | decide) | exact At.new_eq2 _ _ (by first | omega | (simp only [hset, hnew]; omega) | rfl | decide) | refine At.set_ne ?_ (by first | omega | (simp only [hset, hnew]; omega) | rfl | decide) | refine At.new_ne ?_)))) (hlen := rfl) (r := ?_)
  refine tX11_init_151  (hP := ?_)
  refine ⟨rfl, ⟨At.set_eq2 (by (first | omega | (simp only [hset, hnew]; omega) | rfl | decide)), all18 ?_ ?_ ?_ ?_ ?_ ?_ ?_ ?_ ?_ ?_ ?_ ?_ ?_ ?_ ?_ ?_ ?_ ?_⟩, rfl, rfl, by (repeat (first | assumption | exact Un.rf _ _ _ | refine Un.set ?_ (by (first | omega | (simp only [hset, hnew]; omega) | rfl | decide)) | refine Un.new ?_ (by (first | omega | (simp only [hset, hnew]; omega) | rfl | decide))))⟩
  · exact ⟨_, by (first | assumption | (repeat (first | assumption | exact At.set_eq2 (by (first | omega | (simp only [hset, hnew]; omega) | rfl | decide)) | exact At.new_eq2 _ _ (by (first | omega | (simp only [hset, hnew]; omega) | rfl | decide)) | refine At.set_ne ?_ (by (first | omega | (simp only [hset, hnew]; omega) | rfl | decide)) | refine At.new_ne ?_)))⟩
  · exact ⟨_, by (first | assumption | (repeat (first | assumption | exact At.set_eq2 (by (first | omega | (simp only [hset, hnew]; omega) | rfl | decide)) | exact At.new_eq2 _ _ (by (first | omega | (simp only [hset, hnew]; omega) | rfl | decide)) | refine At.set_ne ?_ (by (first | omega | (simp only [hset, hnew]; omega) | rfl | decide)) | refine At.new_ne ?_)))⟩
  · exact ⟨_, by (first | assumption | (repeat (first | assumption | exact At.set_eq2 (by (first | omega | (simp only [hset, hnew]; omega) | rfl | decide)) | exact At.new_eq2 _ _ (by (first | omega | (simp only [hset, hnew]; omega) | rfl | decide)) | refine At.set_ne ?_ (by (first | omega | (simp only [hset, hnew]; omega) | rfl | decide)) | refine At.new_ne ?_)))⟩
  · exact ⟨_, by (first | assumption | (repeat (first | assumption | exact At.set_eq2 (by (first | omega | (simp only [hset, hnew]; omega) | rfl | decide)) | exact At.new_eq2 _ _ (by (first | omega | (simp only [hset, hnew]; omega) | rfl | decide)) | refine At.set_ne ?_ (by (first | omega | (simp only [hset, hnew]; omega) | rfl | decide)) | refine At.new_ne ?_)))⟩
  · exact ⟨_, by (first | assumption | (repeat (first | assumption | exact At.set_eq2 (by (first | omega | (simp only [hset, hnew]; omega) | rfl | decide)) | exact At.new_eq2 _ _ (by (first | omega | (simp only [hset, hnew]; omega) | rfl | decide)) | refine At.set_ne ?_ (by (first | omega | (simp only [hset, hnew]; omega) | rfl | decide)) | refine At.new_ne ?_)))⟩
  · exact ⟨_, by (first | assumption | (repeat (first | assumption | exact At.set_eq2 (by (first | omega | (simp only [hset, hnew]; omega) | rfl | decide)) | exact At.new_eq2 _ _ (by (first | omega | (simp only [hset, hnew]; omega) | rfl | decide)) | refine At.set_ne ?_ (by (first | omega | (simp only [hset, hnew]; omega) | rfl | decide)) | refine At.new_ne ?_)))⟩
  · exact ⟨_, by (first | assumption | (repeat (first | assumption | exact At.set_eq2 (by (first | omega | (simp only [hset, hnew]; omega) | rfl | decide)) | exact At.new_eq2 _ _ (by (first | omega | (simp only [hset, hnew]; omega) | rfl | decide)) | refine At.set_ne ?_ (by (first | omega | (simp only [hset, hnew]; omega) | rfl | decide)) | refine At.new_ne ?_)))⟩
  · exact ⟨_, by (first | assumption | (repeat (first | assumption | exact At.set_eq2 (by (first | omega | (simp only [hset, hnew]; omega) | rfl | decide)) | exact At.new_eq2 _ _ (by (first | omega | (simp only [hset, hnew]; omega) | rfl | decide)) | refine At.set_ne ?_ (by (first | omega | (simp only [hset, hnew]; omega) | rfl | decide)) | refine At.new_ne ?_)))⟩
  · exact ⟨_, by (first | assumption | (repeat (first | assumption | exact At.set_eq2 (by (first | omega | (simp only [hset, hnew]; omega) | rfl | decide)) | exact At.new_eq2 _ _ (by (first | omega | (simp only [hset, hnew]; omega) | rfl | decide)) | refine At.set_ne ?_ (by (first | omega | (simp only [hset, hnew]; omega) | rfl | decide)) | refine At.new_ne ?_)))⟩
  · exact ⟨_, by (first | assumption | (repeat (first | assumption | exact At.set_eq2 (by (first | omega | (simp only [hset, hnew]; omega) | rfl | decide)) | exact At.new_eq2 _ _ (by (first | omega | (simp only [hset, hnew]; omega) | rfl | decide)) | refine At.set_ne ?_ (by (first | omega | (simp only [hset, hnew]; omega) | rfl | decide)) | refine At.new_ne ?_)))⟩
  · exact ⟨_, by (first | assumption | (repeat (first | assumption | exact At.set_eq2 (by (first | omega | (simp only [hset, hnew]; omega) | rfl | decide)) | exact At.new_eq2 _ _ (by (first | omega | (simp only [hset, hnew]; omega) | rfl | decide)) | refine At.set_ne ?_ (by (first | omega | (simp only [hset, hnew]; omega) | rfl | decide)) | refine At.new_ne ?_)))⟩
  · exact ⟨_, by (first | assumption | (repeat (first | assumption | exact At.set_eq2 (by (first | omega | (simp only [hset, hnew]; omega) | rfl | decide)) | exact At.new_eq2 _ _ (by (first | omega | (simp only [hset, hnew]; omega) | rfl | decide)) | refine At.set_ne ?_ (by (first | omega | (simp only [hset, hnew]; omega) | rfl | decide)) | refine At.new_ne ?_)))⟩
  · exact ⟨_, by (first | assumption | (repeat (first | assumption | exact At.set_eq2 (by (first | omega | (simp only [hset, hnew]; omega) | rfl | decide)) | exact At.new_eq2 _ _ (by (first | omega | (simp only [hset, hnew]; omega) | rfl | decide)) | refine At.set_ne ?_ (by (first | omega | (simp only [hset, hnew]; omega) | rfl | decide)) | refine At.new_ne ?_)))⟩
  · exact ⟨_, by (first | assumption | (repeat (first | assumption | exact At.set_eq2 (by (first | omega | (simp only [hset, hnew]; omega) | rfl | decide)) | exact At.new_eq2 _ _ (by (first | omega | (simp only [hset, hnew]; omega) | rfl | decide)) | refine At.set_ne ?_ (by (first | omega | (simp only [hset, hnew]; omega) | rfl | decide)) | refine At.new_ne ?_)))⟩
  · exact ⟨_, by (first | assumption | (repeat (first | assumption | exact At.set_eq2 (by (first | omega | (simp only [hset, hnew]; omega) | rfl | decide)) | exact At.new_eq2 _ _ (by (first | omega | (simp only [hset, hnew]; omega) | rfl | decide)) | refine At.set_ne ?_ (by (first | omega | (simp only [hset, hnew]; omega) | rfl | decide)) | refine At.new_ne ?_)))⟩
  · exact ⟨_, by (first | assumption | (repeat (first | assumption | exact At.set_eq2 (by (first | omega | (simp only [hset, hnew]; omega) | rfl | decide)) | exact At.new_eq2 _ _ (by (first | omega | (simp only [hset, hnew]; omega) | rfl | decide)) | refine At.set_ne ?_ (by (first | omega | (simp only [hset, hnew]; omega) | rfl | decide)) | refine At.new_ne ?_)))⟩
  · exact ⟨_, by (first | assumption | (repeat (first | assumption | exact At.set_eq2 (by (first | omega | (simp only [hset, hnew]; omega) | rfl | decide)) | exact At.new_eq2 _ _ (by (first | omega | (simp only [hset, hnew]; omega) | rfl | decide)) | refine At.set_ne ?_ (by (first | omega | (simp only [hset, hnew]; omega) | rfl | decide)) | refine At.new_ne ?_)))⟩
  · exact ⟨_, by (first | assumption | (repeat (first | assumption | exact At.set_eq2 (by (first | omega | (simp only [hset, hnew]; omega) | rfl | decide)) | exact At.new_eq2 _ _ (by (first | omega | (simp only [hset, hnew]; omega) | rfl | decide)) | refine At.set_ne ?_ (by (first | omega | (simp only [hset, hnew]; omega) | rfl | decide)) | refine At.new_ne ?_)))⟩

/-- the reference: its numbers by name: thrown bytes errorAt token isWrong error errorToken deep names -/
def ModO (m : Nat) (th by_ ea tk iw er et dp nm : Int32) : AC := .inr (10, [.int th, .ref (m + 1), .int by_, .int ea, .ref (m + 2), .ref (m + 3), .ref (m + 4), .ref (m + 5), .int tk, .int iw, .int er, .int et, .int dp, .ref (m + 6), .ref (m + 7), .ref (m + 8), .int nm, .ref (m + 9), .ref (m + 28), .ref (m + 47), .ref (m + 48), .ref (m + 49), .ref (m + 50), .ref (m + 51), .ref (m + 52)])
/-- its rows, told and fresh; 'now' tells its day -/
def ModR (h : AH) (m : Nat) (la ja li day : Int32) : Prop := ArI h (m + 1) 1600 ∧ ArI h (m + 2) 402 ∧ ArI h (m + 3) 402 ∧ ArI h (m + 4) 402 ∧ ArI h (m + 5) 402 ∧ ArI h (m + 6) 20 ∧ ArI h (m + 7) 20 ∧ ArI h (m + 8) 20 ∧ (∃ ru ac no, MBoE h (m + 9) la ja li ru ac no) ∧ (∃ a b c e f g, MBoE h (m + 28) a b c e f g) ∧ ArI h (m + 47) 800 ∧ (∃ f : Nat → Int32, At h (m + 48) (.inl (0, 61, .inl f)) ∧ f 0 = day) ∧ ArI h (m + 49) 61 ∧ ArI h (m + 50) 6 ∧ ArI h (m + 51) 6 ∧ ArI h (m + 52) 6
theorem ModR.keep {h h' : AH} {m : Nat} {la ja li day : Int32} (q : ModR h m la ja li day) (e : h.1 ≤ h'.1) (u : Un h h' (m + 1) (m + 53)) : ModR h' m la ja li day := by
  obtain ⟨a1, a2, a3, a4, a5, a6, a7, a8, ⟨ru, ac, no, a9⟩, ⟨b1, b2, b3, b4, b5, b6, a28⟩, a47, ⟨f, a48, hf⟩, a49, a50, a51, a52⟩ := q
  exact ⟨a1.keep e (u _ (by omega) (by omega)), a2.keep e (u _ (by omega) (by omega)), a3.keep e (u _ (by omega) (by omega)), a4.keep e (u _ (by omega) (by omega)), a5.keep e (u _ (by omega) (by omega)), a6.keep e (u _ (by omega) (by omega)), a7.keep e (u _ (by omega) (by omega)), a8.keep e (u _ (by omega) (by omega)), ⟨ru, ac, no, a9.keep e (u.sub (by omega) (by omega))⟩, ⟨b1, b2, b3, b4, b5, b6, a28.keep e (u.sub (by omega) (by omega))⟩, a47.keep e (u _ (by omega) (by omega)), ⟨f, a48.keep e (u _ (by omega) (by omega)), hf⟩, a49.keep e (u _ (by omega) (by omega)), a50.keep e (u _ (by omega) (by omega)), a51.keep e (u _ (by omega) (by omega)), a52.keep e (u _ (by omega) (by omega))⟩

set_option maxHeartbeats 4000000 in
set_option maxRecDepth 100000 in
theorem s_M_anew_l {m : Nat} {th by_ ea tk iw er et dp nm : Int32} {Q : OC → AH → Prop} {h0 : AH} (hd : 2 ≤ d)
    (k9 : ∀ (h1 : AH) (f : Nat → Int32), At h1 (m + 48) (.inl (0, 61, .inl f)) → f 0 = 0 → h1.1 = h0.1 → h1.2.1 = h0.2.1 → Un h0 h1 0 (m + 48) → Un h0 h1 (m + 49) h0.1 → RQ G mX12_anew d 49 [some (.ref m), some (.int (nI 6))] [] h1 Q) (am : At h0 m (ModO m th by_ ea tk iw er et dp nm)) :
    ∀ (n k : Nat) (h : AH) (f : Nat → Int32), 6 ≤ k + n → k ≤ 6 → At h (m + 48) (.inl (0, 61, .inl f)) → f 0 = 0 → h.1 = h0.1 → h.2.1 = h0.2.1 → Un h0 h 0 (m + 48) → Un h0 h (m + 49) h0.1 → RQ G mX12_anew d 27 [some (.ref m), some (.int (nI k))] [] h Q := by
  intro n
  induction n with
  | zero =>
    intro k h f h1 h2 a0 hf e1 e2 u1 u2
    have hk : k = 6 := by omega
    subst hk
    refine tX12_anew_27  (r := ?_)
    refine tX12_anew_28  (r := ?_)
    refine tX12_anew_30  (kf := fun c_ => by exfalso; (simp (disch := first | omega | decide) only [ci_lt, ci_le, ci_eq, ci_lt0, ci_ge0, ci_gt0, ci_le0, ci_eq0, ci_m1_lt, ci_m1_le, ci_lt_m1, ci_le_m1, ci_eq_m1, ci_m1_eq, not_true, not_false_iff, Nat.not_lt, Nat.not_le] at c_ <;> omega)) (kt := fun _ => ?_)
    exact k9 _ _ a0 hf e1 e2 u1 u2
  | succ n ih =>
    intro k h f h1 h2 a0 hf e1 e2 u1 u2
    by_cases hk : k = 6
    · subst hk
      refine tX12_anew_27  (r := ?_)
      refine tX12_anew_28  (r := ?_)
      refine tX12_anew_30  (kf := fun c_ => by exfalso; (simp (disch := first | omega | decide) only [ci_lt, ci_le, ci_eq, ci_lt0, ci_ge0, ci_gt0, ci_le0, ci_eq0, ci_m1_lt, ci_m1_le, ci_lt_m1, ci_le_m1, ci_eq_m1, ci_m1_eq, not_true, not_false_iff, Nat.not_lt, Nat.not_le] at c_ <;> omega)) (kt := fun _ => ?_)
      exact k9 _ _ a0 hf e1 e2 u1 u2
    · refine tX12_anew_27  (r := ?_)
      refine tX12_anew_28  (r := ?_)
      refine tX12_anew_30  (kt := fun c_ => by exfalso; (simp (disch := first | omega | decide) only [ci_lt, ci_le, ci_eq, ci_lt0, ci_ge0, ci_gt0, ci_le0, ci_eq0, ci_m1_lt, ci_m1_le, ci_lt_m1, ci_le_m1, ci_eq_m1, ci_m1_eq, not_true, not_false_iff, Nat.not_lt, Nat.not_le] at c_ <;> omega)) (kf := fun _ => ?_)
      refine tX12_anew_33  (r := ?_)
      have am1 : At h m (ModO m th by_ ea tk iw er et dp nm) := am.keep (by omega) (u1 _ (by omega) (by omega))
      refine tX12_anew_34 (ha := (by first | assumption | (repeat (first | assumption | exact At.set_eq2 (by first | omega | (simp only [hset, hnew]; omega) | rfl | decide) | exact At.new_eq2 _ _ (by first | omega | (simp only [hset, hnew]; omega) | rfl | decide) | refine At.set_ne ?_ (by first | omega | (simp only [hset, hnew]; omega) | rfl | decide) | refine At.new_ne ?_)))) (hv := rfl) (r := ?_)
      refine tX12_anew_37  (r := ?_)
      refine tX12_anew_39  (r := ?_)
      refine tX12_anew_40  (r := ?_)
      rw [show nI 49 + nI k = nI (49 + k) from nI_add _ _]
      refine tX12_anew_41  (r := ?_)
      refine tX12_anew_42 (ha := (by first | assumption | (repeat (first | assumption | exact At.set_eq2 (by first | omega | (simp only [hset, hnew]; omega) | rfl | decide) | exact At.new_eq2 _ _ (by first | omega | (simp only [hset, hnew]; omega) | rfl | decide) | refine At.set_ne ?_ (by first | omega | (simp only [hset, hnew]; omega) | rfl | decide) | refine At.new_ne ?_)))) (hx := (by first | rfl | assumption | exact nI_add _ _)) (hj := (by omega)) (hn := (by decide)) (r := ?_)
      refine tX12_anew_43  (r := ?_)
      rw [show nI k + nI 1 = nI (k + 1) from nI_add _ _]
      refine tX12_anew_46 (r := ?_)
      exact ih (k + 1) _ _ (by omega) (by omega) (At.set_eq2 a0.1) (by simp only [upd]; rw [if_neg (by omega)]; exact hf) e1 e2 (Un.set u1 (by omega)) (Un.set u2 (by omega))

set_option maxHeartbeats 4000000 in
set_option maxRecDepth 100000 in
theorem s_M_anew (hd : 2 ≤ d) {m : Nat} {th by_ ea tk iw er et dp nm la ja li ru ac no : Int32} {f : Nat → Int32} (am : At h m (ModO m th by_ ea tk iw er et dp nm)) (a9 : MBoE h (m + 9) la ja li ru ac no) (a48 : At h (m + 48) (.inl (0, 61, .inl f))) : RQ G mX12_anew d 0 [some (.ref m), none] [] h (Rv fun h2 => (∃ f, At h2 (m + 48) (.inl (0, 61, .inl f)) ∧ f 0 = 0) ∧ h2.1 = h.1 ∧ h2.2.1 = h.2.1 ∧ Un h h2 0 (m + 48) ∧ Un h h2 (m + 49) h.1) := by
  obtain ⟨b0, br⟩ := a9
  have b0 : At h (m + 9) (.inr (9, [.int la, .int ja, .ref (m + 9 + 1), .ref (m + 9 + 2), .ref (m + 9 + 3), .int li, .ref (m + 9 + 4), .ref (m + 9 + 5), .ref (m + 9 + 6), .ref (m + 9 + 7), .int ru, .ref (m + 9 + 8), .ref (m + 9 + 9), .ref (m + 9 + 10), .ref (m + 9 + 11), .int ac, .ref (m + 9 + 12), .ref (m + 9 + 13), .ref (m + 9 + 14), .ref (m + 9 + 15), .int no, .ref (m + 9 + 16), .ref (m + 9 + 17), .ref (m + 9 + 18)])) := b0
  obtain ⟨fb, ab⟩ := br 2 (by decide)
  obtain ⟨fl, al⟩ := br 3 (by decide)
  have ab : At h (m + 9 + 3) (.inl (0, 54, .inl fb)) := ab
  have al : At h (m + 9 + 4) (.inl (0, 7, .inl fl)) := al
  have l48 := a48.1
  refine tX12_anew_0  (r := ?_)
  refine tX12_anew_1 (ha := (by first | assumption | (repeat (first | assumption | exact At.set_eq2 (by first | omega | (simp only [hset, hnew]; omega) | rfl | decide) | exact At.new_eq2 _ _ (by first | omega | (simp only [hset, hnew]; omega) | rfl | decide) | refine At.set_ne ?_ (by first | omega | (simp only [hset, hnew]; omega) | rfl | decide) | refine At.new_ne ?_)))) (hv := rfl) (r := ?_)
  refine tX12_anew_4  (r := ?_)
  refine tX12_anew_5  (r := ?_)
  refine tX12_anew_6 (ha := (by first | assumption | (repeat (first | assumption | exact At.set_eq2 (by first | omega | (simp only [hset, hnew]; omega) | rfl | decide) | exact At.new_eq2 _ _ (by first | omega | (simp only [hset, hnew]; omega) | rfl | decide) | refine At.set_ne ?_ (by first | omega | (simp only [hset, hnew]; omega) | rfl | decide) | refine At.new_ne ?_)))) (hx := (show nI 0 = nI 0 from rfl)) (hj := (by omega)) (hn := (by decide)) (r := ?_)
  refine tX12_anew_7  (r := ?_)
  refine tX12_anew_8 (ha := (by first | assumption | (repeat (first | assumption | exact At.set_eq2 (by first | omega | (simp only [hset, hnew]; omega) | rfl | decide) | exact At.new_eq2 _ _ (by first | omega | (simp only [hset, hnew]; omega) | rfl | decide) | refine At.set_ne ?_ (by first | omega | (simp only [hset, hnew]; omega) | rfl | decide) | refine At.new_ne ?_)))) (hv := rfl) (r := ?_)
  refine tX12_anew_11 (ha := (by first | assumption | (repeat (first | assumption | exact At.set_eq2 (by first | omega | (simp only [hset, hnew]; omega) | rfl | decide) | exact At.new_eq2 _ _ (by first | omega | (simp only [hset, hnew]; omega) | rfl | decide) | refine At.set_ne ?_ (by first | omega | (simp only [hset, hnew]; omega) | rfl | decide) | refine At.new_ne ?_)))) (hv := rfl) (r := ?_)
  refine tX12_anew_14  (r := ?_)
  refine tX12_anew_15  (r := ?_)
  refine tX12_anew_16 (ha := (by first | assumption | (repeat (first | assumption | exact At.set_eq2 (by first | omega | (simp only [hset, hnew]; omega) | rfl | decide) | exact At.new_eq2 _ _ (by first | omega | (simp only [hset, hnew]; omega) | rfl | decide) | refine At.set_ne ?_ (by first | omega | (simp only [hset, hnew]; omega) | rfl | decide) | refine At.new_ne ?_)))) (hv := rfl) (r := ?_)
  refine tX12_anew_19  (r := ?_)
  refine tX12_anew_20  (r := ?_)
  refine tX12_anew_22 (hd := (by omega)) (ha0 := (by first | assumption | (repeat (first | assumption | exact At.set_eq2 (by first | omega | (simp only [hset, hnew]; omega) | rfl | decide) | exact At.new_eq2 _ _ (by first | omega | (simp only [hset, hnew]; omega) | rfl | decide) | refine At.set_ne ?_ (by first | omega | (simp only [hset, hnew]; omega) | rfl | decide) | refine At.new_ne ?_)))) (ha1 := (by first | assumption | (repeat (first | assumption | exact At.set_eq2 (by first | omega | (simp only [hset, hnew]; omega) | rfl | decide) | exact At.new_eq2 _ _ (by first | omega | (simp only [hset, hnew]; omega) | rfl | decide) | refine At.set_ne ?_ (by first | omega | (simp only [hset, hnew]; omega) | rfl | decide) | refine At.new_ne ?_)))) (hxs := (show nI 0 = nI 0 from rfl)) (hxd := (show nI 1 = nI 1 from rfl)) (hxn := (show nI 48 = nI 48 from rfl)) (hb0 := (by omega)) (hb1 := (by omega)) (hn0 := (by omega)) (hn1 := (by omega)) (r := ?_)
  refine tX12_anew_25  (r := ?_)
  refine tX12_anew_26  (r := ?_)
  refine s_M_anew_l (h0 := h) (am := am) hd ?_ 6 0 _ _ (by omega) (by omega) (At.set_eq2 (by (first | omega | (simp only [hset, hnew]; omega) | rfl | decide))) (by simp [va_cpy, upd]; rfl) rfl rfl (by (repeat (first | assumption | exact Un.rf _ _ _ | refine Un.set ?_ (by (first | omega | (simp only [hset, hnew]; omega) | rfl | decide)) | refine Un.new ?_ (by (first | omega | (simp only [hset, hnew]; omega) | rfl | decide))))) (by (repeat (first | assumption | exact Un.rf _ _ _ | refine Un.set ?_ (by (first | omega | (simp only [hset, hnew]; omega) | rfl | decide)) | refine Un.new ?_ (by (first | omega | (simp only [hset, hnew]; omega) | rfl | decide)))))
  intro h1 f1 b1 b2 b3 b4 u1 u2
  have am1 : At h1 m (ModO m th by_ ea tk iw er et dp nm) := am.keep (by omega) (u1 _ (by omega) (by omega))
  have b01 := b0.keep (h' := h1) (by omega) (u1 _ (by omega) (by omega))
  have al1 := al.keep (h' := h1) (by omega) (u1 _ (by omega) (by omega))
  refine tX12_anew_49  (r := ?_)
  refine tX12_anew_50 (ha := (by first | assumption | (repeat (first | assumption | exact At.set_eq2 (by first | omega | (simp only [hset, hnew]; omega) | rfl | decide) | exact At.new_eq2 _ _ (by first | omega | (simp only [hset, hnew]; omega) | rfl | decide) | refine At.set_ne ?_ (by first | omega | (simp only [hset, hnew]; omega) | rfl | decide) | refine At.new_ne ?_)))) (hv := rfl) (r := ?_)
  refine tX12_anew_53 (ha := (by first | assumption | (repeat (first | assumption | exact At.set_eq2 (by first | omega | (simp only [hset, hnew]; omega) | rfl | decide) | exact At.new_eq2 _ _ (by first | omega | (simp only [hset, hnew]; omega) | rfl | decide) | refine At.set_ne ?_ (by first | omega | (simp only [hset, hnew]; omega) | rfl | decide) | refine At.new_ne ?_)))) (hv := rfl) (r := ?_)
  refine tX12_anew_56  (r := ?_)
  refine tX12_anew_57  (r := ?_)
  refine tX12_anew_58 (ha := (by first | assumption | (repeat (first | assumption | exact At.set_eq2 (by first | omega | (simp only [hset, hnew]; omega) | rfl | decide) | exact At.new_eq2 _ _ (by first | omega | (simp only [hset, hnew]; omega) | rfl | decide) | refine At.set_ne ?_ (by first | omega | (simp only [hset, hnew]; omega) | rfl | decide) | refine At.new_ne ?_)))) (hv := rfl) (r := ?_)
  refine tX12_anew_61  (r := ?_)
  refine tX12_anew_63  (r := ?_)
  refine tX12_anew_65 (hd := (by omega)) (ha0 := (by first | assumption | (repeat (first | assumption | exact At.set_eq2 (by first | omega | (simp only [hset, hnew]; omega) | rfl | decide) | exact At.new_eq2 _ _ (by first | omega | (simp only [hset, hnew]; omega) | rfl | decide) | refine At.set_ne ?_ (by first | omega | (simp only [hset, hnew]; omega) | rfl | decide) | refine At.new_ne ?_)))) (ha1 := (by first | assumption | (repeat (first | assumption | exact At.set_eq2 (by first | omega | (simp only [hset, hnew]; omega) | rfl | decide) | exact At.new_eq2 _ _ (by first | omega | (simp only [hset, hnew]; omega) | rfl | decide) | refine At.set_ne ?_ (by first | omega | (simp only [hset, hnew]; omega) | rfl | decide) | refine At.new_ne ?_)))) (hxs := (show nI 0 = nI 0 from rfl)) (hxd := (show nI 55 = nI 55 from rfl)) (hxn := (show nI 6 = nI 6 from rfl)) (hb0 := (by omega)) (hb1 := (by omega)) (hn0 := (by omega)) (hn1 := (by omega)) (r := ?_)
  refine tX12_anew_68  (hP := ?_)
  refine ⟨rfl, ⟨_, At.set_eq2 (by rw [b3]; exact l48), ?_⟩, b3, b4, Un.set u1 (by omega), Un.set u2 (by omega)⟩
  simp [va_cpy, b2]

set_option maxHeartbeats 4000000 in
set_option maxRecDepth 100000 in
theorem s_Model_init (hd : 3 ≤ d) {m : Nat} (a0 : At h m (.inr (10, [.int 0, .null, .int 0, .int 0, .null, .null, .null, .null, .int 0, .int 0, .int 0, .int 0, .int 0, .null, .null, .null, .int 0, .null, .null, .null, .null, .null, .null, .null, .null]))) (hj : h.1 = m + 1) : RQ G mX12_init d 0 [some (.ref m)] [] h (Rv fun h2 => At h2 m (ModO m 0 0 (-1) 0 0 0 0 0 0) ∧ ModR h2 m 0 0 0 0 ∧ Gw h h2 m 52 9944) := by
  refine tX12_init_0  (r := ?_)
  refine tX12_init_1 (hd := (by omega)) (r := ?_)
  refine tX12_init_4  (r := ?_)
  refine tX12_init_5  (r := ?_)
  refine tX12_init_8 (hx := (by first | rfl | assumption | exact nI_add _ _)) (hn := (by decide)) (r := ?_)
  refine RQ.refId (k' := m + 1) (by (first | omega | (simp only [hset, hnew]; omega) | rfl | decide)) ?_
  refine tX12_init_10 (ha := (by first | assumption | (repeat (first | assumption | exact At.set_eq2 (by first | omega | (simp only [hset, hnew]; omega) | rfl | decide) | exact At.new_eq2 _ _ (by first | omega | (simp only [hset, hnew]; omega) | rfl | decide) | refine At.set_ne ?_ (by first | omega | (simp only [hset, hnew]; omega) | rfl | decide) | refine At.new_ne ?_)))) (hlen := rfl) (r := ?_)
  refine tX12_init_13  (r := ?_)
  refine tX12_init_14  (r := ?_)
  refine tX12_init_15 (ha := (by first | assumption | (repeat (first | assumption | exact At.set_eq2 (by first | omega | (simp only [hset, hnew]; omega) | rfl | decide) | exact At.new_eq2 _ _ (by first | omega | (simp only [hset, hnew]; omega) | rfl | decide) | refine At.set_ne ?_ (by first | omega | (simp only [hset, hnew]; omega) | rfl | decide) | refine At.new_ne ?_)))) (hlen := rfl) (r := ?_)
  refine tX12_init_18  (r := ?_)
  refine tX12_init_19  (r := ?_)
  refine tX12_init_22 (hx := (by first | rfl | assumption | exact nI_add _ _)) (hn := (by decide)) (r := ?_)
  refine RQ.refId (k' := m + 2) (by (first | omega | (simp only [hset, hnew]; omega) | rfl | decide)) ?_
  refine tX12_init_24 (ha := (by first | assumption | (repeat (first | assumption | exact At.set_eq2 (by first | omega | (simp only [hset, hnew]; omega) | rfl | decide) | exact At.new_eq2 _ _ (by first | omega | (simp only [hset, hnew]; omega) | rfl | decide) | refine At.set_ne ?_ (by first | omega | (simp only [hset, hnew]; omega) | rfl | decide) | refine At.new_ne ?_)))) (hlen := rfl) (r := ?_)
  refine tX12_init_27  (r := ?_)
  refine tX12_init_28  (r := ?_)
  refine tX12_init_31 (hx := (by first | rfl | assumption | exact nI_add _ _)) (hn := (by decide)) (r := ?_)
  refine RQ.refId (k' := m + 3) (by (first | omega | (simp only [hset, hnew]; omega) | rfl | decide)) ?_
  refine tX12_init_33 (ha := (by first | assumption | (repeat (first | assumption | exact At.set_eq2 (by first | omega | (simp only [hset, hnew]; omega) | rfl | decide) | exact At.new_eq2 _ _ (by first | omega | (simp only [hset, hnew]; omega) | rfl | decide) | refine At.set_ne ?_ (by first | omega | (simp only [hset, hnew]; omega) | rfl | decide) | refine At.new_ne ?_)))) (hlen := rfl) (r := ?_)
  refine tX12_init_36  (r := ?_)
  refine tX12_init_37  (r := ?_)
  refine tX12_init_40 (hx := (by first | rfl | assumption | exact nI_add _ _)) (hn := (by decide)) (r := ?_)
  refine RQ.refId (k' := m + 4) (by (first | omega | (simp only [hset, hnew]; omega) | rfl | decide)) ?_
  refine tX12_init_42 (ha := (by first | assumption | (repeat (first | assumption | exact At.set_eq2 (by first | omega | (simp only [hset, hnew]; omega) | rfl | decide) | exact At.new_eq2 _ _ (by first | omega | (simp only [hset, hnew]; omega) | rfl | decide) | refine At.set_ne ?_ (by first | omega | (simp only [hset, hnew]; omega) | rfl | decide) | refine At.new_ne ?_)))) (hlen := rfl) (r := ?_)
  refine tX12_init_45  (r := ?_)
  refine tX12_init_46  (r := ?_)
  refine tX12_init_49 (hx := (by first | rfl | assumption | exact nI_add _ _)) (hn := (by decide)) (r := ?_)
  refine RQ.refId (k' := m + 5) (by (first | omega | (simp only [hset, hnew]; omega) | rfl | decide)) ?_
  refine tX12_init_51 (ha := (by first | assumption | (repeat (first | assumption | exact At.set_eq2 (by first | omega | (simp only [hset, hnew]; omega) | rfl | decide) | exact At.new_eq2 _ _ (by first | omega | (simp only [hset, hnew]; omega) | rfl | decide) | refine At.set_ne ?_ (by first | omega | (simp only [hset, hnew]; omega) | rfl | decide) | refine At.new_ne ?_)))) (hlen := rfl) (r := ?_)
  refine tX12_init_54  (r := ?_)
  refine tX12_init_55  (r := ?_)
  refine tX12_init_57 (hx := (by first | rfl | assumption | exact nI_add _ _)) (hn := (by decide)) (r := ?_)
  refine RQ.refId (k' := m + 6) (by (first | omega | (simp only [hset, hnew]; omega) | rfl | decide)) ?_
  refine tX12_init_59 (ha := (by first | assumption | (repeat (first | assumption | exact At.set_eq2 (by first | omega | (simp only [hset, hnew]; omega) | rfl | decide) | exact At.new_eq2 _ _ (by first | omega | (simp only [hset, hnew]; omega) | rfl | decide) | refine At.set_ne ?_ (by first | omega | (simp only [hset, hnew]; omega) | rfl | decide) | refine At.new_ne ?_)))) (hlen := rfl) (r := ?_)
  refine tX12_init_62  (r := ?_)
  refine tX12_init_63  (r := ?_)
  refine tX12_init_65 (hx := (by first | rfl | assumption | exact nI_add _ _)) (hn := (by decide)) (r := ?_)
  refine RQ.refId (k' := m + 7) (by (first | omega | (simp only [hset, hnew]; omega) | rfl | decide)) ?_
  refine tX12_init_67 (ha := (by first | assumption | (repeat (first | assumption | exact At.set_eq2 (by first | omega | (simp only [hset, hnew]; omega) | rfl | decide) | exact At.new_eq2 _ _ (by first | omega | (simp only [hset, hnew]; omega) | rfl | decide) | refine At.set_ne ?_ (by first | omega | (simp only [hset, hnew]; omega) | rfl | decide) | refine At.new_ne ?_)))) (hlen := rfl) (r := ?_)
  refine tX12_init_70  (r := ?_)
  refine tX12_init_71  (r := ?_)
  refine tX12_init_73 (hx := (by first | rfl | assumption | exact nI_add _ _)) (hn := (by decide)) (r := ?_)
  refine RQ.refId (k' := m + 8) (by (first | omega | (simp only [hset, hnew]; omega) | rfl | decide)) ?_
  refine tX12_init_75 (ha := (by first | assumption | (repeat (first | assumption | exact At.set_eq2 (by first | omega | (simp only [hset, hnew]; omega) | rfl | decide) | exact At.new_eq2 _ _ (by first | omega | (simp only [hset, hnew]; omega) | rfl | decide) | refine At.set_ne ?_ (by first | omega | (simp only [hset, hnew]; omega) | rfl | decide) | refine At.new_ne ?_)))) (hlen := rfl) (r := ?_)
  refine tX12_init_78  (r := ?_)
  refine tX12_init_79  (r := ?_)
  refine RQ.refId (k' := m + 9) (by (first | omega | (simp only [hset, hnew]; omega) | rfl | decide)) ?_
  refine tX12_init_82  (r := ?_)
  refine tX12_init_83 (hd := (by omega)) (call := s_MBook_init (d := 1) (Nat.le_refl 1) (At.new_eq2 _ _ (by (first | omega | (simp only [hset, hnew]; omega) | rfl | decide))) (by (first | omega | (simp only [hset, hnew]; omega) | rfl | decide))) (k := ?_)
  intro h1 hq
  obtain ⟨q1, q2, q3, q4⟩ := hq
  have q2 : h1.1 = m + 28 := q2.trans (by (first | omega | (simp only [hset, hnew]; omega) | rfl | decide))
  have q3 : h1.2.1 = h.2.1 + 6136 := q3.trans (by (first | omega | (simp only [hset, hnew]; omega) | rfl | decide))
  have a0 : At h1 m (.inr (10, [.int 0, .ref (m + 1), .int 0, .int (-1), .ref (m + 2), .ref (m + 3), .ref (m + 4), .ref (m + 5), .int 0, .int 0, .int 0, .int 0, .int 0, .ref (m + 6), .ref (m + 7), .ref (m + 8), .int 0, .null, .null, .null, .null, .null, .null, .null, .null])) := At.keep (by (first | assumption | (repeat (first | assumption | exact At.set_eq2 (by (first | omega | (simp only [hset, hnew]; omega) | rfl | decide)) | exact At.new_eq2 _ _ (by (first | omega | (simp only [hset, hnew]; omega) | rfl | decide)) | refine At.set_ne ?_ (by (first | omega | (simp only [hset, hnew]; omega) | rfl | decide)) | refine At.new_ne ?_)))) (by (first | omega | (simp only [hset, hnew]; omega) | rfl | decide)) (q4 _ (by omega) (by omega))
  have a1 : ArI h1 (m + 1) 1600 := ⟨_, At.keep (by (first | assumption | (repeat (first | assumption | exact At.set_eq2 (by (first | omega | (simp only [hset, hnew]; omega) | rfl | decide)) | exact At.new_eq2 _ _ (by (first | omega | (simp only [hset, hnew]; omega) | rfl | decide)) | refine At.set_ne ?_ (by (first | omega | (simp only [hset, hnew]; omega) | rfl | decide)) | refine At.new_ne ?_)))) (by (first | omega | (simp only [hset, hnew]; omega) | rfl | decide)) (q4 _ (by omega) (by omega))⟩
  have a2 : ArI h1 (m + 2) 402 := ⟨_, At.keep (by (first | assumption | (repeat (first | assumption | exact At.set_eq2 (by (first | omega | (simp only [hset, hnew]; omega) | rfl | decide)) | exact At.new_eq2 _ _ (by (first | omega | (simp only [hset, hnew]; omega) | rfl | decide)) | refine At.set_ne ?_ (by (first | omega | (simp only [hset, hnew]; omega) | rfl | decide)) | refine At.new_ne ?_)))) (by (first | omega | (simp only [hset, hnew]; omega) | rfl | decide)) (q4 _ (by omega) (by omega))⟩
  have a3 : ArI h1 (m + 3) 402 := ⟨_, At.keep (by (first | assumption | (repeat (first | assumption | exact At.set_eq2 (by (first | omega | (simp only [hset, hnew]; omega) | rfl | decide)) | exact At.new_eq2 _ _ (by (first | omega | (simp only [hset, hnew]; omega) | rfl | decide)) | refine At.set_ne ?_ (by (first | omega | (simp only [hset, hnew]; omega) | rfl | decide)) | refine At.new_ne ?_)))) (by (first | omega | (simp only [hset, hnew]; omega) | rfl | decide)) (q4 _ (by omega) (by omega))⟩
  have a4 : ArI h1 (m + 4) 402 := ⟨_, At.keep (by (first | assumption | (repeat (first | assumption | exact At.set_eq2 (by (first | omega | (simp only [hset, hnew]; omega) | rfl | decide)) | exact At.new_eq2 _ _ (by (first | omega | (simp only [hset, hnew]; omega) | rfl | decide)) | refine At.set_ne ?_ (by (first | omega | (simp only [hset, hnew]; omega) | rfl | decide)) | refine At.new_ne ?_)))) (by (first | omega | (simp only [hset, hnew]; omega) | rfl | decide)) (q4 _ (by omega) (by omega))⟩
  have a5 : ArI h1 (m + 5) 402 := ⟨_, At.keep (by (first | assumption | (repeat (first | assumption | exact At.set_eq2 (by (first | omega | (simp only [hset, hnew]; omega) | rfl | decide)) | exact At.new_eq2 _ _ (by (first | omega | (simp only [hset, hnew]; omega) | rfl | decide)) | refine At.set_ne ?_ (by (first | omega | (simp only [hset, hnew]; omega) | rfl | decide)) | refine At.new_ne ?_)))) (by (first | omega | (simp only [hset, hnew]; omega) | rfl | decide)) (q4 _ (by omega) (by omega))⟩
  have a6 : ArI h1 (m + 6) 20 := ⟨_, At.keep (by (first | assumption | (repeat (first | assumption | exact At.set_eq2 (by (first | omega | (simp only [hset, hnew]; omega) | rfl | decide)) | exact At.new_eq2 _ _ (by (first | omega | (simp only [hset, hnew]; omega) | rfl | decide)) | refine At.set_ne ?_ (by (first | omega | (simp only [hset, hnew]; omega) | rfl | decide)) | refine At.new_ne ?_)))) (by (first | omega | (simp only [hset, hnew]; omega) | rfl | decide)) (q4 _ (by omega) (by omega))⟩
  have a7 : ArI h1 (m + 7) 20 := ⟨_, At.keep (by (first | assumption | (repeat (first | assumption | exact At.set_eq2 (by (first | omega | (simp only [hset, hnew]; omega) | rfl | decide)) | exact At.new_eq2 _ _ (by (first | omega | (simp only [hset, hnew]; omega) | rfl | decide)) | refine At.set_ne ?_ (by (first | omega | (simp only [hset, hnew]; omega) | rfl | decide)) | refine At.new_ne ?_)))) (by (first | omega | (simp only [hset, hnew]; omega) | rfl | decide)) (q4 _ (by omega) (by omega))⟩
  have a8 : ArI h1 (m + 8) 20 := ⟨_, At.keep (by (first | assumption | (repeat (first | assumption | exact At.set_eq2 (by (first | omega | (simp only [hset, hnew]; omega) | rfl | decide)) | exact At.new_eq2 _ _ (by (first | omega | (simp only [hset, hnew]; omega) | rfl | decide)) | refine At.set_ne ?_ (by (first | omega | (simp only [hset, hnew]; omega) | rfl | decide)) | refine At.new_ne ?_)))) (by (first | omega | (simp only [hset, hnew]; omega) | rfl | decide)) (q4 _ (by omega) (by omega))⟩
  have w1 : Un h h1 0 m := Un.trans (by (repeat (first | assumption | exact Un.rf _ _ _ | refine Un.set ?_ (by (first | omega | (simp only [hset, hnew]; omega) | rfl | decide)) | refine Un.new ?_ (by (first | omega | (simp only [hset, hnew]; omega) | rfl | decide))))) (q4.sub (by omega) (by omega))
  clear q4
  refine tX12_init_86 (ha := (by first | assumption | (repeat (first | assumption | exact At.set_eq2 (by first | omega | (simp only [hset, hnew]; omega) | rfl | decide) | exact At.new_eq2 _ _ (by first | omega | (simp only [hset, hnew]; omega) | rfl | decide) | refine At.set_ne ?_ (by first | omega | (simp only [hset, hnew]; omega) | rfl | decide) | refine At.new_ne ?_)))) (hlen := rfl) (r := ?_)
  refine tX12_init_89  (r := ?_)
  refine tX12_init_90  (r := ?_)
  refine RQ.refId (k' := m + 28) (by (first | omega | (simp only [hset, hnew]; omega) | rfl | decide)) ?_
  refine tX12_init_93  (r := ?_)
  refine tX12_init_94 (hd := (by omega)) (call := s_MBook_init (d := 1) (Nat.le_refl 1) (At.new_eq2 _ _ (by (first | omega | (simp only [hset, hnew]; omega) | rfl | decide))) (by (first | omega | (simp only [hset, hnew]; omega) | rfl | decide))) (k := ?_)
  intro h2 hq
  obtain ⟨p1, p2, p3, p4⟩ := hq
  have p2 : h2.1 = m + 47 := p2.trans (by (first | omega | (simp only [hset, hnew]; omega) | rfl | decide))
  have p3 : h2.2.1 = h.2.1 + 9004 := p3.trans (by (first | omega | (simp only [hset, hnew]; omega) | rfl | decide))
  have a0 : At h2 m (.inr (10, [.int 0, .ref (m + 1), .int 0, .int (-1), .ref (m + 2), .ref (m + 3), .ref (m + 4), .ref (m + 5), .int 0, .int 0, .int 0, .int 0, .int 0, .ref (m + 6), .ref (m + 7), .ref (m + 8), .int 0, .ref (m + 9), .null, .null, .null, .null, .null, .null, .null])) := At.keep (by (first | assumption | (repeat (first | assumption | exact At.set_eq2 (by (first | omega | (simp only [hset, hnew]; omega) | rfl | decide)) | exact At.new_eq2 _ _ (by (first | omega | (simp only [hset, hnew]; omega) | rfl | decide)) | refine At.set_ne ?_ (by (first | omega | (simp only [hset, hnew]; omega) | rfl | decide)) | refine At.new_ne ?_)))) (by (first | omega | (simp only [hset, hnew]; omega) | rfl | decide)) (p4 _ (by omega) (by omega))
  have u2 : Un h1 h2 (m + 1) (m + 28) := Un.trans (by (repeat (first | assumption | exact Un.rf _ _ _ | refine Un.set ?_ (by (first | omega | (simp only [hset, hnew]; omega) | rfl | decide)) | refine Un.new ?_ (by (first | omega | (simp only [hset, hnew]; omega) | rfl | decide))))) (p4.sub (by omega) (by omega))
  have w2 : Un h1 h2 0 m := Un.trans (by (repeat (first | assumption | exact Un.rf _ _ _ | refine Un.set ?_ (by (first | omega | (simp only [hset, hnew]; omega) | rfl | decide)) | refine Un.new ?_ (by (first | omega | (simp only [hset, hnew]; omega) | rfl | decide))))) (p4.sub (by omega) (by omega))
  have a1 := a1.keep (h' := h2) (by omega) (u2 _ (by omega) (by omega))
  have a2 := a2.keep (h' := h2) (by omega) (u2 _ (by omega) (by omega))
  have a3 := a3.keep (h' := h2) (by omega) (u2 _ (by omega) (by omega))
  have a4 := a4.keep (h' := h2) (by omega) (u2 _ (by omega) (by omega))
  have a5 := a5.keep (h' := h2) (by omega) (u2 _ (by omega) (by omega))
  have a6 := a6.keep (h' := h2) (by omega) (u2 _ (by omega) (by omega))
  have a7 := a7.keep (h' := h2) (by omega) (u2 _ (by omega) (by omega))
  have a8 := a8.keep (h' := h2) (by omega) (u2 _ (by omega) (by omega))
  have q1 := q1.keep (h' := h2) (by omega) (u2.sub (by omega) (by omega))
  clear p4
  refine tX12_init_97 (ha := (by first | assumption | (repeat (first | assumption | exact At.set_eq2 (by first | omega | (simp only [hset, hnew]; omega) | rfl | decide) | exact At.new_eq2 _ _ (by first | omega | (simp only [hset, hnew]; omega) | rfl | decide) | refine At.set_ne ?_ (by first | omega | (simp only [hset, hnew]; omega) | rfl | decide) | refine At.new_ne ?_)))) (hlen := rfl) (r := ?_)
  refine tX12_init_100  (r := ?_)
  refine tX12_init_101  (r := ?_)
  refine tX12_init_104 (hx := (by first | rfl | assumption | exact nI_add _ _)) (hn := (by decide)) (r := ?_)
  refine RQ.refId (k' := m + 47) (by (first | omega | (simp only [hset, hnew]; omega) | rfl | decide)) ?_
  refine tX12_init_106 (ha := (by first | assumption | (repeat (first | assumption | exact At.set_eq2 (by first | omega | (simp only [hset, hnew]; omega) | rfl | decide) | exact At.new_eq2 _ _ (by first | omega | (simp only [hset, hnew]; omega) | rfl | decide) | refine At.set_ne ?_ (by first | omega | (simp only [hset, hnew]; omega) | rfl | decide) | refine At.new_ne ?_)))) (hlen := rfl) (r := ?_)
  refine tX12_init_109  (r := ?_)
  refine tX12_init_110  (r := ?_)
  refine tX12_init_112 (hx := (by first | rfl | assumption | exact nI_add _ _)) (hn := (by decide)) (r := ?_)
  refine RQ.refId (k' := m + 48) (by (first | omega | (simp only [hset, hnew]; omega) | rfl | decide)) ?_
  refine tX12_init_114 (ha := (by first | assumption | (repeat (first | assumption | exact At.set_eq2 (by first | omega | (simp only [hset, hnew]; omega) | rfl | decide) | exact At.new_eq2 _ _ (by first | omega | (simp only [hset, hnew]; omega) | rfl | decide) | refine At.set_ne ?_ (by first | omega | (simp only [hset, hnew]; omega) | rfl | decide) | refine At.new_ne ?_)))) (hlen := rfl) (r := ?_)
  refine tX12_init_117  (r := ?_)
  refine tX12_init_118  (r := ?_)
  refine tX12_init_120 (hx := (by first | rfl | assumption | exact nI_add _ _)) (hn := (by decide)) (r := ?_)
  refine RQ.refId (k' := m + 49) (by (first | omega | (simp only [hset, hnew]; omega) | rfl | decide)) ?_
  refine tX12_init_122 (ha := (by first | assumption | (repeat (first | assumption | exact At.set_eq2 (by first | omega | (simp only [hset, hnew]; omega) | rfl | decide) | exact At.new_eq2 _ _ (by first | omega | (simp only [hset, hnew]; omega) | rfl | decide) | refine At.set_ne ?_ (by first | omega | (simp only [hset, hnew]; omega) | rfl | decide) | refine At.new_ne ?_)))) (hlen := rfl) (r := ?_)
  refine tX12_init_125  (r := ?_)
  refine tX12_init_126  (r := ?_)
  refine tX12_init_128 (hx := (by first | rfl | assumption | exact nI_add _ _)) (hn := (by decide)) (r := ?_)
  refine RQ.refId (k' := m + 50) (by (first | omega | (simp only [hset, hnew]; omega) | rfl | decide)) ?_
  refine tX12_init_130 (ha := (by first | assumption | (repeat (first | assumption | exact At.set_eq2 (by first | omega | (simp only [hset, hnew]; omega) | rfl | decide) | exact At.new_eq2 _ _ (by first | omega | (simp only [hset, hnew]; omega) | rfl | decide) | refine At.set_ne ?_ (by first | omega | (simp only [hset, hnew]; omega) | rfl | decide) | refine At.new_ne ?_)))) (hlen := rfl) (r := ?_)
  refine tX12_init_133  (r := ?_)
  refine tX12_init_134  (r := ?_)
  refine tX12_init_136 (hx := (by first | rfl | assumption | exact nI_add _ _)) (hn := (by decide)) (r := ?_)
  refine RQ.refId (k' := m + 51) (by (first | omega | (simp only [hset, hnew]; omega) | rfl | decide)) ?_
  refine tX12_init_138 (ha := (by first | assumption | (repeat (first | assumption | exact At.set_eq2 (by first | omega | (simp only [hset, hnew]; omega) | rfl | decide) | exact At.new_eq2 _ _ (by first | omega | (simp only [hset, hnew]; omega) | rfl | decide) | refine At.set_ne ?_ (by first | omega | (simp only [hset, hnew]; omega) | rfl | decide) | refine At.new_ne ?_)))) (hlen := rfl) (r := ?_)
  refine tX12_init_141  (r := ?_)
  refine tX12_init_142  (r := ?_)
  refine tX12_init_144 (hx := (by first | rfl | assumption | exact nI_add _ _)) (hn := (by decide)) (r := ?_)
  refine RQ.refId (k' := m + 52) (by (first | omega | (simp only [hset, hnew]; omega) | rfl | decide)) ?_
  refine tX12_init_146 (ha := (by first | assumption | (repeat (first | assumption | exact At.set_eq2 (by first | omega | (simp only [hset, hnew]; omega) | rfl | decide) | exact At.new_eq2 _ _ (by first | omega | (simp only [hset, hnew]; omega) | rfl | decide) | refine At.set_ne ?_ (by first | omega | (simp only [hset, hnew]; omega) | rfl | decide) | refine At.new_ne ?_)))) (hlen := rfl) (r := ?_)
  refine tX12_init_149  (r := ?_)
  refine tX12_init_150 (hd := (by omega)) (ha := (by first | assumption | (repeat (first | assumption | exact At.set_eq2 (by first | omega | (simp only [hset, hnew]; omega) | rfl | decide) | exact At.new_eq2 _ _ (by first | omega | (simp only [hset, hnew]; omega) | rfl | decide) | refine At.set_ne ?_ (by first | omega | (simp only [hset, hnew]; omega) | rfl | decide) | refine At.new_ne ?_)))) (call := s_M_anew (d := 2) (Nat.le_refl 2) (th := 0) (by_ := 0) (ea := -1) (tk := 0) (iw := 0) (er := 0) (et := 0) (dp := 0) (nm := 0) (by (first | assumption | (repeat (first | assumption | exact At.set_eq2 (by (first | omega | (simp only [hset, hnew]; omega) | rfl | decide)) | exact At.new_eq2 _ _ (by (first | omega | (simp only [hset, hnew]; omega) | rfl | decide)) | refine At.set_ne ?_ (by (first | omega | (simp only [hset, hnew]; omega) | rfl | decide)) | refine At.new_ne ?_)))) (MBoE.keep q1 (by (first | omega | (simp only [hset, hnew]; omega) | rfl | decide)) (by (repeat (first | assumption | exact Un.rf _ _ _ | refine Un.set ?_ (by (first | omega | (simp only [hset, hnew]; omega) | rfl | decide)) | refine Un.new ?_ (by (first | omega | (simp only [hset, hnew]; omega) | rfl | decide)))))) (by (first | assumption | (repeat (first | assumption | exact At.set_eq2 (by (first | omega | (simp only [hset, hnew]; omega) | rfl | decide)) | exact At.new_eq2 _ _ (by (first | omega | (simp only [hset, hnew]; omega) | rfl | decide)) | refine At.set_ne ?_ (by (first | omega | (simp only [hset, hnew]; omega) | rfl | decide)) | refine At.new_ne ?_))))) (k := ?_)
  intro h3 hq
  obtain ⟨⟨f9, b48, hf9⟩, z2, z3, z4, z5⟩ := hq
  have z2 : h3.1 = m + 53 := z2.trans (by (first | omega | (simp only [hset, hnew]; omega) | rfl | decide))
  have z3 : h3.2.1 = h.2.1 + 9944 := z3.trans (by (first | omega | (simp only [hset, hnew]; omega) | rfl | decide))
  refine tX12_init_153  (hP := ?_)
  have v1 : Un h2 h3 (m + 1) (m + 47) := Un.trans (by (repeat (first | assumption | exact Un.rf _ _ _ | refine Un.set ?_ (by (first | omega | (simp only [hset, hnew]; omega) | rfl | decide)) | refine Un.new ?_ (by (first | omega | (simp only [hset, hnew]; omega) | rfl | decide))))) (z4.sub (by omega) (by omega))
  refine ⟨rfl, ?_, ⟨a1.keep (by omega) (v1 _ (by omega) (by omega)), a2.keep (by omega) (v1 _ (by omega) (by omega)), a3.keep (by omega) (v1 _ (by omega) (by omega)), a4.keep (by omega) (v1 _ (by omega) (by omega)), a5.keep (by omega) (v1 _ (by omega) (by omega)), a6.keep (by omega) (v1 _ (by omega) (by omega)), a7.keep (by omega) (v1 _ (by omega) (by omega)), a8.keep (by omega) (v1 _ (by omega) (by omega)), ⟨_, _, _, q1.keep (by omega) (v1.sub (by omega) (by omega))⟩, ⟨_, _, _, _, _, _, p1.keep (by omega) (v1.sub (by omega) (by omega))⟩, ?_, ⟨f9, b48, hf9⟩, ?_, ?_, ?_, ?_⟩, by omega, by omega, (w1.trans w2).trans (Un.trans (by (repeat (first | assumption | exact Un.rf _ _ _ | refine Un.set ?_ (by (first | omega | (simp only [hset, hnew]; omega) | rfl | decide)) | refine Un.new ?_ (by (first | omega | (simp only [hset, hnew]; omega) | rfl | decide))))) (z4.sub (by omega) (by omega)))⟩
  · exact At.keep (by (first | assumption | (repeat (first | assumption | exact At.set_eq2 (by (first | omega | (simp only [hset, hnew]; omega) | rfl | decide)) | exact At.new_eq2 _ _ (by (first | omega | (simp only [hset, hnew]; omega) | rfl | decide)) | refine At.set_ne ?_ (by (first | omega | (simp only [hset, hnew]; omega) | rfl | decide)) | refine At.new_ne ?_)))) (by (first | omega | (simp only [hset, hnew]; omega) | rfl | decide)) (z4 _ (by omega) (by omega))
  · exact ⟨_, At.keep (by (first | assumption | (repeat (first | assumption | exact At.set_eq2 (by (first | omega | (simp only [hset, hnew]; omega) | rfl | decide)) | exact At.new_eq2 _ _ (by (first | omega | (simp only [hset, hnew]; omega) | rfl | decide)) | refine At.set_ne ?_ (by (first | omega | (simp only [hset, hnew]; omega) | rfl | decide)) | refine At.new_ne ?_)))) (by (first | omega | (simp only [hset, hnew]; omega) | rfl | decide)) (z4 _ (by omega) (by omega))⟩
  · exact ⟨_, At.keep (by (first | assumption | (repeat (first | assumption | exact At.set_eq2 (by (first | omega | (simp only [hset, hnew]; omega) | rfl | decide)) | exact At.new_eq2 _ _ (by (first | omega | (simp only [hset, hnew]; omega) | rfl | decide)) | refine At.set_ne ?_ (by (first | omega | (simp only [hset, hnew]; omega) | rfl | decide)) | refine At.new_ne ?_)))) (by (first | omega | (simp only [hset, hnew]; omega) | rfl | decide)) (z5 _ (by omega) (by (first | omega | (simp only [hset, hnew]; omega) | rfl | decide)))⟩
  · exact ⟨_, At.keep (by (first | assumption | (repeat (first | assumption | exact At.set_eq2 (by (first | omega | (simp only [hset, hnew]; omega) | rfl | decide)) | exact At.new_eq2 _ _ (by (first | omega | (simp only [hset, hnew]; omega) | rfl | decide)) | refine At.set_ne ?_ (by (first | omega | (simp only [hset, hnew]; omega) | rfl | decide)) | refine At.new_ne ?_)))) (by (first | omega | (simp only [hset, hnew]; omega) | rfl | decide)) (z5 _ (by omega) (by (first | omega | (simp only [hset, hnew]; omega) | rfl | decide)))⟩
  · exact ⟨_, At.keep (by (first | assumption | (repeat (first | assumption | exact At.set_eq2 (by (first | omega | (simp only [hset, hnew]; omega) | rfl | decide)) | exact At.new_eq2 _ _ (by (first | omega | (simp only [hset, hnew]; omega) | rfl | decide)) | refine At.set_ne ?_ (by (first | omega | (simp only [hset, hnew]; omega) | rfl | decide)) | refine At.new_ne ?_)))) (by (first | omega | (simp only [hset, hnew]; omega) | rfl | decide)) (z5 _ (by omega) (by (first | omega | (simp only [hset, hnew]; omega) | rfl | decide)))⟩
  · exact ⟨_, At.keep (by (first | assumption | (repeat (first | assumption | exact At.set_eq2 (by (first | omega | (simp only [hset, hnew]; omega) | rfl | decide)) | exact At.new_eq2 _ _ (by (first | omega | (simp only [hset, hnew]; omega) | rfl | decide)) | refine At.set_ne ?_ (by (first | omega | (simp only [hset, hnew]; omega) | rfl | decide)) | refine At.new_ne ?_)))) (by (first | omega | (simp only [hset, hnew]; omega) | rfl | decide)) (z5 _ (by omega) (by (first | omega | (simp only [hset, hnew]; omega) | rfl | decide)))⟩

end S4
