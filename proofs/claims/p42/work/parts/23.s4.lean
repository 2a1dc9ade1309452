section S4
variable {G : GT} {d : Nat} {h : AH}
/-- the reference's book -/
def MBoO (b : Nat) (la ja li ru ac no : Int32) : AC := .inr (9, [.int la, .int ja, .ref (b + 1), .ref (b + 2), .ref (b + 3), .int li, .ref (b + 4), .ref (b + 5), .ref (b + 6), .ref (b + 7), .int ru, .ref (b + 8), .ref (b + 9), .ref (b + 10), .ref (b + 11), .int ac, .ref (b + 12), .ref (b + 13), .ref (b + 14), .ref (b + 15), .int no, .ref (b + 16), .ref (b + 17), .ref (b + 18)])
def mbLen (k : Nat) : Nat := [9, 9, 54, 7, 7, 7, 7, 25, 25, 25, 25, 61, 61, 61, 61, 800, 800, 800].getD k 0
def MBoE (h : AH) (b : Nat) (la ja li ru ac no : Int32) : Prop := At h b (MBoO b la ja li ru ac no) ∧ ∀ k, k < 18 → ArI h (b + 1 + k) (mbLen k)
theorem MBoE.keep {h h' : AH} {b : Nat} {la ja li ru ac no : Int32} (q : MBoE h b la ja li ru ac no) (e : h.1 ≤ h'.1) (u : Un h h' b (b + 19)) : MBoE h' b la ja li ru ac no := ⟨q.1.keep e (u _ (by omega) (by omega)), fun k hk => (q.2 k hk).keep e (u _ (by omega) (by omega))⟩
theorem all18 {P : Nat → Prop} (h0 : P 0) (h1 : P 1) (h2 : P 2) (h3 : P 3) (h4 : P 4) (h5 : P 5) (h6 : P 6) (h7 : P 7) (h8 : P 8) (h9 : P 9) (h10 : P 10) (h11 : P 11) (h12 : P 12) (h13 : P 13) (h14 : P 14) (h15 : P 15) (h16 : P 16) (h17 : P 17) : ∀ k, k < 18 → P k
  | 0, _ => h0 | 1, _ => h1 | 2, _ => h2 | 3, _ => h3 | 4, _ => h4 | 5, _ => h5 | 6, _ => h6 | 7, _ => h7 | 8, _ => h8 | 9, _ => h9 | 10, _ => h10 | 11, _ => h11 | 12, _ => h12 | 13, _ => h13 | 14, _ => h14 | 15, _ => h15 | 16, _ => h16 | 17, _ => h17
  | n + 18, q => absurd q (by omega)

/-- the reference: its numbers by name: thrown bytes errorAt token isWrong error errorToken deep names -/
def ModO (m : Nat) (th by_ ea tk iw er et dp nm : Int32) : AC := .inr (10, [.int th, .ref (m + 1), .int by_, .int ea, .ref (m + 2), .ref (m + 3), .ref (m + 4), .ref (m + 5), .int tk, .int iw, .int er, .int et, .int dp, .ref (m + 6), .ref (m + 7), .ref (m + 8), .int nm, .ref (m + 9), .ref (m + 28), .ref (m + 47), .ref (m + 48), .ref (m + 49), .ref (m + 50), .ref (m + 51), .ref (m + 52)])
/-- its rows, told and fresh; 'now' tells its day -/
def ModR (h : AH) (m : Nat) (la ja li day : Int32) : Prop := ArI h (m + 1) 1600 ∧ ArI h (m + 2) 402 ∧ ArI h (m + 3) 402 ∧ ArI h (m + 4) 402 ∧ ArI h (m + 5) 402 ∧ ArI h (m + 6) 20 ∧ ArI h (m + 7) 20 ∧ ArI h (m + 8) 20 ∧ (∃ ru ac no, MBoE h (m + 9) la ja li ru ac no) ∧ (∃ a b c e f g, MBoE h (m + 28) a b c e f g) ∧ ArI h (m + 47) 800 ∧ (∃ f : Nat → Int32, At h (m + 48) (.inl (0, 61, .inl f)) ∧ f 0 = day) ∧ ArI h (m + 49) 61 ∧ ArI h (m + 50) 6 ∧ ArI h (m + 51) 6 ∧ ArI h (m + 52) 6
theorem ModR.keep {h h' : AH} {m : Nat} {la ja li day : Int32} (q : ModR h m la ja li day) (e : h.1 ≤ h'.1) (u : Un h h' (m + 1) (m + 53)) : ModR h' m la ja li day := by
  obtain ⟨a1, a2, a3, a4, a5, a6, a7, a8, ⟨ru, ac, no, a9⟩, ⟨b1, b2, b3, b4, b5, b6, a28⟩, a47, ⟨f, a48, hf⟩, a49, a50, a51, a52⟩ := q
  exact ⟨a1.keep e (u _ (by omega) (by omega)), a2.keep e (u _ (by omega) (by omega)), a3.keep e (u _ (by omega) (by omega)), a4.keep e (u _ (by omega) (by omega)), a5.keep e (u _ (by omega) (by omega)), a6.keep e (u _ (by omega) (by omega)), a7.keep e (u _ (by omega) (by omega)), a8.keep e (u _ (by omega) (by omega)), ⟨ru, ac, no, a9.keep e (u.sub (by omega) (by omega))⟩, ⟨b1, b2, b3, b4, b5, b6, a28.keep e (u.sub (by omega) (by omega))⟩, a47.keep e (u _ (by omega) (by omega)), ⟨f, a48.keep e (u _ (by omega) (by omega)), hf⟩, a49.keep e (u _ (by omega) (by omega)), a50.keep e (u _ (by omega) (by omega)), a51.keep e (u _ (by omega) (by omega)), a52.keep e (u _ (by omega) (by omega))⟩

end S4
