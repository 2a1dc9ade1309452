/-! teach, on both sides -/
set_option maxHeartbeats 4000000 in
set_option maxRecDepth 100000 in
theorem D_teach {G : GT} {h : AH} {s : ST} {bk dr : Nat} (j : Jd h s bk dr) : OpD Value.int G mX10_teach mX12_teach 2047 [some (.ref 0), none] [some (.ref 216)] h s := by
  have hb := j.1
  have hc := j.2.1
  obtain ⟨-, ⟨-, l16, f, -, hf⟩, -, ⟨la, ja, li, be⟩, -⟩ := id hc
  have hT : ∀ i, i < s.1.length → s.1.getD i 0 < 256 := fun i hi => (hf i hi).2
  obtain ⟨w, te, tn, ae, O, w3, bw⟩ := be.W
  have tw := tw_tk l16 hT
  have kk : KOk (tkK s.1) := tw.kok
  have iv : Iv (tkK s.1) (lsP (tkK s.1) 400 (0, 0, 0, dfZ w te tn ae O)) := Iv.ls kk 400 _ (Iv.z w3 tw.1)
  obtain ⟨S, es⟩ : ∃ S, S = lsP (tkK s.1) 400 (0, 0, 0, dfZ w te tn ae O) := ⟨_, rfl⟩
  rw [← es] at iv
  have ok : BDok (tcS s S).2.2.1 (tcS s S).2.2.2 := by
    by_cases e : pEr S = 0
    · rw [show tcS s S = ([], -1, pBk S, dyN (pDf S)) from if_pos e]
      exact iv.ok kk e
    · rw [show tcS s S = ([], nI (ssT (tkK s.1) (pEt S)), s.2.2.1, s.2.2.2) from if_neg e]
      exact hb
  exact ⟨nI (pEr S), tcS s S, if pEr S = 0 then dr else bk, if pEr S = 0 then bk else dr, ok, k_teach (by decide) hc hb j.room w3 bw es (fun e => iv.ok kk e), fun h1 m1 t1 => m_teach (by decide) m1 t1 l16 hT es⟩
