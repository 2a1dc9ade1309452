/-! the reference's seats in all, and majority -/
theorem sw_all {B : BK} {D : DY} (hb : BDok B D) (k0 : Nat) : su (sw B D k0) 8 = su (sw B D k0) (bJa B) := su_ext 8 hb.2.1 (fun i h1 h2 => by
  have z := hb.2.2.2.2.1 i h1 h2
  have zs : su (dB D i) 6 ≤ 6 * 0 := su_bd 6 (fun k hk => Nat.le_of_eq (z.2 k hk))
  have e : fiN (po (rt (dF D)) (dB D i)) 6 = none := by
    cases e1 : fiN (po (rt (dF D)) (dB D i)) 6 with
    | none => rfl
    | some f =>
      have h3 := fi_pos _ _ _ e1
      have h4 : po (rt (dF D)) (dB D i) f ≤ su (dB D i) 6 := su_if 6
      omega
  exact wo_none e _)
theorem se_all {B : BK} {D : DY} (hb : BDok B D) : su (bSe B) 8 = su (bSe B) (bJa B) := su_ext 8 hb.2.1 (fun i h1 h2 => (hb.2.2.2.2.1 i h1 h2).1)
theorem sw_rt {B : BK} {D : DY} {k0 : Nat} (e : rt (dF D) k0 = k0) (i : Nat) : sw B D k0 i = wo (po (rt (dF D)) (dB D i)) (su (dB D i) 6) (bSe B i) (bWy B i) k0 := by
  unfold sw
  rw [e]
section RIA
variable {G : GT} {d : Nat} {s : ST} {h0 h : AH} {bk dr : Nat}

end RIA