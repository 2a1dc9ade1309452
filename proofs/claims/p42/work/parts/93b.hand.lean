/-! the class hands its draft over -/
section RHO
variable {G : GT} {d : Nat} {h : AH} {r dr x : Nat}
theorem s_hand {ne er et ea : Int32} {kd : Nat} (hr : At h r (ReaO r dr ne kd er et ea)) : RQ G mX6_handOver d 0 [some (.ref r), some (.ref x), none] [] h (Rr fun v h1 => v = dr ∧ h1 = hset h r (ReaO r x ne kd er et ea)) :=
  tX6_handOver_0 (tX6_handOver_1 hr rfl (tX6_handOver_4 (r := tX6_handOver_5 (tX6_handOver_6 (tX6_handOver_7 hr rfl (tX6_handOver_10 (tX6_handOver_11 ⟨_, rfl, rfl, rfl⟩)))))))
end RHO
