/-! the reference's tokens as the pure ones -/
theorem KmM.tk {h : AH} {m : Nat} {T : List Nat} (q : KmM h m T (cnK T)) (tp : TpM h m T) : TkM h m (tkK T) T (lnK T) :=
  ⟨tp.2.1, q.1, q.2.1, q.2.2.1, q.2.2.2, tw_tk tp.2.2.1 tp.2.2.2⟩
section RTK
variable {G : GT} {d : Nat} {h : AH} {m : Nat} {T : List Nat} {f2 f3 f4 f5 : Nat → Int32}

end RTK
