/-! What REPORT.md's T1 and T2 say, over the machine: where a state doesn't know the array class of StackTraceElement, the printed premises don't hold there. -/
theorem tk_and {v : Array Value} {s : State} {a b : Jvm.Cond} (h : (Jvm.Cond.and a b).before v s = true) : a.before v s = true ∧ b.before v s = true := by
  rw [Cond.before_and] at h
  exact (Bool.and_eq_true _ _).mp h
theorem tk_unknown {v : Array Value} {s : State} {c t : String} (h : s.vm.findClass c = none) : ¬ (Jvm.Cond.not (Jvm.Cond.castable c t)).before v s = true := by
  simp [Cond.before, Cond.holds, Cond.value, h]
theorem tk_no_start {v : Array Value} {s : State} (h : s.vm.findClass "[Ljava/lang/StackTraceElement;" = none) : ¬ (Jvm.Cond.and given_1 narrow_1).before v s = true := by
  intro h0
  have h1 : narrow_1.before v s = true := (tk_and h0).2
  unfold narrow_1 at h1
  have h2 := (tk_and h1).2
  have h3 := (tk_and h2).1
  have h4 := (tk_and h3).2
  have h5 := (tk_and h4).1
  have h6 := (tk_and h5).1
  have h7 := (tk_and h6).1
  have h8 := (tk_and h7).1
  have h9 := (tk_and h8).1
  have hz := (tk_and h9).1
  exact tk_unknown h hz
