/-! Evidence, no step of the proof: no start without the array class of java.lang.StackTraceElement in its tables meets the premises. -/
theorem ev_left {a b : Jvm.Cond} {args : Array Jvm.Value} {s : Jvm.State} (h : (Jvm.Cond.and a b).before args s = true) : a.before args s = true := by
  rw [Jvm.Cond.before_and, Bool.and_eq_true] at h
  exact h.1
theorem ev_right {a b : Jvm.Cond} {args : Array Jvm.Value} {s : Jvm.State} (h : (Jvm.Cond.and a b).before args s = true) : b.before args s = true := by
  rw [Jvm.Cond.before_and, Bool.and_eq_true] at h
  exact h.2
theorem ev_asked {args : Array Jvm.Value} {s : Jvm.State} (h : narrow_1_2.before args s = true) : s.vm.findClass "[Ljava/lang/StackTraceElement;" ≠ none := by
  have h1 := ev_left h
  have h2 := ev_left h1
  have h3 := ev_right h2
  have h4 := ev_left h3
  have h5 := ev_left h4
  have h6 := ev_right h5
  have h7 := ev_left h6
  have h8 := ev_right h7
  have h9 : (Jvm.Cond.not (Jvm.Cond.castable "[Ljava/lang/StackTraceElement;" "java/lang/String")).before args s = true := ev_left h8
  have hv := Jvm.Cond.holds_not_iff.mp h9
  intro hc
  simp [Jvm.Cond.value, hc] at hv
theorem ev_start (tb : Jvm.Tables) (e : Jvm.Env) (args : Array Jvm.Value) (s : Jvm.State) (h : Pre_1 tb e args s) : s.vm.findClass "[Ljava/lang/StackTraceElement;" ≠ none :=
  ev_asked (ev_right (ev_left (ev_right (b := narrow_1) h)))
