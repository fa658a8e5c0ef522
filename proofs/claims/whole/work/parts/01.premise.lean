theorem sx_and {a b : Jvm.Cond} {args : Array Jvm.Value} {s : Jvm.State} (h : (Jvm.Cond.and a b).before args s = true) : a.before args s = true ∧ b.before args s = true := by
  rw [Jvm.Cond.before_and, Bool.and_eq_true] at h; exact h
theorem sx_cast {A B : String} {args : Array Jvm.Value} {s : Jvm.State} (hn : s.vm.findClass A = none) : (Jvm.Cond.not (Jvm.Cond.castable A B)).before args s = false := by
  simp [Jvm.Cond.before, Jvm.Cond.holds, Jvm.Cond.value, hn]
theorem sx_premise {args : Array Jvm.Value} {s : Jvm.State} (hn : s.vm.findClass "[Ljava/lang/StackTraceElement;" = none) : narrow_1_2.before args s = false := by
  cases h : narrow_1_2.before args s with
  | false => rfl
  | true =>
    have h9 := (sx_and (sx_and (sx_and (sx_and (sx_and (sx_and (sx_and (sx_and h).1).2).1).1).1).1).1).1
    rw [sx_cast hn] at h9
    cases h9
theorem sx_narrow {args : Array Jvm.Value} {s : Jvm.State} (hn : s.vm.findClass "[Ljava/lang/StackTraceElement;" = none) : narrow_1.before args s = false := by
  cases h : narrow_1.before args s with
  | false => rfl
  | true =>
    have h9 := (sx_and (sx_and h).1).2
    rw [sx_premise hn] at h9
    cases h9
