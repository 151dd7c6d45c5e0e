section
/-- no start whose class table lacks that array class meets the first seventh of the premises -/
theorem ab_none {s : State} {args : Array Value} (h : s.vm.findClass "[Ljava/lang/StackTraceElement;" = none) : (Jvm.Cond.not (Jvm.Cond.castable "[Ljava/lang/StackTraceElement;" "java/lang/String")).before args s = false := by
  simp [Cond.before, Cond.holds, Cond.value, h]
set_option maxRecDepth 100000 in
theorem ab_narrow {s : State} {args : Array Value} (h : s.vm.findClass "[Ljava/lang/StackTraceElement;" = none) : narrow_1_1.before args s = false := by
  cases hn : narrow_1_1.before args s with
  | false => rfl
  | true =>
    have hs := flat_of_before _ hn
    have h1 : (Jvm.Cond.not (Jvm.Cond.castable "[Ljava/lang/StackTraceElement;" "java/lang/String")).before args s = true := hs _ (by decide +kernel)
    rw [ab_none h] at h1
    cases h1
end
