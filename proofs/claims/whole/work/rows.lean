section
-- EVIDENCE for REPORT.md (TRANSLATOR): where a class isn't loaded, 'not castable' isn't true; narrow_1 asks it of the array class of StackTraceElement
theorem ev_cast (args : Array Value) (s : State) (h : s.vm.findClass "[Ljava/lang/StackTraceElement;" = none) : (Cond.not (Cond.castable "[Ljava/lang/StackTraceElement;" "ArrayFile$Group")).before args s = false := by
  simp [Cond.before, Cond.holds, Cond.value, h]
theorem ev_narrow (args : Array Value) (s : State) (h : s.vm.findClass "[Ljava/lang/StackTraceElement;" = none) : (Cond.and given_1 narrow_1).before args s = false := by
  rcases hb : (Cond.and given_1 narrow_1).before args s with _ | _
  · rfl
  · have hs := flat_of_before _ hb (Cond.not (Cond.castable "[Ljava/lang/StackTraceElement;" "ArrayFile$Group")) (by decide +kernel)
    rw [ev_cast args s h] at hs
    exact hs.symm
end
