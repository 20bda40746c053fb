/-! Reads over writes elsewhere. -/
theorem up2_ne {α : Type} {I : Nat → Nat → α} {a k : Nat} {v : α} {c : Nat} (h : c ≠ a) : up2 I a k v c = I c := by simp [up2, va_up, h]
