theorem fI_V {f g : Nat → va_E} {a k : Nat} (h : fV g a k = fV f a k) : fI g a k = fI f a k := by unfold fI; rw [h]
