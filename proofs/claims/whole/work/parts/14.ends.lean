/-- a method's end: what it gives or throws, and the heap -/
def kRo (o : kOut) (h : kH) (N : Nat) : kQ := fun o2 h2 N2 => o2 = o ∧ h2 = h ∧ N2 = N
theorem kRo_of {o o' : kOut} {h h' : kH} {N : Nat} (ho : o = o') (hh : h = h') : kRo o' h' N o h N := ⟨ho, hh, rfl⟩
