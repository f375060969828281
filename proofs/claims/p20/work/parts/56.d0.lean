/-! the rest of a heap stays -/
theorem PV.upd {b : Nat} {h h' : zH} (p : PV b h h') (e : va_E) : PV b h (zput h' b e) := fun q x hq hx => by rw [zput_ne h' e hq]; exact p q x hq hx
