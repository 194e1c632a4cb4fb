/-- the class counts tongues as the model does -/
theorem bc_8 : ∀ v, v < 256 → bc (nI v) = m_cm (nI v) 8 := by decide +kernel
