theorem or_b : ∀ S, S < 256 → ∀ r, r < 8 → (S ||| 2 ^ r) < 256 := by decide +kernel
