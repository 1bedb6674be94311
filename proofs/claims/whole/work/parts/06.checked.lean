theorem am_okAll : ∀ M ∈ am_ms, am_mok M = true := sorry
