theorem jvc_all : ∀ n, n < 282 → (jmt n).2.2.2.2.1 = 0 → (jmt n).1 < 13 := by decide +kernel
theorem jvr_all : ∀ n, n < 282 → (jmt n).2.2.2.2.1 = 2 → jrt n = none := by decide +kernel
