theorem zt1 : ∀ q ∈ zC20, decode prog_8_method_18_code q.1 = .ok (q.2.1, q.2.2.1) := by decide +kernel
theorem zt2 : ∀ q ∈ zC128, decode code q.1 = .ok (q.2.1, q.2.2.1) := by decide +kernel
theorem zt3 : ∀ q ∈ zC109, decode prog_14_method_27_code q.1 = .ok (q.2.1, q.2.2.1) := by decide +kernel
