/-! the words of clone -/
theorem xt5_0 : xmem 482 (Cond.methodLink "java/util/Arrays" 316 ⟨"[I", "clone", "()Ljava/lang/Object;"⟩) = true := by decide +kernel
theorem xt5_1 : xmem 483 (Cond.sameMethod "[I" "java/lang/Object" "clone" "()Ljava/lang/Object;") = true := by decide +kernel
theorem xt5_2 : xmem 484 (Cond.native ⟨"java/lang/Object", "clone", "()Ljava/lang/Object;"⟩) = true := by decide +kernel
theorem xt5_3 : xmem 485 (Cond.instanceMethod ⟨"java/lang/Object", "clone", "()Ljava/lang/Object;"⟩) = true := by decide +kernel
theorem xt5_4 : xmem 486 (Cond.selects "[I" ⟨"[I", "clone", "()Ljava/lang/Object;"⟩ ⟨"java/lang/Object", "clone", "()Ljava/lang/Object;"⟩) = true := by decide +kernel
theorem xt5_5 : xmemL 487 (Cond.castable "[I" "java/lang/Cloneable") = true := by decide +kernel
theorem xt5_6 : xmem 488 (Cond.classLink "java/util/Arrays" 317 "[I") = true := by decide +kernel
theorem xTab5_ok : xTab5 := ⟨rfl, xmem_in xt5_0, xmem_in xt5_1, xmem_in xt5_2, xmem_in xt5_3, xmem_in xt5_4, xmemL_in xt5_5, xmem_in xt5_6⟩
