/-! own text: the one exception of the program: NoSuchElementException of a text, thrown where it is made (its constructor calls RuntimeException's by entry 13: the ready law knows 7 alone) -/
section Nx
abbrev rN : String := "java/lang/RuntimeException"
abbrev eN : String := "java/lang/Exception"
def nx_at : List Cond := Bundle.throwableAtoms ++ (Bundle.throwableSAtoms ++ (Bundle.passSAtoms xN rN 13 prog_29_method_4_code ++ (Bundle.chainSAtoms rN [eN] ++
  [.methodLink RX9 119 (Bundle.initS xN), .instantiable xN 6, .castable xN xN, .selects xN Bundle.tFill0 Bundle.tFill0, .selects xN Bundle.tFill Bundle.tFill, .lays xN Bundle.tN "cause" "Ljava/lang/Throwable;", .lays xN Bundle.tN "stackTrace" Bundle.steD, .lays xN Bundle.tN "suppressedExceptions" Bundle.listD,
   .lays xN Bundle.tN "detailMessage" "Ljava/lang/String;", .isRef (.static Bundle.tN "UNASSIGNED_STACK" Bundle.steD), .isRef (.static Bundle.tN "SUPPRESSED_SENTINEL" Bundle.listD), .fieldLink Bundle.tN 198 Bundle.tN "backtrace" "Ljava/lang/Object;", .lays Bundle.tN Bundle.tN "backtrace" "Ljava/lang/Object;", .lays xN Bundle.tN "backtrace" "Ljava/lang/Object;"])))
theorem nx_a1 {w : Cond} (h : w ∈ Bundle.throwableAtoms) : w ∈ nx_at := List.mem_append_left _ h
theorem nx_a2 {w : Cond} (h : w ∈ Bundle.throwableSAtoms) : w ∈ nx_at := List.mem_append_right _ (List.mem_append_left _ h)
theorem nx_a3 {w : Cond} (h : w ∈ Bundle.passSAtoms xN rN 13 prog_29_method_4_code) : w ∈ nx_at := List.mem_append_right _ (List.mem_append_right _ (List.mem_append_left _ h))
theorem nx_a4 {w : Cond} (h : w ∈ Bundle.chainSAtoms rN [eN]) : w ∈ nx_at := List.mem_append_right _ (List.mem_append_right _ (List.mem_append_right _ (List.mem_append_left _ h)))
def nx_t (i : Nat) {w : Cond} (h : nx_at[i]? = some w) : w ∈ nx_at := List.mem_of_getElem? h
def nx_B : List Cond := [.isRef (.static Bundle.tN "UNASSIGNED_STACK" Bundle.steD), .isRef (.static Bundle.tN "SUPPRESSED_SENTINEL" Bundle.listD), .laysStatic Bundle.tN "UNASSIGNED_STACK" Bundle.steD, .laysStatic Bundle.tN "SUPPRESSED_SENTINEL" Bundle.listD, .castable xN xN, .declares (Bundle.initS rN), .declares (Bundle.initS eN), .declares (Bundle.initS Bundle.tN)]
theorem nx_in : ∀ w ∈ nx_at.filter goodWord, w ∈ TW := by decide +kernel
theorem nx_no : ∀ w ∈ nx_at.filter (fun w => !goodWord w), w ∈ nx_B := by decide +kernel
theorem nx_hat {K : Kx} {args : Array Value} {s : State} (hts : ∀ w ∈ TW, w.before args s = true) (hz : ZK K s s.heap) : ∀ w ∈ nx_at, w.before args s = true := by
  obtain ⟨h1, h2, -, -, h5, h6, h7, h8, -⟩ := hz
  exact vx_hat (fun w hw => hts w (nx_in w hw)) nx_no (vx_c (vx_isRefq h1.1) (vx_c (vx_isRefq h2.1) (vx_c h1.2.word (vx_c h2.2.word (vx_c (wd_cast (Vm.Alike.refl s.vm) h5) (vx_c (wd_decl (Vm.Alike.refl s.vm) h6) (vx_c (wd_decl (Vm.Alike.refl s.vm) h7) (vx_c (wd_decl (Vm.Alike.refl s.vm) h8) vx_n))))))))
end Nx
