/-! 'throw new NoSuchElementException(text)': its constructor passes the text on by entry 13 -/
def nx_by : ByteArray := ⟨#[0x2a, 0x2b, 0xb7, 0x00, 0x0d, 0xb1]⟩
theorem nx_0 : decode nx_by 0 = .ok (.aload_n 0, 1) := by decide +kernel
theorem nx_1 : decode nx_by 1 = .ok (.aload_n 1, 1) := by decide +kernel
theorem nx_2 : decode nx_by 2 = .ok (.invokespecial 13, 3) := by decide +kernel
theorem nx_5 : decode nx_by 5 = .ok (.return_, 1) := by decide +kernel
def nxE : String := "java/util/NoSuchElementException"
def nxRT : String := "java/lang/RuntimeException"
/-- the fields of Throwable that its objects hold -/
def nx_f : List (String × String) := [("cause", "Ljava/lang/Throwable;"), ("stackTrace", Bundle.steD), ("suppressedExceptions", Bundle.listD), ("detailMessage", "Ljava/lang/String;"), ("backtrace", "Ljava/lang/Object;")]
/-- what the throw asks of the tables, beside what the library's lists say of Throwable and of the constructors -/
def nx_w : List Cond := [.instantiable nxE 6, .methodLink "CrossedFavours" 165 (Bundle.initS nxE), .selects nxE Bundle.tFill Bundle.tFill, .selects nxE Bundle.tFill0 Bundle.tFill0,
  .fieldLink Bundle.tN 198 Bundle.tN "backtrace" "Ljava/lang/Object;", .lays Bundle.tN Bundle.tN "backtrace" "Ljava/lang/Object;",
  .isRef (.static Bundle.tN "SUPPRESSED_SENTINEL" Bundle.listD), .isRef (.static Bundle.tN "UNASSIGNED_STACK" Bundle.steD)]
def nx_all : List Cond := nx_w ++ (nx_f.map (fun q => Cond.lays nxE Bundle.tN q.1 q.2) ++ (Bundle.passSAtoms nxE nxRT 13 nx_by ++ (Bundle.chainSAtoms nxRT ["java/lang/Exception"] ++ (Bundle.throwableSAtoms ++ Bundle.throwableAtoms))))
def nx_at : List Cond := nx_all.filter vx_no
theorem nx_good : ∀ w ∈ nx_at.filter goodWord, w ∈ lw_tbl := by decide +kernel
theorem nx_bad : ∀ w ∈ nx_at.filter (fun w => !goodWord w), w ∈ xa_nest := by decide +kernel
theorem nx_ot : ∀ w ∈ Cond.classLink "CrossedFavours" 161 nxE :: Cond.initialized nxE :: nx_at, vx_ot w = true := by decide +kernel
