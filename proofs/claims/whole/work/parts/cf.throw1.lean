/-! 'throw new NoSuchElementException(text)': its constructor passes the text on by entry 13 -/
def nx_by : ByteArray := ⟨#[0x2a, 0x2b, 0xb7, 0x00, 0x0d, 0xb1]⟩
theorem nx_0 : decode nx_by 0 = .ok (.aload_n 0, 1) := by decide +kernel
theorem nx_1 : decode nx_by 1 = .ok (.aload_n 1, 1) := by decide +kernel
theorem nx_2 : decode nx_by 2 = .ok (.invokespecial 13, 3) := by decide +kernel
theorem nx_5 : decode nx_by 5 = .ok (.return_, 1) := by decide +kernel
def nxE : String := "java/util/NoSuchElementException"
def nxN : List String := ["java/lang/RuntimeException", "java/lang/Exception"]
def nx_at : List Cond := (Bundle.ownAtomsX "CrossedFavours" 165 nxE 13 nx_by nxN).filter vx_no
theorem nx_good : ∀ w ∈ nx_at.filter goodWord, w ∈ lw_tbl := by decide +kernel
theorem nx_bad : ∀ w ∈ nx_at.filter (fun w => !goodWord w), w ∈ xa_nest := by decide +kernel
theorem nx_ot : ∀ w ∈ Cond.classLink "CrossedFavours" 161 nxE :: Cond.initialized nxE :: nx_at, vx_ot w = true := by decide +kernel
