abbrev xIOOBE : String := "java/lang/IndexOutOfBoundsException"
set_option maxRecDepth 100000 in
theorem xt_IOOBE : ∀ w ∈ vx_atS RX4 214 xIOOBE ["java/lang/RuntimeException", "java/lang/Exception"], w ∈ tables_1 := by decide +kernel
set_option maxRecDepth 100000 in
theorem xg_IOOBE : ∀ w ∈ Cond.classLink RX4 210 xIOOBE :: Cond.initialized xIOOBE :: vx_atS RX4 214 xIOOBE ["java/lang/RuntimeException", "java/lang/Exception"], vx_ot w = true := by decide +kernel
set_option maxRecDepth 100000 in
theorem xb_IOOBE : ∀ w ∈ vx_atS RX4 214 xIOOBE ["java/lang/RuntimeException", "java/lang/Exception"], goodWord w = true := by decide +kernel
theorem xk_IOOBE : Cond.classLink RX4 210 xIOOBE ∈ WA := WA_in (List.mem_append_right _ (List.mem_append_left _ (List.mem_of_getElem? (l := tables_1_2) (i := 135) (by decide +kernel)))) rfl
theorem xi_IOOBE : Cond.initialized xIOOBE ∈ WA := WA_in (List.mem_append_left _ (List.mem_of_getElem? (l := tables_1_1) (i := 10) (by decide +kernel))) rfl
abbrev xIAE : String := "java/lang/IllegalArgumentException"
set_option maxRecDepth 100000 in
theorem xt_IAE : ∀ w ∈ vx_atS RX4 150 xIAE ["java/lang/RuntimeException", "java/lang/Exception"], w ∈ tables_1 := by decide +kernel
set_option maxRecDepth 100000 in
theorem xg_IAE : ∀ w ∈ Cond.classLink RX4 146 xIAE :: Cond.initialized xIAE :: vx_atS RX4 150 xIAE ["java/lang/RuntimeException", "java/lang/Exception"], vx_ot w = true := by decide +kernel
set_option maxRecDepth 100000 in
theorem xb_IAE : ∀ w ∈ vx_atS RX4 150 xIAE ["java/lang/RuntimeException", "java/lang/Exception"], goodWord w = true := by decide +kernel
theorem xk_IAE : Cond.classLink RX4 146 xIAE ∈ WA := WA_in (List.mem_append_right _ (List.mem_append_left _ (List.mem_of_getElem? (l := tables_1_2) (i := 148) (by decide +kernel)))) rfl
theorem xi_IAE : Cond.initialized xIAE ∈ WA := WA_in (List.mem_append_left _ (List.mem_of_getElem? (l := tables_1_1) (i := 13) (by decide +kernel))) rfl
abbrev xISE : String := "java/lang/IllegalStateException"
set_option maxRecDepth 100000 in
theorem xt_ISE : ∀ w ∈ vx_atS RX4 161 xISE ["java/lang/RuntimeException", "java/lang/Exception"], w ∈ tables_1 := by decide +kernel
set_option maxRecDepth 100000 in
theorem xg_ISE : ∀ w ∈ Cond.classLink RX4 157 xISE :: Cond.initialized xISE :: vx_atS RX4 161 xISE ["java/lang/RuntimeException", "java/lang/Exception"], vx_ot w = true := by decide +kernel
set_option maxRecDepth 100000 in
theorem xb_ISE : ∀ w ∈ vx_atS RX4 161 xISE ["java/lang/RuntimeException", "java/lang/Exception"], goodWord w = true := by decide +kernel
theorem xk_ISE : Cond.classLink RX4 157 xISE ∈ WA := WA_in (List.mem_append_right _ (List.mem_append_left _ (List.mem_of_getElem? (l := tables_1_2) (i := 164) (by decide +kernel)))) rfl
theorem xi_ISE : Cond.initialized xISE ∈ WA := WA_in (List.mem_append_left _ (List.mem_of_getElem? (l := tables_1_1) (i := 14) (by decide +kernel))) rfl
abbrev xNSEE : String := "java/util/NoSuchElementException"
set_option maxRecDepth 100000 in
theorem xt_NSEE : ∀ w ∈ vx_atS RX4 252 xNSEE ["java/lang/RuntimeException", "java/lang/Exception"], w ∈ tables_1 := by decide +kernel
set_option maxRecDepth 100000 in
theorem xg_NSEE : ∀ w ∈ Cond.classLink RX4 248 xNSEE :: Cond.initialized xNSEE :: vx_atS RX4 252 xNSEE ["java/lang/RuntimeException", "java/lang/Exception"], vx_ot w = true := by decide +kernel
set_option maxRecDepth 100000 in
theorem xb_NSEE : ∀ w ∈ vx_atS RX4 252 xNSEE ["java/lang/RuntimeException", "java/lang/Exception"], goodWord w = true := by decide +kernel
theorem xk_NSEE : Cond.classLink RX4 248 xNSEE ∈ WA := WA_in (List.mem_append_right _ (List.mem_append_right _ (List.mem_append_left _ (List.mem_of_getElem? (l := tables_1_3) (i := 133) (by decide +kernel))))) rfl
theorem xi_NSEE : Cond.initialized xNSEE ∈ WA := WA_in (List.mem_append_left _ (List.mem_of_getElem? (l := tables_1_1) (i := 17) (by decide +kernel))) rfl
abbrev xAE : String := "java/lang/ArithmeticException"
set_option maxRecDepth 100000 in
theorem xt_AE : ∀ w ∈ vx_atS RX4 223 xAE ["java/lang/RuntimeException", "java/lang/Exception"], w ∈ tables_1 := by decide +kernel
set_option maxRecDepth 100000 in
theorem xg_AE : ∀ w ∈ Cond.classLink RX4 219 xAE :: Cond.initialized xAE :: vx_atS RX4 223 xAE ["java/lang/RuntimeException", "java/lang/Exception"], vx_ot w = true := by decide +kernel
set_option maxRecDepth 100000 in
theorem xb_AE : ∀ w ∈ vx_atS RX4 223 xAE ["java/lang/RuntimeException", "java/lang/Exception"], goodWord w = true := by decide +kernel
theorem xk_AE : Cond.classLink RX4 219 xAE ∈ WA := WA_in (List.mem_append_right _ (List.mem_append_right _ (List.mem_append_right _ (List.mem_append_right _ (List.mem_append_left _ (List.mem_of_getElem? (l := tables_1_5) (i := 37) (by decide +kernel))))))) rfl
theorem xi_AE : Cond.initialized xAE ∈ WA := WA_in (List.mem_append_left _ (List.mem_of_getElem? (l := tables_1_1) (i := 21) (by decide +kernel))) rfl
