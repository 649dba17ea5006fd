/-- the fields of the reference: references rf, ints iv, each by the field's number -/
def px_mf (rf : Nat → Nat) (iv : Nat → Int32) : List Value := [.ref (rf 0), .ref (rf 1), .ref (rf 2), .ref (rf 3), .ref (rf 4), .ref (rf 5), .ref (rf 6), .ref (rf 7), .ref (rf 8), .ref (rf 9), .int (iv 10), .int (iv 11), .int (iv 12), .ref (rf 13), .ref (rf 14), .ref (rf 15), .ref (rf 16), .ref (rf 17), .ref (rf 18), .ref (rf 19), .ref (rf 20), .ref (rf 21), .ref (rf 22), .ref (rf 23), .ref (rf 24), .ref (rf 25), .ref (rf 26), .ref (rf 27), .ref (rf 28), .ref (rf 29), .ref (rf 30), .ref (rf 31), .int (iv 32), .int (iv 33), .ref (rf 34), .ref (rf 35), .ref (rf 36), .int (iv 37), .int (iv 38), .int (iv 39), .int (iv 40), .int (iv 41), .int (iv 42), .int (iv 43), .ref (rf 44), .ref (rf 45), .ref (rf 46), .int (iv 47), .ref (rf 48), .int (iv 49), .ref (rf 50), .int (iv 51), .int (iv 52)]
theorem px_ms10 (rf : Nat → Nat) (iv : Nat → Int32) (v : Int32) : (px_mf rf iv).set 10 (.int v) = px_mf rf (va_up iv 10 v) := rfl
theorem px_ms11 (rf : Nat → Nat) (iv : Nat → Int32) (v : Int32) : (px_mf rf iv).set 11 (.int v) = px_mf rf (va_up iv 11 v) := rfl
theorem px_ms12 (rf : Nat → Nat) (iv : Nat → Int32) (v : Int32) : (px_mf rf iv).set 12 (.int v) = px_mf rf (va_up iv 12 v) := rfl
theorem px_ms32 (rf : Nat → Nat) (iv : Nat → Int32) (v : Int32) : (px_mf rf iv).set 32 (.int v) = px_mf rf (va_up iv 32 v) := rfl
theorem px_ms33 (rf : Nat → Nat) (iv : Nat → Int32) (v : Int32) : (px_mf rf iv).set 33 (.int v) = px_mf rf (va_up iv 33 v) := rfl
theorem px_ms37 (rf : Nat → Nat) (iv : Nat → Int32) (v : Int32) : (px_mf rf iv).set 37 (.int v) = px_mf rf (va_up iv 37 v) := rfl
theorem px_ms38 (rf : Nat → Nat) (iv : Nat → Int32) (v : Int32) : (px_mf rf iv).set 38 (.int v) = px_mf rf (va_up iv 38 v) := rfl
theorem px_ms39 (rf : Nat → Nat) (iv : Nat → Int32) (v : Int32) : (px_mf rf iv).set 39 (.int v) = px_mf rf (va_up iv 39 v) := rfl
theorem px_ms40 (rf : Nat → Nat) (iv : Nat → Int32) (v : Int32) : (px_mf rf iv).set 40 (.int v) = px_mf rf (va_up iv 40 v) := rfl
theorem px_ms41 (rf : Nat → Nat) (iv : Nat → Int32) (v : Int32) : (px_mf rf iv).set 41 (.int v) = px_mf rf (va_up iv 41 v) := rfl
theorem px_ms42 (rf : Nat → Nat) (iv : Nat → Int32) (v : Int32) : (px_mf rf iv).set 42 (.int v) = px_mf rf (va_up iv 42 v) := rfl
theorem px_ms43 (rf : Nat → Nat) (iv : Nat → Int32) (v : Int32) : (px_mf rf iv).set 43 (.int v) = px_mf rf (va_up iv 43 v) := rfl
theorem px_ms47 (rf : Nat → Nat) (iv : Nat → Int32) (v : Int32) : (px_mf rf iv).set 47 (.int v) = px_mf rf (va_up iv 47 v) := rfl
theorem px_ms49 (rf : Nat → Nat) (iv : Nat → Int32) (v : Int32) : (px_mf rf iv).set 49 (.int v) = px_mf rf (va_up iv 49 v) := rfl
theorem px_ms51 (rf : Nat → Nat) (iv : Nat → Int32) (v : Int32) : (px_mf rf iv).set 51 (.int v) = px_mf rf (va_up iv 51 v) := rfl
theorem px_ms52 (rf : Nat → Nat) (iv : Nat → Int32) (v : Int32) : (px_mf rf iv).set 52 (.int v) = px_mf rf (va_up iv 52 v) := rfl
