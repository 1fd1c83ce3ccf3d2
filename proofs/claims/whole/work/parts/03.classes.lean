/-! the classes whose objects the heap holds; the types of arrays -/
def xT0 : u_T := fun k => match k with
  | 0 => ("CashLink", "network", "LCashLink$Network;", true)
  | 1 => ("CashLink", "bank", "LCashLink$Bank;", true)
  | 2 => ("CashLink", "machines", "[LCashLink$Machine;", true)
  | _ => ("CashLink", "takenBy", "[I", true)
def xY0 : Nat → FieldType := fun k => match k with
  | 0 => .object "CashLink$Network"
  | 1 => .object "CashLink$Bank"
  | 2 => .array (.object "CashLink$Machine")
  | _ => .array (.int)
def xT1 : u_T := fun k => match k with
  | _ => ("CashLink$Network", "messages", "Ljava/util/ArrayList;", true)
def xY1 : Nat → FieldType := fun k => match k with
  | _ => .object "java/util/ArrayList"
def xT2 : u_T := fun k => match k with
  | 0 => ("CashLink$Bank", "network", "LCashLink$Network;", true)
  | 1 => ("CashLink$Bank", "journal", "LCashLink$Journal;", true)
  | 2 => ("CashLink$Bank", "balances", "[I", true)
  | 3 => ("CashLink$Bank", "booked", "I", false)
  | _ => ("CashLink$Bank", "wrongTotals", "I", false)
def xY2 : Nat → FieldType := fun k => match k with
  | 0 => .object "CashLink$Network"
  | 1 => .object "CashLink$Journal"
  | 2 => .array (.int)
  | 3 => .int
  | _ => .int
def xT3 : u_T := fun k => match k with
  | 0 => ("CashLink$Machine", "id", "I", true)
  | 1 => ("CashLink$Machine", "network", "LCashLink$Network;", true)
  | 2 => ("CashLink$Machine", "takenBy", "[I", true)
  | 3 => ("CashLink$Machine", "journal", "LCashLink$Journal;", true)
  | 4 => ("CashLink$Machine", "dispenser", "LCashLink$Dispenser;", true)
  | 5 => ("CashLink$Machine", "state", "LCashLink$State;", false)
  | 6 => ("CashLink$Machine", "account", "I", false)
  | 7 => ("CashLink$Machine", "wrongPins", "I", false)
  | 8 => ("CashLink$Machine", "trace", "I", false)
  | 9 => ("CashLink$Machine", "amount", "I", false)
  | _ => ("CashLink$Machine", "voids", "Ljava/util/ArrayList;", true)
def xY3 : Nat → FieldType := fun k => match k with
  | 0 => .int
  | 1 => .object "CashLink$Network"
  | 2 => .array (.int)
  | 3 => .object "CashLink$Journal"
  | 4 => .object "CashLink$Dispenser"
  | 5 => .object "CashLink$State"
  | 6 => .int
  | 7 => .int
  | 8 => .int
  | 9 => .int
  | _ => .object "java/util/ArrayList"
def xT4 : u_T := fun k => match k with
  | 0 => ("CashLink$Journal", "entries", "Ljava/util/ArrayList;", true)
  | 1 => ("CashLink$Journal", "limit", "I", true)
  | 2 => ("CashLink$Journal", "powered", "Z", false)
  | 3 => ("CashLink$Journal", "recordsBeforeFailure", "I", false)
  | _ => ("CashLink$Journal", "bytesAtFailure", "I", false)
def xY4 : Nat → FieldType := fun k => match k with
  | 0 => .object "java/util/ArrayList"
  | 1 => .int
  | 2 => .boolean
  | 3 => .int
  | _ => .int
def xT5 : u_T := fun k => match k with
  | 0 => ("CashLink$Dispenser", "notes", "[I", true)
  | 1 => ("CashLink$Dispenser", "jamAfter", "I", false)
  | 2 => ("CashLink$Dispenser", "lastTrace", "I", false)
  | 3 => ("CashLink$Dispenser", "lastValue", "I", false)
  | _ => ("CashLink$Dispenser", "allValue", "I", false)
def xY5 : Nat → FieldType := fun k => match k with
  | 0 => .array (.int)
  | 1 => .int
  | 2 => .int
  | 3 => .int
  | _ => .int
def xT6 : u_T := fun k => match k with
  | 0 => ("CashLink$Entry", "kind", "I", true)
  | 1 => ("CashLink$Entry", "machine", "I", true)
  | 2 => ("CashLink$Entry", "trace", "I", true)
  | 3 => ("CashLink$Entry", "account", "I", true)
  | 4 => ("CashLink$Entry", "value", "I", true)
  | _ => ("CashLink$Entry", "answer", "I", true)
def xY6 : Nat → FieldType := fun k => match k with
  | 0 => .int
  | 1 => .int
  | 2 => .int
  | 3 => .int
  | 4 => .int
  | _ => .int
def xT7 : u_T := fun k => match k with
  | 0 => ("CashLink$Message", "type", "LCashLink$Type;", true)
  | 1 => ("CashLink$Message", "machine", "I", true)
  | 2 => ("CashLink$Message", "trace", "I", true)
  | 3 => ("CashLink$Message", "account", "I", true)
  | 4 => ("CashLink$Message", "amount", "I", true)
  | _ => ("CashLink$Message", "answer", "I", true)
def xY7 : Nat → FieldType := fun k => match k with
  | 0 => .object "CashLink$Type"
  | 1 => .int
  | 2 => .int
  | 3 => .int
  | 4 => .int
  | _ => .int
def xT8 : u_T := fun k => match k with
  | 0 => ("java/util/ArrayList", "elementData", "[Ljava/lang/Object;", false)
  | 1 => ("java/util/ArrayList", "size", "I", false)
  | _ => ("java/util/AbstractList", "modCount", "I", false)
def xY8 : Nat → FieldType := fun k => match k with
  | 0 => .array (.object "java/lang/Object")
  | 1 => .int
  | _ => .int
def xT9 : u_T := fun k => match k with
  | 0 => ("java/lang/AbstractStringBuilder", "value", "[B", false)
  | 1 => ("java/lang/AbstractStringBuilder", "coder", "B", false)
  | 2 => ("java/lang/AbstractStringBuilder", "maybeLatin1", "Z", false)
  | _ => ("java/lang/AbstractStringBuilder", "count", "I", false)
def xY9 : Nat → FieldType := fun k => match k with
  | 0 => .array (.byte)
  | 1 => .byte
  | 2 => .boolean
  | _ => .int
def xT10 : u_T := fun k => match k with
  | 0 => ("CashLinkModel", "rKind", "[I", true)
  | 1 => ("CashLinkModel", "rMachine", "[I", true)
  | 2 => ("CashLinkModel", "rTrace", "[I", true)
  | 3 => ("CashLinkModel", "rA", "[I", true)
  | 4 => ("CashLinkModel", "rB", "[I", true)
  | 5 => ("CashLinkModel", "rC", "[I", true)
  | 6 => ("CashLinkModel", "records", "[I", true)
  | 7 => ("CashLinkModel", "left", "[I", true)
  | 8 => ("CashLinkModel", "bytes", "[I", true)
  | 9 => ("CashLinkModel", "isBankOn", "Z", false)
  | 10 => ("CashLinkModel", "state", "[I", true)
  | 11 => ("CashLinkModel", "card", "[I", true)
  | 12 => ("CashLinkModel", "wrong", "[I", true)
  | 13 => ("CashLinkModel", "notes", "[I", true)
  | 14 => ("CashLinkModel", "lastDone", "[I", true)
  | 15 => ("CashLinkModel", "lastValue", "[I", true)
  | 16 => ("CashLinkModel", "allOut", "[I", true)
  | 17 => ("CashLinkModel", "jam", "[I", true)
  | 18 => ("CashLinkModel", "taken", "[I", true)
  | 19 => ("CashLinkModel", "mType", "[I", true)
  | 20 => ("CashLinkModel", "mAccount", "[I", true)
  | 21 => ("CashLinkModel", "mAmount", "[I", true)
  | 22 => ("CashLinkModel", "mTrace", "[I", true)
  | 23 => ("CashLinkModel", "mAnswer", "[I", true)
  | 24 => ("CashLinkModel", "mMachine", "[I", true)
  | 25 => ("CashLinkModel", "messages", "I", false)
  | 26 => ("CashLinkModel", "thrown", "I", false)
  | 27 => ("CashLinkModel", "best", "[I", true)
  | 28 => ("CashLinkModel", "old", "[I", true)
  | 29 => ("CashLinkModel", "row", "[B", true)
  | _ => ("CashLinkModel", "size", "I", false)
def xY10 : Nat → FieldType := fun k => match k with
  | 0 => .array (.int)
  | 1 => .array (.int)
  | 2 => .array (.int)
  | 3 => .array (.int)
  | 4 => .array (.int)
  | 5 => .array (.int)
  | 6 => .array (.int)
  | 7 => .array (.int)
  | 8 => .array (.int)
  | 9 => .boolean
  | 10 => .array (.int)
  | 11 => .array (.int)
  | 12 => .array (.int)
  | 13 => .array (.int)
  | 14 => .array (.int)
  | 15 => .array (.int)
  | 16 => .array (.int)
  | 17 => .array (.int)
  | 18 => .array (.int)
  | 19 => .array (.int)
  | 20 => .array (.int)
  | 21 => .array (.int)
  | 22 => .array (.int)
  | 23 => .array (.int)
  | 24 => .array (.int)
  | 25 => .int
  | 26 => .int
  | 27 => .array (.int)
  | 28 => .array (.int)
  | 29 => .array (.byte)
  | _ => .int
def xT11 : u_T := fun _ => ("", "", "", false)
def xY11 : Nat → FieldType := fun _ => .int
def xT12 : u_T := fun _ => ("", "", "", false)
def xY12 : Nat → FieldType := fun _ => .int
def xT13 : u_T := fun _ => ("", "", "", false)
def xY13 : Nat → FieldType := fun _ => .int
def xT14 : u_T := fun _ => ("", "", "", false)
def xY14 : Nat → FieldType := fun _ => .int
def xT15 : u_T := fun _ => ("", "", "", false)
def xY15 : Nat → FieldType := fun _ => .int
def x_cls : List vw_C := [("CashLink", xT0, 4), ("CashLink$Network", xT1, 1), ("CashLink$Bank", xT2, 5), ("CashLink$Machine", xT3, 11), ("CashLink$Journal", xT4, 5), ("CashLink$Dispenser", xT5, 5), ("CashLink$Entry", xT6, 6), ("CashLink$Message", xT7, 6), ("java/util/ArrayList", xT8, 3), ("java/lang/StringBuilder", xT9, 4), ("CashLinkModel", xT10, 31), ("java/lang/IllegalArgumentException", xT11, 0), ("java/lang/IllegalStateException", xT12, 0), ("java/lang/UnsupportedOperationException", xT13, 0), ("java/lang/ArithmeticException", xT14, 0), ("java/lang/IndexOutOfBoundsException", xT15, 0)]
theorem xc0 : x_cls[0]? = some ("CashLink", xT0, 4) := rfl
theorem xw0 : ∀ w ∈ u_ws "CashLink" xT0 4, w ∈ x_Wd := by
  intro w hw
  obtain ⟨k, hk, rfl⟩ := List.mem_map.mp hw
  have hk := List.mem_range.mp hk
  match k, hk with
  | 0, _ => exact x_i1 205 rfl rfl
  | 1, _ => exact x_i1 207 rfl rfl
  | 2, _ => exact x_i1 209 rfl rfl
  | 3, _ => exact x_i1 211 rfl rfl
  | k + 4, h => omega
theorem xt0 : ∀ k, k < 4 → parseFieldDescriptor (xT0 k).2.2.1 = some (xY0 k) := by decide +kernel
theorem xn0 : ∀ a, a < 4 → ∀ b, b < 4 → a ≠ b → (xT0 a).2.1 ≠ (xT0 b).2.1 := by decide +kernel
theorem xc1 : x_cls[1]? = some ("CashLink$Network", xT1, 1) := rfl
theorem xw1 : ∀ w ∈ u_ws "CashLink$Network" xT1 1, w ∈ x_Wd := by
  intro w hw
  obtain ⟨k, hk, rfl⟩ := List.mem_map.mp hw
  have hk := List.mem_range.mp hk
  match k, hk with
  | 0, _ => exact x_i1 79 rfl rfl
  | k + 1, h => omega
theorem xt1 : ∀ k, k < 1 → parseFieldDescriptor (xT1 k).2.2.1 = some (xY1 k) := by decide +kernel
theorem xn1 : ∀ a, a < 1 → ∀ b, b < 1 → a ≠ b → (xT1 a).2.1 ≠ (xT1 b).2.1 := by decide +kernel
theorem xc2 : x_cls[2]? = some ("CashLink$Bank", xT2, 5) := rfl
theorem xw2 : ∀ w ∈ u_ws "CashLink$Bank" xT2 5, w ∈ x_Wd := by
  intro w hw
  obtain ⟨k, hk, rfl⟩ := List.mem_map.mp hw
  have hk := List.mem_range.mp hk
  match k, hk with
  | 0, _ => exact x_i1 120 rfl rfl
  | 1, _ => exact x_i1 122 rfl rfl
  | 2, _ => exact x_i1 124 rfl rfl
  | 3, _ => exact x_i1 126 rfl rfl
  | 4, _ => exact x_i1 128 rfl rfl
  | k + 5, h => omega
theorem xt2 : ∀ k, k < 5 → parseFieldDescriptor (xT2 k).2.2.1 = some (xY2 k) := by decide +kernel
theorem xn2 : ∀ a, a < 5 → ∀ b, b < 5 → a ≠ b → (xT2 a).2.1 ≠ (xT2 b).2.1 := by decide +kernel
theorem xc3 : x_cls[3]? = some ("CashLink$Machine", xT3, 11) := rfl
theorem xw3 : ∀ w ∈ u_ws "CashLink$Machine" xT3 11, w ∈ x_Wd := by
  intro w hw
  obtain ⟨k, hk, rfl⟩ := List.mem_map.mp hw
  have hk := List.mem_range.mp hk
  match k, hk with
  | 0, _ => exact x_i1 178 rfl rfl
  | 1, _ => exact x_i1 180 rfl rfl
  | 2, _ => exact x_i1 182 rfl rfl
  | 3, _ => exact x_i1 184 rfl rfl
  | 4, _ => exact x_i1 186 rfl rfl
  | 5, _ => exact x_i1 188 rfl rfl
  | 6, _ => exact x_i1 190 rfl rfl
  | 7, _ => exact x_i1 192 rfl rfl
  | 8, _ => exact x_i1 194 rfl rfl
  | 9, _ => exact x_i1 196 rfl rfl
  | 10, _ => exact x_i1 198 rfl rfl
  | k + 11, h => omega
theorem xt3 : ∀ k, k < 11 → parseFieldDescriptor (xT3 k).2.2.1 = some (xY3 k) := by decide +kernel
theorem xn3 : ∀ a, a < 11 → ∀ b, b < 11 → a ≠ b → (xT3 a).2.1 ≠ (xT3 b).2.1 := by decide +kernel
theorem xc4 : x_cls[4]? = some ("CashLink$Journal", xT4, 5) := rfl
theorem xw4 : ∀ w ∈ u_ws "CashLink$Journal" xT4 5, w ∈ x_Wd := by
  intro w hw
  obtain ⟨k, hk, rfl⟩ := List.mem_map.mp hw
  have hk := List.mem_range.mp hk
  match k, hk with
  | 0, _ => exact x_i1 101 rfl rfl
  | 1, _ => exact x_i1 103 rfl rfl
  | 2, _ => exact x_i1 105 rfl rfl
  | 3, _ => exact x_i1 107 rfl rfl
  | 4, _ => exact x_i1 109 rfl rfl
  | k + 5, h => omega
theorem xt4 : ∀ k, k < 5 → parseFieldDescriptor (xT4 k).2.2.1 = some (xY4 k) := by decide +kernel
theorem xn4 : ∀ a, a < 5 → ∀ b, b < 5 → a ≠ b → (xT4 a).2.1 ≠ (xT4 b).2.1 := by decide +kernel
theorem xc5 : x_cls[5]? = some ("CashLink$Dispenser", xT5, 5) := rfl
theorem xw5 : ∀ w ∈ u_ws "CashLink$Dispenser" xT5 5, w ∈ x_Wd := by
  intro w hw
  obtain ⟨k, hk, rfl⟩ := List.mem_map.mp hw
  have hk := List.mem_range.mp hk
  match k, hk with
  | 0, _ => exact x_i1 150 rfl rfl
  | 1, _ => exact x_i1 152 rfl rfl
  | 2, _ => exact x_i1 154 rfl rfl
  | 3, _ => exact x_i1 156 rfl rfl
  | 4, _ => exact x_i1 158 rfl rfl
  | k + 5, h => omega
theorem xt5 : ∀ k, k < 5 → parseFieldDescriptor (xT5 k).2.2.1 = some (xY5 k) := by decide +kernel
theorem xn5 : ∀ a, a < 5 → ∀ b, b < 5 → a ≠ b → (xT5 a).2.1 ≠ (xT5 b).2.1 := by decide +kernel
theorem xc6 : x_cls[6]? = some ("CashLink$Entry", xT6, 6) := rfl
theorem xw6 : ∀ w ∈ u_ws "CashLink$Entry" xT6 6, w ∈ x_Wd := by
  intro w hw
  obtain ⟨k, hk, rfl⟩ := List.mem_map.mp hw
  have hk := List.mem_range.mp hk
  match k, hk with
  | 0, _ => exact x_i2 165 rfl rfl
  | 1, _ => exact x_i2 167 rfl rfl
  | 2, _ => exact x_i2 169 rfl rfl
  | 3, _ => exact x_i2 171 rfl rfl
  | 4, _ => exact x_i2 173 rfl rfl
  | 5, _ => exact x_i2 175 rfl rfl
  | k + 6, h => omega
theorem xt6 : ∀ k, k < 6 → parseFieldDescriptor (xT6 k).2.2.1 = some (xY6 k) := by decide +kernel
theorem xn6 : ∀ a, a < 6 → ∀ b, b < 6 → a ≠ b → (xT6 a).2.1 ≠ (xT6 b).2.1 := by decide +kernel
theorem xc7 : x_cls[7]? = some ("CashLink$Message", xT7, 6) := rfl
theorem xw7 : ∀ w ∈ u_ws "CashLink$Message" xT7 6, w ∈ x_Wd := by
  intro w hw
  obtain ⟨k, hk, rfl⟩ := List.mem_map.mp hw
  have hk := List.mem_range.mp hk
  match k, hk with
  | 0, _ => exact x_i3 40 rfl rfl
  | 1, _ => exact x_i3 42 rfl rfl
  | 2, _ => exact x_i3 44 rfl rfl
  | 3, _ => exact x_i3 46 rfl rfl
  | 4, _ => exact x_i3 48 rfl rfl
  | 5, _ => exact x_i3 50 rfl rfl
  | k + 6, h => omega
theorem xt7 : ∀ k, k < 6 → parseFieldDescriptor (xT7 k).2.2.1 = some (xY7 k) := by decide +kernel
theorem xn7 : ∀ a, a < 6 → ∀ b, b < 6 → a ≠ b → (xT7 a).2.1 ≠ (xT7 b).2.1 := by decide +kernel
theorem xc8 : x_cls[8]? = some ("java/util/ArrayList", xT8, 3) := rfl
theorem xw8 : ∀ w ∈ u_ws "java/util/ArrayList" xT8 3, w ∈ x_Wd := by
  intro w hw
  obtain ⟨k, hk, rfl⟩ := List.mem_map.mp hw
  have hk := List.mem_range.mp hk
  match k, hk with
  | 0, _ => exact x_i1 71 rfl rfl
  | 1, _ => exact x_i1 73 rfl rfl
  | 2, _ => exact x_i1 75 rfl rfl
  | k + 3, h => omega
theorem xt8 : ∀ k, k < 3 → parseFieldDescriptor (xT8 k).2.2.1 = some (xY8 k) := by decide +kernel
theorem xn8 : ∀ a, a < 3 → ∀ b, b < 3 → a ≠ b → (xT8 a).2.1 ≠ (xT8 b).2.1 := by decide +kernel
theorem xc9 : x_cls[9]? = some ("java/lang/StringBuilder", xT9, 4) := rfl
theorem xw9 : ∀ w ∈ u_ws "java/lang/StringBuilder" xT9 4, w ∈ x_Wd := by
  intro w hw
  obtain ⟨k, hk, rfl⟩ := List.mem_map.mp hw
  have hk := List.mem_range.mp hk
  match k, hk with
  | 0, _ => exact x_i4 239 rfl rfl
  | 1, _ => exact x_i5 1 rfl rfl
  | 2, _ => exact x_i5 3 rfl rfl
  | 3, _ => exact x_i5 5 rfl rfl
  | k + 4, h => omega
theorem xt9 : ∀ k, k < 4 → parseFieldDescriptor (xT9 k).2.2.1 = some (xY9 k) := by decide +kernel
theorem xn9 : ∀ a, a < 4 → ∀ b, b < 4 → a ≠ b → (xT9 a).2.1 ≠ (xT9 b).2.1 := by decide +kernel
theorem xc10 : x_cls[10]? = some ("CashLinkModel", xT10, 31) := rfl
theorem xw10 : ∀ w ∈ u_ws "CashLinkModel" xT10 31, w ∈ x_Wd := by
  intro w hw
  obtain ⟨k, hk, rfl⟩ := List.mem_map.mp hw
  have hk := List.mem_range.mp hk
  match k, hk with
  | 0, _ => exact x_i5 236 rfl rfl
  | 1, _ => exact x_i5 238 rfl rfl
  | 2, _ => exact x_i6 0 rfl rfl
  | 3, _ => exact x_i6 2 rfl rfl
  | 4, _ => exact x_i6 4 rfl rfl
  | 5, _ => exact x_i6 6 rfl rfl
  | 6, _ => exact x_i6 8 rfl rfl
  | 7, _ => exact x_i6 10 rfl rfl
  | 8, _ => exact x_i6 12 rfl rfl
  | 9, _ => exact x_i6 14 rfl rfl
  | 10, _ => exact x_i6 16 rfl rfl
  | 11, _ => exact x_i6 18 rfl rfl
  | 12, _ => exact x_i6 20 rfl rfl
  | 13, _ => exact x_i6 22 rfl rfl
  | 14, _ => exact x_i6 24 rfl rfl
  | 15, _ => exact x_i6 26 rfl rfl
  | 16, _ => exact x_i6 28 rfl rfl
  | 17, _ => exact x_i6 30 rfl rfl
  | 18, _ => exact x_i6 32 rfl rfl
  | 19, _ => exact x_i6 34 rfl rfl
  | 20, _ => exact x_i6 36 rfl rfl
  | 21, _ => exact x_i6 38 rfl rfl
  | 22, _ => exact x_i6 40 rfl rfl
  | 23, _ => exact x_i6 42 rfl rfl
  | 24, _ => exact x_i6 44 rfl rfl
  | 25, _ => exact x_i6 46 rfl rfl
  | 26, _ => exact x_i6 48 rfl rfl
  | 27, _ => exact x_i6 50 rfl rfl
  | 28, _ => exact x_i6 52 rfl rfl
  | 29, _ => exact x_i6 54 rfl rfl
  | 30, _ => exact x_i6 56 rfl rfl
  | k + 31, h => omega
theorem xt10 : ∀ k, k < 31 → parseFieldDescriptor (xT10 k).2.2.1 = some (xY10 k) := by decide +kernel
theorem xn10 : ∀ a, a < 31 → ∀ b, b < 31 → a ≠ b → (xT10 a).2.1 ≠ (xT10 b).2.1 := by decide +kernel
theorem xc11 : x_cls[11]? = some ("java/lang/IllegalArgumentException", xT11, 0) := rfl
theorem xw11 : ∀ w ∈ u_ws "java/lang/IllegalArgumentException" xT11 0, w ∈ x_Wd := fun w h => by cases h
theorem xt11 : ∀ k, k < 0 → parseFieldDescriptor (xT11 k).2.2.1 = some (xY11 k) := fun k h => absurd h (Nat.not_lt_zero k)
theorem xc12 : x_cls[12]? = some ("java/lang/IllegalStateException", xT12, 0) := rfl
theorem xw12 : ∀ w ∈ u_ws "java/lang/IllegalStateException" xT12 0, w ∈ x_Wd := fun w h => by cases h
theorem xt12 : ∀ k, k < 0 → parseFieldDescriptor (xT12 k).2.2.1 = some (xY12 k) := fun k h => absurd h (Nat.not_lt_zero k)
theorem xc13 : x_cls[13]? = some ("java/lang/UnsupportedOperationException", xT13, 0) := rfl
theorem xw13 : ∀ w ∈ u_ws "java/lang/UnsupportedOperationException" xT13 0, w ∈ x_Wd := fun w h => by cases h
theorem xt13 : ∀ k, k < 0 → parseFieldDescriptor (xT13 k).2.2.1 = some (xY13 k) := fun k h => absurd h (Nat.not_lt_zero k)
theorem xc14 : x_cls[14]? = some ("java/lang/ArithmeticException", xT14, 0) := rfl
theorem xw14 : ∀ w ∈ u_ws "java/lang/ArithmeticException" xT14 0, w ∈ x_Wd := fun w h => by cases h
theorem xt14 : ∀ k, k < 0 → parseFieldDescriptor (xT14 k).2.2.1 = some (xY14 k) := fun k h => absurd h (Nat.not_lt_zero k)
theorem xc15 : x_cls[15]? = some ("java/lang/IndexOutOfBoundsException", xT15, 0) := rfl
theorem xw15 : ∀ w ∈ u_ws "java/lang/IndexOutOfBoundsException" xT15 0, w ∈ x_Wd := fun w h => by cases h
theorem xt15 : ∀ k, k < 0 → parseFieldDescriptor (xT15 k).2.2.1 = some (xY15 k) := fun k h => absurd h (Nat.not_lt_zero k)
def x_tys : List FieldType := [.int, .long, .byte, .object "java/lang/Object", .object "CashLink$Machine"]
/-- objects that are there from the start: their classes and fields -/
def x_rocls (ci : Nat) : String := match ci with
  | 20 => "CashLink$State"
  | 21 => "CashLink$Type"
  | _ => "java/lang/String"
def x_rof (ci j : Nat) : Option (String × String × String) := match ci, j with
  | 20, 0 => some ("CashLink$State", "number", "I")
  | 21, 0 => some ("CashLink$Type", "digits", "Ljava/lang/String;")
  | 21, 1 => some ("CashLink$Type", "toBank", "Z")
  | 21, 2 => some ("CashLink$Type", "hasAccount", "Z")
  | 21, 3 => some ("CashLink$Type", "hasAnswer", "Z")
  | 22, 0 => some ("java/lang/String", "value", "[B")
  | 22, 1 => some ("java/lang/String", "coder", "B")
  | _, _ => none
def x_strs : List (String × Nat × String) := [("CashLink", 192, "an argument is out of its range"), ("CashLink", 196, "not in this state"), ("CashLink$Machine", 89, "no MIX, or no room in the JOURNAL"), ("CashLink$Journal", 46, "power failed"), ("CashLink", 186, "no such MESSAGE"), ("CashLink", 139, "no byte has a number below 0"), ("CashLink", 183, "nothing of that number is counted"), ("CashLink$Type", 56, "0200"), ("CashLink$Type", 65, "0420"), ("CashLink$Type", 71, "0500"), ("CashLink$Type", 62, "0210"), ("CashLink$Type", 68, "0430"), ("CashLink$Type", 74, "0510")]
