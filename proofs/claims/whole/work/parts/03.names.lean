/-! names out of the claim's printed names: classes, methods, decode rows -/
def RJ15 : String := "java/util/Objects"
def RJ3 : String := "jdk/internal/util/Preconditions"
def RJ6 : String := "java/lang/Integer"
def RJ7 : String := "java/util/Arrays"
def RJ8 : String := "jdk/internal/util/ArraysSupport"
def RJ9 : String := "java/lang/Math"
def RJx4a65c : String := "java/util/ArrayList"
def TJx4a65c : u_T := fun k => match k with
  | 0 => ("java/util/AbstractList", "modCount", "I", false)
  | 1 => ("java/util/ArrayList", "elementData", "[Ljava/lang/Object;", false)
  | _ => ("java/util/ArrayList", "size", "I", false)
def tyJx4a65c : Nat → FieldType := fun k => match k with
  | 0 => .int
  | 1 => .array (.object "java/lang/Object")
  | _ => .int
theorem nmJx4a65c : ∀ a, a < 3 → ∀ b, b < 3 → a ≠ b → (TJx4a65c a).2.1 ≠ (TJx4a65c b).2.1 := by decide +kernel
theorem tyJx4a65c_ok : ∀ k, k < 3 → parseFieldDescriptor (TJx4a65c k).2.2.1 = some (tyJx4a65c k) := by decide +kernel
def RJxa1e45 : String := "java/util/AbstractCollection"
def RJxc12de : String := "java/util/AbstractList"
def RL : String := "SparklineLaw"
def RX0 : String := "Sparkline$Board"
def TX0 : u_T := fun k => match k with
  | 0 => ("Sparkline$Board", "isSoldered", "Z", false)
  | 1 => ("Sparkline$Board", "isTested", "Z", false)
  | 2 => ("Sparkline$Board", "isShipped", "Z", false)
  | 3 => ("Sparkline$Board", "slots", "Ljava/util/ArrayList;", true)
  | _ => ("Sparkline$Board", "heats", "LSparkline$Row;", true)
def tyX0 : Nat → FieldType := fun k => match k with
  | 0 => .boolean
  | 1 => .boolean
  | 2 => .boolean
  | 3 => .object "java/util/ArrayList"
  | _ => .object "Sparkline$Row"
theorem nmX0 : ∀ a, a < 5 → ∀ b, b < 5 → a ≠ b → (TX0 a).2.1 ≠ (TX0 b).2.1 := by decide +kernel
theorem tyX0_ok : ∀ k, k < 5 → parseFieldDescriptor (TX0 k).2.2.1 = some (tyX0 k) := by decide +kernel
def RX1 : String := "Sparkline$Bundle"
def TX1 : u_T := fun k => match k with
  | 0 => ("Sparkline$Bundle", "number", "I", true)
  | 1 => ("Sparkline$Bundle", "node", "I", true)
  | 2 => ("Sparkline$Bundle", "other", "I", true)
  | 3 => ("Sparkline$Bundle", "length", "I", true)
  | _ => ("Sparkline$Bundle", "room", "I", false)
def tyX1 : Nat → FieldType := fun k => match k with
  | 0 => .int
  | 1 => .int
  | 2 => .int
  | 3 => .int
  | _ => .int
theorem nmX1 : ∀ a, a < 5 → ∀ b, b < 5 → a ≠ b → (TX1 a).2.1 ≠ (TX1 b).2.1 := by decide +kernel
theorem tyX1_ok : ∀ k, k < 5 → parseFieldDescriptor (TX1 k).2.2.1 = some (tyX1 k) := by decide +kernel
def RX10 : String := "Sparkline$Wire"
def TX10 : u_T := fun k => match k with
  | 0 => ("Sparkline$Wire", "one", "LSparkline$Connector;", true)
  | 1 => ("Sparkline$Wire", "cavity", "I", true)
  | 2 => ("Sparkline$Wire", "two", "LSparkline$Connector;", true)
  | 3 => ("Sparkline$Wire", "others", "I", true)
  | 4 => ("Sparkline$Wire", "option", "I", true)
  | 5 => ("Sparkline$Wire", "length", "I", false)
  | 6 => ("Sparkline$Wire", "isPulled", "Z", false)
  | _ => ("Sparkline$Wire", "way", "Ljava/util/ArrayList;", true)
def tyX10 : Nat → FieldType := fun k => match k with
  | 0 => .object "Sparkline$Connector"
  | 1 => .int
  | 2 => .object "Sparkline$Connector"
  | 3 => .int
  | 4 => .int
  | 5 => .int
  | 6 => .boolean
  | _ => .object "java/util/ArrayList"
theorem nmX10 : ∀ a, a < 8 → ∀ b, b < 8 → a ≠ b → (TX10 a).2.1 ≠ (TX10 b).2.1 := by decide +kernel
theorem tyX10_ok : ∀ k, k < 8 → parseFieldDescriptor (TX10 k).2.2.1 = some (tyX10 k) := by decide +kernel
def RX11 : String := "Sparkline"
def TX11 : u_T := fun k => match k with
  | 0 => ("Sparkline", "harness", "LSparkline$Harness;", true)
  | 1 => ("Sparkline", "orders", "LSparkline$Orders;", true)
  | 2 => ("Sparkline", "crimper", "LSparkline$Crimper;", true)
  | 3 => ("Sparkline", "oven", "LSparkline$Oven;", true)
  | 4 => ("Sparkline", "reels", "Ljava/util/ArrayList;", true)
  | 5 => ("Sparkline", "boards", "Ljava/util/ArrayList;", true)
  | 6 => ("Sparkline", "covered", "I", false)
  | _ => ("Sparkline", "minute", "I", false)
def tyX11 : Nat → FieldType := fun k => match k with
  | 0 => .object "Sparkline$Harness"
  | 1 => .object "Sparkline$Orders"
  | 2 => .object "Sparkline$Crimper"
  | 3 => .object "Sparkline$Oven"
  | 4 => .object "java/util/ArrayList"
  | 5 => .object "java/util/ArrayList"
  | 6 => .int
  | _ => .int
theorem nmX11 : ∀ a, a < 8 → ∀ b, b < 8 → a ≠ b → (TX11 a).2.1 ≠ (TX11 b).2.1 := by decide +kernel
theorem tyX11_ok : ∀ k, k < 8 → parseFieldDescriptor (TX11 k).2.2.1 = some (tyX11 k) := by decide +kernel
def RX12 : String := "SparklineModel"
def TX12 : u_T := fun k => match k with
  | 0 => ("SparklineModel", "bundles", "I", false)
  | 1 => ("SparklineModel", "end", "[I", true)
  | 2 => ("SparklineModel", "other", "[I", true)
  | 3 => ("SparklineModel", "length", "[I", true)
  | 4 => ("SparklineModel", "room", "[I", true)
  | 5 => ("SparklineModel", "connectors", "I", false)
  | 6 => ("SparklineModel", "at", "[I", true)
  | 7 => ("SparklineModel", "cavities", "[I", true)
  | 8 => ("SparklineModel", "key", "[I", true)
  | 9 => ("SparklineModel", "mate", "[I", true)
  | 10 => ("SparklineModel", "wires", "I", false)
  | 11 => ("SparklineModel", "isOut", "[Z", true)
  | 12 => ("SparklineModel", "ends", "[I", true)
  | 13 => ("SparklineModel", "option", "[I", true)
  | 14 => ("SparklineModel", "many", "[I", true)
  | 15 => ("SparklineModel", "way", "[I", true)
  | 16 => ("SparklineModel", "far", "[I", true)
  | 17 => ("SparklineModel", "orders", "I", false)
  | 18 => ("SparklineModel", "wants", "[I", true)
  | 19 => ("SparklineModel", "times", "[I", true)
  | 20 => ("SparklineModel", "family", "[I", true)
  | 21 => ("SparklineModel", "crimps", "I", false)
  | 22 => ("SparklineModel", "goodOnes", "I", false)
  | 23 => ("SparklineModel", "force", "[I", true)
  | 24 => ("SparklineModel", "minute", "I", false)
  | 25 => ("SparklineModel", "reels", "I", false)
  | 26 => ("SparklineModel", "part", "[I", true)
  | 27 => ("SparklineModel", "left", "[I", true)
  | 28 => ("SparklineModel", "life", "[I", true)
  | 29 => ("SparklineModel", "opened", "[I", true)
  | 30 => ("SparklineModel", "heat", "[I", true)
  | 31 => ("SparklineModel", "low", "[I", true)
  | 32 => ("SparklineModel", "high", "[I", true)
  | 33 => ("SparklineModel", "isCovered", "[Z", true)
  | 34 => ("SparklineModel", "boards", "I", false)
  | 35 => ("SparklineModel", "isSoldered", "[Z", true)
  | 36 => ("SparklineModel", "isTested", "[Z", true)
  | 37 => ("SparklineModel", "isShipped", "[Z", true)
  | 38 => ("SparklineModel", "reel", "[I", true)
  | 39 => ("SparklineModel", "placed", "[I", true)
  | 40 => ("SparklineModel", "joint", "[I", true)
  | 41 => ("SparklineModel", "fault", "[I", true)
  | 42 => ("SparklineModel", "isFound", "[Z", true)
  | 43 => ("SparklineModel", "isRepaired", "[Z", true)
  | _ => ("SparklineModel", "thrown", "I", false)
def tyX12 : Nat → FieldType := fun k => match k with
  | 0 => .int
  | 1 => .array .int
  | 2 => .array .int
  | 3 => .array .int
  | 4 => .array .int
  | 5 => .int
  | 6 => .array .int
  | 7 => .array .int
  | 8 => .array .int
  | 9 => .array .int
  | 10 => .int
  | 11 => .array .boolean
  | 12 => .array .int
  | 13 => .array .int
  | 14 => .array .int
  | 15 => .array .int
  | 16 => .array .int
  | 17 => .int
  | 18 => .array .int
  | 19 => .array .int
  | 20 => .array .int
  | 21 => .int
  | 22 => .int
  | 23 => .array .int
  | 24 => .int
  | 25 => .int
  | 26 => .array .int
  | 27 => .array .int
  | 28 => .array .int
  | 29 => .array .int
  | 30 => .array .int
  | 31 => .array .int
  | 32 => .array .int
  | 33 => .array .boolean
  | 34 => .int
  | 35 => .array .boolean
  | 36 => .array .boolean
  | 37 => .array .boolean
  | 38 => .array .int
  | 39 => .array .int
  | 40 => .array .int
  | 41 => .array .int
  | 42 => .array .boolean
  | 43 => .array .boolean
  | _ => .int
theorem nmX12 : ∀ a, a < 45 → ∀ b, b < 45 → a ≠ b → (TX12 a).2.1 ≠ (TX12 b).2.1 := by decide +kernel
theorem tyX12_ok : ∀ k, k < 45 → parseFieldDescriptor (TX12 k).2.2.1 = some (tyX12 k) := by decide +kernel
def RX2 : String := "Sparkline$Connector"
def TX2 : u_T := fun k => match k with
  | 0 => ("Sparkline$Connector", "node", "I", true)
  | 1 => ("Sparkline$Connector", "cavities", "I", true)
  | 2 => ("Sparkline$Connector", "key", "I", true)
  | 3 => ("Sparkline$Connector", "mate", "I", false)
  | _ => ("Sparkline$Connector", "taken", "I", false)
def tyX2 : Nat → FieldType := fun k => match k with
  | 0 => .int
  | 1 => .int
  | 2 => .int
  | 3 => .int
  | _ => .int
theorem nmX2 : ∀ a, a < 5 → ∀ b, b < 5 → a ≠ b → (TX2 a).2.1 ≠ (TX2 b).2.1 := by decide +kernel
theorem tyX2_ok : ∀ k, k < 5 → parseFieldDescriptor (TX2 k).2.2.1 = some (tyX2 k) := by decide +kernel
def RX3 : String := "Sparkline$Crimper"
def TX3 : u_T := fun k => match k with
  | 0 => ("Sparkline$Crimper", "count", "I", false)
  | 1 => ("Sparkline$Crimper", "good", "I", false)
  | 2 => ("Sparkline$Crimper", "latest", "LSparkline$Row;", true)
  | _ => ("Sparkline$Crimper", "next", "I", false)
def tyX3 : Nat → FieldType := fun k => match k with
  | 0 => .int
  | 1 => .int
  | 2 => .object "Sparkline$Row"
  | _ => .int
theorem nmX3 : ∀ a, a < 4 → ∀ b, b < 4 → a ≠ b → (TX3 a).2.1 ≠ (TX3 b).2.1 := by decide +kernel
theorem tyX3_ok : ∀ k, k < 4 → parseFieldDescriptor (TX3 k).2.2.1 = some (tyX3 k) := by decide +kernel
def RX4 : String := "Sparkline$Harness"
def TX4 : u_T := fun k => match k with
  | 0 => ("Sparkline$Harness", "bundles", "Ljava/util/ArrayList;", true)
  | 1 => ("Sparkline$Harness", "connectors", "Ljava/util/ArrayList;", true)
  | 2 => ("Sparkline$Harness", "wires", "Ljava/util/ArrayList;", true)
  | _ => ("Sparkline$Harness", "costs", "LSparkline$Row;", true)
def tyX4 : Nat → FieldType := fun k => match k with
  | 0 => .object "java/util/ArrayList"
  | 1 => .object "java/util/ArrayList"
  | 2 => .object "java/util/ArrayList"
  | _ => .object "Sparkline$Row"
theorem nmX4 : ∀ a, a < 4 → ∀ b, b < 4 → a ≠ b → (TX4 a).2.1 ≠ (TX4 b).2.1 := by decide +kernel
theorem tyX4_ok : ∀ k, k < 4 → parseFieldDescriptor (TX4 k).2.2.1 = some (tyX4 k) := by decide +kernel
def RX5 : String := "Sparkline$Orders"
def TX5 : u_T := fun k => match k with
  | 0 => ("Sparkline$Orders", "options", "LSparkline$Row;", true)
  | 1 => ("Sparkline$Orders", "many", "LSparkline$Row;", true)
  | 2 => ("Sparkline$Orders", "weights", "LSparkline$Row;", true)
  | 3 => ("Sparkline$Orders", "leasts", "LSparkline$Row;", true)
  | _ => ("Sparkline$Orders", "count", "I", false)
def tyX5 : Nat → FieldType := fun k => match k with
  | 0 => .object "Sparkline$Row"
  | 1 => .object "Sparkline$Row"
  | 2 => .object "Sparkline$Row"
  | 3 => .object "Sparkline$Row"
  | _ => .int
theorem nmX5 : ∀ a, a < 5 → ∀ b, b < 5 → a ≠ b → (TX5 a).2.1 ≠ (TX5 b).2.1 := by decide +kernel
theorem tyX5_ok : ∀ k, k < 5 → parseFieldDescriptor (TX5 k).2.2.1 = some (tyX5 k) := by decide +kernel
def RX6 : String := "Sparkline$Oven"
def TX6 : u_T := fun k => match k with
  | 0 => ("Sparkline$Oven", "heats", "LSparkline$Row;", true)
  | 1 => ("Sparkline$Oven", "lows", "LSparkline$Row;", true)
  | _ => ("Sparkline$Oven", "highs", "LSparkline$Row;", true)
def tyX6 : Nat → FieldType := fun k => match k with
  | 0 => .object "Sparkline$Row"
  | 1 => .object "Sparkline$Row"
  | _ => .object "Sparkline$Row"
theorem nmX6 : ∀ a, a < 3 → ∀ b, b < 3 → a ≠ b → (TX6 a).2.1 ≠ (TX6 b).2.1 := by decide +kernel
theorem tyX6_ok : ∀ k, k < 3 → parseFieldDescriptor (TX6 k).2.2.1 = some (tyX6 k) := by decide +kernel
def RX7 : String := "Sparkline$Reel"
def TX7 : u_T := fun k => match k with
  | 0 => ("Sparkline$Reel", "part", "I", true)
  | 1 => ("Sparkline$Reel", "life", "I", true)
  | 2 => ("Sparkline$Reel", "left", "I", false)
  | 3 => ("Sparkline$Reel", "isOpen", "Z", false)
  | _ => ("Sparkline$Reel", "begun", "I", false)
def tyX7 : Nat → FieldType := fun k => match k with
  | 0 => .int
  | 1 => .int
  | 2 => .int
  | 3 => .boolean
  | _ => .int
theorem nmX7 : ∀ a, a < 5 → ∀ b, b < 5 → a ≠ b → (TX7 a).2.1 ≠ (TX7 b).2.1 := by decide +kernel
theorem tyX7_ok : ∀ k, k < 5 → parseFieldDescriptor (TX7 k).2.2.1 = some (tyX7 k) := by decide +kernel
def RX8 : String := "Sparkline$Row"
def TX8 : u_T := fun k => match k with
  | _ => ("Sparkline$Row", "cells", "[I", true)
def tyX8 : Nat → FieldType := fun k => match k with
  | _ => .array .int
theorem nmX8 : ∀ a, a < 1 → ∀ b, b < 1 → a ≠ b → (TX8 a).2.1 ≠ (TX8 b).2.1 := by decide +kernel
theorem tyX8_ok : ∀ k, k < 1 → parseFieldDescriptor (TX8 k).2.2.1 = some (tyX8 k) := by decide +kernel
def RX9 : String := "Sparkline$Slot"
def TX9 : u_T := fun k => match k with
  | 0 => ("Sparkline$Slot", "part", "I", false)
  | 1 => ("Sparkline$Slot", "reel", "I", false)
  | 2 => ("Sparkline$Slot", "minute", "I", false)
  | 3 => ("Sparkline$Slot", "fault", "I", false)
  | 4 => ("Sparkline$Slot", "isFound", "Z", false)
  | 5 => ("Sparkline$Slot", "isRepaired", "Z", false)
  | 6 => ("Sparkline$Slot", "low", "I", false)
  | _ => ("Sparkline$Slot", "high", "I", false)
def tyX9 : Nat → FieldType := fun k => match k with
  | 0 => .int
  | 1 => .int
  | 2 => .int
  | 3 => .int
  | 4 => .boolean
  | 5 => .boolean
  | 6 => .int
  | _ => .int
theorem nmX9 : ∀ a, a < 8 → ∀ b, b < 8 → a ≠ b → (TX9 a).2.1 ≠ (TX9 b).2.1 := by decide +kernel
theorem tyX9_ok : ∀ k, k < 8 → parseFieldDescriptor (TX9 k).2.2.1 = some (tyX9 k) := by decide +kernel
abbrev vwCl : List vw_C := [(RJx4a65c, TJx4a65c, 3), (RX0, TX0, 5), (RX1, TX1, 5), (RX2, TX2, 5), (RX3, TX3, 4), (RX4, TX4, 4), (RX5, TX5, 5), (RX6, TX6, 3), (RX7, TX7, 5), (RX8, TX8, 1), (RX9, TX9, 8), (RX10, TX10, 8), (RX11, TX11, 8), (RX12, TX12, 45)]
abbrev cJxa1e45_init_da8c8 : ByteArray := prog_27_method_1_code
def yJxa1e45_init_da8c8 : MethodName := ⟨RJxa1e45, "<init>", "()V"⟩
abbrev cJxc12de_init_da8c8 : ByteArray := prog_28_method_1_code
def yJxc12de_init_da8c8 : MethodName := ⟨RJxc12de, "<init>", "()V"⟩
abbrev cJx4a65c_init_da8c8 : ByteArray := prog_29_method_2_code
def yJx4a65c_init_da8c8 : MethodName := ⟨RJx4a65c, "<init>", "()V"⟩
abbrev cX8_init : ByteArray := prog_10_method_1_code
def yX8_init : MethodName := ⟨RX8, "<init>", "(I)V"⟩
abbrev cX4_init : ByteArray := prog_6_method_1_code
def yX4_init : MethodName := ⟨RX4, "<init>", "()V"⟩
abbrev cX5_init : ByteArray := prog_7_method_1_code
def yX5_init : MethodName := ⟨RX5, "<init>", "()V"⟩
abbrev cX3_init : ByteArray := prog_5_method_1_code
def yX3_init : MethodName := ⟨RX3, "<init>", "()V"⟩
abbrev cX8_put : ByteArray := prog_10_method_3_code
def yX8_put : MethodName := ⟨RX8, "put", "(II)V"⟩
abbrev cX8_fill : ByteArray := prog_10_method_4_code
def yX8_fill : MethodName := ⟨RX8, "fill", "(I)V"⟩
abbrev cX6_init : ByteArray := prog_8_method_1_code
def yX6_init : MethodName := ⟨RX6, "<init>", "()V"⟩
abbrev cX11_init : ByteArray := prog_1_method_1_code
def yX11_init : MethodName := ⟨RX11, "<init>", "()V"⟩
abbrev cX12_init : ByteArray := prog_14_method_1_code
def yX12_init : MethodName := ⟨RX12, "<init>", "()V"⟩
abbrev cX11_isIndex : ByteArray := prog_1_method_34_code
def yX11_isIndex : MethodName := ⟨RX11, "isIndex", "(II)Z"⟩
abbrev cX11_checkIndex : ByteArray := prog_1_method_30_code
def yX11_checkIndex : MethodName := ⟨RX11, "checkIndex", "(Z)V"⟩
abbrev cX11_isWithin : ByteArray := prog_1_method_33_code
def yX11_isWithin : MethodName := ⟨RX11, "isWithin", "(III)Z"⟩
abbrev cX11_checkArgument : ByteArray := prog_1_method_31_code
def yX11_checkArgument : MethodName := ⟨RX11, "checkArgument", "(Z)V"⟩
abbrev cJx4a65c_size_8abf5 : ByteArray := prog_29_method_8_code
def yJx4a65c_size_8abf5 : MethodName := ⟨RJx4a65c, "size", "()I"⟩
abbrev cX11_checkState : ByteArray := prog_1_method_32_code
def yX11_checkState : MethodName := ⟨RX11, "checkState", "(Z)V"⟩
abbrev cX1_init : ByteArray := prog_3_method_1_code
def yX1_init : MethodName := ⟨RX1, "<init>", "(IIIII)V"⟩
abbrev cJ9_max_7cf53 : ByteArray := prog_23_method_65_code
def yJ9_max_7cf53 : MethodName := ⟨RJ9, "max", "(II)I"⟩
abbrev cJ8_newLength_cabcc : ByteArray := prog_36_method_27_code
def yJ8_newLength_cabcc : MethodName := ⟨RJ8, "newLength", "(III)I"⟩
abbrev cJ9_min_7cf53 : ByteArray := prog_23_method_69_code
def yJ9_min_7cf53 : MethodName := ⟨RJ9, "min", "(II)I"⟩
abbrev cJ7_copyOf_6403c : ByteArray := prog_30_method_120_code
def yJ7_copyOf_6403c : MethodName := ⟨RJ7, "copyOf", "([Ljava/lang/Object;ILjava/lang/Class;)[Ljava/lang/Object;"⟩
abbrev cJ7_copyOf_1904c : ByteArray := prog_30_method_119_code
def yJ7_copyOf_1904c : MethodName := ⟨RJ7, "copyOf", "([Ljava/lang/Object;I)[Ljava/lang/Object;"⟩
abbrev cJx4a65c_grow_92f84 : ByteArray := prog_29_method_6_code
def yJx4a65c_grow_92f84 : MethodName := ⟨RJx4a65c, "grow", "(I)[Ljava/lang/Object;"⟩
abbrev cJx4a65c_grow_d5877 : ByteArray := prog_29_method_7_code
def yJx4a65c_grow_d5877 : MethodName := ⟨RJx4a65c, "grow", "()[Ljava/lang/Object;"⟩
abbrev cJx4a65c_add_72be8 : ByteArray := prog_29_method_24_code
def yJx4a65c_add_72be8 : MethodName := ⟨RJx4a65c, "add", "(Ljava/lang/Object;[Ljava/lang/Object;I)V"⟩
abbrev cJx4a65c_add_9ea2d : ByteArray := prog_29_method_25_code
def yJx4a65c_add_9ea2d : MethodName := ⟨RJx4a65c, "add", "(Ljava/lang/Object;)Z"⟩
abbrev cX4_addBundle : ByteArray := prog_6_method_2_code
def yX4_addBundle : MethodName := ⟨RX4, "addBundle", "(IIII)I"⟩
abbrev cX11_bundle : ByteArray := prog_1_method_2_code
def yX11_bundle : MethodName := ⟨RX11, "bundle", "(IIII)I"⟩
abbrev cL_bundle : ByteArray := method_3_code
def yL_bundle : MethodName := ⟨RL, "bundle", "(LSparkline;IIII[J)I"⟩
abbrev cX12_isIn : ByteArray := prog_14_method_4_code
def yX12_isIn : MethodName := ⟨RX12, "isIn", "(III)Z"⟩
abbrev cX12_isNode : ByteArray := prog_14_method_5_code
def yX12_isNode : MethodName := ⟨RX12, "isNode", "(I)Z"⟩
abbrev cX12_fails : ByteArray := prog_14_method_3_code
def yX12_fails : MethodName := ⟨RX12, "fails", "(I)Z"⟩
abbrev cX12_bundle : ByteArray := prog_14_method_8_code
def yX12_bundle : MethodName := ⟨RX12, "bundle", "(IIII)I"⟩
abbrev cX12_thrown : ByteArray := prog_14_method_2_code
def yX12_thrown : MethodName := ⟨RX12, "thrown", "()I"⟩
abbrev cX2_init : ByteArray := prog_4_method_1_code
def yX2_init : MethodName := ⟨RX2, "<init>", "(III)V"⟩
abbrev cX4_addConnector : ByteArray := prog_6_method_3_code
def yX4_addConnector : MethodName := ⟨RX4, "addConnector", "(III)I"⟩
abbrev cX11_connector : ByteArray := prog_1_method_3_code
def yX11_connector : MethodName := ⟨RX11, "connector", "(III)I"⟩
abbrev cL_connector : ByteArray := method_4_code
def yL_connector : MethodName := ⟨RL, "connector", "(LSparkline;III[J)I"⟩
abbrev cX12_connector : ByteArray := prog_14_method_9_code
def yX12_connector : MethodName := ⟨RX12, "connector", "(III)I"⟩
abbrev cJ3_checkIndex_8e157 : ByteArray := prog_37_method_11_code
def yJ3_checkIndex_8e157 : MethodName := ⟨RJ3, "checkIndex", "(IILjava/util/function/BiFunction;)I"⟩
abbrev cJ15_checkIndex_7cf53 : ByteArray := prog_33_method_17_code
def yJ15_checkIndex_7cf53 : MethodName := ⟨RJ15, "checkIndex", "(II)I"⟩
abbrev cJx4a65c_elementData_915e3 : ByteArray := prog_29_method_18_code
def yJx4a65c_elementData_915e3 : MethodName := ⟨RJx4a65c, "elementData", "(I)Ljava/lang/Object;"⟩
abbrev cJx4a65c_get_915e3 : ByteArray := prog_29_method_20_code
def yJx4a65c_get_915e3 : MethodName := ⟨RJx4a65c, "get", "(I)Ljava/lang/Object;"⟩
abbrev cX11_connectorAt : ByteArray := prog_1_method_36_code
def yX11_connectorAt : MethodName := ⟨RX11, "connectorAt", "(I)LSparkline$Connector;"⟩
abbrev cX2_fits : ByteArray := prog_4_method_2_code
def yX2_fits : MethodName := ⟨RX2, "fits", "(LSparkline$Connector;)Z"⟩
abbrev cX4_pairsThatFitWrong : ByteArray := prog_6_method_4_code
def yX4_pairsThatFitWrong : MethodName := ⟨RX4, "pairsThatFitWrong", "()I"⟩
abbrev cX11_mates : ByteArray := prog_1_method_4_code
def yX11_mates : MethodName := ⟨RX11, "mates", "(II)I"⟩
abbrev cL_mates : ByteArray := method_5_code
def yL_mates : MethodName := ⟨RL, "mates", "(LSparkline;II[J)I"⟩
abbrev cX12_isConnector : ByteArray := prog_14_method_6_code
def yX12_isConnector : MethodName := ⟨RX12, "isConnector", "(I)Z"⟩
abbrev cX12_fit : ByteArray := prog_14_method_10_code
def yX12_fit : MethodName := ⟨RX12, "fit", "(II)Z"⟩
abbrev cX12_mates : ByteArray := prog_14_method_11_code
def yX12_mates : MethodName := ⟨RX12, "mates", "(II)I"⟩
abbrev cX2_isFree : ByteArray := prog_4_method_3_code
def yX2_isFree : MethodName := ⟨RX2, "isFree", "(I)Z"⟩
abbrev cX8_at : ByteArray := prog_10_method_2_code
def yX8_at : MethodName := ⟨RX8, "at", "(I)I"⟩
abbrev cX1_cost : ByteArray := prog_3_method_2_code
def yX1_cost : MethodName := ⟨RX1, "cost", "()I"⟩
abbrev cX1_across : ByteArray := prog_3_method_3_code
def yX1_across : MethodName := ⟨RX1, "across", "(I)I"⟩
abbrev cX4_lowerCost : ByteArray := prog_6_method_7_code
def yX4_lowerCost : MethodName := ⟨RX4, "lowerCost", "(ILSparkline$Bundle;)V"⟩
abbrev cX4_findCosts : ByteArray := prog_6_method_6_code
def yX4_findCosts : MethodName := ⟨RX4, "findCosts", "(I)V"⟩
abbrev cX4_hasWay : ByteArray := prog_6_method_5_code
def yX4_hasWay : MethodName := ⟨RX4, "hasWay", "(II)Z"⟩
abbrev cX10_init : ByteArray := prog_12_method_1_code
def yX10_init : MethodName := ⟨RX10, "<init>", "(LSparkline$Connector;ILSparkline$Connector;II)V"⟩
abbrev cX2_take : ByteArray := prog_4_method_4_code
def yX2_take : MethodName := ⟨RX2, "take", "(I)V"⟩
abbrev cX10_putIn : ByteArray := prog_12_method_2_code
def yX10_putIn : MethodName := ⟨RX10, "putIn", "()V"⟩
abbrev cX4_lowestOnward : ByteArray := prog_6_method_10_code
def yX4_lowestOnward : MethodName := ⟨RX4, "lowestOnward", "(I)LSparkline$Bundle;"⟩
abbrev cX10_goBy : ByteArray := prog_12_method_3_code
def yX10_goBy : MethodName := ⟨RX10, "goBy", "(LSparkline$Bundle;)V"⟩
abbrev cX4_layAlong : ByteArray := prog_6_method_9_code
def yX4_layAlong : MethodName := ⟨RX4, "layAlong", "(LSparkline$Wire;)V"⟩
abbrev cX4_addWire : ByteArray := prog_6_method_8_code
def yX4_addWire : MethodName := ⟨RX4, "addWire", "(LSparkline$Wire;)I"⟩
abbrev cX11_wire : ByteArray := prog_1_method_5_code
def yX11_wire : MethodName := ⟨RX11, "wire", "(IIIII)I"⟩
abbrev cL_wire : ByteArray := method_6_code
def yL_wire : MethodName := ⟨RL, "wire", "(LSparkline;IIIII[J)I"⟩
abbrev cX12_isCavity : ByteArray := prog_14_method_12_code
def yX12_isCavity : MethodName := ⟨RX12, "isCavity", "(II)Z"⟩
abbrev cX12_costOf : ByteArray := prog_14_method_15_code
def yX12_costOf : MethodName := ⟨RX12, "costOf", "(I)I"⟩
abbrev cX12_finds : ByteArray := prog_14_method_16_code
def yX12_finds : MethodName := ⟨RX12, "finds", "(I)V"⟩
abbrev cX12_isTaken : ByteArray := prog_14_method_13_code
def yX12_isTaken : MethodName := ⟨RX12, "isTaken", "(I)Z"⟩
abbrev cX12_across : ByteArray := prog_14_method_14_code
def yX12_across : MethodName := ⟨RX12, "across", "(II)I"⟩
abbrev cX12_lays : ByteArray := prog_14_method_17_code
def yX12_lays : MethodName := ⟨RX12, "lays", "(II)V"⟩
abbrev cX12_wire : ByteArray := prog_14_method_18_code
def yX12_wire : MethodName := ⟨RX12, "wire", "(IIIII)I"⟩
abbrev cX11_wireAt : ByteArray := prog_1_method_37_code
def yX11_wireAt : MethodName := ⟨RX11, "wireAt", "(I)LSparkline$Wire;"⟩
abbrev cX2_release : ByteArray := prog_4_method_5_code
def yX2_release : MethodName := ⟨RX2, "release", "(I)V"⟩
abbrev cX10_takeOut : ByteArray := prog_12_method_4_code
def yX10_takeOut : MethodName := ⟨RX10, "takeOut", "()V"⟩
abbrev cX11_pull : ByteArray := prog_1_method_6_code
def yX11_pull : MethodName := ⟨RX11, "pull", "(I)I"⟩
abbrev cL_pull : ByteArray := method_7_code
def yL_pull : MethodName := ⟨RL, "pull", "(LSparkline;I[J)I"⟩
abbrev cX12_isWire : ByteArray := prog_14_method_19_code
def yX12_isWire : MethodName := ⟨RX12, "isWire", "(I)Z"⟩
abbrev cX12_lengthOf : ByteArray := prog_14_method_20_code
def yX12_lengthOf : MethodName := ⟨RX12, "lengthOf", "(I)I"⟩
abbrev cX12_pull : ByteArray := prog_14_method_21_code
def yX12_pull : MethodName := ⟨RX12, "pull", "(I)I"⟩
abbrev cX10_bundleAt : ByteArray := prog_12_method_5_code
def yX10_bundleAt : MethodName := ⟨RX10, "bundleAt", "(I)I"⟩
abbrev cX11_ofWire : ByteArray := prog_1_method_7_code
def yX11_ofWire : MethodName := ⟨RX11, "ofWire", "(II)I"⟩
abbrev cL_ofWire : ByteArray := method_8_code
def yL_ofWire : MethodName := ⟨RL, "ofWire", "(LSparkline;II[J)I"⟩
abbrev cX12_ofWire : ByteArray := prog_14_method_22_code
def yX12_ofWire : MethodName := ⟨RX12, "ofWire", "(II)I"⟩
abbrev cX4_weightOf : ByteArray := prog_6_method_11_code
def yX4_weightOf : MethodName := ⟨RX4, "weightOf", "(I)I"⟩
abbrev cX11_weight : ByteArray := prog_1_method_8_code
def yX11_weight : MethodName := ⟨RX11, "weight", "(I)I"⟩
abbrev cL_weight : ByteArray := method_9_code
def yL_weight : MethodName := ⟨RL, "weight", "(LSparkline;I[J)I"⟩
abbrev cX12_areOptions : ByteArray := prog_14_method_23_code
def yX12_areOptions : MethodName := ⟨RX12, "areOptions", "(I)Z"⟩
abbrev cX12_weighs : ByteArray := prog_14_method_24_code
def yX12_weighs : MethodName := ⟨RX12, "weighs", "(I)I"⟩
abbrev cX12_weight : ByteArray := prog_14_method_25_code
def yX12_weight : MethodName := ⟨RX12, "weight", "(I)I"⟩
abbrev cX5_add : ByteArray := prog_7_method_2_code
def yX5_add : MethodName := ⟨RX5, "add", "(II)I"⟩
abbrev cX11_order : ByteArray := prog_1_method_9_code
def yX11_order : MethodName := ⟨RX11, "order", "(II)I"⟩
abbrev cL_order : ByteArray := method_10_code
def yL_order : MethodName := ⟨RL, "order", "(LSparkline;II[J)I"⟩
abbrev cX12_order : ByteArray := prog_14_method_26_code
def yX12_order : MethodName := ⟨RX12, "order", "(II)I"⟩
abbrev cX5_allOrders : ByteArray := prog_7_method_3_code
def yX5_allOrders : MethodName := ⟨RX5, "allOrders", "()I"⟩
abbrev cX5_weightAsOne : ByteArray := prog_7_method_5_code
def yX5_weightAsOne : MethodName := ⟨RX5, "weightAsOne", "(LSparkline$Harness;I)I"⟩
abbrev cX5_weighSets : ByteArray := prog_7_method_4_code
def yX5_weighSets : MethodName := ⟨RX5, "weighSets", "(LSparkline$Harness;)V"⟩
abbrev cX5_leastOfRest : ByteArray := prog_7_method_7_code
def yX5_leastOfRest : MethodName := ⟨RX5, "leastOfRest", "(LSparkline$Row;II)I"⟩
abbrev cX5_leastByChoice : ByteArray := prog_7_method_6_code
def yX5_leastByChoice : MethodName := ⟨RX5, "leastByChoice", "(LSparkline$Harness;I)I"⟩
abbrev cX11_least : ByteArray := prog_1_method_10_code
def yX11_least : MethodName := ⟨RX11, "least", "(I)I"⟩
abbrev cL_least : ByteArray := method_11_code
def yL_least : MethodName := ⟨RL, "least", "(LSparkline;I[J)I"⟩
abbrev cX12_weightOfFamilies : ByteArray := prog_14_method_27_code
def yX12_weightOfFamilies : MethodName := ⟨RX12, "weightOfFamilies", "(I)I"⟩
abbrev cX12_leastOf : ByteArray := prog_14_method_28_code
def yX12_leastOf : MethodName := ⟨RX12, "leastOf", "(I)I"⟩
abbrev cX12_least : ByteArray := prog_14_method_29_code
def yX12_least : MethodName := ⟨RX12, "least", "(I)I"⟩
abbrev cX5_leastWithOneMore : ByteArray := prog_7_method_10_code
def yX5_leastWithOneMore : MethodName := ⟨RX5, "leastWithOneMore", "(I)I"⟩
abbrev cX5_addFamily : ByteArray := prog_7_method_9_code
def yX5_addFamily : MethodName := ⟨RX5, "addFamily", "()V"⟩
abbrev cX5_leastByTable : ByteArray := prog_7_method_8_code
def yX5_leastByTable : MethodName := ⟨RX5, "leastByTable", "(LSparkline$Harness;I)I"⟩
abbrev cX11_leastAnew : ByteArray := prog_1_method_11_code
def yX11_leastAnew : MethodName := ⟨RX11, "leastAnew", "(I)I"⟩
abbrev cL_leastAnew : ByteArray := method_12_code
def yL_leastAnew : MethodName := ⟨RL, "leastAnew", "(LSparkline;I[J)I"⟩
abbrev cX12_leastAnew : ByteArray := prog_14_method_30_code
def yX12_leastAnew : MethodName := ⟨RX12, "leastAnew", "(I)I"⟩
abbrev cJ9_floorDiv_7cf53 : ByteArray := prog_23_method_47_code
def yJ9_floorDiv_7cf53 : MethodName := ⟨RJ9, "floorDiv", "(II)I"⟩
abbrev cX11_divideDown : ByteArray := prog_1_method_35_code
def yX11_divideDown : MethodName := ⟨RX11, "divideDown", "(II)I"⟩
abbrev cX3_window : ByteArray := prog_5_method_3_code
def yX3_window : MethodName := ⟨RX3, "window", "()I"⟩
abbrev cJ9_abs_0f7a4 : ByteArray := prog_23_method_59_code
def yJ9_abs_0f7a4 : MethodName := ⟨RJ9, "abs", "(I)I"⟩
abbrev cX3_judge : ByteArray := prog_5_method_2_code
def yX3_judge : MethodName := ⟨RX3, "judge", "(I)Z"⟩
abbrev cX11_crimp : ByteArray := prog_1_method_12_code
def yX11_crimp : MethodName := ⟨RX11, "crimp", "(I)Z"⟩
abbrev cL_crimp : ByteArray := method_13_code
def yL_crimp : MethodName := ⟨RL, "crimp", "(LSparkline;I[J)I"⟩
abbrev cX12_window : ByteArray := prog_14_method_31_code
def yX12_window : MethodName := ⟨RX12, "window", "()I"⟩
abbrev cX12_crimp : ByteArray := prog_14_method_32_code
def yX12_crimp : MethodName := ⟨RX12, "crimp", "(I)Z"⟩
abbrev cX11_crimps : ByteArray := prog_1_method_13_code
def yX11_crimps : MethodName := ⟨RX11, "crimps", "(I)I"⟩
abbrev cL_crimps : ByteArray := method_14_code
def yL_crimps : MethodName := ⟨RL, "crimps", "(LSparkline;I[J)I"⟩
abbrev cX12_crimps : ByteArray := prog_14_method_33_code
def yX12_crimps : MethodName := ⟨RX12, "crimps", "(I)I"⟩
abbrev cX7_init : ByteArray := prog_9_method_1_code
def yX7_init : MethodName := ⟨RX7, "<init>", "(III)V"⟩
abbrev cX11_reel : ByteArray := prog_1_method_14_code
def yX11_reel : MethodName := ⟨RX11, "reel", "(III)I"⟩
abbrev cL_reel : ByteArray := method_15_code
def yL_reel : MethodName := ⟨RL, "reel", "(LSparkline;III[J)I"⟩
abbrev cX12_reel : ByteArray := prog_14_method_34_code
def yX12_reel : MethodName := ⟨RX12, "reel", "(III)I"⟩
abbrev cX11_reelAt : ByteArray := prog_1_method_38_code
def yX11_reelAt : MethodName := ⟨RX11, "reelAt", "(I)LSparkline$Reel;"⟩
abbrev cX7_beginClock : ByteArray := prog_9_method_2_code
def yX7_beginClock : MethodName := ⟨RX7, "beginClock", "(I)V"⟩
abbrev cX7_clockAt : ByteArray := prog_9_method_3_code
def yX7_clockAt : MethodName := ⟨RX7, "clockAt", "(I)I"⟩
abbrev cX11_open : ByteArray := prog_1_method_15_code
def yX11_open : MethodName := ⟨RX11, "open", "(IZ)I"⟩
abbrev cL_open : ByteArray := method_16_code
def yL_open : MethodName := ⟨RL, "open", "(LSparkline;IZ[J)I"⟩
abbrev cX12_isReel : ByteArray := prog_14_method_35_code
def yX12_isReel : MethodName := ⟨RX12, "isReel", "(I)Z"⟩
abbrev cX12_runs : ByteArray := prog_14_method_36_code
def yX12_runs : MethodName := ⟨RX12, "runs", "(I)I"⟩
abbrev cX12_open : ByteArray := prog_14_method_37_code
def yX12_open : MethodName := ⟨RX12, "open", "(IZ)I"⟩
abbrev cX11_ofReel : ByteArray := prog_1_method_16_code
def yX11_ofReel : MethodName := ⟨RX11, "ofReel", "(II)I"⟩
abbrev cL_ofReel : ByteArray := method_17_code
def yL_ofReel : MethodName := ⟨RL, "ofReel", "(LSparkline;II[J)I"⟩
abbrev cX12_ofReel : ByteArray := prog_14_method_38_code
def yX12_ofReel : MethodName := ⟨RX12, "ofReel", "(II)I"⟩
abbrev cX9_init : ByteArray := prog_11_method_1_code
def yX9_init : MethodName := ⟨RX9, "<init>", "()V"⟩
abbrev cX0_init : ByteArray := prog_2_method_1_code
def yX0_init : MethodName := ⟨RX0, "<init>", "()V"⟩
abbrev cX11_board : ByteArray := prog_1_method_17_code
def yX11_board : MethodName := ⟨RX11, "board", "()I"⟩
abbrev cL_board : ByteArray := method_18_code
def yL_board : MethodName := ⟨RL, "board", "(LSparkline;[J)I"⟩
abbrev cX12_board : ByteArray := prog_14_method_40_code
def yX12_board : MethodName := ⟨RX12, "board", "()I"⟩
abbrev cX11_boardAt : ByteArray := prog_1_method_39_code
def yX11_boardAt : MethodName := ⟨RX11, "boardAt", "(I)LSparkline$Board;"⟩
abbrev cX0_slotAt : ByteArray := prog_2_method_2_code
def yX0_slotAt : MethodName := ⟨RX0, "slotAt", "(I)LSparkline$Slot;"⟩
abbrev cX9_hasPart : ByteArray := prog_11_method_2_code
def yX9_hasPart : MethodName := ⟨RX9, "hasPart", "()Z"⟩
abbrev cX7_gives : ByteArray := prog_9_method_4_code
def yX7_gives : MethodName := ⟨RX7, "gives", "(I)Z"⟩
abbrev cX9_fill : ByteArray := prog_11_method_3_code
def yX9_fill : MethodName := ⟨RX9, "fill", "(ILSparkline$Reel;I)V"⟩
abbrev cX11_place : ByteArray := prog_1_method_18_code
def yX11_place : MethodName := ⟨RX11, "place", "(III)I"⟩
abbrev cL_place : ByteArray := method_19_code
def yL_place : MethodName := ⟨RL, "place", "(LSparkline;III[J)I"⟩
abbrev cX12_isBoard : ByteArray := prog_14_method_41_code
def yX12_isBoard : MethodName := ⟨RX12, "isBoard", "(I)Z"⟩
abbrev cX12_isSlot : ByteArray := prog_14_method_42_code
def yX12_isSlot : MethodName := ⟨RX12, "isSlot", "(I)Z"⟩
abbrev cX12_gives : ByteArray := prog_14_method_39_code
def yX12_gives : MethodName := ⟨RX12, "gives", "(I)Z"⟩
abbrev cX12_place : ByteArray := prog_14_method_43_code
def yX12_place : MethodName := ⟨RX12, "place", "(III)I"⟩
abbrev cX11_limits : ByteArray := prog_1_method_19_code
def yX11_limits : MethodName := ⟨RX11, "limits", "(ZIII)V"⟩
abbrev cL_limits : ByteArray := method_20_code
def yL_limits : MethodName := ⟨RL, "limits", "(LSparkline;ZIII)I"⟩
abbrev cX12_limits : ByteArray := prog_14_method_44_code
def yX12_limits : MethodName := ⟨RX12, "limits", "(ZIII)V"⟩
abbrev cX8_copyFrom : ByteArray := prog_10_method_5_code
def yX8_copyFrom : MethodName := ⟨RX8, "copyFrom", "(LSparkline$Row;)V"⟩
abbrev cX0_mass : ByteArray := prog_2_method_3_code
def yX0_mass : MethodName := ⟨RX0, "mass", "()I"⟩
abbrev cX6_peakOf : ByteArray := prog_8_method_2_code
def yX6_peakOf : MethodName := ⟨RX6, "peakOf", "(LSparkline$Row;I)I"⟩
abbrev cX0_peak : ByteArray := prog_2_method_4_code
def yX0_peak : MethodName := ⟨RX0, "peak", "()I"⟩
abbrev cX9_jointFor : ByteArray := prog_11_method_5_code
def yX9_jointFor : MethodName := ⟨RX9, "jointFor", "(I)I"⟩
abbrev cX9_join : ByteArray := prog_11_method_4_code
def yX9_join : MethodName := ⟨RX9, "join", "(LSparkline$Oven;I)V"⟩
abbrev cX0_goThrough : ByteArray := prog_2_method_5_code
def yX0_goThrough : MethodName := ⟨RX0, "goThrough", "(LSparkline$Oven;)I"⟩
abbrev cX11_solder : ByteArray := prog_1_method_20_code
def yX11_solder : MethodName := ⟨RX11, "solder", "(I)I"⟩
abbrev cL_solder : ByteArray := method_21_code
def yL_solder : MethodName := ⟨RL, "solder", "(LSparkline;I[J)I"⟩
abbrev cX12_down : ByteArray := prog_14_method_7_code
def yX12_down : MethodName := ⟨RX12, "down", "(II)I"⟩
abbrev cX12_peakOf : ByteArray := prog_14_method_45_code
def yX12_peakOf : MethodName := ⟨RX12, "peakOf", "(I)I"⟩
abbrev cX12_solder : ByteArray := prog_14_method_46_code
def yX12_solder : MethodName := ⟨RX12, "solder", "(I)I"⟩
abbrev cX11_flaw : ByteArray := prog_1_method_21_code
def yX11_flaw : MethodName := ⟨RX11, "flaw", "(II)V"⟩
abbrev cL_flaw : ByteArray := method_22_code
def yL_flaw : MethodName := ⟨RL, "flaw", "(LSparkline;II)I"⟩
abbrev cX12_flaw : ByteArray := prog_14_method_47_code
def yX12_flaw : MethodName := ⟨RX12, "flaw", "(II)V"⟩
abbrev cJ6_bitCount_0f7a4 : ByteArray := prog_21_method_49_code
def yJ6_bitCount_0f7a4 : MethodName := ⟨RJ6, "bitCount", "(I)I"⟩
abbrev cX11_cover : ByteArray := prog_1_method_22_code
def yX11_cover : MethodName := ⟨RX11, "cover", "(IZ)I"⟩
abbrev cL_cover : ByteArray := method_23_code
def yL_cover : MethodName := ⟨RL, "cover", "(LSparkline;IZ[J)I"⟩
abbrev cX12_cover : ByteArray := prog_14_method_48_code
def yX12_cover : MethodName := ⟨RX12, "cover", "(IZ)I"⟩
abbrev cX0_findFaults : ByteArray := prog_2_method_6_code
def yX0_findFaults : MethodName := ⟨RX0, "findFaults", "(I)V"⟩
abbrev cX0_faultsFound : ByteArray := prog_2_method_7_code
def yX0_faultsFound : MethodName := ⟨RX0, "faultsFound", "(Z)I"⟩
abbrev cX11_test : ByteArray := prog_1_method_23_code
def yX11_test : MethodName := ⟨RX11, "test", "(I)I"⟩
abbrev cL_test : ByteArray := method_24_code
def yL_test : MethodName := ⟨RL, "test", "(LSparkline;I[J)I"⟩
abbrev cX12_faults : ByteArray := prog_14_method_49_code
def yX12_faults : MethodName := ⟨RX12, "faults", "(IZ)I"⟩
abbrev cX12_test : ByteArray := prog_14_method_50_code
def yX12_test : MethodName := ⟨RX12, "test", "(I)I"⟩
abbrev cX9_mend : ByteArray := prog_11_method_6_code
def yX9_mend : MethodName := ⟨RX9, "mend", "()V"⟩
abbrev cX11_repair : ByteArray := prog_1_method_24_code
def yX11_repair : MethodName := ⟨RX11, "repair", "(III)I"⟩
abbrev cL_repair : ByteArray := method_25_code
def yL_repair : MethodName := ⟨RL, "repair", "(LSparkline;III[J)I"⟩
abbrev cX12_repair : ByteArray := prog_14_method_51_code
def yX12_repair : MethodName := ⟨RX12, "repair", "(III)I"⟩
abbrev cX11_ship : ByteArray := prog_1_method_25_code
def yX11_ship : MethodName := ⟨RX11, "ship", "(I)I"⟩
abbrev cL_ship : ByteArray := method_26_code
def yL_ship : MethodName := ⟨RL, "ship", "(LSparkline;I[J)I"⟩
abbrev cX12_ship : ByteArray := prog_14_method_52_code
def yX12_ship : MethodName := ⟨RX12, "ship", "(I)I"⟩
abbrev cX11_pass : ByteArray := prog_1_method_26_code
def yX11_pass : MethodName := ⟨RX11, "pass", "(I)I"⟩
abbrev cL_pass : ByteArray := method_27_code
def yL_pass : MethodName := ⟨RL, "pass", "(LSparkline;I[J)I"⟩
abbrev cX12_pass : ByteArray := prog_14_method_53_code
def yX12_pass : MethodName := ⟨RX12, "pass", "(I)I"⟩
abbrev cX11_ofSlot : ByteArray := prog_1_method_27_code
def yX11_ofSlot : MethodName := ⟨RX11, "ofSlot", "(III)I"⟩
abbrev cL_ofSlot : ByteArray := method_28_code
def yL_ofSlot : MethodName := ⟨RL, "ofSlot", "(LSparkline;III[J)I"⟩
abbrev cX12_ofSlot : ByteArray := prog_14_method_54_code
def yX12_ofSlot : MethodName := ⟨RX12, "ofSlot", "(III)I"⟩
abbrev cX11_jointAnew : ByteArray := prog_1_method_28_code
def yX11_jointAnew : MethodName := ⟨RX11, "jointAnew", "(II)I"⟩
abbrev cL_jointAnew : ByteArray := method_29_code
def yL_jointAnew : MethodName := ⟨RL, "jointAnew", "(LSparkline;II[J)I"⟩
abbrev cX12_jointAnew : ByteArray := prog_14_method_55_code
def yX12_jointAnew : MethodName := ⟨RX12, "jointAnew", "(II)I"⟩
abbrev cX0_hasPartOf : ByteArray := prog_2_method_8_code
def yX0_hasPartOf : MethodName := ⟨RX0, "hasPartOf", "(I)Z"⟩
abbrev cX11_recall : ByteArray := prog_1_method_29_code
def yX11_recall : MethodName := ⟨RX11, "recall", "(I)I"⟩
abbrev cL_recall : ByteArray := method_30_code
def yL_recall : MethodName := ⟨RL, "recall", "(LSparkline;I[J)I"⟩
abbrev cX12_recall : ByteArray := prog_14_method_56_code
def yX12_recall : MethodName := ⟨RX12, "recall", "(I)I"⟩
abbrev cL_law : ByteArray := code
def yL_law : MethodName := ⟨RL, "law", "([I)Z"⟩
theorem dJxa1e45_init_da8c8_0 : decode cJxa1e45_init_da8c8 0 = .ok (.aload_n 0, 1) := by decide +kernel
theorem dJxa1e45_init_da8c8_1 : decode cJxa1e45_init_da8c8 1 = .ok (.invokespecial 1, 3) := by decide +kernel
theorem dJxa1e45_init_da8c8_4 : decode cJxa1e45_init_da8c8 4 = .ok (.return_, 1) := by decide +kernel
theorem dJxc12de_init_da8c8_0 : decode cJxc12de_init_da8c8 0 = .ok (.aload_n 0, 1) := by decide +kernel
theorem dJxc12de_init_da8c8_1 : decode cJxc12de_init_da8c8 1 = .ok (.invokespecial 1, 3) := by decide +kernel
theorem dJxc12de_init_da8c8_4 : decode cJxc12de_init_da8c8 4 = .ok (.aload_n 0, 1) := by decide +kernel
theorem dJxc12de_init_da8c8_5 : decode cJxc12de_init_da8c8 5 = .ok (.iconst 0, 1) := by decide +kernel
theorem dJxc12de_init_da8c8_6 : decode cJxc12de_init_da8c8 6 = .ok (.putfield 7, 3) := by decide +kernel
theorem dJxc12de_init_da8c8_9 : decode cJxc12de_init_da8c8 9 = .ok (.return_, 1) := by decide +kernel
theorem dJx4a65c_init_da8c8_0 : decode cJx4a65c_init_da8c8 0 = .ok (.aload_n 0, 1) := by decide +kernel
theorem dJx4a65c_init_da8c8_1 : decode cJx4a65c_init_da8c8 1 = .ok (.invokespecial 1, 3) := by decide +kernel
theorem dJx4a65c_init_da8c8_4 : decode cJx4a65c_init_da8c8 4 = .ok (.aload_n 0, 1) := by decide +kernel
theorem dJx4a65c_init_da8c8_5 : decode cJx4a65c_init_da8c8 5 = .ok (.getstatic 39, 3) := by decide +kernel
theorem dJx4a65c_init_da8c8_8 : decode cJx4a65c_init_da8c8 8 = .ok (.putfield 9, 3) := by decide +kernel
theorem dJx4a65c_init_da8c8_11 : decode cJx4a65c_init_da8c8 11 = .ok (.return_, 1) := by decide +kernel
theorem dX8_init_0 : decode cX8_init 0 = .ok (.aload_n 0, 1) := by decide +kernel
theorem dX8_init_1 : decode cX8_init 1 = .ok (.invokespecial 1, 3) := by decide +kernel
theorem dX8_init_4 : decode cX8_init 4 = .ok (.aload_n 0, 1) := by decide +kernel
theorem dX8_init_5 : decode cX8_init 5 = .ok (.iload_n 1, 1) := by decide +kernel
theorem dX8_init_6 : decode cX8_init 6 = .ok (.ifCond .ge 7, 3) := by decide +kernel
theorem dX8_init_9 : decode cX8_init 9 = .ok (.iconst 0, 1) := by decide +kernel
theorem dX8_init_10 : decode cX8_init 10 = .ok (.goto 4, 3) := by decide +kernel
theorem dX8_init_13 : decode cX8_init 13 = .ok (.iload_n 1, 1) := by decide +kernel
theorem dX8_init_14 : decode cX8_init 14 = .ok (.newarray .int, 2) := by decide +kernel
theorem dX8_init_16 : decode cX8_init 16 = .ok (.putfield 7, 3) := by decide +kernel
theorem dX8_init_19 : decode cX8_init 19 = .ok (.return_, 1) := by decide +kernel
theorem dX4_init_0 : decode cX4_init 0 = .ok (.aload_n 0, 1) := by decide +kernel
theorem dX4_init_1 : decode cX4_init 1 = .ok (.invokespecial 3, 3) := by decide +kernel
theorem dX4_init_4 : decode cX4_init 4 = .ok (.aload_n 0, 1) := by decide +kernel
theorem dX4_init_5 : decode cX4_init 5 = .ok (.new 9, 3) := by decide +kernel
theorem dX4_init_8 : decode cX4_init 8 = .ok (.dup, 1) := by decide +kernel
theorem dX4_init_9 : decode cX4_init 9 = .ok (.invokespecial 11, 3) := by decide +kernel
theorem dX4_init_12 : decode cX4_init 12 = .ok (.putfield 12, 3) := by decide +kernel
theorem dX4_init_15 : decode cX4_init 15 = .ok (.aload_n 0, 1) := by decide +kernel
theorem dX4_init_16 : decode cX4_init 16 = .ok (.new 9, 3) := by decide +kernel
theorem dX4_init_19 : decode cX4_init 19 = .ok (.dup, 1) := by decide +kernel
theorem dX4_init_20 : decode cX4_init 20 = .ok (.invokespecial 11, 3) := by decide +kernel
theorem dX4_init_23 : decode cX4_init 23 = .ok (.putfield 18, 3) := by decide +kernel
theorem dX4_init_26 : decode cX4_init 26 = .ok (.aload_n 0, 1) := by decide +kernel
theorem dX4_init_27 : decode cX4_init 27 = .ok (.new 9, 3) := by decide +kernel
theorem dX4_init_30 : decode cX4_init 30 = .ok (.dup, 1) := by decide +kernel
theorem dX4_init_31 : decode cX4_init 31 = .ok (.invokespecial 11, 3) := by decide +kernel
theorem dX4_init_34 : decode cX4_init 34 = .ok (.putfield 21, 3) := by decide +kernel
theorem dX4_init_37 : decode cX4_init 37 = .ok (.aload_n 0, 1) := by decide +kernel
theorem dX4_init_38 : decode cX4_init 38 = .ok (.new 24, 3) := by decide +kernel
theorem dX4_init_41 : decode cX4_init 41 = .ok (.dup, 1) := by decide +kernel
theorem dX4_init_42 : decode cX4_init 42 = .ok (.bipush 8, 2) := by decide +kernel
theorem dX4_init_44 : decode cX4_init 44 = .ok (.invokespecial 26, 3) := by decide +kernel
theorem dX4_init_47 : decode cX4_init 47 = .ok (.putfield 29, 3) := by decide +kernel
theorem dX4_init_50 : decode cX4_init 50 = .ok (.return_, 1) := by decide +kernel
theorem dX5_init_0 : decode cX5_init 0 = .ok (.aload_n 0, 1) := by decide +kernel
theorem dX5_init_1 : decode cX5_init 1 = .ok (.invokespecial 3, 3) := by decide +kernel
theorem dX5_init_4 : decode cX5_init 4 = .ok (.aload_n 0, 1) := by decide +kernel
theorem dX5_init_5 : decode cX5_init 5 = .ok (.new 9, 3) := by decide +kernel
theorem dX5_init_8 : decode cX5_init 8 = .ok (.dup, 1) := by decide +kernel
theorem dX5_init_9 : decode cX5_init 9 = .ok (.iconst 5, 1) := by decide +kernel
theorem dX5_init_10 : decode cX5_init 10 = .ok (.invokespecial 11, 3) := by decide +kernel
theorem dX5_init_13 : decode cX5_init 13 = .ok (.putfield 14, 3) := by decide +kernel
theorem dX5_init_16 : decode cX5_init 16 = .ok (.aload_n 0, 1) := by decide +kernel
theorem dX5_init_17 : decode cX5_init 17 = .ok (.new 9, 3) := by decide +kernel
theorem dX5_init_20 : decode cX5_init 20 = .ok (.dup, 1) := by decide +kernel
theorem dX5_init_21 : decode cX5_init 21 = .ok (.iconst 5, 1) := by decide +kernel
theorem dX5_init_22 : decode cX5_init 22 = .ok (.invokespecial 11, 3) := by decide +kernel
theorem dX5_init_25 : decode cX5_init 25 = .ok (.putfield 20, 3) := by decide +kernel
theorem dX5_init_28 : decode cX5_init 28 = .ok (.aload_n 0, 1) := by decide +kernel
theorem dX5_init_29 : decode cX5_init 29 = .ok (.new 9, 3) := by decide +kernel
theorem dX5_init_32 : decode cX5_init 32 = .ok (.dup, 1) := by decide +kernel
theorem dX5_init_33 : decode cX5_init 33 = .ok (.bipush 32, 2) := by decide +kernel
theorem dX5_init_35 : decode cX5_init 35 = .ok (.invokespecial 11, 3) := by decide +kernel
theorem dX5_init_38 : decode cX5_init 38 = .ok (.putfield 23, 3) := by decide +kernel
theorem dX5_init_41 : decode cX5_init 41 = .ok (.aload_n 0, 1) := by decide +kernel
theorem dX5_init_42 : decode cX5_init 42 = .ok (.new 9, 3) := by decide +kernel
theorem dX5_init_45 : decode cX5_init 45 = .ok (.dup, 1) := by decide +kernel
theorem dX5_init_46 : decode cX5_init 46 = .ok (.bipush 32, 2) := by decide +kernel
theorem dX5_init_48 : decode cX5_init 48 = .ok (.invokespecial 11, 3) := by decide +kernel
theorem dX5_init_51 : decode cX5_init 51 = .ok (.putfield 26, 3) := by decide +kernel
theorem dX5_init_54 : decode cX5_init 54 = .ok (.return_, 1) := by decide +kernel
theorem dX3_init_0 : decode cX3_init 0 = .ok (.aload_n 0, 1) := by decide +kernel
theorem dX3_init_1 : decode cX3_init 1 = .ok (.invokespecial 1, 3) := by decide +kernel
theorem dX3_init_4 : decode cX3_init 4 = .ok (.aload_n 0, 1) := by decide +kernel
theorem dX3_init_5 : decode cX3_init 5 = .ok (.new 7, 3) := by decide +kernel
theorem dX3_init_8 : decode cX3_init 8 = .ok (.dup, 1) := by decide +kernel
theorem dX3_init_9 : decode cX3_init 9 = .ok (.bipush 8, 2) := by decide +kernel
theorem dX3_init_11 : decode cX3_init 11 = .ok (.invokespecial 11, 3) := by decide +kernel
theorem dX3_init_14 : decode cX3_init 14 = .ok (.putfield 14, 3) := by decide +kernel
theorem dX3_init_17 : decode cX3_init 17 = .ok (.return_, 1) := by decide +kernel
theorem dX8_put_0 : decode cX8_put 0 = .ok (.iload_n 1, 1) := by decide +kernel
theorem dX8_put_1 : decode cX8_put 1 = .ok (.ifCond .lt 19, 3) := by decide +kernel
theorem dX8_put_4 : decode cX8_put 4 = .ok (.iload_n 1, 1) := by decide +kernel
theorem dX8_put_5 : decode cX8_put 5 = .ok (.aload_n 0, 1) := by decide +kernel
theorem dX8_put_6 : decode cX8_put 6 = .ok (.getfield 7, 3) := by decide +kernel
theorem dX8_put_9 : decode cX8_put 9 = .ok (.arraylength, 1) := by decide +kernel
theorem dX8_put_10 : decode cX8_put 10 = .ok (.if_icmp .ge 10, 3) := by decide +kernel
theorem dX8_put_13 : decode cX8_put 13 = .ok (.aload_n 0, 1) := by decide +kernel
theorem dX8_put_14 : decode cX8_put 14 = .ok (.getfield 7, 3) := by decide +kernel
theorem dX8_put_17 : decode cX8_put 17 = .ok (.iload_n 1, 1) := by decide +kernel
theorem dX8_put_18 : decode cX8_put 18 = .ok (.iload_n 2, 1) := by decide +kernel
theorem dX8_put_19 : decode cX8_put 19 = .ok (.iastore, 1) := by decide +kernel
theorem dX8_put_20 : decode cX8_put 20 = .ok (.return_, 1) := by decide +kernel
theorem dX8_fill_0 : decode cX8_fill 0 = .ok (.iconst 0, 1) := by decide +kernel
theorem dX8_fill_1 : decode cX8_fill 1 = .ok (.istore_n 2, 1) := by decide +kernel
theorem dX8_fill_2 : decode cX8_fill 2 = .ok (.iload_n 2, 1) := by decide +kernel
theorem dX8_fill_3 : decode cX8_fill 3 = .ok (.aload_n 0, 1) := by decide +kernel
theorem dX8_fill_4 : decode cX8_fill 4 = .ok (.getfield 7, 3) := by decide +kernel
theorem dX8_fill_7 : decode cX8_fill 7 = .ok (.arraylength, 1) := by decide +kernel
theorem dX8_fill_8 : decode cX8_fill 8 = .ok (.if_icmp .ge 16, 3) := by decide +kernel
theorem dX8_fill_11 : decode cX8_fill 11 = .ok (.aload_n 0, 1) := by decide +kernel
theorem dX8_fill_12 : decode cX8_fill 12 = .ok (.getfield 7, 3) := by decide +kernel
theorem dX8_fill_15 : decode cX8_fill 15 = .ok (.iload_n 2, 1) := by decide +kernel
theorem dX8_fill_16 : decode cX8_fill 16 = .ok (.iload_n 1, 1) := by decide +kernel
theorem dX8_fill_17 : decode cX8_fill 17 = .ok (.iastore, 1) := by decide +kernel
theorem dX8_fill_18 : decode cX8_fill 18 = .ok (.iinc 2 1, 3) := by decide +kernel
theorem dX8_fill_21 : decode cX8_fill 21 = .ok (.goto (-19), 3) := by decide +kernel
theorem dX8_fill_24 : decode cX8_fill 24 = .ok (.return_, 1) := by decide +kernel
theorem dX6_init_0 : decode cX6_init 0 = .ok (.aload_n 0, 1) := by decide +kernel
theorem dX6_init_1 : decode cX6_init 1 = .ok (.invokespecial 3, 3) := by decide +kernel
theorem dX6_init_4 : decode cX6_init 4 = .ok (.aload_n 0, 1) := by decide +kernel
theorem dX6_init_5 : decode cX6_init 5 = .ok (.new 9, 3) := by decide +kernel
theorem dX6_init_8 : decode cX6_init 8 = .ok (.dup, 1) := by decide +kernel
theorem dX6_init_9 : decode cX6_init 9 = .ok (.iconst 4, 1) := by decide +kernel
theorem dX6_init_10 : decode cX6_init 10 = .ok (.invokespecial 11, 3) := by decide +kernel
theorem dX6_init_13 : decode cX6_init 13 = .ok (.putfield 14, 3) := by decide +kernel
theorem dX6_init_16 : decode cX6_init 16 = .ok (.aload_n 0, 1) := by decide +kernel
theorem dX6_init_17 : decode cX6_init 17 = .ok (.new 9, 3) := by decide +kernel
theorem dX6_init_20 : decode cX6_init 20 = .ok (.dup, 1) := by decide +kernel
theorem dX6_init_21 : decode cX6_init 21 = .ok (.bipush 6, 2) := by decide +kernel
theorem dX6_init_23 : decode cX6_init 23 = .ok (.invokespecial 11, 3) := by decide +kernel
theorem dX6_init_26 : decode cX6_init 26 = .ok (.putfield 20, 3) := by decide +kernel
theorem dX6_init_29 : decode cX6_init 29 = .ok (.aload_n 0, 1) := by decide +kernel
theorem dX6_init_30 : decode cX6_init 30 = .ok (.new 9, 3) := by decide +kernel
theorem dX6_init_33 : decode cX6_init 33 = .ok (.dup, 1) := by decide +kernel
theorem dX6_init_34 : decode cX6_init 34 = .ok (.bipush 6, 2) := by decide +kernel
theorem dX6_init_36 : decode cX6_init 36 = .ok (.invokespecial 11, 3) := by decide +kernel
theorem dX6_init_39 : decode cX6_init 39 = .ok (.putfield 23, 3) := by decide +kernel
theorem dX6_init_42 : decode cX6_init 42 = .ok (.aload_n 0, 1) := by decide +kernel
theorem dX6_init_43 : decode cX6_init 43 = .ok (.getfield 14, 3) := by decide +kernel
theorem dX6_init_46 : decode cX6_init 46 = .ok (.iconst 0, 1) := by decide +kernel
theorem dX6_init_47 : decode cX6_init 47 = .ok (.sipush 150, 3) := by decide +kernel
theorem dX6_init_50 : decode cX6_init 50 = .ok (.invokevirtual 26, 3) := by decide +kernel
theorem dX6_init_53 : decode cX6_init 53 = .ok (.aload_n 0, 1) := by decide +kernel
theorem dX6_init_54 : decode cX6_init 54 = .ok (.getfield 14, 3) := by decide +kernel
theorem dX6_init_57 : decode cX6_init 57 = .ok (.iconst 1, 1) := by decide +kernel
theorem dX6_init_58 : decode cX6_init 58 = .ok (.sipush 200, 3) := by decide +kernel
theorem dX6_init_61 : decode cX6_init 61 = .ok (.invokevirtual 26, 3) := by decide +kernel
theorem dX6_init_64 : decode cX6_init 64 = .ok (.aload_n 0, 1) := by decide +kernel
theorem dX6_init_65 : decode cX6_init 65 = .ok (.getfield 14, 3) := by decide +kernel
theorem dX6_init_68 : decode cX6_init 68 = .ok (.iconst 2, 1) := by decide +kernel
theorem dX6_init_69 : decode cX6_init 69 = .ok (.sipush 240, 3) := by decide +kernel
theorem dX6_init_72 : decode cX6_init 72 = .ok (.invokevirtual 26, 3) := by decide +kernel
theorem dX6_init_75 : decode cX6_init 75 = .ok (.aload_n 0, 1) := by decide +kernel
theorem dX6_init_76 : decode cX6_init 76 = .ok (.getfield 14, 3) := by decide +kernel
theorem dX6_init_79 : decode cX6_init 79 = .ok (.iconst 3, 1) := by decide +kernel
theorem dX6_init_80 : decode cX6_init 80 = .ok (.bipush 100, 2) := by decide +kernel
theorem dX6_init_82 : decode cX6_init 82 = .ok (.invokevirtual 26, 3) := by decide +kernel
theorem dX6_init_85 : decode cX6_init 85 = .ok (.aload_n 0, 1) := by decide +kernel
theorem dX6_init_86 : decode cX6_init 86 = .ok (.getfield 20, 3) := by decide +kernel
theorem dX6_init_89 : decode cX6_init 89 = .ok (.sipush 180, 3) := by decide +kernel
theorem dX6_init_92 : decode cX6_init 92 = .ok (.invokevirtual 30, 3) := by decide +kernel
theorem dX6_init_95 : decode cX6_init 95 = .ok (.aload_n 0, 1) := by decide +kernel
theorem dX6_init_96 : decode cX6_init 96 = .ok (.getfield 23, 3) := by decide +kernel
theorem dX6_init_99 : decode cX6_init 99 = .ok (.sipush 260, 3) := by decide +kernel
theorem dX6_init_102 : decode cX6_init 102 = .ok (.invokevirtual 30, 3) := by decide +kernel
theorem dX6_init_105 : decode cX6_init 105 = .ok (.return_, 1) := by decide +kernel
theorem dX11_init_0 : decode cX11_init 0 = .ok (.aload_n 0, 1) := by decide +kernel
theorem dX11_init_1 : decode cX11_init 1 = .ok (.invokespecial 1, 3) := by decide +kernel
theorem dX11_init_4 : decode cX11_init 4 = .ok (.aload_n 0, 1) := by decide +kernel
theorem dX11_init_5 : decode cX11_init 5 = .ok (.new 7, 3) := by decide +kernel
theorem dX11_init_8 : decode cX11_init 8 = .ok (.dup, 1) := by decide +kernel
theorem dX11_init_9 : decode cX11_init 9 = .ok (.invokespecial 9, 3) := by decide +kernel
theorem dX11_init_12 : decode cX11_init 12 = .ok (.putfield 10, 3) := by decide +kernel
theorem dX11_init_15 : decode cX11_init 15 = .ok (.aload_n 0, 1) := by decide +kernel
theorem dX11_init_16 : decode cX11_init 16 = .ok (.new 16, 3) := by decide +kernel
theorem dX11_init_19 : decode cX11_init 19 = .ok (.dup, 1) := by decide +kernel
theorem dX11_init_20 : decode cX11_init 20 = .ok (.invokespecial 18, 3) := by decide +kernel
theorem dX11_init_23 : decode cX11_init 23 = .ok (.putfield 19, 3) := by decide +kernel
theorem dX11_init_26 : decode cX11_init 26 = .ok (.aload_n 0, 1) := by decide +kernel
theorem dX11_init_27 : decode cX11_init 27 = .ok (.new 23, 3) := by decide +kernel
theorem dX11_init_30 : decode cX11_init 30 = .ok (.dup, 1) := by decide +kernel
theorem dX11_init_31 : decode cX11_init 31 = .ok (.invokespecial 25, 3) := by decide +kernel
theorem dX11_init_34 : decode cX11_init 34 = .ok (.putfield 26, 3) := by decide +kernel
theorem dX11_init_37 : decode cX11_init 37 = .ok (.aload_n 0, 1) := by decide +kernel
theorem dX11_init_38 : decode cX11_init 38 = .ok (.new 30, 3) := by decide +kernel
theorem dX11_init_41 : decode cX11_init 41 = .ok (.dup, 1) := by decide +kernel
theorem dX11_init_42 : decode cX11_init 42 = .ok (.invokespecial 32, 3) := by decide +kernel
theorem dX11_init_45 : decode cX11_init 45 = .ok (.putfield 33, 3) := by decide +kernel
theorem dX11_init_48 : decode cX11_init 48 = .ok (.aload_n 0, 1) := by decide +kernel
theorem dX11_init_49 : decode cX11_init 49 = .ok (.new 37, 3) := by decide +kernel
theorem dX11_init_52 : decode cX11_init 52 = .ok (.dup, 1) := by decide +kernel
theorem dX11_init_53 : decode cX11_init 53 = .ok (.invokespecial 39, 3) := by decide +kernel
theorem dX11_init_56 : decode cX11_init 56 = .ok (.putfield 40, 3) := by decide +kernel
theorem dX11_init_59 : decode cX11_init 59 = .ok (.aload_n 0, 1) := by decide +kernel
theorem dX11_init_60 : decode cX11_init 60 = .ok (.new 37, 3) := by decide +kernel
theorem dX11_init_63 : decode cX11_init 63 = .ok (.dup, 1) := by decide +kernel
theorem dX11_init_64 : decode cX11_init 64 = .ok (.invokespecial 39, 3) := by decide +kernel
theorem dX11_init_67 : decode cX11_init 67 = .ok (.putfield 44, 3) := by decide +kernel
theorem dX11_init_70 : decode cX11_init 70 = .ok (.aload_n 0, 1) := by decide +kernel
theorem dX11_init_71 : decode cX11_init 71 = .ok (.sipush 255, 3) := by decide +kernel
theorem dX11_init_74 : decode cX11_init 74 = .ok (.putfield 47, 3) := by decide +kernel
theorem dX11_init_77 : decode cX11_init 77 = .ok (.aload_n 0, 1) := by decide +kernel
theorem dX11_init_78 : decode cX11_init 78 = .ok (.iconst 0, 1) := by decide +kernel
theorem dX11_init_79 : decode cX11_init 79 = .ok (.putfield 51, 3) := by decide +kernel
theorem dX11_init_82 : decode cX11_init 82 = .ok (.return_, 1) := by decide +kernel
theorem dX12_init_0 : decode cX12_init 0 = .ok (.aload_n 0, 1) := by decide +kernel
theorem dX12_init_1 : decode cX12_init 1 = .ok (.invokespecial 1, 3) := by decide +kernel
theorem dX12_init_4 : decode cX12_init 4 = .ok (.aload_n 0, 1) := by decide +kernel
theorem dX12_init_5 : decode cX12_init 5 = .ok (.bipush 16, 2) := by decide +kernel
theorem dX12_init_7 : decode cX12_init 7 = .ok (.newarray .int, 2) := by decide +kernel
theorem dX12_init_9 : decode cX12_init 9 = .ok (.putfield 7, 3) := by decide +kernel
theorem dX12_init_12 : decode cX12_init 12 = .ok (.aload_n 0, 1) := by decide +kernel
theorem dX12_init_13 : decode cX12_init 13 = .ok (.bipush 16, 2) := by decide +kernel
theorem dX12_init_15 : decode cX12_init 15 = .ok (.newarray .int, 2) := by decide +kernel
theorem dX12_init_17 : decode cX12_init 17 = .ok (.putfield 13, 3) := by decide +kernel
theorem dX12_init_20 : decode cX12_init 20 = .ok (.aload_n 0, 1) := by decide +kernel
theorem dX12_init_21 : decode cX12_init 21 = .ok (.bipush 16, 2) := by decide +kernel
theorem dX12_init_23 : decode cX12_init 23 = .ok (.newarray .int, 2) := by decide +kernel
theorem dX12_init_25 : decode cX12_init 25 = .ok (.putfield 16, 3) := by decide +kernel
theorem dX12_init_28 : decode cX12_init 28 = .ok (.aload_n 0, 1) := by decide +kernel
theorem dX12_init_29 : decode cX12_init 29 = .ok (.bipush 16, 2) := by decide +kernel
theorem dX12_init_31 : decode cX12_init 31 = .ok (.newarray .int, 2) := by decide +kernel
theorem dX12_init_33 : decode cX12_init 33 = .ok (.putfield 19, 3) := by decide +kernel
theorem dX12_init_36 : decode cX12_init 36 = .ok (.aload_n 0, 1) := by decide +kernel
theorem dX12_init_37 : decode cX12_init 37 = .ok (.bipush 8, 2) := by decide +kernel
theorem dX12_init_39 : decode cX12_init 39 = .ok (.newarray .int, 2) := by decide +kernel
theorem dX12_init_41 : decode cX12_init 41 = .ok (.putfield 22, 3) := by decide +kernel
theorem dX12_init_44 : decode cX12_init 44 = .ok (.aload_n 0, 1) := by decide +kernel
theorem dX12_init_45 : decode cX12_init 45 = .ok (.bipush 8, 2) := by decide +kernel
theorem dX12_init_47 : decode cX12_init 47 = .ok (.newarray .int, 2) := by decide +kernel
theorem dX12_init_49 : decode cX12_init 49 = .ok (.putfield 25, 3) := by decide +kernel
theorem dX12_init_52 : decode cX12_init 52 = .ok (.aload_n 0, 1) := by decide +kernel
theorem dX12_init_53 : decode cX12_init 53 = .ok (.bipush 8, 2) := by decide +kernel
theorem dX12_init_55 : decode cX12_init 55 = .ok (.newarray .int, 2) := by decide +kernel
theorem dX12_init_57 : decode cX12_init 57 = .ok (.putfield 28, 3) := by decide +kernel
theorem dX12_init_60 : decode cX12_init 60 = .ok (.aload_n 0, 1) := by decide +kernel
theorem dX12_init_61 : decode cX12_init 61 = .ok (.bipush 8, 2) := by decide +kernel
theorem dX12_init_63 : decode cX12_init 63 = .ok (.newarray .int, 2) := by decide +kernel
theorem dX12_init_65 : decode cX12_init 65 = .ok (.putfield 31, 3) := by decide +kernel
theorem dX12_init_68 : decode cX12_init 68 = .ok (.aload_n 0, 1) := by decide +kernel
theorem dX12_init_69 : decode cX12_init 69 = .ok (.bipush 24, 2) := by decide +kernel
theorem dX12_init_71 : decode cX12_init 71 = .ok (.newarray .boolean, 2) := by decide +kernel
theorem dX12_init_73 : decode cX12_init 73 = .ok (.putfield 34, 3) := by decide +kernel
theorem dX12_init_76 : decode cX12_init 76 = .ok (.aload_n 0, 1) := by decide +kernel
theorem dX12_init_77 : decode cX12_init 77 = .ok (.bipush 48, 2) := by decide +kernel
theorem dX12_init_79 : decode cX12_init 79 = .ok (.newarray .int, 2) := by decide +kernel
theorem dX12_init_81 : decode cX12_init 81 = .ok (.putfield 38, 3) := by decide +kernel
theorem dX12_init_84 : decode cX12_init 84 = .ok (.aload_n 0, 1) := by decide +kernel
theorem dX12_init_85 : decode cX12_init 85 = .ok (.bipush 24, 2) := by decide +kernel
theorem dX12_init_87 : decode cX12_init 87 = .ok (.newarray .int, 2) := by decide +kernel
theorem dX12_init_89 : decode cX12_init 89 = .ok (.putfield 41, 3) := by decide +kernel
theorem dX12_init_92 : decode cX12_init 92 = .ok (.aload_n 0, 1) := by decide +kernel
theorem dX12_init_93 : decode cX12_init 93 = .ok (.bipush 24, 2) := by decide +kernel
theorem dX12_init_95 : decode cX12_init 95 = .ok (.newarray .int, 2) := by decide +kernel
theorem dX12_init_97 : decode cX12_init 97 = .ok (.putfield 44, 3) := by decide +kernel
theorem dX12_init_100 : decode cX12_init 100 = .ok (.aload_n 0, 1) := by decide +kernel
theorem dX12_init_101 : decode cX12_init 101 = .ok (.sipush 384, 3) := by decide +kernel
theorem dX12_init_104 : decode cX12_init 104 = .ok (.newarray .int, 2) := by decide +kernel
theorem dX12_init_106 : decode cX12_init 106 = .ok (.putfield 47, 3) := by decide +kernel
theorem dX12_init_109 : decode cX12_init 109 = .ok (.aload_n 0, 1) := by decide +kernel
theorem dX12_init_110 : decode cX12_init 110 = .ok (.bipush 8, 2) := by decide +kernel
theorem dX12_init_112 : decode cX12_init 112 = .ok (.newarray .int, 2) := by decide +kernel
theorem dX12_init_114 : decode cX12_init 114 = .ok (.putfield 50, 3) := by decide +kernel
theorem dX12_init_117 : decode cX12_init 117 = .ok (.aload_n 0, 1) := by decide +kernel
theorem dX12_init_118 : decode cX12_init 118 = .ok (.iconst 5, 1) := by decide +kernel
theorem dX12_init_119 : decode cX12_init 119 = .ok (.newarray .int, 2) := by decide +kernel
theorem dX12_init_121 : decode cX12_init 121 = .ok (.putfield 53, 3) := by decide +kernel
theorem dX12_init_124 : decode cX12_init 124 = .ok (.aload_n 0, 1) := by decide +kernel
theorem dX12_init_125 : decode cX12_init 125 = .ok (.iconst 5, 1) := by decide +kernel
theorem dX12_init_126 : decode cX12_init 126 = .ok (.newarray .int, 2) := by decide +kernel
theorem dX12_init_128 : decode cX12_init 128 = .ok (.putfield 56, 3) := by decide +kernel
theorem dX12_init_131 : decode cX12_init 131 = .ok (.aload_n 0, 1) := by decide +kernel
theorem dX12_init_132 : decode cX12_init 132 = .ok (.iconst 5, 1) := by decide +kernel
theorem dX12_init_133 : decode cX12_init 133 = .ok (.newarray .int, 2) := by decide +kernel
theorem dX12_init_135 : decode cX12_init 135 = .ok (.putfield 59, 3) := by decide +kernel
theorem dX12_init_138 : decode cX12_init 138 = .ok (.aload_n 0, 1) := by decide +kernel
theorem dX12_init_139 : decode cX12_init 139 = .ok (.bipush 8, 2) := by decide +kernel
theorem dX12_init_141 : decode cX12_init 141 = .ok (.newarray .int, 2) := by decide +kernel
theorem dX12_init_143 : decode cX12_init 143 = .ok (.putfield 62, 3) := by decide +kernel
theorem dX12_init_146 : decode cX12_init 146 = .ok (.aload_n 0, 1) := by decide +kernel
theorem dX12_init_147 : decode cX12_init 147 = .ok (.bipush 12, 2) := by decide +kernel
theorem dX12_init_149 : decode cX12_init 149 = .ok (.newarray .int, 2) := by decide +kernel
theorem dX12_init_151 : decode cX12_init 151 = .ok (.putfield 65, 3) := by decide +kernel
theorem dX12_init_154 : decode cX12_init 154 = .ok (.aload_n 0, 1) := by decide +kernel
theorem dX12_init_155 : decode cX12_init 155 = .ok (.bipush 12, 2) := by decide +kernel
theorem dX12_init_157 : decode cX12_init 157 = .ok (.newarray .int, 2) := by decide +kernel
theorem dX12_init_159 : decode cX12_init 159 = .ok (.putfield 68, 3) := by decide +kernel
theorem dX12_init_162 : decode cX12_init 162 = .ok (.aload_n 0, 1) := by decide +kernel
theorem dX12_init_163 : decode cX12_init 163 = .ok (.bipush 12, 2) := by decide +kernel
theorem dX12_init_165 : decode cX12_init 165 = .ok (.newarray .int, 2) := by decide +kernel
theorem dX12_init_167 : decode cX12_init 167 = .ok (.putfield 71, 3) := by decide +kernel
theorem dX12_init_170 : decode cX12_init 170 = .ok (.aload_n 0, 1) := by decide +kernel
theorem dX12_init_171 : decode cX12_init 171 = .ok (.bipush 12, 2) := by decide +kernel
theorem dX12_init_173 : decode cX12_init 173 = .ok (.newarray .int, 2) := by decide +kernel
theorem dX12_init_175 : decode cX12_init 175 = .ok (.putfield 74, 3) := by decide +kernel
theorem dX12_init_178 : decode cX12_init 178 = .ok (.aload_n 0, 1) := by decide +kernel
theorem dX12_init_179 : decode cX12_init 179 = .ok (.iconst 4, 1) := by decide +kernel
theorem dX12_init_180 : decode cX12_init 180 = .ok (.newarray .int, 2) := by decide +kernel
theorem dX12_init_182 : decode cX12_init 182 = .ok (.putfield 77, 3) := by decide +kernel
theorem dX12_init_185 : decode cX12_init 185 = .ok (.aload_n 0, 1) := by decide +kernel
theorem dX12_init_186 : decode cX12_init 186 = .ok (.bipush 6, 2) := by decide +kernel
theorem dX12_init_188 : decode cX12_init 188 = .ok (.newarray .int, 2) := by decide +kernel
theorem dX12_init_190 : decode cX12_init 190 = .ok (.putfield 80, 3) := by decide +kernel
theorem dX12_init_193 : decode cX12_init 193 = .ok (.aload_n 0, 1) := by decide +kernel
theorem dX12_init_194 : decode cX12_init 194 = .ok (.bipush 6, 2) := by decide +kernel
theorem dX12_init_196 : decode cX12_init 196 = .ok (.newarray .int, 2) := by decide +kernel
theorem dX12_init_198 : decode cX12_init 198 = .ok (.putfield 83, 3) := by decide +kernel
theorem dX12_init_201 : decode cX12_init 201 = .ok (.aload_n 0, 1) := by decide +kernel
theorem dX12_init_202 : decode cX12_init 202 = .ok (.bipush 8, 2) := by decide +kernel
theorem dX12_init_204 : decode cX12_init 204 = .ok (.newarray .boolean, 2) := by decide +kernel
theorem dX12_init_206 : decode cX12_init 206 = .ok (.putfield 86, 3) := by decide +kernel
theorem dX12_init_209 : decode cX12_init 209 = .ok (.aload_n 0, 1) := by decide +kernel
theorem dX12_init_210 : decode cX12_init 210 = .ok (.bipush 12, 2) := by decide +kernel
theorem dX12_init_212 : decode cX12_init 212 = .ok (.newarray .boolean, 2) := by decide +kernel
theorem dX12_init_214 : decode cX12_init 214 = .ok (.putfield 89, 3) := by decide +kernel
theorem dX12_init_217 : decode cX12_init 217 = .ok (.aload_n 0, 1) := by decide +kernel
theorem dX12_init_218 : decode cX12_init 218 = .ok (.bipush 12, 2) := by decide +kernel
theorem dX12_init_220 : decode cX12_init 220 = .ok (.newarray .boolean, 2) := by decide +kernel
theorem dX12_init_222 : decode cX12_init 222 = .ok (.putfield 92, 3) := by decide +kernel
theorem dX12_init_225 : decode cX12_init 225 = .ok (.aload_n 0, 1) := by decide +kernel
theorem dX12_init_226 : decode cX12_init 226 = .ok (.bipush 12, 2) := by decide +kernel
theorem dX12_init_228 : decode cX12_init 228 = .ok (.newarray .boolean, 2) := by decide +kernel
theorem dX12_init_230 : decode cX12_init 230 = .ok (.putfield 95, 3) := by decide +kernel
theorem dX12_init_233 : decode cX12_init 233 = .ok (.aload_n 0, 1) := by decide +kernel
theorem dX12_init_234 : decode cX12_init 234 = .ok (.bipush 96, 2) := by decide +kernel
theorem dX12_init_236 : decode cX12_init 236 = .ok (.newarray .int, 2) := by decide +kernel
theorem dX12_init_238 : decode cX12_init 238 = .ok (.putfield 98, 3) := by decide +kernel
theorem dX12_init_241 : decode cX12_init 241 = .ok (.aload_n 0, 1) := by decide +kernel
theorem dX12_init_242 : decode cX12_init 242 = .ok (.bipush 96, 2) := by decide +kernel
theorem dX12_init_244 : decode cX12_init 244 = .ok (.newarray .int, 2) := by decide +kernel
theorem dX12_init_246 : decode cX12_init 246 = .ok (.putfield 101, 3) := by decide +kernel
theorem dX12_init_249 : decode cX12_init 249 = .ok (.aload_n 0, 1) := by decide +kernel
theorem dX12_init_250 : decode cX12_init 250 = .ok (.bipush 96, 2) := by decide +kernel
theorem dX12_init_252 : decode cX12_init 252 = .ok (.newarray .int, 2) := by decide +kernel
theorem dX12_init_254 : decode cX12_init 254 = .ok (.putfield 104, 3) := by decide +kernel
theorem dX12_init_257 : decode cX12_init 257 = .ok (.aload_n 0, 1) := by decide +kernel
theorem dX12_init_258 : decode cX12_init 258 = .ok (.bipush 96, 2) := by decide +kernel
theorem dX12_init_260 : decode cX12_init 260 = .ok (.newarray .int, 2) := by decide +kernel
theorem dX12_init_262 : decode cX12_init 262 = .ok (.putfield 107, 3) := by decide +kernel
theorem dX12_init_265 : decode cX12_init 265 = .ok (.aload_n 0, 1) := by decide +kernel
theorem dX12_init_266 : decode cX12_init 266 = .ok (.bipush 96, 2) := by decide +kernel
theorem dX12_init_268 : decode cX12_init 268 = .ok (.newarray .boolean, 2) := by decide +kernel
theorem dX12_init_270 : decode cX12_init 270 = .ok (.putfield 110, 3) := by decide +kernel
theorem dX12_init_273 : decode cX12_init 273 = .ok (.aload_n 0, 1) := by decide +kernel
theorem dX12_init_274 : decode cX12_init 274 = .ok (.bipush 96, 2) := by decide +kernel
theorem dX12_init_276 : decode cX12_init 276 = .ok (.newarray .boolean, 2) := by decide +kernel
theorem dX12_init_278 : decode cX12_init 278 = .ok (.putfield 113, 3) := by decide +kernel
theorem dX12_init_281 : decode cX12_init 281 = .ok (.iconst 0, 1) := by decide +kernel
theorem dX12_init_282 : decode cX12_init 282 = .ok (.istore_n 1, 1) := by decide +kernel
theorem dX12_init_283 : decode cX12_init 283 = .ok (.iload_n 1, 1) := by decide +kernel
theorem dX12_init_284 : decode cX12_init 284 = .ok (.bipush 8, 2) := by decide +kernel
theorem dX12_init_286 : decode cX12_init 286 = .ok (.if_icmp .ge 16, 3) := by decide +kernel
theorem dX12_init_289 : decode cX12_init 289 = .ok (.aload_n 0, 1) := by decide +kernel
theorem dX12_init_290 : decode cX12_init 290 = .ok (.getfield 31, 3) := by decide +kernel
theorem dX12_init_293 : decode cX12_init 293 = .ok (.iload_n 1, 1) := by decide +kernel
theorem dX12_init_294 : decode cX12_init 294 = .ok (.iconst (-1), 1) := by decide +kernel
theorem dX12_init_295 : decode cX12_init 295 = .ok (.iastore, 1) := by decide +kernel
theorem dX12_init_296 : decode cX12_init 296 = .ok (.iinc 1 1, 3) := by decide +kernel
theorem dX12_init_299 : decode cX12_init 299 = .ok (.goto (-16), 3) := by decide +kernel
theorem dX12_init_302 : decode cX12_init 302 = .ok (.iconst 0, 1) := by decide +kernel
theorem dX12_init_303 : decode cX12_init 303 = .ok (.istore_n 1, 1) := by decide +kernel
theorem dX12_init_304 : decode cX12_init 304 = .ok (.iload_n 1, 1) := by decide +kernel
theorem dX12_init_305 : decode cX12_init 305 = .ok (.bipush 96, 2) := by decide +kernel
theorem dX12_init_307 : decode cX12_init 307 = .ok (.if_icmp .ge 30, 3) := by decide +kernel
theorem dX12_init_310 : decode cX12_init 310 = .ok (.aload_n 0, 1) := by decide +kernel
theorem dX12_init_311 : decode cX12_init 311 = .ok (.getfield 98, 3) := by decide +kernel
theorem dX12_init_314 : decode cX12_init 314 = .ok (.iload_n 1, 1) := by decide +kernel
theorem dX12_init_315 : decode cX12_init 315 = .ok (.iconst (-1), 1) := by decide +kernel
theorem dX12_init_316 : decode cX12_init 316 = .ok (.iastore, 1) := by decide +kernel
theorem dX12_init_317 : decode cX12_init 317 = .ok (.aload_n 0, 1) := by decide +kernel
theorem dX12_init_318 : decode cX12_init 318 = .ok (.getfield 101, 3) := by decide +kernel
theorem dX12_init_321 : decode cX12_init 321 = .ok (.iload_n 1, 1) := by decide +kernel
theorem dX12_init_322 : decode cX12_init 322 = .ok (.iconst (-1), 1) := by decide +kernel
theorem dX12_init_323 : decode cX12_init 323 = .ok (.iastore, 1) := by decide +kernel
theorem dX12_init_324 : decode cX12_init 324 = .ok (.aload_n 0, 1) := by decide +kernel
theorem dX12_init_325 : decode cX12_init 325 = .ok (.getfield 104, 3) := by decide +kernel
theorem dX12_init_328 : decode cX12_init 328 = .ok (.iload_n 1, 1) := by decide +kernel
theorem dX12_init_329 : decode cX12_init 329 = .ok (.iconst (-1), 1) := by decide +kernel
theorem dX12_init_330 : decode cX12_init 330 = .ok (.iastore, 1) := by decide +kernel
theorem dX12_init_331 : decode cX12_init 331 = .ok (.iinc 1 1, 3) := by decide +kernel
theorem dX12_init_334 : decode cX12_init 334 = .ok (.goto (-30), 3) := by decide +kernel
theorem dX12_init_337 : decode cX12_init 337 = .ok (.iconst 0, 1) := by decide +kernel
theorem dX12_init_338 : decode cX12_init 338 = .ok (.istore_n 1, 1) := by decide +kernel
theorem dX12_init_339 : decode cX12_init 339 = .ok (.iload_n 1, 1) := by decide +kernel
theorem dX12_init_340 : decode cX12_init 340 = .ok (.bipush 8, 2) := by decide +kernel
theorem dX12_init_342 : decode cX12_init 342 = .ok (.if_icmp .ge 16, 3) := by decide +kernel
theorem dX12_init_345 : decode cX12_init 345 = .ok (.aload_n 0, 1) := by decide +kernel
theorem dX12_init_346 : decode cX12_init 346 = .ok (.getfield 86, 3) := by decide +kernel
theorem dX12_init_349 : decode cX12_init 349 = .ok (.iload_n 1, 1) := by decide +kernel
theorem dX12_init_350 : decode cX12_init 350 = .ok (.iconst 1, 1) := by decide +kernel
theorem dX12_init_351 : decode cX12_init 351 = .ok (.bastore, 1) := by decide +kernel
theorem dX12_init_352 : decode cX12_init 352 = .ok (.iinc 1 1, 3) := by decide +kernel
theorem dX12_init_355 : decode cX12_init 355 = .ok (.goto (-16), 3) := by decide +kernel
theorem dX12_init_358 : decode cX12_init 358 = .ok (.iconst 0, 1) := by decide +kernel
theorem dX12_init_359 : decode cX12_init 359 = .ok (.istore_n 1, 1) := by decide +kernel
theorem dX12_init_360 : decode cX12_init 360 = .ok (.iload_n 1, 1) := by decide +kernel
theorem dX12_init_361 : decode cX12_init 361 = .ok (.bipush 6, 2) := by decide +kernel
theorem dX12_init_363 : decode cX12_init 363 = .ok (.if_icmp .ge 27, 3) := by decide +kernel
theorem dX12_init_366 : decode cX12_init 366 = .ok (.aload_n 0, 1) := by decide +kernel
theorem dX12_init_367 : decode cX12_init 367 = .ok (.getfield 80, 3) := by decide +kernel
theorem dX12_init_370 : decode cX12_init 370 = .ok (.iload_n 1, 1) := by decide +kernel
theorem dX12_init_371 : decode cX12_init 371 = .ok (.sipush 180, 3) := by decide +kernel
theorem dX12_init_374 : decode cX12_init 374 = .ok (.iastore, 1) := by decide +kernel
theorem dX12_init_375 : decode cX12_init 375 = .ok (.aload_n 0, 1) := by decide +kernel
theorem dX12_init_376 : decode cX12_init 376 = .ok (.getfield 83, 3) := by decide +kernel
theorem dX12_init_379 : decode cX12_init 379 = .ok (.iload_n 1, 1) := by decide +kernel
theorem dX12_init_380 : decode cX12_init 380 = .ok (.sipush 260, 3) := by decide +kernel
theorem dX12_init_383 : decode cX12_init 383 = .ok (.iastore, 1) := by decide +kernel
theorem dX12_init_384 : decode cX12_init 384 = .ok (.iinc 1 1, 3) := by decide +kernel
theorem dX12_init_387 : decode cX12_init 387 = .ok (.goto (-27), 3) := by decide +kernel
theorem dX12_init_390 : decode cX12_init 390 = .ok (.aload_n 0, 1) := by decide +kernel
theorem dX12_init_391 : decode cX12_init 391 = .ok (.getfield 77, 3) := by decide +kernel
theorem dX12_init_394 : decode cX12_init 394 = .ok (.iconst 0, 1) := by decide +kernel
theorem dX12_init_395 : decode cX12_init 395 = .ok (.sipush 150, 3) := by decide +kernel
theorem dX12_init_398 : decode cX12_init 398 = .ok (.iastore, 1) := by decide +kernel
theorem dX12_init_399 : decode cX12_init 399 = .ok (.aload_n 0, 1) := by decide +kernel
theorem dX12_init_400 : decode cX12_init 400 = .ok (.getfield 77, 3) := by decide +kernel
theorem dX12_init_403 : decode cX12_init 403 = .ok (.iconst 1, 1) := by decide +kernel
theorem dX12_init_404 : decode cX12_init 404 = .ok (.sipush 200, 3) := by decide +kernel
theorem dX12_init_407 : decode cX12_init 407 = .ok (.iastore, 1) := by decide +kernel
theorem dX12_init_408 : decode cX12_init 408 = .ok (.aload_n 0, 1) := by decide +kernel
theorem dX12_init_409 : decode cX12_init 409 = .ok (.getfield 77, 3) := by decide +kernel
theorem dX12_init_412 : decode cX12_init 412 = .ok (.iconst 2, 1) := by decide +kernel
theorem dX12_init_413 : decode cX12_init 413 = .ok (.sipush 240, 3) := by decide +kernel
theorem dX12_init_416 : decode cX12_init 416 = .ok (.iastore, 1) := by decide +kernel
theorem dX12_init_417 : decode cX12_init 417 = .ok (.aload_n 0, 1) := by decide +kernel
theorem dX12_init_418 : decode cX12_init 418 = .ok (.getfield 77, 3) := by decide +kernel
theorem dX12_init_421 : decode cX12_init 421 = .ok (.iconst 3, 1) := by decide +kernel
theorem dX12_init_422 : decode cX12_init 422 = .ok (.bipush 100, 2) := by decide +kernel
theorem dX12_init_424 : decode cX12_init 424 = .ok (.iastore, 1) := by decide +kernel
theorem dX12_init_425 : decode cX12_init 425 = .ok (.return_, 1) := by decide +kernel
theorem dX11_isIndex_0 : decode cX11_isIndex 0 = .ok (.iload_n 0, 1) := by decide +kernel
theorem dX11_isIndex_1 : decode cX11_isIndex 1 = .ok (.ifCond .lt 12, 3) := by decide +kernel
theorem dX11_isIndex_4 : decode cX11_isIndex 4 = .ok (.iload_n 0, 1) := by decide +kernel
theorem dX11_isIndex_5 : decode cX11_isIndex 5 = .ok (.iload_n 1, 1) := by decide +kernel
theorem dX11_isIndex_6 : decode cX11_isIndex 6 = .ok (.if_icmp .ge 7, 3) := by decide +kernel
theorem dX11_isIndex_9 : decode cX11_isIndex 9 = .ok (.iconst 1, 1) := by decide +kernel
theorem dX11_isIndex_10 : decode cX11_isIndex 10 = .ok (.goto 4, 3) := by decide +kernel
theorem dX11_isIndex_13 : decode cX11_isIndex 13 = .ok (.iconst 0, 1) := by decide +kernel
theorem dX11_isIndex_14 : decode cX11_isIndex 14 = .ok (.ireturn, 1) := by decide +kernel
theorem dX11_checkIndex_0 : decode cX11_checkIndex 0 = .ok (.iload_n 0, 1) := by decide +kernel
theorem dX11_checkIndex_1 : decode cX11_checkIndex 1 = .ok (.ifCond .ne 11, 3) := by decide +kernel
theorem dX11_checkIndex_4 : decode cX11_checkIndex 4 = .ok (.new 299, 3) := by decide +kernel
theorem dX11_checkIndex_7 : decode cX11_checkIndex 7 = .ok (.dup, 1) := by decide +kernel
theorem dX11_checkIndex_8 : decode cX11_checkIndex 8 = .ok (.invokespecial 301, 3) := by decide +kernel
theorem dX11_checkIndex_11 : decode cX11_checkIndex 11 = .ok (.athrow, 1) := by decide +kernel
theorem dX11_checkIndex_12 : decode cX11_checkIndex 12 = .ok (.return_, 1) := by decide +kernel
theorem dX11_isWithin_0 : decode cX11_isWithin 0 = .ok (.iload_n 0, 1) := by decide +kernel
theorem dX11_isWithin_1 : decode cX11_isWithin 1 = .ok (.iload_n 1, 1) := by decide +kernel
theorem dX11_isWithin_2 : decode cX11_isWithin 2 = .ok (.if_icmp .lt 12, 3) := by decide +kernel
theorem dX11_isWithin_5 : decode cX11_isWithin 5 = .ok (.iload_n 0, 1) := by decide +kernel
theorem dX11_isWithin_6 : decode cX11_isWithin 6 = .ok (.iload_n 2, 1) := by decide +kernel
theorem dX11_isWithin_7 : decode cX11_isWithin 7 = .ok (.if_icmp .gt 7, 3) := by decide +kernel
theorem dX11_isWithin_10 : decode cX11_isWithin 10 = .ok (.iconst 1, 1) := by decide +kernel
theorem dX11_isWithin_11 : decode cX11_isWithin 11 = .ok (.goto 4, 3) := by decide +kernel
theorem dX11_isWithin_14 : decode cX11_isWithin 14 = .ok (.iconst 0, 1) := by decide +kernel
theorem dX11_isWithin_15 : decode cX11_isWithin 15 = .ok (.ireturn, 1) := by decide +kernel
theorem dX11_checkArgument_0 : decode cX11_checkArgument 0 = .ok (.iload_n 0, 1) := by decide +kernel
theorem dX11_checkArgument_1 : decode cX11_checkArgument 1 = .ok (.ifCond .ne 11, 3) := by decide +kernel
theorem dX11_checkArgument_4 : decode cX11_checkArgument 4 = .ok (.new 302, 3) := by decide +kernel
theorem dX11_checkArgument_7 : decode cX11_checkArgument 7 = .ok (.dup, 1) := by decide +kernel
theorem dX11_checkArgument_8 : decode cX11_checkArgument 8 = .ok (.invokespecial 304, 3) := by decide +kernel
theorem dX11_checkArgument_11 : decode cX11_checkArgument 11 = .ok (.athrow, 1) := by decide +kernel
theorem dX11_checkArgument_12 : decode cX11_checkArgument 12 = .ok (.return_, 1) := by decide +kernel
theorem dJx4a65c_size_8abf5_0 : decode cJx4a65c_size_8abf5 0 = .ok (.aload_n 0, 1) := by decide +kernel
theorem dJx4a65c_size_8abf5_1 : decode cJx4a65c_size_8abf5 1 = .ok (.getfield 48, 3) := by decide +kernel
theorem dJx4a65c_size_8abf5_4 : decode cJx4a65c_size_8abf5 4 = .ok (.ireturn, 1) := by decide +kernel
theorem dX11_checkState_0 : decode cX11_checkState 0 = .ok (.iload_n 0, 1) := by decide +kernel
theorem dX11_checkState_1 : decode cX11_checkState 1 = .ok (.ifCond .ne 11, 3) := by decide +kernel
theorem dX11_checkState_4 : decode cX11_checkState 4 = .ok (.new 305, 3) := by decide +kernel
theorem dX11_checkState_7 : decode cX11_checkState 7 = .ok (.dup, 1) := by decide +kernel
theorem dX11_checkState_8 : decode cX11_checkState 8 = .ok (.invokespecial 307, 3) := by decide +kernel
theorem dX11_checkState_11 : decode cX11_checkState 11 = .ok (.athrow, 1) := by decide +kernel
theorem dX11_checkState_12 : decode cX11_checkState 12 = .ok (.return_, 1) := by decide +kernel
theorem dX1_init_0 : decode cX1_init 0 = .ok (.aload_n 0, 1) := by decide +kernel
theorem dX1_init_1 : decode cX1_init 1 = .ok (.invokespecial 3, 3) := by decide +kernel
theorem dX1_init_4 : decode cX1_init 4 = .ok (.aload_n 0, 1) := by decide +kernel
theorem dX1_init_5 : decode cX1_init 5 = .ok (.iload_n 1, 1) := by decide +kernel
theorem dX1_init_6 : decode cX1_init 6 = .ok (.putfield 9, 3) := by decide +kernel
theorem dX1_init_9 : decode cX1_init 9 = .ok (.aload_n 0, 1) := by decide +kernel
theorem dX1_init_10 : decode cX1_init 10 = .ok (.iload_n 2, 1) := by decide +kernel
theorem dX1_init_11 : decode cX1_init 11 = .ok (.putfield 15, 3) := by decide +kernel
theorem dX1_init_14 : decode cX1_init 14 = .ok (.aload_n 0, 1) := by decide +kernel
theorem dX1_init_15 : decode cX1_init 15 = .ok (.iload_n 3, 1) := by decide +kernel
theorem dX1_init_16 : decode cX1_init 16 = .ok (.putfield 18, 3) := by decide +kernel
theorem dX1_init_19 : decode cX1_init 19 = .ok (.aload_n 0, 1) := by decide +kernel
theorem dX1_init_20 : decode cX1_init 20 = .ok (.iload 4, 2) := by decide +kernel
theorem dX1_init_22 : decode cX1_init 22 = .ok (.putfield 21, 3) := by decide +kernel
theorem dX1_init_25 : decode cX1_init 25 = .ok (.aload_n 0, 1) := by decide +kernel
theorem dX1_init_26 : decode cX1_init 26 = .ok (.iload 5, 2) := by decide +kernel
theorem dX1_init_28 : decode cX1_init 28 = .ok (.putfield 24, 3) := by decide +kernel
theorem dX1_init_31 : decode cX1_init 31 = .ok (.return_, 1) := by decide +kernel
theorem dJ9_max_7cf53_0 : decode cJ9_max_7cf53 0 = .ok (.iload_n 0, 1) := by decide +kernel
theorem dJ9_max_7cf53_1 : decode cJ9_max_7cf53 1 = .ok (.iload_n 1, 1) := by decide +kernel
theorem dJ9_max_7cf53_2 : decode cJ9_max_7cf53 2 = .ok (.if_icmp .lt 7, 3) := by decide +kernel
theorem dJ9_max_7cf53_5 : decode cJ9_max_7cf53 5 = .ok (.iload_n 0, 1) := by decide +kernel
theorem dJ9_max_7cf53_6 : decode cJ9_max_7cf53 6 = .ok (.goto 4, 3) := by decide +kernel
theorem dJ9_max_7cf53_9 : decode cJ9_max_7cf53 9 = .ok (.iload_n 1, 1) := by decide +kernel
theorem dJ9_max_7cf53_10 : decode cJ9_max_7cf53 10 = .ok (.ireturn, 1) := by decide +kernel
theorem dJ8_newLength_cabcc_0 : decode cJ8_newLength_cabcc 0 = .ok (.iload_n 0, 1) := by decide +kernel
theorem dJ8_newLength_cabcc_1 : decode cJ8_newLength_cabcc 1 = .ok (.iload_n 1, 1) := by decide +kernel
theorem dJ8_newLength_cabcc_2 : decode cJ8_newLength_cabcc 2 = .ok (.iload_n 2, 1) := by decide +kernel
theorem dJ8_newLength_cabcc_3 : decode cJ8_newLength_cabcc 3 = .ok (.invokestatic 194, 3) := by decide +kernel
theorem dJ8_newLength_cabcc_6 : decode cJ8_newLength_cabcc 6 = .ok (.iadd, 1) := by decide +kernel
theorem dJ8_newLength_cabcc_7 : decode cJ8_newLength_cabcc 7 = .ok (.istore_n 3, 1) := by decide +kernel
theorem dJ8_newLength_cabcc_8 : decode cJ8_newLength_cabcc 8 = .ok (.iconst 0, 1) := by decide +kernel
theorem dJ8_newLength_cabcc_9 : decode cJ8_newLength_cabcc 9 = .ok (.iload_n 3, 1) := by decide +kernel
theorem dJ8_newLength_cabcc_10 : decode cJ8_newLength_cabcc 10 = .ok (.if_icmp .ge 11, 3) := by decide +kernel
theorem dJ8_newLength_cabcc_13 : decode cJ8_newLength_cabcc 13 = .ok (.iload_n 3, 1) := by decide +kernel
theorem dJ8_newLength_cabcc_14 : decode cJ8_newLength_cabcc 14 = .ok (.ldc 200, 2) := by decide +kernel
theorem dJ8_newLength_cabcc_16 : decode cJ8_newLength_cabcc 16 = .ok (.if_icmp .gt 5, 3) := by decide +kernel
theorem dJ8_newLength_cabcc_19 : decode cJ8_newLength_cabcc 19 = .ok (.iload_n 3, 1) := by decide +kernel
theorem dJ8_newLength_cabcc_20 : decode cJ8_newLength_cabcc 20 = .ok (.ireturn, 1) := by decide +kernel
theorem dJ8_newLength_cabcc_21 : decode cJ8_newLength_cabcc 21 = .ok (.iload_n 0, 1) := by decide +kernel
theorem dJ8_newLength_cabcc_22 : decode cJ8_newLength_cabcc 22 = .ok (.iload_n 1, 1) := by decide +kernel
theorem dJ9_min_7cf53_0 : decode cJ9_min_7cf53 0 = .ok (.iload_n 0, 1) := by decide +kernel
theorem dJ9_min_7cf53_1 : decode cJ9_min_7cf53 1 = .ok (.iload_n 1, 1) := by decide +kernel
theorem dJ9_min_7cf53_2 : decode cJ9_min_7cf53 2 = .ok (.if_icmp .gt 7, 3) := by decide +kernel
theorem dJ9_min_7cf53_5 : decode cJ9_min_7cf53 5 = .ok (.iload_n 0, 1) := by decide +kernel
theorem dJ9_min_7cf53_6 : decode cJ9_min_7cf53 6 = .ok (.goto 4, 3) := by decide +kernel
theorem dJ9_min_7cf53_9 : decode cJ9_min_7cf53 9 = .ok (.iload_n 1, 1) := by decide +kernel
theorem dJ9_min_7cf53_10 : decode cJ9_min_7cf53 10 = .ok (.ireturn, 1) := by decide +kernel
theorem dJ7_copyOf_6403c_0 : decode cJ7_copyOf_6403c 0 = .ok (.aload_n 2, 1) := by decide +kernel
theorem dJ7_copyOf_6403c_1 : decode cJ7_copyOf_6403c 1 = .ok (.ldc 110, 2) := by decide +kernel
theorem dJ7_copyOf_6403c_3 : decode cJ7_copyOf_6403c 3 = .ok (.if_acmp .ne 10, 3) := by decide +kernel
theorem dJ7_copyOf_6403c_6 : decode cJ7_copyOf_6403c 6 = .ok (.iload_n 1, 1) := by decide +kernel
theorem dJ7_copyOf_6403c_7 : decode cJ7_copyOf_6403c 7 = .ok (.anewarray 2, 3) := by decide +kernel
theorem dJ7_copyOf_6403c_10 : decode cJ7_copyOf_6403c 10 = .ok (.goto 14, 3) := by decide +kernel
theorem dJ7_copyOf_6403c_13 : decode cJ7_copyOf_6403c 13 = .ok (.aload_n 2, 1) := by decide +kernel
theorem dJ7_copyOf_6403c_24 : decode cJ7_copyOf_6403c 24 = .ok (.astore_n 3, 1) := by decide +kernel
theorem dJ7_copyOf_6403c_25 : decode cJ7_copyOf_6403c 25 = .ok (.aload_n 0, 1) := by decide +kernel
theorem dJ7_copyOf_6403c_26 : decode cJ7_copyOf_6403c 26 = .ok (.iconst 0, 1) := by decide +kernel
theorem dJ7_copyOf_6403c_27 : decode cJ7_copyOf_6403c 27 = .ok (.aload_n 3, 1) := by decide +kernel
theorem dJ7_copyOf_6403c_28 : decode cJ7_copyOf_6403c 28 = .ok (.iconst 0, 1) := by decide +kernel
theorem dJ7_copyOf_6403c_29 : decode cJ7_copyOf_6403c 29 = .ok (.aload_n 0, 1) := by decide +kernel
theorem dJ7_copyOf_6403c_30 : decode cJ7_copyOf_6403c 30 = .ok (.arraylength, 1) := by decide +kernel
theorem dJ7_copyOf_6403c_31 : decode cJ7_copyOf_6403c 31 = .ok (.iload_n 1, 1) := by decide +kernel
theorem dJ7_copyOf_6403c_32 : decode cJ7_copyOf_6403c 32 = .ok (.invokestatic 304, 3) := by decide +kernel
theorem dJ7_copyOf_6403c_35 : decode cJ7_copyOf_6403c 35 = .ok (.invokestatic 150, 3) := by decide +kernel
theorem dJ7_copyOf_6403c_38 : decode cJ7_copyOf_6403c 38 = .ok (.aload_n 3, 1) := by decide +kernel
theorem dJ7_copyOf_6403c_39 : decode cJ7_copyOf_6403c 39 = .ok (.areturn, 1) := by decide +kernel
theorem dJ7_copyOf_1904c_0 : decode cJ7_copyOf_1904c 0 = .ok (.aload_n 0, 1) := by decide +kernel
theorem dJ7_copyOf_1904c_1 : decode cJ7_copyOf_1904c 1 = .ok (.iload_n 1, 1) := by decide +kernel
theorem dJ7_copyOf_1904c_2 : decode cJ7_copyOf_1904c 2 = .ok (.aload_n 0, 1) := by decide +kernel
theorem dJ7_copyOf_1904c_3 : decode cJ7_copyOf_1904c 3 = .ok (.invokevirtual 86, 3) := by decide +kernel
theorem dJ7_copyOf_1904c_6 : decode cJ7_copyOf_1904c 6 = .ok (.invokestatic 300, 3) := by decide +kernel
theorem dJ7_copyOf_1904c_9 : decode cJ7_copyOf_1904c 9 = .ok (.areturn, 1) := by decide +kernel
theorem dJx4a65c_grow_92f84_0 : decode cJx4a65c_grow_92f84 0 = .ok (.aload_n 0, 1) := by decide +kernel
theorem dJx4a65c_grow_92f84_1 : decode cJx4a65c_grow_92f84 1 = .ok (.getfield 9, 3) := by decide +kernel
theorem dJx4a65c_grow_92f84_4 : decode cJx4a65c_grow_92f84 4 = .ok (.arraylength, 1) := by decide +kernel
theorem dJx4a65c_grow_92f84_5 : decode cJx4a65c_grow_92f84 5 = .ok (.istore_n 2, 1) := by decide +kernel
theorem dJx4a65c_grow_92f84_6 : decode cJx4a65c_grow_92f84 6 = .ok (.iload_n 2, 1) := by decide +kernel
theorem dJx4a65c_grow_92f84_7 : decode cJx4a65c_grow_92f84 7 = .ok (.ifCond .gt 13, 3) := by decide +kernel
theorem dJx4a65c_grow_92f84_10 : decode cJx4a65c_grow_92f84 10 = .ok (.aload_n 0, 1) := by decide +kernel
theorem dJx4a65c_grow_92f84_11 : decode cJx4a65c_grow_92f84 11 = .ok (.getfield 9, 3) := by decide +kernel
theorem dJx4a65c_grow_92f84_14 : decode cJx4a65c_grow_92f84 14 = .ok (.getstatic 39, 3) := by decide +kernel
theorem dJx4a65c_grow_92f84_17 : decode cJx4a65c_grow_92f84 17 = .ok (.if_acmp .eq 28, 3) := by decide +kernel
theorem dJx4a65c_grow_92f84_20 : decode cJx4a65c_grow_92f84 20 = .ok (.iload_n 2, 1) := by decide +kernel
theorem dJx4a65c_grow_92f84_21 : decode cJx4a65c_grow_92f84 21 = .ok (.iload_n 1, 1) := by decide +kernel
theorem dJx4a65c_grow_92f84_22 : decode cJx4a65c_grow_92f84 22 = .ok (.iload_n 2, 1) := by decide +kernel
theorem dJx4a65c_grow_92f84_23 : decode cJx4a65c_grow_92f84 23 = .ok (.isub, 1) := by decide +kernel
theorem dJx4a65c_grow_92f84_24 : decode cJx4a65c_grow_92f84 24 = .ok (.iload_n 2, 1) := by decide +kernel
theorem dJx4a65c_grow_92f84_25 : decode cJx4a65c_grow_92f84 25 = .ok (.iconst 1, 1) := by decide +kernel
theorem dJx4a65c_grow_92f84_26 : decode cJx4a65c_grow_92f84 26 = .ok (.ishr, 1) := by decide +kernel
theorem dJx4a65c_grow_92f84_27 : decode cJx4a65c_grow_92f84 27 = .ok (.invokestatic 73, 3) := by decide +kernel
theorem dJx4a65c_grow_92f84_30 : decode cJx4a65c_grow_92f84 30 = .ok (.istore_n 3, 1) := by decide +kernel
theorem dJx4a65c_grow_92f84_31 : decode cJx4a65c_grow_92f84 31 = .ok (.aload_n 0, 1) := by decide +kernel
theorem dJx4a65c_grow_92f84_32 : decode cJx4a65c_grow_92f84 32 = .ok (.aload_n 0, 1) := by decide +kernel
theorem dJx4a65c_grow_92f84_33 : decode cJx4a65c_grow_92f84 33 = .ok (.getfield 9, 3) := by decide +kernel
theorem dJx4a65c_grow_92f84_36 : decode cJx4a65c_grow_92f84 36 = .ok (.iload_n 3, 1) := by decide +kernel
theorem dJx4a65c_grow_92f84_37 : decode cJx4a65c_grow_92f84 37 = .ok (.invokestatic 66, 3) := by decide +kernel
theorem dJx4a65c_grow_92f84_40 : decode cJx4a65c_grow_92f84 40 = .ok (.dup_x1, 1) := by decide +kernel
theorem dJx4a65c_grow_92f84_41 : decode cJx4a65c_grow_92f84 41 = .ok (.putfield 9, 3) := by decide +kernel
theorem dJx4a65c_grow_92f84_44 : decode cJx4a65c_grow_92f84 44 = .ok (.areturn, 1) := by decide +kernel
theorem dJx4a65c_grow_92f84_45 : decode cJx4a65c_grow_92f84 45 = .ok (.aload_n 0, 1) := by decide +kernel
theorem dJx4a65c_grow_92f84_46 : decode cJx4a65c_grow_92f84 46 = .ok (.bipush 10, 2) := by decide +kernel
theorem dJx4a65c_grow_92f84_48 : decode cJx4a65c_grow_92f84 48 = .ok (.iload_n 1, 1) := by decide +kernel
theorem dJx4a65c_grow_92f84_49 : decode cJx4a65c_grow_92f84 49 = .ok (.invokestatic 79, 3) := by decide +kernel
theorem dJx4a65c_grow_92f84_52 : decode cJx4a65c_grow_92f84 52 = .ok (.anewarray 7, 3) := by decide +kernel
theorem dJx4a65c_grow_92f84_55 : decode cJx4a65c_grow_92f84 55 = .ok (.dup_x1, 1) := by decide +kernel
theorem dJx4a65c_grow_92f84_56 : decode cJx4a65c_grow_92f84 56 = .ok (.putfield 9, 3) := by decide +kernel
theorem dJx4a65c_grow_92f84_59 : decode cJx4a65c_grow_92f84 59 = .ok (.areturn, 1) := by decide +kernel
theorem dJx4a65c_grow_d5877_0 : decode cJx4a65c_grow_d5877 0 = .ok (.aload_n 0, 1) := by decide +kernel
theorem dJx4a65c_grow_d5877_1 : decode cJx4a65c_grow_d5877 1 = .ok (.aload_n 0, 1) := by decide +kernel
theorem dJx4a65c_grow_d5877_2 : decode cJx4a65c_grow_d5877 2 = .ok (.getfield 48, 3) := by decide +kernel
theorem dJx4a65c_grow_d5877_5 : decode cJx4a65c_grow_d5877 5 = .ok (.iconst 1, 1) := by decide +kernel
theorem dJx4a65c_grow_d5877_6 : decode cJx4a65c_grow_d5877 6 = .ok (.iadd, 1) := by decide +kernel
theorem dJx4a65c_grow_d5877_7 : decode cJx4a65c_grow_d5877 7 = .ok (.invokevirtual 69, 3) := by decide +kernel
theorem dJx4a65c_grow_d5877_10 : decode cJx4a65c_grow_d5877 10 = .ok (.areturn, 1) := by decide +kernel
theorem dJx4a65c_add_72be8_0 : decode cJx4a65c_add_72be8 0 = .ok (.iload_n 3, 1) := by decide +kernel
theorem dJx4a65c_add_72be8_1 : decode cJx4a65c_add_72be8 1 = .ok (.aload_n 2, 1) := by decide +kernel
theorem dJx4a65c_add_72be8_2 : decode cJx4a65c_add_72be8 2 = .ok (.arraylength, 1) := by decide +kernel
theorem dJx4a65c_add_72be8_3 : decode cJx4a65c_add_72be8 3 = .ok (.if_icmp .ne 8, 3) := by decide +kernel
theorem dJx4a65c_add_72be8_6 : decode cJx4a65c_add_72be8 6 = .ok (.aload_n 0, 1) := by decide +kernel
theorem dJx4a65c_add_72be8_7 : decode cJx4a65c_add_72be8 7 = .ok (.invokevirtual 129, 3) := by decide +kernel
theorem dJx4a65c_add_72be8_10 : decode cJx4a65c_add_72be8 10 = .ok (.astore_n 2, 1) := by decide +kernel
theorem dJx4a65c_add_72be8_11 : decode cJx4a65c_add_72be8 11 = .ok (.aload_n 2, 1) := by decide +kernel
theorem dJx4a65c_add_72be8_12 : decode cJx4a65c_add_72be8 12 = .ok (.iload_n 3, 1) := by decide +kernel
theorem dJx4a65c_add_72be8_13 : decode cJx4a65c_add_72be8 13 = .ok (.aload_n 1, 1) := by decide +kernel
theorem dJx4a65c_add_72be8_14 : decode cJx4a65c_add_72be8 14 = .ok (.aastore, 1) := by decide +kernel
theorem dJx4a65c_add_72be8_15 : decode cJx4a65c_add_72be8 15 = .ok (.aload_n 0, 1) := by decide +kernel
theorem dJx4a65c_add_72be8_16 : decode cJx4a65c_add_72be8 16 = .ok (.iload_n 3, 1) := by decide +kernel
theorem dJx4a65c_add_72be8_17 : decode cJx4a65c_add_72be8 17 = .ok (.iconst 1, 1) := by decide +kernel
theorem dJx4a65c_add_72be8_18 : decode cJx4a65c_add_72be8 18 = .ok (.iadd, 1) := by decide +kernel
theorem dJx4a65c_add_72be8_19 : decode cJx4a65c_add_72be8 19 = .ok (.putfield 48, 3) := by decide +kernel
theorem dJx4a65c_add_72be8_22 : decode cJx4a65c_add_72be8 22 = .ok (.return_, 1) := by decide +kernel
theorem dJx4a65c_add_9ea2d_0 : decode cJx4a65c_add_9ea2d 0 = .ok (.aload_n 0, 1) := by decide +kernel
theorem dJx4a65c_add_9ea2d_1 : decode cJx4a65c_add_9ea2d 1 = .ok (.dup, 1) := by decide +kernel
theorem dJx4a65c_add_9ea2d_2 : decode cJx4a65c_add_9ea2d 2 = .ok (.getfield 63, 3) := by decide +kernel
theorem dJx4a65c_add_9ea2d_5 : decode cJx4a65c_add_9ea2d 5 = .ok (.iconst 1, 1) := by decide +kernel
theorem dJx4a65c_add_9ea2d_6 : decode cJx4a65c_add_9ea2d 6 = .ok (.iadd, 1) := by decide +kernel
theorem dJx4a65c_add_9ea2d_7 : decode cJx4a65c_add_9ea2d 7 = .ok (.putfield 63, 3) := by decide +kernel
theorem dJx4a65c_add_9ea2d_10 : decode cJx4a65c_add_9ea2d 10 = .ok (.aload_n 0, 1) := by decide +kernel
theorem dJx4a65c_add_9ea2d_11 : decode cJx4a65c_add_9ea2d 11 = .ok (.aload_n 1, 1) := by decide +kernel
theorem dJx4a65c_add_9ea2d_12 : decode cJx4a65c_add_9ea2d 12 = .ok (.aload_n 0, 1) := by decide +kernel
theorem dJx4a65c_add_9ea2d_13 : decode cJx4a65c_add_9ea2d 13 = .ok (.getfield 9, 3) := by decide +kernel
theorem dJx4a65c_add_9ea2d_16 : decode cJx4a65c_add_9ea2d 16 = .ok (.aload_n 0, 1) := by decide +kernel
theorem dJx4a65c_add_9ea2d_17 : decode cJx4a65c_add_9ea2d 17 = .ok (.getfield 48, 3) := by decide +kernel
theorem dJx4a65c_add_9ea2d_20 : decode cJx4a65c_add_9ea2d 20 = .ok (.invokevirtual 131, 3) := by decide +kernel
theorem dJx4a65c_add_9ea2d_23 : decode cJx4a65c_add_9ea2d 23 = .ok (.iconst 1, 1) := by decide +kernel
theorem dJx4a65c_add_9ea2d_24 : decode cJx4a65c_add_9ea2d 24 = .ok (.ireturn, 1) := by decide +kernel
theorem dX4_addBundle_0 : decode cX4_addBundle 0 = .ok (.aload_n 0, 1) := by decide +kernel
theorem dX4_addBundle_1 : decode cX4_addBundle 1 = .ok (.getfield 12, 3) := by decide +kernel
theorem dX4_addBundle_4 : decode cX4_addBundle 4 = .ok (.new 33, 3) := by decide +kernel
theorem dX4_addBundle_7 : decode cX4_addBundle 7 = .ok (.dup, 1) := by decide +kernel
theorem dX4_addBundle_8 : decode cX4_addBundle 8 = .ok (.aload_n 0, 1) := by decide +kernel
theorem dX4_addBundle_9 : decode cX4_addBundle 9 = .ok (.getfield 12, 3) := by decide +kernel
theorem dX4_addBundle_12 : decode cX4_addBundle 12 = .ok (.invokevirtual 35, 3) := by decide +kernel
theorem dX4_addBundle_15 : decode cX4_addBundle 15 = .ok (.iload_n 1, 1) := by decide +kernel
theorem dX4_addBundle_16 : decode cX4_addBundle 16 = .ok (.iload_n 2, 1) := by decide +kernel
theorem dX4_addBundle_17 : decode cX4_addBundle 17 = .ok (.iload_n 3, 1) := by decide +kernel
theorem dX4_addBundle_18 : decode cX4_addBundle 18 = .ok (.iload 4, 2) := by decide +kernel
theorem dX4_addBundle_20 : decode cX4_addBundle 20 = .ok (.invokespecial 39, 3) := by decide +kernel
theorem dX4_addBundle_23 : decode cX4_addBundle 23 = .ok (.invokevirtual 42, 3) := by decide +kernel
theorem dX4_addBundle_26 : decode cX4_addBundle 26 = .ok (.pop, 1) := by decide +kernel
theorem dX4_addBundle_27 : decode cX4_addBundle 27 = .ok (.aload_n 0, 1) := by decide +kernel
theorem dX4_addBundle_28 : decode cX4_addBundle 28 = .ok (.getfield 12, 3) := by decide +kernel
theorem dX4_addBundle_31 : decode cX4_addBundle 31 = .ok (.invokevirtual 35, 3) := by decide +kernel
theorem dX4_addBundle_34 : decode cX4_addBundle 34 = .ok (.iconst 1, 1) := by decide +kernel
theorem dX4_addBundle_35 : decode cX4_addBundle 35 = .ok (.isub, 1) := by decide +kernel
theorem dX4_addBundle_36 : decode cX4_addBundle 36 = .ok (.ireturn, 1) := by decide +kernel
theorem dX11_bundle_0 : decode cX11_bundle 0 = .ok (.iload_n 1, 1) := by decide +kernel
theorem dX11_bundle_1 : decode cX11_bundle 1 = .ok (.bipush 8, 2) := by decide +kernel
theorem dX11_bundle_3 : decode cX11_bundle 3 = .ok (.invokestatic 54, 3) := by decide +kernel
theorem dX11_bundle_6 : decode cX11_bundle 6 = .ok (.ifCond .eq 16, 3) := by decide +kernel
theorem dX11_bundle_9 : decode cX11_bundle 9 = .ok (.iload_n 2, 1) := by decide +kernel
theorem dX11_bundle_10 : decode cX11_bundle 10 = .ok (.bipush 8, 2) := by decide +kernel
theorem dX11_bundle_12 : decode cX11_bundle 12 = .ok (.invokestatic 54, 3) := by decide +kernel
theorem dX11_bundle_15 : decode cX11_bundle 15 = .ok (.ifCond .eq 7, 3) := by decide +kernel
theorem dX11_bundle_18 : decode cX11_bundle 18 = .ok (.iconst 1, 1) := by decide +kernel
theorem dX11_bundle_19 : decode cX11_bundle 19 = .ok (.goto 4, 3) := by decide +kernel
theorem dX11_bundle_22 : decode cX11_bundle 22 = .ok (.iconst 0, 1) := by decide +kernel
theorem dX11_bundle_23 : decode cX11_bundle 23 = .ok (.invokestatic 58, 3) := by decide +kernel
theorem dX11_bundle_26 : decode cX11_bundle 26 = .ok (.iload_n 1, 1) := by decide +kernel
theorem dX11_bundle_27 : decode cX11_bundle 27 = .ok (.iload_n 2, 1) := by decide +kernel
theorem dX11_bundle_28 : decode cX11_bundle 28 = .ok (.if_icmp .eq 29, 3) := by decide +kernel
theorem dX11_bundle_31 : decode cX11_bundle 31 = .ok (.iload_n 3, 1) := by decide +kernel
theorem dX11_bundle_32 : decode cX11_bundle 32 = .ok (.iconst 1, 1) := by decide +kernel
theorem dX11_bundle_33 : decode cX11_bundle 33 = .ok (.sipush 999, 3) := by decide +kernel
theorem dX11_bundle_36 : decode cX11_bundle 36 = .ok (.invokestatic 62, 3) := by decide +kernel
theorem dX11_bundle_39 : decode cX11_bundle 39 = .ok (.ifCond .eq 18, 3) := by decide +kernel
theorem dX11_bundle_42 : decode cX11_bundle 42 = .ok (.iload 4, 2) := by decide +kernel
theorem dX11_bundle_44 : decode cX11_bundle 44 = .ok (.iconst 1, 1) := by decide +kernel
theorem dX11_bundle_45 : decode cX11_bundle 45 = .ok (.bipush 24, 2) := by decide +kernel
theorem dX11_bundle_47 : decode cX11_bundle 47 = .ok (.invokestatic 62, 3) := by decide +kernel
theorem dX11_bundle_50 : decode cX11_bundle 50 = .ok (.ifCond .eq 7, 3) := by decide +kernel
theorem dX11_bundle_53 : decode cX11_bundle 53 = .ok (.iconst 1, 1) := by decide +kernel
theorem dX11_bundle_54 : decode cX11_bundle 54 = .ok (.goto 4, 3) := by decide +kernel
theorem dX11_bundle_57 : decode cX11_bundle 57 = .ok (.iconst 0, 1) := by decide +kernel
theorem dX11_bundle_58 : decode cX11_bundle 58 = .ok (.invokestatic 66, 3) := by decide +kernel
theorem dX11_bundle_61 : decode cX11_bundle 61 = .ok (.aload_n 0, 1) := by decide +kernel
theorem dX11_bundle_62 : decode cX11_bundle 62 = .ok (.getfield 10, 3) := by decide +kernel
theorem dX11_bundle_65 : decode cX11_bundle 65 = .ok (.getfield 69, 3) := by decide +kernel
theorem dX11_bundle_68 : decode cX11_bundle 68 = .ok (.invokevirtual 72, 3) := by decide +kernel
theorem dX11_bundle_71 : decode cX11_bundle 71 = .ok (.bipush 16, 2) := by decide +kernel
theorem dX11_bundle_73 : decode cX11_bundle 73 = .ok (.if_icmp .ge 7, 3) := by decide +kernel
theorem dX11_bundle_76 : decode cX11_bundle 76 = .ok (.iconst 1, 1) := by decide +kernel
theorem dX11_bundle_77 : decode cX11_bundle 77 = .ok (.goto 4, 3) := by decide +kernel
theorem dX11_bundle_80 : decode cX11_bundle 80 = .ok (.iconst 0, 1) := by decide +kernel
theorem dX11_bundle_81 : decode cX11_bundle 81 = .ok (.invokestatic 76, 3) := by decide +kernel
theorem dX11_bundle_84 : decode cX11_bundle 84 = .ok (.aload_n 0, 1) := by decide +kernel
theorem dX11_bundle_85 : decode cX11_bundle 85 = .ok (.getfield 10, 3) := by decide +kernel
theorem dX11_bundle_88 : decode cX11_bundle 88 = .ok (.iload_n 1, 1) := by decide +kernel
theorem dX11_bundle_89 : decode cX11_bundle 89 = .ok (.iload_n 2, 1) := by decide +kernel
theorem dX11_bundle_90 : decode cX11_bundle 90 = .ok (.iload_n 3, 1) := by decide +kernel
theorem dX11_bundle_91 : decode cX11_bundle 91 = .ok (.iload 4, 2) := by decide +kernel
theorem dX11_bundle_93 : decode cX11_bundle 93 = .ok (.invokevirtual 79, 3) := by decide +kernel
theorem dX11_bundle_96 : decode cX11_bundle 96 = .ok (.ireturn, 1) := by decide +kernel
theorem dL_bundle_0 : decode cL_bundle 0 = .ok (.aload 5, 2) := by decide +kernel
theorem dL_bundle_2 : decode cL_bundle 2 = .ok (.iconst 0, 1) := by decide +kernel
theorem dL_bundle_3 : decode cL_bundle 3 = .ok (.aload_n 0, 1) := by decide +kernel
theorem dL_bundle_4 : decode cL_bundle 4 = .ok (.iload_n 1, 1) := by decide +kernel
theorem dL_bundle_5 : decode cL_bundle 5 = .ok (.iload_n 2, 1) := by decide +kernel
theorem dL_bundle_6 : decode cL_bundle 6 = .ok (.iload_n 3, 1) := by decide +kernel
theorem dL_bundle_7 : decode cL_bundle 7 = .ok (.iload 4, 2) := by decide +kernel
theorem dL_bundle_9 : decode cL_bundle 9 = .ok (.invokevirtual 7, 3) := by decide +kernel
theorem dL_bundle_12 : decode cL_bundle 12 = .ok (.i2l, 1) := by decide +kernel
theorem dL_bundle_13 : decode cL_bundle 13 = .ok (.lastore, 1) := by decide +kernel
theorem dL_bundle_14 : decode cL_bundle 14 = .ok (.goto 15, 3) := by decide +kernel
theorem dL_bundle_17 : decode cL_bundle 17 = .ok (.astore 6, 2) := by decide +kernel
theorem dL_bundle_19 : decode cL_bundle 19 = .ok (.iconst 1, 1) := by decide +kernel
theorem dL_bundle_20 : decode cL_bundle 20 = .ok (.ireturn, 1) := by decide +kernel
theorem dL_bundle_21 : decode cL_bundle 21 = .ok (.astore 6, 2) := by decide +kernel
theorem dL_bundle_23 : decode cL_bundle 23 = .ok (.iconst 2, 1) := by decide +kernel
theorem dL_bundle_24 : decode cL_bundle 24 = .ok (.ireturn, 1) := by decide +kernel
theorem dL_bundle_25 : decode cL_bundle 25 = .ok (.astore 6, 2) := by decide +kernel
theorem dL_bundle_27 : decode cL_bundle 27 = .ok (.iconst 3, 1) := by decide +kernel
theorem dL_bundle_28 : decode cL_bundle 28 = .ok (.ireturn, 1) := by decide +kernel
theorem dL_bundle_29 : decode cL_bundle 29 = .ok (.iconst 0, 1) := by decide +kernel
theorem dL_bundle_30 : decode cL_bundle 30 = .ok (.ireturn, 1) := by decide +kernel
theorem dX12_isIn_0 : decode cX12_isIn 0 = .ok (.iload_n 0, 1) := by decide +kernel
theorem dX12_isIn_1 : decode cX12_isIn 1 = .ok (.iload_n 1, 1) := by decide +kernel
theorem dX12_isIn_2 : decode cX12_isIn 2 = .ok (.if_icmp .lt 12, 3) := by decide +kernel
theorem dX12_isIn_5 : decode cX12_isIn 5 = .ok (.iload_n 0, 1) := by decide +kernel
theorem dX12_isIn_6 : decode cX12_isIn 6 = .ok (.iload_n 2, 1) := by decide +kernel
theorem dX12_isIn_7 : decode cX12_isIn 7 = .ok (.if_icmp .gt 7, 3) := by decide +kernel
theorem dX12_isIn_10 : decode cX12_isIn 10 = .ok (.iconst 1, 1) := by decide +kernel
theorem dX12_isIn_11 : decode cX12_isIn 11 = .ok (.goto 4, 3) := by decide +kernel
theorem dX12_isIn_14 : decode cX12_isIn 14 = .ok (.iconst 0, 1) := by decide +kernel
theorem dX12_isIn_15 : decode cX12_isIn 15 = .ok (.ireturn, 1) := by decide +kernel
theorem dX12_isNode_0 : decode cX12_isNode 0 = .ok (.iload_n 0, 1) := by decide +kernel
theorem dX12_isNode_1 : decode cX12_isNode 1 = .ok (.iconst 0, 1) := by decide +kernel
theorem dX12_isNode_2 : decode cX12_isNode 2 = .ok (.bipush 7, 2) := by decide +kernel
theorem dX12_isNode_4 : decode cX12_isNode 4 = .ok (.invokestatic 120, 3) := by decide +kernel
theorem dX12_isNode_7 : decode cX12_isNode 7 = .ok (.ireturn, 1) := by decide +kernel
theorem dX12_fails_0 : decode cX12_fails 0 = .ok (.aload_n 0, 1) := by decide +kernel
theorem dX12_fails_1 : decode cX12_fails 1 = .ok (.iload_n 1, 1) := by decide +kernel
theorem dX12_fails_2 : decode cX12_fails 2 = .ok (.putfield 116, 3) := by decide +kernel
theorem dX12_fails_5 : decode cX12_fails 5 = .ok (.iload_n 1, 1) := by decide +kernel
theorem dX12_fails_6 : decode cX12_fails 6 = .ok (.ifCond .le 7, 3) := by decide +kernel
theorem dX12_fails_9 : decode cX12_fails 9 = .ok (.iconst 1, 1) := by decide +kernel
theorem dX12_fails_10 : decode cX12_fails 10 = .ok (.goto 4, 3) := by decide +kernel
theorem dX12_fails_13 : decode cX12_fails 13 = .ok (.iconst 0, 1) := by decide +kernel
theorem dX12_fails_14 : decode cX12_fails 14 = .ok (.ireturn, 1) := by decide +kernel
theorem dX12_bundle_0 : decode cX12_bundle 0 = .ok (.iload_n 1, 1) := by decide +kernel
theorem dX12_bundle_1 : decode cX12_bundle 1 = .ok (.invokestatic 127, 3) := by decide +kernel
theorem dX12_bundle_4 : decode cX12_bundle 4 = .ok (.ifCond .eq 14, 3) := by decide +kernel
theorem dX12_bundle_7 : decode cX12_bundle 7 = .ok (.iload_n 2, 1) := by decide +kernel
theorem dX12_bundle_8 : decode cX12_bundle 8 = .ok (.invokestatic 127, 3) := by decide +kernel
theorem dX12_bundle_11 : decode cX12_bundle 11 = .ok (.ifCond .eq 7, 3) := by decide +kernel
theorem dX12_bundle_14 : decode cX12_bundle 14 = .ok (.iconst 1, 1) := by decide +kernel
theorem dX12_bundle_15 : decode cX12_bundle 15 = .ok (.goto 4, 3) := by decide +kernel
theorem dX12_bundle_18 : decode cX12_bundle 18 = .ok (.iconst 0, 1) := by decide +kernel
theorem dX12_bundle_19 : decode cX12_bundle 19 = .ok (.istore 5, 2) := by decide +kernel
theorem dX12_bundle_21 : decode cX12_bundle 21 = .ok (.iload_n 1, 1) := by decide +kernel
theorem dX12_bundle_22 : decode cX12_bundle 22 = .ok (.iload_n 2, 1) := by decide +kernel
theorem dX12_bundle_23 : decode cX12_bundle 23 = .ok (.if_icmp .eq 29, 3) := by decide +kernel
theorem dX12_bundle_26 : decode cX12_bundle 26 = .ok (.iload_n 3, 1) := by decide +kernel
theorem dX12_bundle_27 : decode cX12_bundle 27 = .ok (.iconst 1, 1) := by decide +kernel
theorem dX12_bundle_28 : decode cX12_bundle 28 = .ok (.sipush 999, 3) := by decide +kernel
theorem dX12_bundle_31 : decode cX12_bundle 31 = .ok (.invokestatic 120, 3) := by decide +kernel
theorem dX12_bundle_34 : decode cX12_bundle 34 = .ok (.ifCond .eq 18, 3) := by decide +kernel
theorem dX12_bundle_37 : decode cX12_bundle 37 = .ok (.iload 4, 2) := by decide +kernel
theorem dX12_bundle_39 : decode cX12_bundle 39 = .ok (.iconst 1, 1) := by decide +kernel
theorem dX12_bundle_40 : decode cX12_bundle 40 = .ok (.bipush 24, 2) := by decide +kernel
theorem dX12_bundle_42 : decode cX12_bundle 42 = .ok (.invokestatic 120, 3) := by decide +kernel
theorem dX12_bundle_45 : decode cX12_bundle 45 = .ok (.ifCond .eq 7, 3) := by decide +kernel
theorem dX12_bundle_48 : decode cX12_bundle 48 = .ok (.iconst 1, 1) := by decide +kernel
theorem dX12_bundle_49 : decode cX12_bundle 49 = .ok (.goto 4, 3) := by decide +kernel
theorem dX12_bundle_52 : decode cX12_bundle 52 = .ok (.iconst 0, 1) := by decide +kernel
theorem dX12_bundle_53 : decode cX12_bundle 53 = .ok (.istore 6, 2) := by decide +kernel
theorem dX12_bundle_55 : decode cX12_bundle 55 = .ok (.aload_n 0, 1) := by decide +kernel
theorem dX12_bundle_56 : decode cX12_bundle 56 = .ok (.iload 5, 2) := by decide +kernel
theorem dX12_bundle_58 : decode cX12_bundle 58 = .ok (.ifCond .ne 7, 3) := by decide +kernel
theorem dX12_bundle_61 : decode cX12_bundle 61 = .ok (.iconst 1, 1) := by decide +kernel
theorem dX12_bundle_62 : decode cX12_bundle 62 = .ok (.goto 26, 3) := by decide +kernel
theorem dX12_bundle_65 : decode cX12_bundle 65 = .ok (.iload 6, 2) := by decide +kernel
theorem dX12_bundle_67 : decode cX12_bundle 67 = .ok (.ifCond .ne 7, 3) := by decide +kernel
theorem dX12_bundle_70 : decode cX12_bundle 70 = .ok (.iconst 2, 1) := by decide +kernel
theorem dX12_bundle_71 : decode cX12_bundle 71 = .ok (.goto 17, 3) := by decide +kernel
theorem dX12_bundle_74 : decode cX12_bundle 74 = .ok (.aload_n 0, 1) := by decide +kernel
theorem dX12_bundle_75 : decode cX12_bundle 75 = .ok (.getfield 131, 3) := by decide +kernel
theorem dX12_bundle_78 : decode cX12_bundle 78 = .ok (.bipush 16, 2) := by decide +kernel
theorem dX12_bundle_80 : decode cX12_bundle 80 = .ok (.if_icmp .ne 7, 3) := by decide +kernel
theorem dX12_bundle_83 : decode cX12_bundle 83 = .ok (.iconst 3, 1) := by decide +kernel
theorem dX12_bundle_84 : decode cX12_bundle 84 = .ok (.goto 4, 3) := by decide +kernel
theorem dX12_bundle_87 : decode cX12_bundle 87 = .ok (.iconst 0, 1) := by decide +kernel
theorem dX12_bundle_88 : decode cX12_bundle 88 = .ok (.invokevirtual 134, 3) := by decide +kernel
theorem dX12_bundle_91 : decode cX12_bundle 91 = .ok (.ifCond .eq 5, 3) := by decide +kernel
theorem dX12_bundle_94 : decode cX12_bundle 94 = .ok (.iconst 0, 1) := by decide +kernel
theorem dX12_bundle_95 : decode cX12_bundle 95 = .ok (.ireturn, 1) := by decide +kernel
theorem dX12_bundle_96 : decode cX12_bundle 96 = .ok (.aload_n 0, 1) := by decide +kernel
theorem dX12_bundle_97 : decode cX12_bundle 97 = .ok (.getfield 7, 3) := by decide +kernel
theorem dX12_bundle_100 : decode cX12_bundle 100 = .ok (.aload_n 0, 1) := by decide +kernel
theorem dX12_bundle_101 : decode cX12_bundle 101 = .ok (.getfield 131, 3) := by decide +kernel
theorem dX12_bundle_104 : decode cX12_bundle 104 = .ok (.iload_n 1, 1) := by decide +kernel
theorem dX12_bundle_105 : decode cX12_bundle 105 = .ok (.iastore, 1) := by decide +kernel
theorem dX12_bundle_106 : decode cX12_bundle 106 = .ok (.aload_n 0, 1) := by decide +kernel
theorem dX12_bundle_107 : decode cX12_bundle 107 = .ok (.getfield 13, 3) := by decide +kernel
theorem dX12_bundle_110 : decode cX12_bundle 110 = .ok (.aload_n 0, 1) := by decide +kernel
theorem dX12_bundle_111 : decode cX12_bundle 111 = .ok (.getfield 131, 3) := by decide +kernel
theorem dX12_bundle_114 : decode cX12_bundle 114 = .ok (.iload_n 2, 1) := by decide +kernel
theorem dX12_bundle_115 : decode cX12_bundle 115 = .ok (.iastore, 1) := by decide +kernel
theorem dX12_bundle_116 : decode cX12_bundle 116 = .ok (.aload_n 0, 1) := by decide +kernel
theorem dX12_bundle_117 : decode cX12_bundle 117 = .ok (.getfield 16, 3) := by decide +kernel
theorem dX12_bundle_120 : decode cX12_bundle 120 = .ok (.aload_n 0, 1) := by decide +kernel
theorem dX12_bundle_121 : decode cX12_bundle 121 = .ok (.getfield 131, 3) := by decide +kernel
theorem dX12_bundle_124 : decode cX12_bundle 124 = .ok (.iload_n 3, 1) := by decide +kernel
theorem dX12_bundle_125 : decode cX12_bundle 125 = .ok (.iastore, 1) := by decide +kernel
theorem dX12_bundle_126 : decode cX12_bundle 126 = .ok (.aload_n 0, 1) := by decide +kernel
theorem dX12_bundle_127 : decode cX12_bundle 127 = .ok (.getfield 19, 3) := by decide +kernel
theorem dX12_bundle_130 : decode cX12_bundle 130 = .ok (.aload_n 0, 1) := by decide +kernel
theorem dX12_bundle_131 : decode cX12_bundle 131 = .ok (.getfield 131, 3) := by decide +kernel
theorem dX12_bundle_134 : decode cX12_bundle 134 = .ok (.iload 4, 2) := by decide +kernel
theorem dX12_bundle_136 : decode cX12_bundle 136 = .ok (.iastore, 1) := by decide +kernel
theorem dX12_bundle_137 : decode cX12_bundle 137 = .ok (.aload_n 0, 1) := by decide +kernel
theorem dX12_bundle_138 : decode cX12_bundle 138 = .ok (.dup, 1) := by decide +kernel
theorem dX12_bundle_139 : decode cX12_bundle 139 = .ok (.getfield 131, 3) := by decide +kernel
theorem dX12_bundle_142 : decode cX12_bundle 142 = .ok (.iconst 1, 1) := by decide +kernel
theorem dX12_bundle_143 : decode cX12_bundle 143 = .ok (.iadd, 1) := by decide +kernel
theorem dX12_bundle_144 : decode cX12_bundle 144 = .ok (.putfield 131, 3) := by decide +kernel
theorem dX12_bundle_147 : decode cX12_bundle 147 = .ok (.aload_n 0, 1) := by decide +kernel
theorem dX12_bundle_148 : decode cX12_bundle 148 = .ok (.getfield 131, 3) := by decide +kernel
theorem dX12_bundle_151 : decode cX12_bundle 151 = .ok (.iconst 1, 1) := by decide +kernel
theorem dX12_bundle_152 : decode cX12_bundle 152 = .ok (.isub, 1) := by decide +kernel
theorem dX12_bundle_153 : decode cX12_bundle 153 = .ok (.ireturn, 1) := by decide +kernel
theorem dX12_thrown_0 : decode cX12_thrown 0 = .ok (.aload_n 0, 1) := by decide +kernel
theorem dX12_thrown_1 : decode cX12_thrown 1 = .ok (.getfield 116, 3) := by decide +kernel
theorem dX12_thrown_4 : decode cX12_thrown 4 = .ok (.ireturn, 1) := by decide +kernel
theorem dX2_init_0 : decode cX2_init 0 = .ok (.aload_n 0, 1) := by decide +kernel
theorem dX2_init_1 : decode cX2_init 1 = .ok (.invokespecial 3, 3) := by decide +kernel
theorem dX2_init_4 : decode cX2_init 4 = .ok (.aload_n 0, 1) := by decide +kernel
theorem dX2_init_5 : decode cX2_init 5 = .ok (.iconst (-1), 1) := by decide +kernel
theorem dX2_init_6 : decode cX2_init 6 = .ok (.putfield 9, 3) := by decide +kernel
theorem dX2_init_9 : decode cX2_init 9 = .ok (.aload_n 0, 1) := by decide +kernel
theorem dX2_init_10 : decode cX2_init 10 = .ok (.iload_n 1, 1) := by decide +kernel
theorem dX2_init_11 : decode cX2_init 11 = .ok (.putfield 15, 3) := by decide +kernel
theorem dX2_init_14 : decode cX2_init 14 = .ok (.aload_n 0, 1) := by decide +kernel
theorem dX2_init_15 : decode cX2_init 15 = .ok (.iload_n 2, 1) := by decide +kernel
theorem dX2_init_16 : decode cX2_init 16 = .ok (.putfield 18, 3) := by decide +kernel
theorem dX2_init_19 : decode cX2_init 19 = .ok (.aload_n 0, 1) := by decide +kernel
theorem dX2_init_20 : decode cX2_init 20 = .ok (.iload_n 3, 1) := by decide +kernel
theorem dX2_init_21 : decode cX2_init 21 = .ok (.putfield 21, 3) := by decide +kernel
theorem dX2_init_24 : decode cX2_init 24 = .ok (.return_, 1) := by decide +kernel
theorem dX4_addConnector_0 : decode cX4_addConnector 0 = .ok (.aload_n 0, 1) := by decide +kernel
theorem dX4_addConnector_1 : decode cX4_addConnector 1 = .ok (.getfield 18, 3) := by decide +kernel
theorem dX4_addConnector_4 : decode cX4_addConnector 4 = .ok (.new 46, 3) := by decide +kernel
theorem dX4_addConnector_7 : decode cX4_addConnector 7 = .ok (.dup, 1) := by decide +kernel
theorem dX4_addConnector_8 : decode cX4_addConnector 8 = .ok (.iload_n 1, 1) := by decide +kernel
theorem dX4_addConnector_9 : decode cX4_addConnector 9 = .ok (.iload_n 2, 1) := by decide +kernel
theorem dX4_addConnector_10 : decode cX4_addConnector 10 = .ok (.iload_n 3, 1) := by decide +kernel
theorem dX4_addConnector_11 : decode cX4_addConnector 11 = .ok (.invokespecial 48, 3) := by decide +kernel
theorem dX4_addConnector_14 : decode cX4_addConnector 14 = .ok (.invokevirtual 42, 3) := by decide +kernel
theorem dX4_addConnector_17 : decode cX4_addConnector 17 = .ok (.pop, 1) := by decide +kernel
theorem dX4_addConnector_18 : decode cX4_addConnector 18 = .ok (.aload_n 0, 1) := by decide +kernel
theorem dX4_addConnector_19 : decode cX4_addConnector 19 = .ok (.getfield 18, 3) := by decide +kernel
theorem dX4_addConnector_22 : decode cX4_addConnector 22 = .ok (.invokevirtual 35, 3) := by decide +kernel
theorem dX4_addConnector_25 : decode cX4_addConnector 25 = .ok (.iconst 1, 1) := by decide +kernel
theorem dX4_addConnector_26 : decode cX4_addConnector 26 = .ok (.isub, 1) := by decide +kernel
theorem dX4_addConnector_27 : decode cX4_addConnector 27 = .ok (.ireturn, 1) := by decide +kernel
theorem dX11_connector_0 : decode cX11_connector 0 = .ok (.iload_n 1, 1) := by decide +kernel
theorem dX11_connector_1 : decode cX11_connector 1 = .ok (.bipush 8, 2) := by decide +kernel
theorem dX11_connector_3 : decode cX11_connector 3 = .ok (.invokestatic 54, 3) := by decide +kernel
theorem dX11_connector_6 : decode cX11_connector 6 = .ok (.invokestatic 58, 3) := by decide +kernel
theorem dX11_connector_9 : decode cX11_connector 9 = .ok (.iload_n 2, 1) := by decide +kernel
theorem dX11_connector_10 : decode cX11_connector 10 = .ok (.iconst 1, 1) := by decide +kernel
theorem dX11_connector_11 : decode cX11_connector 11 = .ok (.bipush 8, 2) := by decide +kernel
theorem dX11_connector_13 : decode cX11_connector 13 = .ok (.invokestatic 62, 3) := by decide +kernel
theorem dX11_connector_16 : decode cX11_connector 16 = .ok (.ifCond .eq 17, 3) := by decide +kernel
theorem dX11_connector_19 : decode cX11_connector 19 = .ok (.iload_n 3, 1) := by decide +kernel
theorem dX11_connector_20 : decode cX11_connector 20 = .ok (.iconst 0, 1) := by decide +kernel
theorem dX11_connector_21 : decode cX11_connector 21 = .ok (.bipush 9, 2) := by decide +kernel
theorem dX11_connector_23 : decode cX11_connector 23 = .ok (.invokestatic 62, 3) := by decide +kernel
theorem dX11_connector_26 : decode cX11_connector 26 = .ok (.ifCond .eq 7, 3) := by decide +kernel
theorem dX11_connector_29 : decode cX11_connector 29 = .ok (.iconst 1, 1) := by decide +kernel
theorem dX11_connector_30 : decode cX11_connector 30 = .ok (.goto 4, 3) := by decide +kernel
theorem dX11_connector_33 : decode cX11_connector 33 = .ok (.iconst 0, 1) := by decide +kernel
theorem dX11_connector_34 : decode cX11_connector 34 = .ok (.invokestatic 66, 3) := by decide +kernel
theorem dX11_connector_37 : decode cX11_connector 37 = .ok (.aload_n 0, 1) := by decide +kernel
theorem dX11_connector_38 : decode cX11_connector 38 = .ok (.getfield 10, 3) := by decide +kernel
theorem dX11_connector_41 : decode cX11_connector 41 = .ok (.getfield 83, 3) := by decide +kernel
theorem dX11_connector_44 : decode cX11_connector 44 = .ok (.invokevirtual 72, 3) := by decide +kernel
theorem dX11_connector_47 : decode cX11_connector 47 = .ok (.bipush 8, 2) := by decide +kernel
theorem dX11_connector_49 : decode cX11_connector 49 = .ok (.if_icmp .ge 7, 3) := by decide +kernel
theorem dX11_connector_52 : decode cX11_connector 52 = .ok (.iconst 1, 1) := by decide +kernel
theorem dX11_connector_53 : decode cX11_connector 53 = .ok (.goto 4, 3) := by decide +kernel
theorem dX11_connector_56 : decode cX11_connector 56 = .ok (.iconst 0, 1) := by decide +kernel
theorem dX11_connector_57 : decode cX11_connector 57 = .ok (.invokestatic 76, 3) := by decide +kernel
theorem dX11_connector_60 : decode cX11_connector 60 = .ok (.aload_n 0, 1) := by decide +kernel
theorem dX11_connector_61 : decode cX11_connector 61 = .ok (.getfield 10, 3) := by decide +kernel
theorem dX11_connector_64 : decode cX11_connector 64 = .ok (.iload_n 1, 1) := by decide +kernel
theorem dX11_connector_65 : decode cX11_connector 65 = .ok (.iload_n 2, 1) := by decide +kernel
theorem dX11_connector_66 : decode cX11_connector 66 = .ok (.iload_n 3, 1) := by decide +kernel
theorem dX11_connector_67 : decode cX11_connector 67 = .ok (.invokevirtual 86, 3) := by decide +kernel
theorem dX11_connector_70 : decode cX11_connector 70 = .ok (.ireturn, 1) := by decide +kernel
theorem dL_connector_0 : decode cL_connector 0 = .ok (.aload 4, 2) := by decide +kernel
theorem dL_connector_2 : decode cL_connector 2 = .ok (.iconst 0, 1) := by decide +kernel
theorem dL_connector_3 : decode cL_connector 3 = .ok (.aload_n 0, 1) := by decide +kernel
theorem dL_connector_4 : decode cL_connector 4 = .ok (.iload_n 1, 1) := by decide +kernel
theorem dL_connector_5 : decode cL_connector 5 = .ok (.iload_n 2, 1) := by decide +kernel
theorem dL_connector_6 : decode cL_connector 6 = .ok (.iload_n 3, 1) := by decide +kernel
theorem dL_connector_7 : decode cL_connector 7 = .ok (.invokevirtual 19, 3) := by decide +kernel
theorem dL_connector_10 : decode cL_connector 10 = .ok (.i2l, 1) := by decide +kernel
theorem dL_connector_11 : decode cL_connector 11 = .ok (.lastore, 1) := by decide +kernel
theorem dL_connector_12 : decode cL_connector 12 = .ok (.goto 15, 3) := by decide +kernel
theorem dL_connector_15 : decode cL_connector 15 = .ok (.astore 5, 2) := by decide +kernel
theorem dL_connector_17 : decode cL_connector 17 = .ok (.iconst 1, 1) := by decide +kernel
theorem dL_connector_18 : decode cL_connector 18 = .ok (.ireturn, 1) := by decide +kernel
theorem dL_connector_19 : decode cL_connector 19 = .ok (.astore 5, 2) := by decide +kernel
theorem dL_connector_21 : decode cL_connector 21 = .ok (.iconst 2, 1) := by decide +kernel
theorem dL_connector_22 : decode cL_connector 22 = .ok (.ireturn, 1) := by decide +kernel
theorem dL_connector_23 : decode cL_connector 23 = .ok (.astore 5, 2) := by decide +kernel
theorem dL_connector_25 : decode cL_connector 25 = .ok (.iconst 3, 1) := by decide +kernel
theorem dL_connector_26 : decode cL_connector 26 = .ok (.ireturn, 1) := by decide +kernel
theorem dL_connector_27 : decode cL_connector 27 = .ok (.iconst 0, 1) := by decide +kernel
theorem dL_connector_28 : decode cL_connector 28 = .ok (.ireturn, 1) := by decide +kernel
theorem dX12_connector_0 : decode cX12_connector 0 = .ok (.iload_n 2, 1) := by decide +kernel
theorem dX12_connector_1 : decode cX12_connector 1 = .ok (.iconst 1, 1) := by decide +kernel
theorem dX12_connector_2 : decode cX12_connector 2 = .ok (.bipush 8, 2) := by decide +kernel
theorem dX12_connector_4 : decode cX12_connector 4 = .ok (.invokestatic 120, 3) := by decide +kernel
theorem dX12_connector_7 : decode cX12_connector 7 = .ok (.ifCond .eq 17, 3) := by decide +kernel
theorem dX12_connector_10 : decode cX12_connector 10 = .ok (.iload_n 3, 1) := by decide +kernel
theorem dX12_connector_11 : decode cX12_connector 11 = .ok (.iconst 0, 1) := by decide +kernel
theorem dX12_connector_12 : decode cX12_connector 12 = .ok (.bipush 9, 2) := by decide +kernel
theorem dX12_connector_14 : decode cX12_connector 14 = .ok (.invokestatic 120, 3) := by decide +kernel
theorem dX12_connector_17 : decode cX12_connector 17 = .ok (.ifCond .eq 7, 3) := by decide +kernel
theorem dX12_connector_20 : decode cX12_connector 20 = .ok (.iconst 1, 1) := by decide +kernel
theorem dX12_connector_21 : decode cX12_connector 21 = .ok (.goto 4, 3) := by decide +kernel
theorem dX12_connector_24 : decode cX12_connector 24 = .ok (.iconst 0, 1) := by decide +kernel
theorem dX12_connector_25 : decode cX12_connector 25 = .ok (.istore 4, 2) := by decide +kernel
theorem dX12_connector_27 : decode cX12_connector 27 = .ok (.aload_n 0, 1) := by decide +kernel
theorem dX12_connector_28 : decode cX12_connector 28 = .ok (.iload_n 1, 1) := by decide +kernel
theorem dX12_connector_29 : decode cX12_connector 29 = .ok (.invokestatic 127, 3) := by decide +kernel
theorem dX12_connector_32 : decode cX12_connector 32 = .ok (.ifCond .ne 7, 3) := by decide +kernel
theorem dX12_connector_35 : decode cX12_connector 35 = .ok (.iconst 1, 1) := by decide +kernel
theorem dX12_connector_36 : decode cX12_connector 36 = .ok (.goto 26, 3) := by decide +kernel
theorem dX12_connector_39 : decode cX12_connector 39 = .ok (.iload 4, 2) := by decide +kernel
theorem dX12_connector_41 : decode cX12_connector 41 = .ok (.ifCond .ne 7, 3) := by decide +kernel
theorem dX12_connector_44 : decode cX12_connector 44 = .ok (.iconst 2, 1) := by decide +kernel
theorem dX12_connector_45 : decode cX12_connector 45 = .ok (.goto 17, 3) := by decide +kernel
theorem dX12_connector_48 : decode cX12_connector 48 = .ok (.aload_n 0, 1) := by decide +kernel
theorem dX12_connector_49 : decode cX12_connector 49 = .ok (.getfield 124, 3) := by decide +kernel
theorem dX12_connector_52 : decode cX12_connector 52 = .ok (.bipush 8, 2) := by decide +kernel
theorem dX12_connector_54 : decode cX12_connector 54 = .ok (.if_icmp .ne 7, 3) := by decide +kernel
theorem dX12_connector_57 : decode cX12_connector 57 = .ok (.iconst 3, 1) := by decide +kernel
theorem dX12_connector_58 : decode cX12_connector 58 = .ok (.goto 4, 3) := by decide +kernel
theorem dX12_connector_61 : decode cX12_connector 61 = .ok (.iconst 0, 1) := by decide +kernel
theorem dX12_connector_62 : decode cX12_connector 62 = .ok (.invokevirtual 134, 3) := by decide +kernel
theorem dX12_connector_65 : decode cX12_connector 65 = .ok (.ifCond .eq 5, 3) := by decide +kernel
theorem dX12_connector_68 : decode cX12_connector 68 = .ok (.iconst 0, 1) := by decide +kernel
theorem dX12_connector_69 : decode cX12_connector 69 = .ok (.ireturn, 1) := by decide +kernel
theorem dX12_connector_70 : decode cX12_connector 70 = .ok (.aload_n 0, 1) := by decide +kernel
theorem dX12_connector_71 : decode cX12_connector 71 = .ok (.getfield 22, 3) := by decide +kernel
theorem dX12_connector_74 : decode cX12_connector 74 = .ok (.aload_n 0, 1) := by decide +kernel
theorem dX12_connector_75 : decode cX12_connector 75 = .ok (.getfield 124, 3) := by decide +kernel
theorem dX12_connector_78 : decode cX12_connector 78 = .ok (.iload_n 1, 1) := by decide +kernel
theorem dX12_connector_79 : decode cX12_connector 79 = .ok (.iastore, 1) := by decide +kernel
theorem dX12_connector_80 : decode cX12_connector 80 = .ok (.aload_n 0, 1) := by decide +kernel
theorem dX12_connector_81 : decode cX12_connector 81 = .ok (.getfield 25, 3) := by decide +kernel
theorem dX12_connector_84 : decode cX12_connector 84 = .ok (.aload_n 0, 1) := by decide +kernel
theorem dX12_connector_85 : decode cX12_connector 85 = .ok (.getfield 124, 3) := by decide +kernel
theorem dX12_connector_88 : decode cX12_connector 88 = .ok (.iload_n 2, 1) := by decide +kernel
theorem dX12_connector_89 : decode cX12_connector 89 = .ok (.iastore, 1) := by decide +kernel
theorem dX12_connector_90 : decode cX12_connector 90 = .ok (.aload_n 0, 1) := by decide +kernel
theorem dX12_connector_91 : decode cX12_connector 91 = .ok (.getfield 28, 3) := by decide +kernel
theorem dX12_connector_94 : decode cX12_connector 94 = .ok (.aload_n 0, 1) := by decide +kernel
theorem dX12_connector_95 : decode cX12_connector 95 = .ok (.getfield 124, 3) := by decide +kernel
theorem dX12_connector_98 : decode cX12_connector 98 = .ok (.iload_n 3, 1) := by decide +kernel
theorem dX12_connector_99 : decode cX12_connector 99 = .ok (.iastore, 1) := by decide +kernel
theorem dX12_connector_100 : decode cX12_connector 100 = .ok (.aload_n 0, 1) := by decide +kernel
theorem dX12_connector_101 : decode cX12_connector 101 = .ok (.dup, 1) := by decide +kernel
theorem dX12_connector_102 : decode cX12_connector 102 = .ok (.getfield 124, 3) := by decide +kernel
theorem dX12_connector_105 : decode cX12_connector 105 = .ok (.iconst 1, 1) := by decide +kernel
theorem dX12_connector_106 : decode cX12_connector 106 = .ok (.iadd, 1) := by decide +kernel
theorem dX12_connector_107 : decode cX12_connector 107 = .ok (.putfield 124, 3) := by decide +kernel
theorem dX12_connector_110 : decode cX12_connector 110 = .ok (.aload_n 0, 1) := by decide +kernel
theorem dX12_connector_111 : decode cX12_connector 111 = .ok (.getfield 124, 3) := by decide +kernel
theorem dX12_connector_114 : decode cX12_connector 114 = .ok (.iconst 1, 1) := by decide +kernel
theorem dX12_connector_115 : decode cX12_connector 115 = .ok (.isub, 1) := by decide +kernel
theorem dX12_connector_116 : decode cX12_connector 116 = .ok (.ireturn, 1) := by decide +kernel
theorem dJ3_checkIndex_8e157_0 : decode cJ3_checkIndex_8e157 0 = .ok (.iload_n 0, 1) := by decide +kernel
theorem dJ3_checkIndex_8e157_1 : decode cJ3_checkIndex_8e157 1 = .ok (.ifCond .lt 8, 3) := by decide +kernel
theorem dJ3_checkIndex_8e157_4 : decode cJ3_checkIndex_8e157 4 = .ok (.iload_n 0, 1) := by decide +kernel
theorem dJ3_checkIndex_8e157_5 : decode cJ3_checkIndex_8e157 5 = .ok (.iload_n 1, 1) := by decide +kernel
theorem dJ3_checkIndex_8e157_6 : decode cJ3_checkIndex_8e157 6 = .ok (.if_icmp .lt 10, 3) := by decide +kernel
theorem dJ3_checkIndex_8e157_9 : decode cJ3_checkIndex_8e157 9 = .ok (.aload_n 2, 1) := by decide +kernel
theorem dJ3_checkIndex_8e157_10 : decode cJ3_checkIndex_8e157 10 = .ok (.iload_n 0, 1) := by decide +kernel
theorem dJ3_checkIndex_8e157_11 : decode cJ3_checkIndex_8e157 11 = .ok (.iload_n 1, 1) := by decide +kernel
theorem dJ3_checkIndex_8e157_16 : decode cJ3_checkIndex_8e157 16 = .ok (.iload_n 0, 1) := by decide +kernel
theorem dJ3_checkIndex_8e157_17 : decode cJ3_checkIndex_8e157 17 = .ok (.ireturn, 1) := by decide +kernel
theorem dJ15_checkIndex_7cf53_0 : decode cJ15_checkIndex_7cf53 0 = .ok (.iload_n 0, 1) := by decide +kernel
theorem dJ15_checkIndex_7cf53_1 : decode cJ15_checkIndex_7cf53 1 = .ok (.iload_n 1, 1) := by decide +kernel
theorem dJ15_checkIndex_7cf53_2 : decode cJ15_checkIndex_7cf53 2 = .ok (.aconst_null, 1) := by decide +kernel
theorem dJ15_checkIndex_7cf53_3 : decode cJ15_checkIndex_7cf53 3 = .ok (.invokestatic 105, 3) := by decide +kernel
theorem dJ15_checkIndex_7cf53_6 : decode cJ15_checkIndex_7cf53 6 = .ok (.ireturn, 1) := by decide +kernel
theorem dJx4a65c_elementData_915e3_0 : decode cJx4a65c_elementData_915e3 0 = .ok (.aload_n 0, 1) := by decide +kernel
theorem dJx4a65c_elementData_915e3_1 : decode cJx4a65c_elementData_915e3 1 = .ok (.getfield 9, 3) := by decide +kernel
theorem dJx4a65c_elementData_915e3_4 : decode cJx4a65c_elementData_915e3 4 = .ok (.iload_n 1, 1) := by decide +kernel
theorem dJx4a65c_elementData_915e3_5 : decode cJx4a65c_elementData_915e3 5 = .ok (.aaload, 1) := by decide +kernel
theorem dJx4a65c_elementData_915e3_6 : decode cJx4a65c_elementData_915e3 6 = .ok (.areturn, 1) := by decide +kernel
theorem dJx4a65c_get_915e3_0 : decode cJx4a65c_get_915e3 0 = .ok (.iload_n 1, 1) := by decide +kernel
theorem dJx4a65c_get_915e3_1 : decode cJx4a65c_get_915e3 1 = .ok (.aload_n 0, 1) := by decide +kernel
theorem dJx4a65c_get_915e3_2 : decode cJx4a65c_get_915e3 2 = .ok (.getfield 48, 3) := by decide +kernel
theorem dJx4a65c_get_915e3_5 : decode cJx4a65c_get_915e3 5 = .ok (.invokestatic 118, 3) := by decide +kernel
theorem dJx4a65c_get_915e3_8 : decode cJx4a65c_get_915e3 8 = .ok (.pop, 1) := by decide +kernel
theorem dJx4a65c_get_915e3_9 : decode cJx4a65c_get_915e3 9 = .ok (.aload_n 0, 1) := by decide +kernel
theorem dJx4a65c_get_915e3_10 : decode cJx4a65c_get_915e3 10 = .ok (.iload_n 1, 1) := by decide +kernel
theorem dJx4a65c_get_915e3_11 : decode cJx4a65c_get_915e3 11 = .ok (.invokevirtual 123, 3) := by decide +kernel
theorem dJx4a65c_get_915e3_14 : decode cJx4a65c_get_915e3 14 = .ok (.areturn, 1) := by decide +kernel
theorem dX11_connectorAt_0 : decode cX11_connectorAt 0 = .ok (.iload_n 1, 1) := by decide +kernel
theorem dX11_connectorAt_1 : decode cX11_connectorAt 1 = .ok (.aload_n 0, 1) := by decide +kernel
theorem dX11_connectorAt_2 : decode cX11_connectorAt 2 = .ok (.getfield 10, 3) := by decide +kernel
theorem dX11_connectorAt_5 : decode cX11_connectorAt 5 = .ok (.getfield 83, 3) := by decide +kernel
theorem dX11_connectorAt_8 : decode cX11_connectorAt 8 = .ok (.invokevirtual 72, 3) := by decide +kernel
theorem dX11_connectorAt_11 : decode cX11_connectorAt 11 = .ok (.invokestatic 54, 3) := by decide +kernel
theorem dX11_connectorAt_14 : decode cX11_connectorAt 14 = .ok (.ifCond .ne 11, 3) := by decide +kernel
theorem dX11_connectorAt_17 : decode cX11_connectorAt 17 = .ok (.new 299, 3) := by decide +kernel
theorem dX11_connectorAt_20 : decode cX11_connectorAt 20 = .ok (.dup, 1) := by decide +kernel
theorem dX11_connectorAt_21 : decode cX11_connectorAt 21 = .ok (.invokespecial 301, 3) := by decide +kernel
theorem dX11_connectorAt_24 : decode cX11_connectorAt 24 = .ok (.athrow, 1) := by decide +kernel
theorem dX11_connectorAt_25 : decode cX11_connectorAt 25 = .ok (.aload_n 0, 1) := by decide +kernel
theorem dX11_connectorAt_26 : decode cX11_connectorAt 26 = .ok (.getfield 10, 3) := by decide +kernel
theorem dX11_connectorAt_29 : decode cX11_connectorAt 29 = .ok (.getfield 83, 3) := by decide +kernel
theorem dX11_connectorAt_32 : decode cX11_connectorAt 32 = .ok (.iload_n 1, 1) := by decide +kernel
theorem dX11_connectorAt_33 : decode cX11_connectorAt 33 = .ok (.invokevirtual 292, 3) := by decide +kernel
theorem dX11_connectorAt_36 : decode cX11_connectorAt 36 = .ok (.checkcast 95, 3) := by decide +kernel
theorem dX11_connectorAt_39 : decode cX11_connectorAt 39 = .ok (.areturn, 1) := by decide +kernel
theorem dX2_fits_0 : decode cX2_fits 0 = .ok (.aload_n 0, 1) := by decide +kernel
theorem dX2_fits_1 : decode cX2_fits 1 = .ok (.getfield 18, 3) := by decide +kernel
theorem dX2_fits_4 : decode cX2_fits 4 = .ok (.aload_n 1, 1) := by decide +kernel
theorem dX2_fits_5 : decode cX2_fits 5 = .ok (.getfield 18, 3) := by decide +kernel
theorem dX2_fits_8 : decode cX2_fits 8 = .ok (.if_icmp .ne 18, 3) := by decide +kernel
theorem dX2_fits_11 : decode cX2_fits 11 = .ok (.aload_n 0, 1) := by decide +kernel
theorem dX2_fits_12 : decode cX2_fits 12 = .ok (.getfield 21, 3) := by decide +kernel
theorem dX2_fits_15 : decode cX2_fits 15 = .ok (.aload_n 1, 1) := by decide +kernel
theorem dX2_fits_16 : decode cX2_fits 16 = .ok (.getfield 21, 3) := by decide +kernel
theorem dX2_fits_19 : decode cX2_fits 19 = .ok (.if_icmp .ne 7, 3) := by decide +kernel
theorem dX2_fits_22 : decode cX2_fits 22 = .ok (.iconst 1, 1) := by decide +kernel
theorem dX2_fits_23 : decode cX2_fits 23 = .ok (.goto 4, 3) := by decide +kernel
theorem dX2_fits_26 : decode cX2_fits 26 = .ok (.iconst 0, 1) := by decide +kernel
theorem dX2_fits_27 : decode cX2_fits 27 = .ok (.ireturn, 1) := by decide +kernel
theorem dX4_pairsThatFitWrong_0 : decode cX4_pairsThatFitWrong 0 = .ok (.iconst 0, 1) := by decide +kernel
theorem dX4_pairsThatFitWrong_1 : decode cX4_pairsThatFitWrong 1 = .ok (.istore_n 1, 1) := by decide +kernel
theorem dX4_pairsThatFitWrong_2 : decode cX4_pairsThatFitWrong 2 = .ok (.iconst 0, 1) := by decide +kernel
theorem dX4_pairsThatFitWrong_3 : decode cX4_pairsThatFitWrong 3 = .ok (.istore_n 2, 1) := by decide +kernel
theorem dX4_pairsThatFitWrong_4 : decode cX4_pairsThatFitWrong 4 = .ok (.iload_n 2, 1) := by decide +kernel
theorem dX4_pairsThatFitWrong_5 : decode cX4_pairsThatFitWrong 5 = .ok (.aload_n 0, 1) := by decide +kernel
theorem dX4_pairsThatFitWrong_6 : decode cX4_pairsThatFitWrong 6 = .ok (.getfield 18, 3) := by decide +kernel
theorem dX4_pairsThatFitWrong_9 : decode cX4_pairsThatFitWrong 9 = .ok (.invokevirtual 35, 3) := by decide +kernel
theorem dX4_pairsThatFitWrong_12 : decode cX4_pairsThatFitWrong 12 = .ok (.if_icmp .ge 75, 3) := by decide +kernel
theorem dX4_pairsThatFitWrong_15 : decode cX4_pairsThatFitWrong 15 = .ok (.aload_n 0, 1) := by decide +kernel
theorem dX4_pairsThatFitWrong_16 : decode cX4_pairsThatFitWrong 16 = .ok (.getfield 18, 3) := by decide +kernel
theorem dX4_pairsThatFitWrong_19 : decode cX4_pairsThatFitWrong 19 = .ok (.iload_n 2, 1) := by decide +kernel
theorem dX4_pairsThatFitWrong_20 : decode cX4_pairsThatFitWrong 20 = .ok (.invokevirtual 51, 3) := by decide +kernel
theorem dX4_pairsThatFitWrong_23 : decode cX4_pairsThatFitWrong 23 = .ok (.checkcast 46, 3) := by decide +kernel
theorem dX4_pairsThatFitWrong_26 : decode cX4_pairsThatFitWrong 26 = .ok (.astore_n 3, 1) := by decide +kernel
theorem dX4_pairsThatFitWrong_27 : decode cX4_pairsThatFitWrong 27 = .ok (.iload_n 2, 1) := by decide +kernel
theorem dX4_pairsThatFitWrong_28 : decode cX4_pairsThatFitWrong 28 = .ok (.iconst 1, 1) := by decide +kernel
theorem dX4_pairsThatFitWrong_29 : decode cX4_pairsThatFitWrong 29 = .ok (.iadd, 1) := by decide +kernel
theorem dX4_pairsThatFitWrong_30 : decode cX4_pairsThatFitWrong 30 = .ok (.istore 4, 2) := by decide +kernel
theorem dX4_pairsThatFitWrong_32 : decode cX4_pairsThatFitWrong 32 = .ok (.iload 4, 2) := by decide +kernel
theorem dX4_pairsThatFitWrong_34 : decode cX4_pairsThatFitWrong 34 = .ok (.aload_n 0, 1) := by decide +kernel
theorem dX4_pairsThatFitWrong_35 : decode cX4_pairsThatFitWrong 35 = .ok (.getfield 18, 3) := by decide +kernel
theorem dX4_pairsThatFitWrong_38 : decode cX4_pairsThatFitWrong 38 = .ok (.invokevirtual 35, 3) := by decide +kernel
theorem dX4_pairsThatFitWrong_41 : decode cX4_pairsThatFitWrong 41 = .ok (.if_icmp .ge 40, 3) := by decide +kernel
theorem dX4_pairsThatFitWrong_44 : decode cX4_pairsThatFitWrong 44 = .ok (.aload_n 3, 1) := by decide +kernel
theorem dX4_pairsThatFitWrong_45 : decode cX4_pairsThatFitWrong 45 = .ok (.aload_n 0, 1) := by decide +kernel
theorem dX4_pairsThatFitWrong_46 : decode cX4_pairsThatFitWrong 46 = .ok (.getfield 18, 3) := by decide +kernel
theorem dX4_pairsThatFitWrong_49 : decode cX4_pairsThatFitWrong 49 = .ok (.iload 4, 2) := by decide +kernel
theorem dX4_pairsThatFitWrong_51 : decode cX4_pairsThatFitWrong 51 = .ok (.invokevirtual 51, 3) := by decide +kernel
theorem dX4_pairsThatFitWrong_54 : decode cX4_pairsThatFitWrong 54 = .ok (.checkcast 46, 3) := by decide +kernel
theorem dX4_pairsThatFitWrong_57 : decode cX4_pairsThatFitWrong 57 = .ok (.invokevirtual 55, 3) := by decide +kernel
theorem dX4_pairsThatFitWrong_60 : decode cX4_pairsThatFitWrong 60 = .ok (.ifCond .eq 15, 3) := by decide +kernel
theorem dX4_pairsThatFitWrong_63 : decode cX4_pairsThatFitWrong 63 = .ok (.aload_n 3, 1) := by decide +kernel
theorem dX4_pairsThatFitWrong_64 : decode cX4_pairsThatFitWrong 64 = .ok (.getfield 59, 3) := by decide +kernel
theorem dX4_pairsThatFitWrong_67 : decode cX4_pairsThatFitWrong 67 = .ok (.iload 4, 2) := by decide +kernel
theorem dX4_pairsThatFitWrong_69 : decode cX4_pairsThatFitWrong 69 = .ok (.if_icmp .eq 6, 3) := by decide +kernel
theorem dX4_pairsThatFitWrong_72 : decode cX4_pairsThatFitWrong 72 = .ok (.iinc 1 1, 3) := by decide +kernel
theorem dX4_pairsThatFitWrong_75 : decode cX4_pairsThatFitWrong 75 = .ok (.iinc 4 1, 3) := by decide +kernel
theorem dX4_pairsThatFitWrong_78 : decode cX4_pairsThatFitWrong 78 = .ok (.goto (-46), 3) := by decide +kernel
theorem dX4_pairsThatFitWrong_81 : decode cX4_pairsThatFitWrong 81 = .ok (.iinc 2 1, 3) := by decide +kernel
theorem dX4_pairsThatFitWrong_84 : decode cX4_pairsThatFitWrong 84 = .ok (.goto (-80), 3) := by decide +kernel
theorem dX4_pairsThatFitWrong_87 : decode cX4_pairsThatFitWrong 87 = .ok (.iload_n 1, 1) := by decide +kernel
theorem dX4_pairsThatFitWrong_88 : decode cX4_pairsThatFitWrong 88 = .ok (.ireturn, 1) := by decide +kernel
theorem dX11_mates_0 : decode cX11_mates 0 = .ok (.aload_n 0, 1) := by decide +kernel
theorem dX11_mates_1 : decode cX11_mates 1 = .ok (.iload_n 1, 1) := by decide +kernel
theorem dX11_mates_2 : decode cX11_mates 2 = .ok (.invokevirtual 90, 3) := by decide +kernel
theorem dX11_mates_5 : decode cX11_mates 5 = .ok (.astore_n 3, 1) := by decide +kernel
theorem dX11_mates_6 : decode cX11_mates 6 = .ok (.aload_n 0, 1) := by decide +kernel
theorem dX11_mates_7 : decode cX11_mates 7 = .ok (.iload_n 2, 1) := by decide +kernel
theorem dX11_mates_8 : decode cX11_mates 8 = .ok (.invokevirtual 90, 3) := by decide +kernel
theorem dX11_mates_11 : decode cX11_mates 11 = .ok (.astore 4, 2) := by decide +kernel
theorem dX11_mates_13 : decode cX11_mates 13 = .ok (.iload_n 1, 1) := by decide +kernel
theorem dX11_mates_14 : decode cX11_mates 14 = .ok (.iload_n 2, 1) := by decide +kernel
theorem dX11_mates_15 : decode cX11_mates 15 = .ok (.if_icmp .eq 7, 3) := by decide +kernel
theorem dX11_mates_18 : decode cX11_mates 18 = .ok (.iconst 1, 1) := by decide +kernel
theorem dX11_mates_19 : decode cX11_mates 19 = .ok (.goto 4, 3) := by decide +kernel
theorem dX11_mates_22 : decode cX11_mates 22 = .ok (.iconst 0, 1) := by decide +kernel
theorem dX11_mates_23 : decode cX11_mates 23 = .ok (.invokestatic 66, 3) := by decide +kernel
theorem dX11_mates_26 : decode cX11_mates 26 = .ok (.aload_n 3, 1) := by decide +kernel
theorem dX11_mates_27 : decode cX11_mates 27 = .ok (.aload 4, 2) := by decide +kernel
theorem dX11_mates_29 : decode cX11_mates 29 = .ok (.invokevirtual 94, 3) := by decide +kernel
theorem dX11_mates_32 : decode cX11_mates 32 = .ok (.ifCond .eq 24, 3) := by decide +kernel
theorem dX11_mates_35 : decode cX11_mates 35 = .ok (.aload_n 3, 1) := by decide +kernel
theorem dX11_mates_36 : decode cX11_mates 36 = .ok (.getfield 100, 3) := by decide +kernel
theorem dX11_mates_39 : decode cX11_mates 39 = .ok (.iconst (-1), 1) := by decide +kernel
theorem dX11_mates_40 : decode cX11_mates 40 = .ok (.if_icmp .ne 16, 3) := by decide +kernel
theorem dX11_mates_43 : decode cX11_mates 43 = .ok (.aload 4, 2) := by decide +kernel
theorem dX11_mates_45 : decode cX11_mates 45 = .ok (.getfield 100, 3) := by decide +kernel
theorem dX11_mates_48 : decode cX11_mates 48 = .ok (.iconst (-1), 1) := by decide +kernel
theorem dX11_mates_49 : decode cX11_mates 49 = .ok (.if_icmp .ne 7, 3) := by decide +kernel
theorem dX11_mates_52 : decode cX11_mates 52 = .ok (.iconst 1, 1) := by decide +kernel
theorem dX11_mates_53 : decode cX11_mates 53 = .ok (.goto 4, 3) := by decide +kernel
theorem dX11_mates_56 : decode cX11_mates 56 = .ok (.iconst 0, 1) := by decide +kernel
theorem dX11_mates_57 : decode cX11_mates 57 = .ok (.invokestatic 76, 3) := by decide +kernel
theorem dX11_mates_60 : decode cX11_mates 60 = .ok (.aload_n 3, 1) := by decide +kernel
theorem dX11_mates_61 : decode cX11_mates 61 = .ok (.iload_n 2, 1) := by decide +kernel
theorem dX11_mates_62 : decode cX11_mates 62 = .ok (.putfield 100, 3) := by decide +kernel
theorem dX11_mates_65 : decode cX11_mates 65 = .ok (.aload 4, 2) := by decide +kernel
theorem dX11_mates_67 : decode cX11_mates 67 = .ok (.iload_n 1, 1) := by decide +kernel
theorem dX11_mates_68 : decode cX11_mates 68 = .ok (.putfield 100, 3) := by decide +kernel
theorem dX11_mates_71 : decode cX11_mates 71 = .ok (.aload_n 0, 1) := by decide +kernel
theorem dX11_mates_72 : decode cX11_mates 72 = .ok (.getfield 10, 3) := by decide +kernel
theorem dX11_mates_75 : decode cX11_mates 75 = .ok (.invokevirtual 103, 3) := by decide +kernel
theorem dX11_mates_78 : decode cX11_mates 78 = .ok (.ireturn, 1) := by decide +kernel
theorem dL_mates_0 : decode cL_mates 0 = .ok (.aload_n 3, 1) := by decide +kernel
theorem dL_mates_1 : decode cL_mates 1 = .ok (.iconst 0, 1) := by decide +kernel
theorem dL_mates_2 : decode cL_mates 2 = .ok (.aload_n 0, 1) := by decide +kernel
theorem dL_mates_3 : decode cL_mates 3 = .ok (.iload_n 1, 1) := by decide +kernel
theorem dL_mates_4 : decode cL_mates 4 = .ok (.iload_n 2, 1) := by decide +kernel
theorem dL_mates_5 : decode cL_mates 5 = .ok (.invokevirtual 23, 3) := by decide +kernel
theorem dL_mates_8 : decode cL_mates 8 = .ok (.i2l, 1) := by decide +kernel
theorem dL_mates_9 : decode cL_mates 9 = .ok (.lastore, 1) := by decide +kernel
theorem dL_mates_10 : decode cL_mates 10 = .ok (.goto 15, 3) := by decide +kernel
theorem dL_mates_13 : decode cL_mates 13 = .ok (.astore 4, 2) := by decide +kernel
theorem dL_mates_15 : decode cL_mates 15 = .ok (.iconst 1, 1) := by decide +kernel
theorem dL_mates_16 : decode cL_mates 16 = .ok (.ireturn, 1) := by decide +kernel
theorem dL_mates_17 : decode cL_mates 17 = .ok (.astore 4, 2) := by decide +kernel
theorem dL_mates_19 : decode cL_mates 19 = .ok (.iconst 2, 1) := by decide +kernel
theorem dL_mates_20 : decode cL_mates 20 = .ok (.ireturn, 1) := by decide +kernel
theorem dL_mates_21 : decode cL_mates 21 = .ok (.astore 4, 2) := by decide +kernel
theorem dL_mates_23 : decode cL_mates 23 = .ok (.iconst 3, 1) := by decide +kernel
theorem dL_mates_24 : decode cL_mates 24 = .ok (.ireturn, 1) := by decide +kernel
theorem dL_mates_25 : decode cL_mates 25 = .ok (.iconst 0, 1) := by decide +kernel
theorem dL_mates_26 : decode cL_mates 26 = .ok (.ireturn, 1) := by decide +kernel
theorem dX12_isConnector_0 : decode cX12_isConnector 0 = .ok (.iload_n 1, 1) := by decide +kernel
theorem dX12_isConnector_1 : decode cX12_isConnector 1 = .ok (.iconst 0, 1) := by decide +kernel
theorem dX12_isConnector_2 : decode cX12_isConnector 2 = .ok (.aload_n 0, 1) := by decide +kernel
theorem dX12_isConnector_3 : decode cX12_isConnector 3 = .ok (.getfield 124, 3) := by decide +kernel
theorem dX12_isConnector_6 : decode cX12_isConnector 6 = .ok (.iconst 1, 1) := by decide +kernel
theorem dX12_isConnector_7 : decode cX12_isConnector 7 = .ok (.isub, 1) := by decide +kernel
theorem dX12_isConnector_8 : decode cX12_isConnector 8 = .ok (.invokestatic 120, 3) := by decide +kernel
theorem dX12_isConnector_11 : decode cX12_isConnector 11 = .ok (.ireturn, 1) := by decide +kernel
theorem dX12_fit_0 : decode cX12_fit 0 = .ok (.aload_n 0, 1) := by decide +kernel
theorem dX12_fit_1 : decode cX12_fit 1 = .ok (.getfield 25, 3) := by decide +kernel
theorem dX12_fit_4 : decode cX12_fit 4 = .ok (.iload_n 1, 1) := by decide +kernel
theorem dX12_fit_5 : decode cX12_fit 5 = .ok (.iaload, 1) := by decide +kernel
theorem dX12_fit_6 : decode cX12_fit 6 = .ok (.aload_n 0, 1) := by decide +kernel
theorem dX12_fit_7 : decode cX12_fit 7 = .ok (.getfield 25, 3) := by decide +kernel
theorem dX12_fit_10 : decode cX12_fit 10 = .ok (.iload_n 2, 1) := by decide +kernel
theorem dX12_fit_11 : decode cX12_fit 11 = .ok (.iaload, 1) := by decide +kernel
theorem dX12_fit_12 : decode cX12_fit 12 = .ok (.if_icmp .ne 22, 3) := by decide +kernel
theorem dX12_fit_15 : decode cX12_fit 15 = .ok (.aload_n 0, 1) := by decide +kernel
theorem dX12_fit_16 : decode cX12_fit 16 = .ok (.getfield 28, 3) := by decide +kernel
theorem dX12_fit_19 : decode cX12_fit 19 = .ok (.iload_n 1, 1) := by decide +kernel
theorem dX12_fit_20 : decode cX12_fit 20 = .ok (.iaload, 1) := by decide +kernel
theorem dX12_fit_21 : decode cX12_fit 21 = .ok (.aload_n 0, 1) := by decide +kernel
theorem dX12_fit_22 : decode cX12_fit 22 = .ok (.getfield 28, 3) := by decide +kernel
theorem dX12_fit_25 : decode cX12_fit 25 = .ok (.iload_n 2, 1) := by decide +kernel
theorem dX12_fit_26 : decode cX12_fit 26 = .ok (.iaload, 1) := by decide +kernel
theorem dX12_fit_27 : decode cX12_fit 27 = .ok (.if_icmp .ne 7, 3) := by decide +kernel
theorem dX12_fit_30 : decode cX12_fit 30 = .ok (.iconst 1, 1) := by decide +kernel
theorem dX12_fit_31 : decode cX12_fit 31 = .ok (.goto 4, 3) := by decide +kernel
theorem dX12_fit_34 : decode cX12_fit 34 = .ok (.iconst 0, 1) := by decide +kernel
theorem dX12_fit_35 : decode cX12_fit 35 = .ok (.ireturn, 1) := by decide +kernel
theorem dX12_mates_0 : decode cX12_mates 0 = .ok (.aload_n 0, 1) := by decide +kernel
theorem dX12_mates_1 : decode cX12_mates 1 = .ok (.iload_n 1, 1) := by decide +kernel
theorem dX12_mates_2 : decode cX12_mates 2 = .ok (.invokevirtual 137, 3) := by decide +kernel
theorem dX12_mates_5 : decode cX12_mates 5 = .ok (.ifCond .eq 15, 3) := by decide +kernel
theorem dX12_mates_8 : decode cX12_mates 8 = .ok (.aload_n 0, 1) := by decide +kernel
theorem dX12_mates_9 : decode cX12_mates 9 = .ok (.iload_n 2, 1) := by decide +kernel
theorem dX12_mates_10 : decode cX12_mates 10 = .ok (.invokevirtual 137, 3) := by decide +kernel
theorem dX12_mates_13 : decode cX12_mates 13 = .ok (.ifCond .eq 7, 3) := by decide +kernel
theorem dX12_mates_16 : decode cX12_mates 16 = .ok (.iconst 1, 1) := by decide +kernel
theorem dX12_mates_17 : decode cX12_mates 17 = .ok (.goto 4, 3) := by decide +kernel
theorem dX12_mates_20 : decode cX12_mates 20 = .ok (.iconst 0, 1) := by decide +kernel
theorem dX12_mates_21 : decode cX12_mates 21 = .ok (.istore_n 3, 1) := by decide +kernel
theorem dX12_mates_22 : decode cX12_mates 22 = .ok (.aload_n 0, 1) := by decide +kernel
theorem dX12_mates_23 : decode cX12_mates 23 = .ok (.iload_n 3, 1) := by decide +kernel
theorem dX12_mates_24 : decode cX12_mates 24 = .ok (.ifCond .ne 7, 3) := by decide +kernel
theorem dX12_mates_27 : decode cX12_mates 27 = .ok (.iconst 1, 1) := by decide +kernel
theorem dX12_mates_28 : decode cX12_mates 28 = .ok (.goto 46, 3) := by decide +kernel
theorem dX12_mates_31 : decode cX12_mates 31 = .ok (.iload_n 1, 1) := by decide +kernel
theorem dX12_mates_32 : decode cX12_mates 32 = .ok (.iload_n 2, 1) := by decide +kernel
theorem dX12_mates_33 : decode cX12_mates 33 = .ok (.if_icmp .ne 7, 3) := by decide +kernel
theorem dX12_mates_36 : decode cX12_mates 36 = .ok (.iconst 2, 1) := by decide +kernel
theorem dX12_mates_37 : decode cX12_mates 37 = .ok (.goto 37, 3) := by decide +kernel
theorem dX12_mates_40 : decode cX12_mates 40 = .ok (.aload_n 0, 1) := by decide +kernel
theorem dX12_mates_41 : decode cX12_mates 41 = .ok (.iload_n 1, 1) := by decide +kernel
theorem dX12_mates_42 : decode cX12_mates 42 = .ok (.iload_n 2, 1) := by decide +kernel
theorem dX12_mates_43 : decode cX12_mates 43 = .ok (.invokevirtual 140, 3) := by decide +kernel
theorem dX12_mates_46 : decode cX12_mates 46 = .ok (.ifCond .eq 23, 3) := by decide +kernel
theorem dX12_mates_49 : decode cX12_mates 49 = .ok (.aload_n 0, 1) := by decide +kernel
theorem dX12_mates_50 : decode cX12_mates 50 = .ok (.getfield 31, 3) := by decide +kernel
theorem dX12_mates_53 : decode cX12_mates 53 = .ok (.iload_n 1, 1) := by decide +kernel
theorem dX12_mates_54 : decode cX12_mates 54 = .ok (.iaload, 1) := by decide +kernel
theorem dX12_mates_55 : decode cX12_mates 55 = .ok (.iconst (-1), 1) := by decide +kernel
theorem dX12_mates_56 : decode cX12_mates 56 = .ok (.if_icmp .ne 13, 3) := by decide +kernel
theorem dX12_mates_59 : decode cX12_mates 59 = .ok (.aload_n 0, 1) := by decide +kernel
theorem dX12_mates_60 : decode cX12_mates 60 = .ok (.getfield 31, 3) := by decide +kernel
theorem dX12_mates_63 : decode cX12_mates 63 = .ok (.iload_n 2, 1) := by decide +kernel
theorem dX12_mates_64 : decode cX12_mates 64 = .ok (.iaload, 1) := by decide +kernel
theorem dX12_mates_65 : decode cX12_mates 65 = .ok (.iconst (-1), 1) := by decide +kernel
theorem dX12_mates_66 : decode cX12_mates 66 = .ok (.if_icmp .eq 7, 3) := by decide +kernel
theorem dX12_mates_69 : decode cX12_mates 69 = .ok (.iconst 3, 1) := by decide +kernel
theorem dX12_mates_70 : decode cX12_mates 70 = .ok (.goto 4, 3) := by decide +kernel
theorem dX12_mates_73 : decode cX12_mates 73 = .ok (.iconst 0, 1) := by decide +kernel
theorem dX12_mates_74 : decode cX12_mates 74 = .ok (.invokevirtual 134, 3) := by decide +kernel
theorem dX12_mates_77 : decode cX12_mates 77 = .ok (.ifCond .eq 5, 3) := by decide +kernel
theorem dX12_mates_80 : decode cX12_mates 80 = .ok (.iconst 0, 1) := by decide +kernel
theorem dX12_mates_81 : decode cX12_mates 81 = .ok (.ireturn, 1) := by decide +kernel
theorem dX12_mates_82 : decode cX12_mates 82 = .ok (.aload_n 0, 1) := by decide +kernel
theorem dX12_mates_83 : decode cX12_mates 83 = .ok (.getfield 31, 3) := by decide +kernel
theorem dX12_mates_86 : decode cX12_mates 86 = .ok (.iload_n 1, 1) := by decide +kernel
theorem dX12_mates_87 : decode cX12_mates 87 = .ok (.iload_n 2, 1) := by decide +kernel
theorem dX12_mates_88 : decode cX12_mates 88 = .ok (.iastore, 1) := by decide +kernel
theorem dX12_mates_89 : decode cX12_mates 89 = .ok (.aload_n 0, 1) := by decide +kernel
theorem dX12_mates_90 : decode cX12_mates 90 = .ok (.getfield 31, 3) := by decide +kernel
theorem dX12_mates_93 : decode cX12_mates 93 = .ok (.iload_n 2, 1) := by decide +kernel
theorem dX12_mates_94 : decode cX12_mates 94 = .ok (.iload_n 1, 1) := by decide +kernel
theorem dX12_mates_95 : decode cX12_mates 95 = .ok (.iastore, 1) := by decide +kernel
theorem dX12_mates_96 : decode cX12_mates 96 = .ok (.iconst 0, 1) := by decide +kernel
theorem dX12_mates_97 : decode cX12_mates 97 = .ok (.istore 4, 2) := by decide +kernel
theorem dX12_mates_99 : decode cX12_mates 99 = .ok (.iconst 0, 1) := by decide +kernel
theorem dX12_mates_100 : decode cX12_mates 100 = .ok (.istore 5, 2) := by decide +kernel
theorem dX12_mates_102 : decode cX12_mates 102 = .ok (.iload 5, 2) := by decide +kernel
theorem dX12_mates_104 : decode cX12_mates 104 = .ok (.aload_n 0, 1) := by decide +kernel
theorem dX12_mates_105 : decode cX12_mates 105 = .ok (.getfield 124, 3) := by decide +kernel
theorem dX12_mates_108 : decode cX12_mates 108 = .ok (.if_icmp .ge 58, 3) := by decide +kernel
theorem dX12_mates_111 : decode cX12_mates 111 = .ok (.iconst 0, 1) := by decide +kernel
theorem dX12_mates_112 : decode cX12_mates 112 = .ok (.istore 6, 2) := by decide +kernel
theorem dX12_mates_114 : decode cX12_mates 114 = .ok (.iload 6, 2) := by decide +kernel
theorem dX12_mates_116 : decode cX12_mates 116 = .ok (.iload 5, 2) := by decide +kernel
theorem dX12_mates_118 : decode cX12_mates 118 = .ok (.if_icmp .ge 42, 3) := by decide +kernel
theorem dX12_mates_121 : decode cX12_mates 121 = .ok (.iload 4, 2) := by decide +kernel
theorem dX12_mates_123 : decode cX12_mates 123 = .ok (.aload_n 0, 1) := by decide +kernel
theorem dX12_mates_124 : decode cX12_mates 124 = .ok (.iload 5, 2) := by decide +kernel
theorem dX12_mates_126 : decode cX12_mates 126 = .ok (.iload 6, 2) := by decide +kernel
theorem dX12_mates_128 : decode cX12_mates 128 = .ok (.invokevirtual 140, 3) := by decide +kernel
theorem dX12_mates_131 : decode cX12_mates 131 = .ok (.ifCond .eq 19, 3) := by decide +kernel
theorem dX12_mates_134 : decode cX12_mates 134 = .ok (.aload_n 0, 1) := by decide +kernel
theorem dX12_mates_135 : decode cX12_mates 135 = .ok (.getfield 31, 3) := by decide +kernel
theorem dX12_mates_138 : decode cX12_mates 138 = .ok (.iload 5, 2) := by decide +kernel
theorem dX12_mates_140 : decode cX12_mates 140 = .ok (.iaload, 1) := by decide +kernel
theorem dX12_mates_141 : decode cX12_mates 141 = .ok (.iload 6, 2) := by decide +kernel
theorem dX12_mates_143 : decode cX12_mates 143 = .ok (.if_icmp .eq 7, 3) := by decide +kernel
theorem dX12_mates_146 : decode cX12_mates 146 = .ok (.iconst 1, 1) := by decide +kernel
theorem dX12_mates_147 : decode cX12_mates 147 = .ok (.goto 4, 3) := by decide +kernel
theorem dX12_mates_150 : decode cX12_mates 150 = .ok (.iconst 0, 1) := by decide +kernel
theorem dX12_mates_151 : decode cX12_mates 151 = .ok (.iadd, 1) := by decide +kernel
theorem dX12_mates_152 : decode cX12_mates 152 = .ok (.istore 4, 2) := by decide +kernel
theorem dX12_mates_154 : decode cX12_mates 154 = .ok (.iinc 6 1, 3) := by decide +kernel
theorem dX12_mates_157 : decode cX12_mates 157 = .ok (.goto (-43), 3) := by decide +kernel
theorem dX12_mates_160 : decode cX12_mates 160 = .ok (.iinc 5 1, 3) := by decide +kernel
theorem dX12_mates_163 : decode cX12_mates 163 = .ok (.goto (-61), 3) := by decide +kernel
theorem dX12_mates_166 : decode cX12_mates 166 = .ok (.iload 4, 2) := by decide +kernel
theorem dX12_mates_168 : decode cX12_mates 168 = .ok (.ireturn, 1) := by decide +kernel
theorem dX2_isFree_0 : decode cX2_isFree 0 = .ok (.aload_n 0, 1) := by decide +kernel
theorem dX2_isFree_1 : decode cX2_isFree 1 = .ok (.getfield 24, 3) := by decide +kernel
theorem dX2_isFree_4 : decode cX2_isFree 4 = .ok (.iconst 1, 1) := by decide +kernel
theorem dX2_isFree_5 : decode cX2_isFree 5 = .ok (.iload_n 1, 1) := by decide +kernel
theorem dX2_isFree_6 : decode cX2_isFree 6 = .ok (.ishl, 1) := by decide +kernel
theorem dX2_isFree_7 : decode cX2_isFree 7 = .ok (.iand, 1) := by decide +kernel
theorem dX2_isFree_8 : decode cX2_isFree 8 = .ok (.ifCond .ne 7, 3) := by decide +kernel
theorem dX2_isFree_11 : decode cX2_isFree 11 = .ok (.iconst 1, 1) := by decide +kernel
theorem dX2_isFree_12 : decode cX2_isFree 12 = .ok (.goto 4, 3) := by decide +kernel
theorem dX2_isFree_15 : decode cX2_isFree 15 = .ok (.iconst 0, 1) := by decide +kernel
theorem dX2_isFree_16 : decode cX2_isFree 16 = .ok (.ireturn, 1) := by decide +kernel
theorem dX8_at_0 : decode cX8_at 0 = .ok (.iload_n 1, 1) := by decide +kernel
theorem dX8_at_1 : decode cX8_at 1 = .ok (.ifCond .lt 21, 3) := by decide +kernel
theorem dX8_at_4 : decode cX8_at 4 = .ok (.iload_n 1, 1) := by decide +kernel
theorem dX8_at_5 : decode cX8_at 5 = .ok (.aload_n 0, 1) := by decide +kernel
theorem dX8_at_6 : decode cX8_at 6 = .ok (.getfield 7, 3) := by decide +kernel
theorem dX8_at_9 : decode cX8_at 9 = .ok (.arraylength, 1) := by decide +kernel
theorem dX8_at_10 : decode cX8_at 10 = .ok (.if_icmp .ge 12, 3) := by decide +kernel
theorem dX8_at_13 : decode cX8_at 13 = .ok (.aload_n 0, 1) := by decide +kernel
theorem dX8_at_14 : decode cX8_at 14 = .ok (.getfield 7, 3) := by decide +kernel
theorem dX8_at_17 : decode cX8_at 17 = .ok (.iload_n 1, 1) := by decide +kernel
theorem dX8_at_18 : decode cX8_at 18 = .ok (.iaload, 1) := by decide +kernel
theorem dX8_at_19 : decode cX8_at 19 = .ok (.goto 4, 3) := by decide +kernel
theorem dX8_at_22 : decode cX8_at 22 = .ok (.iconst 0, 1) := by decide +kernel
theorem dX8_at_23 : decode cX8_at 23 = .ok (.ireturn, 1) := by decide +kernel
theorem dX1_cost_0 : decode cX1_cost 0 = .ok (.aload_n 0, 1) := by decide +kernel
theorem dX1_cost_1 : decode cX1_cost 1 = .ok (.getfield 21, 3) := by decide +kernel
theorem dX1_cost_4 : decode cX1_cost 4 = .ok (.bipush 16, 2) := by decide +kernel
theorem dX1_cost_6 : decode cX1_cost 6 = .ok (.imul, 1) := by decide +kernel
theorem dX1_cost_7 : decode cX1_cost 7 = .ok (.iconst 1, 1) := by decide +kernel
theorem dX1_cost_8 : decode cX1_cost 8 = .ok (.iadd, 1) := by decide +kernel
theorem dX1_cost_9 : decode cX1_cost 9 = .ok (.ireturn, 1) := by decide +kernel
theorem dX1_across_0 : decode cX1_across 0 = .ok (.iload_n 1, 1) := by decide +kernel
theorem dX1_across_1 : decode cX1_across 1 = .ok (.aload_n 0, 1) := by decide +kernel
theorem dX1_across_2 : decode cX1_across 2 = .ok (.getfield 15, 3) := by decide +kernel
theorem dX1_across_5 : decode cX1_across 5 = .ok (.if_icmp .ne 8, 3) := by decide +kernel
theorem dX1_across_8 : decode cX1_across 8 = .ok (.aload_n 0, 1) := by decide +kernel
theorem dX1_across_9 : decode cX1_across 9 = .ok (.getfield 18, 3) := by decide +kernel
theorem dX1_across_12 : decode cX1_across 12 = .ok (.ireturn, 1) := by decide +kernel
theorem dX1_across_13 : decode cX1_across 13 = .ok (.iload_n 1, 1) := by decide +kernel
theorem dX1_across_14 : decode cX1_across 14 = .ok (.aload_n 0, 1) := by decide +kernel
theorem dX1_across_15 : decode cX1_across 15 = .ok (.getfield 18, 3) := by decide +kernel
theorem dX1_across_18 : decode cX1_across 18 = .ok (.if_icmp .ne 10, 3) := by decide +kernel
theorem dX1_across_21 : decode cX1_across 21 = .ok (.aload_n 0, 1) := by decide +kernel
theorem dX1_across_22 : decode cX1_across 22 = .ok (.getfield 15, 3) := by decide +kernel
theorem dX1_across_25 : decode cX1_across 25 = .ok (.goto 4, 3) := by decide +kernel
theorem dX1_across_28 : decode cX1_across 28 = .ok (.iconst (-1), 1) := by decide +kernel
theorem dX1_across_29 : decode cX1_across 29 = .ok (.ireturn, 1) := by decide +kernel
theorem dX4_lowerCost_0 : decode cX4_lowerCost 0 = .ok (.aload_n 0, 1) := by decide +kernel
theorem dX4_lowerCost_1 : decode cX4_lowerCost 1 = .ok (.getfield 29, 3) := by decide +kernel
theorem dX4_lowerCost_4 : decode cX4_lowerCost 4 = .ok (.iload_n 1, 1) := by decide +kernel
theorem dX4_lowerCost_5 : decode cX4_lowerCost 5 = .ok (.aload_n 0, 1) := by decide +kernel
theorem dX4_lowerCost_6 : decode cX4_lowerCost 6 = .ok (.getfield 29, 3) := by decide +kernel
theorem dX4_lowerCost_9 : decode cX4_lowerCost 9 = .ok (.iload_n 1, 1) := by decide +kernel
theorem dX4_lowerCost_10 : decode cX4_lowerCost 10 = .ok (.invokevirtual 66, 3) := by decide +kernel
theorem dX4_lowerCost_13 : decode cX4_lowerCost 13 = .ok (.aload_n 2, 1) := by decide +kernel
theorem dX4_lowerCost_14 : decode cX4_lowerCost 14 = .ok (.invokevirtual 91, 3) := by decide +kernel
theorem dX4_lowerCost_17 : decode cX4_lowerCost 17 = .ok (.aload_n 0, 1) := by decide +kernel
theorem dX4_lowerCost_18 : decode cX4_lowerCost 18 = .ok (.getfield 29, 3) := by decide +kernel
theorem dX4_lowerCost_21 : decode cX4_lowerCost 21 = .ok (.aload_n 2, 1) := by decide +kernel
theorem dX4_lowerCost_22 : decode cX4_lowerCost 22 = .ok (.iload_n 1, 1) := by decide +kernel
theorem dX4_lowerCost_23 : decode cX4_lowerCost 23 = .ok (.invokevirtual 94, 3) := by decide +kernel
theorem dX4_lowerCost_26 : decode cX4_lowerCost 26 = .ok (.invokevirtual 66, 3) := by decide +kernel
theorem dX4_lowerCost_29 : decode cX4_lowerCost 29 = .ok (.iadd, 1) := by decide +kernel
theorem dX4_lowerCost_30 : decode cX4_lowerCost 30 = .ok (.invokestatic 97, 3) := by decide +kernel
theorem dX4_lowerCost_33 : decode cX4_lowerCost 33 = .ok (.invokevirtual 74, 3) := by decide +kernel
theorem dX4_lowerCost_36 : decode cX4_lowerCost 36 = .ok (.return_, 1) := by decide +kernel
theorem dX4_findCosts_0 : decode cX4_findCosts 0 = .ok (.aload_n 0, 1) := by decide +kernel
theorem dX4_findCosts_1 : decode cX4_findCosts 1 = .ok (.getfield 29, 3) := by decide +kernel
theorem dX4_findCosts_4 : decode cX4_findCosts 4 = .ok (.ldc 70, 2) := by decide +kernel
theorem dX4_findCosts_6 : decode cX4_findCosts 6 = .ok (.invokevirtual 71, 3) := by decide +kernel
theorem dX4_findCosts_9 : decode cX4_findCosts 9 = .ok (.aload_n 0, 1) := by decide +kernel
theorem dX4_findCosts_10 : decode cX4_findCosts 10 = .ok (.getfield 29, 3) := by decide +kernel
theorem dX4_findCosts_13 : decode cX4_findCosts 13 = .ok (.iload_n 1, 1) := by decide +kernel
theorem dX4_findCosts_14 : decode cX4_findCosts 14 = .ok (.iconst 0, 1) := by decide +kernel
theorem dX4_findCosts_15 : decode cX4_findCosts 15 = .ok (.invokevirtual 74, 3) := by decide +kernel
theorem dX4_findCosts_18 : decode cX4_findCosts 18 = .ok (.iconst 1, 1) := by decide +kernel
theorem dX4_findCosts_19 : decode cX4_findCosts 19 = .ok (.istore_n 2, 1) := by decide +kernel
theorem dX4_findCosts_20 : decode cX4_findCosts 20 = .ok (.iload_n 2, 1) := by decide +kernel
theorem dX4_findCosts_21 : decode cX4_findCosts 21 = .ok (.bipush 8, 2) := by decide +kernel
theorem dX4_findCosts_23 : decode cX4_findCosts 23 = .ok (.if_icmp .ge 71, 3) := by decide +kernel
theorem dX4_findCosts_26 : decode cX4_findCosts 26 = .ok (.iconst 0, 1) := by decide +kernel
theorem dX4_findCosts_27 : decode cX4_findCosts 27 = .ok (.istore_n 3, 1) := by decide +kernel
theorem dX4_findCosts_28 : decode cX4_findCosts 28 = .ok (.iload_n 3, 1) := by decide +kernel
theorem dX4_findCosts_29 : decode cX4_findCosts 29 = .ok (.aload_n 0, 1) := by decide +kernel
theorem dX4_findCosts_30 : decode cX4_findCosts 30 = .ok (.getfield 12, 3) := by decide +kernel
theorem dX4_findCosts_33 : decode cX4_findCosts 33 = .ok (.invokevirtual 35, 3) := by decide +kernel
theorem dX4_findCosts_36 : decode cX4_findCosts 36 = .ok (.if_icmp .ge 52, 3) := by decide +kernel
theorem dX4_findCosts_39 : decode cX4_findCosts 39 = .ok (.aload_n 0, 1) := by decide +kernel
theorem dX4_findCosts_40 : decode cX4_findCosts 40 = .ok (.getfield 12, 3) := by decide +kernel
theorem dX4_findCosts_43 : decode cX4_findCosts 43 = .ok (.iload_n 3, 1) := by decide +kernel
theorem dX4_findCosts_44 : decode cX4_findCosts 44 = .ok (.invokevirtual 51, 3) := by decide +kernel
theorem dX4_findCosts_47 : decode cX4_findCosts 47 = .ok (.checkcast 33, 3) := by decide +kernel
theorem dX4_findCosts_50 : decode cX4_findCosts 50 = .ok (.astore 4, 2) := by decide +kernel
theorem dX4_findCosts_52 : decode cX4_findCosts 52 = .ok (.aload 4, 2) := by decide +kernel
theorem dX4_findCosts_54 : decode cX4_findCosts 54 = .ok (.getfield 78, 3) := by decide +kernel
theorem dX4_findCosts_57 : decode cX4_findCosts 57 = .ok (.ifCond .le 25, 3) := by decide +kernel
theorem dX4_findCosts_60 : decode cX4_findCosts 60 = .ok (.aload_n 0, 1) := by decide +kernel
theorem dX4_findCosts_61 : decode cX4_findCosts 61 = .ok (.aload 4, 2) := by decide +kernel
theorem dX4_findCosts_63 : decode cX4_findCosts 63 = .ok (.getfield 81, 3) := by decide +kernel
theorem dX4_findCosts_66 : decode cX4_findCosts 66 = .ok (.aload 4, 2) := by decide +kernel
theorem dX4_findCosts_68 : decode cX4_findCosts 68 = .ok (.invokevirtual 84, 3) := by decide +kernel
theorem dX4_findCosts_71 : decode cX4_findCosts 71 = .ok (.aload_n 0, 1) := by decide +kernel
theorem dX4_findCosts_72 : decode cX4_findCosts 72 = .ok (.aload 4, 2) := by decide +kernel
theorem dX4_findCosts_74 : decode cX4_findCosts 74 = .ok (.getfield 88, 3) := by decide +kernel
theorem dX4_findCosts_77 : decode cX4_findCosts 77 = .ok (.aload 4, 2) := by decide +kernel
theorem dX4_findCosts_79 : decode cX4_findCosts 79 = .ok (.invokevirtual 84, 3) := by decide +kernel
theorem dX4_findCosts_82 : decode cX4_findCosts 82 = .ok (.iinc 3 1, 3) := by decide +kernel
theorem dX4_findCosts_85 : decode cX4_findCosts 85 = .ok (.goto (-57), 3) := by decide +kernel
theorem dX4_findCosts_88 : decode cX4_findCosts 88 = .ok (.iinc 2 1, 3) := by decide +kernel
theorem dX4_findCosts_91 : decode cX4_findCosts 91 = .ok (.goto (-71), 3) := by decide +kernel
theorem dX4_findCosts_94 : decode cX4_findCosts 94 = .ok (.return_, 1) := by decide +kernel
theorem dX4_hasWay_0 : decode cX4_hasWay 0 = .ok (.aload_n 0, 1) := by decide +kernel
theorem dX4_hasWay_1 : decode cX4_hasWay 1 = .ok (.iload_n 2, 1) := by decide +kernel
theorem dX4_hasWay_2 : decode cX4_hasWay 2 = .ok (.invokevirtual 63, 3) := by decide +kernel
theorem dX4_hasWay_5 : decode cX4_hasWay 5 = .ok (.aload_n 0, 1) := by decide +kernel
theorem dX4_hasWay_6 : decode cX4_hasWay 6 = .ok (.getfield 29, 3) := by decide +kernel
theorem dX4_hasWay_9 : decode cX4_hasWay 9 = .ok (.iload_n 1, 1) := by decide +kernel
theorem dX4_hasWay_10 : decode cX4_hasWay 10 = .ok (.invokevirtual 66, 3) := by decide +kernel
theorem dX4_hasWay_13 : decode cX4_hasWay 13 = .ok (.ldc 70, 2) := by decide +kernel
theorem dX4_hasWay_15 : decode cX4_hasWay 15 = .ok (.if_icmp .ge 7, 3) := by decide +kernel
theorem dX4_hasWay_18 : decode cX4_hasWay 18 = .ok (.iconst 1, 1) := by decide +kernel
theorem dX4_hasWay_19 : decode cX4_hasWay 19 = .ok (.goto 4, 3) := by decide +kernel
theorem dX4_hasWay_22 : decode cX4_hasWay 22 = .ok (.iconst 0, 1) := by decide +kernel
theorem dX4_hasWay_23 : decode cX4_hasWay 23 = .ok (.ireturn, 1) := by decide +kernel
theorem dX10_init_0 : decode cX10_init 0 = .ok (.aload_n 0, 1) := by decide +kernel
theorem dX10_init_1 : decode cX10_init 1 = .ok (.invokespecial 3, 3) := by decide +kernel
theorem dX10_init_4 : decode cX10_init 4 = .ok (.aload_n 0, 1) := by decide +kernel
theorem dX10_init_5 : decode cX10_init 5 = .ok (.aload_n 1, 1) := by decide +kernel
theorem dX10_init_6 : decode cX10_init 6 = .ok (.putfield 9, 3) := by decide +kernel
theorem dX10_init_9 : decode cX10_init 9 = .ok (.aload_n 0, 1) := by decide +kernel
theorem dX10_init_10 : decode cX10_init 10 = .ok (.iload_n 2, 1) := by decide +kernel
theorem dX10_init_11 : decode cX10_init 11 = .ok (.putfield 15, 3) := by decide +kernel
theorem dX10_init_14 : decode cX10_init 14 = .ok (.aload_n 0, 1) := by decide +kernel
theorem dX10_init_15 : decode cX10_init 15 = .ok (.aload_n 3, 1) := by decide +kernel
theorem dX10_init_16 : decode cX10_init 16 = .ok (.putfield 19, 3) := by decide +kernel
theorem dX10_init_19 : decode cX10_init 19 = .ok (.aload_n 0, 1) := by decide +kernel
theorem dX10_init_20 : decode cX10_init 20 = .ok (.iload 4, 2) := by decide +kernel
theorem dX10_init_22 : decode cX10_init 22 = .ok (.putfield 22, 3) := by decide +kernel
theorem dX10_init_25 : decode cX10_init 25 = .ok (.aload_n 0, 1) := by decide +kernel
theorem dX10_init_26 : decode cX10_init 26 = .ok (.iload 5, 2) := by decide +kernel
theorem dX10_init_28 : decode cX10_init 28 = .ok (.putfield 25, 3) := by decide +kernel
theorem dX10_init_31 : decode cX10_init 31 = .ok (.aload_n 0, 1) := by decide +kernel
theorem dX10_init_32 : decode cX10_init 32 = .ok (.new 28, 3) := by decide +kernel
theorem dX10_init_35 : decode cX10_init 35 = .ok (.dup, 1) := by decide +kernel
theorem dX10_init_36 : decode cX10_init 36 = .ok (.invokespecial 30, 3) := by decide +kernel
theorem dX10_init_39 : decode cX10_init 39 = .ok (.putfield 31, 3) := by decide +kernel
theorem dX10_init_42 : decode cX10_init 42 = .ok (.return_, 1) := by decide +kernel
theorem dX2_take_0 : decode cX2_take 0 = .ok (.aload_n 0, 1) := by decide +kernel
theorem dX2_take_1 : decode cX2_take 1 = .ok (.dup, 1) := by decide +kernel
theorem dX2_take_2 : decode cX2_take 2 = .ok (.getfield 24, 3) := by decide +kernel
theorem dX2_take_5 : decode cX2_take 5 = .ok (.iconst 1, 1) := by decide +kernel
theorem dX2_take_6 : decode cX2_take 6 = .ok (.iload_n 1, 1) := by decide +kernel
theorem dX2_take_7 : decode cX2_take 7 = .ok (.ishl, 1) := by decide +kernel
theorem dX2_take_8 : decode cX2_take 8 = .ok (.ior, 1) := by decide +kernel
theorem dX2_take_9 : decode cX2_take 9 = .ok (.putfield 24, 3) := by decide +kernel
theorem dX2_take_12 : decode cX2_take 12 = .ok (.return_, 1) := by decide +kernel
theorem dX10_putIn_0 : decode cX10_putIn 0 = .ok (.aload_n 0, 1) := by decide +kernel
theorem dX10_putIn_1 : decode cX10_putIn 1 = .ok (.getfield 9, 3) := by decide +kernel
theorem dX10_putIn_4 : decode cX10_putIn 4 = .ok (.aload_n 0, 1) := by decide +kernel
theorem dX10_putIn_5 : decode cX10_putIn 5 = .ok (.getfield 15, 3) := by decide +kernel
theorem dX10_putIn_8 : decode cX10_putIn 8 = .ok (.invokevirtual 35, 3) := by decide +kernel
theorem dX10_putIn_11 : decode cX10_putIn 11 = .ok (.aload_n 0, 1) := by decide +kernel
theorem dX10_putIn_12 : decode cX10_putIn 12 = .ok (.getfield 19, 3) := by decide +kernel
theorem dX10_putIn_15 : decode cX10_putIn 15 = .ok (.aload_n 0, 1) := by decide +kernel
theorem dX10_putIn_16 : decode cX10_putIn 16 = .ok (.getfield 22, 3) := by decide +kernel
theorem dX10_putIn_19 : decode cX10_putIn 19 = .ok (.invokevirtual 35, 3) := by decide +kernel
theorem dX10_putIn_22 : decode cX10_putIn 22 = .ok (.return_, 1) := by decide +kernel
theorem dX4_lowestOnward_0 : decode cX4_lowestOnward 0 = .ok (.iconst 0, 1) := by decide +kernel
theorem dX4_lowestOnward_1 : decode cX4_lowestOnward 1 = .ok (.istore_n 2, 1) := by decide +kernel
theorem dX4_lowestOnward_2 : decode cX4_lowestOnward 2 = .ok (.iload_n 2, 1) := by decide +kernel
theorem dX4_lowestOnward_3 : decode cX4_lowestOnward 3 = .ok (.aload_n 0, 1) := by decide +kernel
theorem dX4_lowestOnward_4 : decode cX4_lowestOnward 4 = .ok (.getfield 12, 3) := by decide +kernel
theorem dX4_lowestOnward_7 : decode cX4_lowestOnward 7 = .ok (.invokevirtual 35, 3) := by decide +kernel
theorem dX4_lowestOnward_10 : decode cX4_lowestOnward 10 = .ok (.if_icmp .ge 68, 3) := by decide +kernel
theorem dX4_lowestOnward_13 : decode cX4_lowestOnward 13 = .ok (.aload_n 0, 1) := by decide +kernel
theorem dX4_lowestOnward_14 : decode cX4_lowestOnward 14 = .ok (.getfield 12, 3) := by decide +kernel
theorem dX4_lowestOnward_17 : decode cX4_lowestOnward 17 = .ok (.iload_n 2, 1) := by decide +kernel
theorem dX4_lowestOnward_18 : decode cX4_lowestOnward 18 = .ok (.invokevirtual 51, 3) := by decide +kernel
theorem dX4_lowestOnward_21 : decode cX4_lowestOnward 21 = .ok (.checkcast 33, 3) := by decide +kernel
theorem dX4_lowestOnward_24 : decode cX4_lowestOnward 24 = .ok (.astore_n 3, 1) := by decide +kernel
theorem dX4_lowestOnward_25 : decode cX4_lowestOnward 25 = .ok (.aload_n 3, 1) := by decide +kernel
theorem dX4_lowestOnward_26 : decode cX4_lowestOnward 26 = .ok (.iload_n 1, 1) := by decide +kernel
theorem dX4_lowestOnward_27 : decode cX4_lowestOnward 27 = .ok (.invokevirtual 94, 3) := by decide +kernel
theorem dX4_lowestOnward_30 : decode cX4_lowestOnward 30 = .ok (.istore 4, 2) := by decide +kernel
theorem dX4_lowestOnward_32 : decode cX4_lowestOnward 32 = .ok (.aload_n 3, 1) := by decide +kernel
theorem dX4_lowestOnward_33 : decode cX4_lowestOnward 33 = .ok (.getfield 78, 3) := by decide +kernel
theorem dX4_lowestOnward_36 : decode cX4_lowestOnward 36 = .ok (.ifCond .le 36, 3) := by decide +kernel
theorem dX4_lowestOnward_39 : decode cX4_lowestOnward 39 = .ok (.iload 4, 2) := by decide +kernel
theorem dX4_lowestOnward_41 : decode cX4_lowestOnward 41 = .ok (.iconst (-1), 1) := by decide +kernel
theorem dX4_lowestOnward_42 : decode cX4_lowestOnward 42 = .ok (.if_icmp .eq 30, 3) := by decide +kernel
theorem dX4_lowestOnward_45 : decode cX4_lowestOnward 45 = .ok (.aload_n 3, 1) := by decide +kernel
theorem dX4_lowestOnward_46 : decode cX4_lowestOnward 46 = .ok (.invokevirtual 91, 3) := by decide +kernel
theorem dX4_lowestOnward_49 : decode cX4_lowestOnward 49 = .ok (.aload_n 0, 1) := by decide +kernel
theorem dX4_lowestOnward_50 : decode cX4_lowestOnward 50 = .ok (.getfield 29, 3) := by decide +kernel
theorem dX4_lowestOnward_53 : decode cX4_lowestOnward 53 = .ok (.iload 4, 2) := by decide +kernel
theorem dX4_lowestOnward_55 : decode cX4_lowestOnward 55 = .ok (.invokevirtual 66, 3) := by decide +kernel
theorem dX4_lowestOnward_58 : decode cX4_lowestOnward 58 = .ok (.iadd, 1) := by decide +kernel
theorem dX4_lowestOnward_59 : decode cX4_lowestOnward 59 = .ok (.aload_n 0, 1) := by decide +kernel
theorem dX4_lowestOnward_60 : decode cX4_lowestOnward 60 = .ok (.getfield 29, 3) := by decide +kernel
theorem dX4_lowestOnward_63 : decode cX4_lowestOnward 63 = .ok (.iload_n 1, 1) := by decide +kernel
theorem dX4_lowestOnward_64 : decode cX4_lowestOnward 64 = .ok (.invokevirtual 66, 3) := by decide +kernel
theorem dX4_lowestOnward_67 : decode cX4_lowestOnward 67 = .ok (.if_icmp .ne 5, 3) := by decide +kernel
theorem dX4_lowestOnward_70 : decode cX4_lowestOnward 70 = .ok (.aload_n 3, 1) := by decide +kernel
theorem dX4_lowestOnward_71 : decode cX4_lowestOnward 71 = .ok (.areturn, 1) := by decide +kernel
theorem dX4_lowestOnward_72 : decode cX4_lowestOnward 72 = .ok (.iinc 2 1, 3) := by decide +kernel
theorem dX4_lowestOnward_75 : decode cX4_lowestOnward 75 = .ok (.goto (-73), 3) := by decide +kernel
theorem dX4_lowestOnward_78 : decode cX4_lowestOnward 78 = .ok (.aconst_null, 1) := by decide +kernel
theorem dX4_lowestOnward_79 : decode cX4_lowestOnward 79 = .ok (.areturn, 1) := by decide +kernel
theorem dX10_goBy_0 : decode cX10_goBy 0 = .ok (.aload_n 0, 1) := by decide +kernel
theorem dX10_goBy_1 : decode cX10_goBy 1 = .ok (.getfield 31, 3) := by decide +kernel
theorem dX10_goBy_4 : decode cX10_goBy 4 = .ok (.aload_n 1, 1) := by decide +kernel
theorem dX10_goBy_5 : decode cX10_goBy 5 = .ok (.invokevirtual 41, 3) := by decide +kernel
theorem dX10_goBy_8 : decode cX10_goBy 8 = .ok (.pop, 1) := by decide +kernel
theorem dX10_goBy_9 : decode cX10_goBy 9 = .ok (.aload_n 1, 1) := by decide +kernel
theorem dX10_goBy_10 : decode cX10_goBy 10 = .ok (.dup, 1) := by decide +kernel
theorem dX10_goBy_11 : decode cX10_goBy 11 = .ok (.getfield 45, 3) := by decide +kernel
theorem dX10_goBy_14 : decode cX10_goBy 14 = .ok (.iconst 1, 1) := by decide +kernel
theorem dX10_goBy_15 : decode cX10_goBy 15 = .ok (.isub, 1) := by decide +kernel
theorem dX10_goBy_16 : decode cX10_goBy 16 = .ok (.putfield 45, 3) := by decide +kernel
theorem dX10_goBy_19 : decode cX10_goBy 19 = .ok (.aload_n 0, 1) := by decide +kernel
theorem dX10_goBy_20 : decode cX10_goBy 20 = .ok (.dup, 1) := by decide +kernel
theorem dX10_goBy_21 : decode cX10_goBy 21 = .ok (.getfield 50, 3) := by decide +kernel
theorem dX10_goBy_24 : decode cX10_goBy 24 = .ok (.aload_n 1, 1) := by decide +kernel
theorem dX10_goBy_25 : decode cX10_goBy 25 = .ok (.getfield 53, 3) := by decide +kernel
theorem dX10_goBy_28 : decode cX10_goBy 28 = .ok (.iadd, 1) := by decide +kernel
theorem dX10_goBy_29 : decode cX10_goBy 29 = .ok (.putfield 50, 3) := by decide +kernel
theorem dX10_goBy_32 : decode cX10_goBy 32 = .ok (.return_, 1) := by decide +kernel
theorem dX4_layAlong_0 : decode cX4_layAlong 0 = .ok (.aload_n 0, 1) := by decide +kernel
theorem dX4_layAlong_1 : decode cX4_layAlong 1 = .ok (.aload_n 1, 1) := by decide +kernel
theorem dX4_layAlong_2 : decode cX4_layAlong 2 = .ok (.getfield 112, 3) := by decide +kernel
theorem dX4_layAlong_5 : decode cX4_layAlong 5 = .ok (.getfield 116, 3) := by decide +kernel
theorem dX4_layAlong_8 : decode cX4_layAlong 8 = .ok (.invokevirtual 63, 3) := by decide +kernel
theorem dX4_layAlong_11 : decode cX4_layAlong 11 = .ok (.aload_n 1, 1) := by decide +kernel
theorem dX4_layAlong_12 : decode cX4_layAlong 12 = .ok (.getfield 117, 3) := by decide +kernel
theorem dX4_layAlong_15 : decode cX4_layAlong 15 = .ok (.getfield 116, 3) := by decide +kernel
theorem dX4_layAlong_18 : decode cX4_layAlong 18 = .ok (.istore_n 2, 1) := by decide +kernel
theorem dX4_layAlong_19 : decode cX4_layAlong 19 = .ok (.iconst 1, 1) := by decide +kernel
theorem dX4_layAlong_20 : decode cX4_layAlong 20 = .ok (.istore_n 3, 1) := by decide +kernel
theorem dX4_layAlong_21 : decode cX4_layAlong 21 = .ok (.iload_n 3, 1) := by decide +kernel
theorem dX4_layAlong_22 : decode cX4_layAlong 22 = .ok (.bipush 8, 2) := by decide +kernel
theorem dX4_layAlong_24 : decode cX4_layAlong 24 = .ok (.if_icmp .ge 46, 3) := by decide +kernel
theorem dX4_layAlong_27 : decode cX4_layAlong 27 = .ok (.iload_n 2, 1) := by decide +kernel
theorem dX4_layAlong_28 : decode cX4_layAlong 28 = .ok (.aload_n 1, 1) := by decide +kernel
theorem dX4_layAlong_29 : decode cX4_layAlong 29 = .ok (.getfield 112, 3) := by decide +kernel
theorem dX4_layAlong_32 : decode cX4_layAlong 32 = .ok (.getfield 116, 3) := by decide +kernel
theorem dX4_layAlong_35 : decode cX4_layAlong 35 = .ok (.if_icmp .eq 35, 3) := by decide +kernel
theorem dX4_layAlong_38 : decode cX4_layAlong 38 = .ok (.aload_n 0, 1) := by decide +kernel
theorem dX4_layAlong_39 : decode cX4_layAlong 39 = .ok (.iload_n 2, 1) := by decide +kernel
theorem dX4_layAlong_40 : decode cX4_layAlong 40 = .ok (.invokevirtual 120, 3) := by decide +kernel
theorem dX4_layAlong_43 : decode cX4_layAlong 43 = .ok (.astore 4, 2) := by decide +kernel
theorem dX4_layAlong_45 : decode cX4_layAlong 45 = .ok (.aload 4, 2) := by decide +kernel
theorem dX4_layAlong_47 : decode cX4_layAlong 47 = .ok (.ifnonnull 4, 3) := by decide +kernel
theorem dX4_layAlong_50 : decode cX4_layAlong 50 = .ok (.return_, 1) := by decide +kernel
theorem dX4_layAlong_51 : decode cX4_layAlong 51 = .ok (.aload_n 1, 1) := by decide +kernel
theorem dX4_layAlong_52 : decode cX4_layAlong 52 = .ok (.aload 4, 2) := by decide +kernel
theorem dX4_layAlong_54 : decode cX4_layAlong 54 = .ok (.invokevirtual 124, 3) := by decide +kernel
theorem dX4_layAlong_57 : decode cX4_layAlong 57 = .ok (.aload 4, 2) := by decide +kernel
theorem dX4_layAlong_59 : decode cX4_layAlong 59 = .ok (.iload_n 2, 1) := by decide +kernel
theorem dX4_layAlong_60 : decode cX4_layAlong 60 = .ok (.invokevirtual 94, 3) := by decide +kernel
theorem dX4_layAlong_63 : decode cX4_layAlong 63 = .ok (.istore_n 2, 1) := by decide +kernel
theorem dX4_layAlong_64 : decode cX4_layAlong 64 = .ok (.iinc 3 1, 3) := by decide +kernel
theorem dX4_layAlong_67 : decode cX4_layAlong 67 = .ok (.goto (-46), 3) := by decide +kernel
theorem dX4_layAlong_70 : decode cX4_layAlong 70 = .ok (.return_, 1) := by decide +kernel
theorem dX4_addWire_0 : decode cX4_addWire 0 = .ok (.aload_n 1, 1) := by decide +kernel
theorem dX4_addWire_1 : decode cX4_addWire 1 = .ok (.invokevirtual 103, 3) := by decide +kernel
theorem dX4_addWire_4 : decode cX4_addWire 4 = .ok (.aload_n 0, 1) := by decide +kernel
theorem dX4_addWire_5 : decode cX4_addWire 5 = .ok (.aload_n 1, 1) := by decide +kernel
theorem dX4_addWire_6 : decode cX4_addWire 6 = .ok (.invokevirtual 108, 3) := by decide +kernel
theorem dX4_addWire_9 : decode cX4_addWire 9 = .ok (.aload_n 0, 1) := by decide +kernel
theorem dX4_addWire_10 : decode cX4_addWire 10 = .ok (.getfield 21, 3) := by decide +kernel
theorem dX4_addWire_13 : decode cX4_addWire 13 = .ok (.aload_n 1, 1) := by decide +kernel
theorem dX4_addWire_14 : decode cX4_addWire 14 = .ok (.invokevirtual 42, 3) := by decide +kernel
theorem dX4_addWire_17 : decode cX4_addWire 17 = .ok (.pop, 1) := by decide +kernel
theorem dX4_addWire_18 : decode cX4_addWire 18 = .ok (.aload_n 0, 1) := by decide +kernel
theorem dX4_addWire_19 : decode cX4_addWire 19 = .ok (.getfield 21, 3) := by decide +kernel
theorem dX4_addWire_22 : decode cX4_addWire 22 = .ok (.invokevirtual 35, 3) := by decide +kernel
theorem dX4_addWire_25 : decode cX4_addWire 25 = .ok (.iconst 1, 1) := by decide +kernel
theorem dX4_addWire_26 : decode cX4_addWire 26 = .ok (.isub, 1) := by decide +kernel
theorem dX4_addWire_27 : decode cX4_addWire 27 = .ok (.ireturn, 1) := by decide +kernel
theorem dX11_wire_0 : decode cX11_wire 0 = .ok (.aload_n 0, 1) := by decide +kernel
theorem dX11_wire_1 : decode cX11_wire 1 = .ok (.iload_n 1, 1) := by decide +kernel
theorem dX11_wire_2 : decode cX11_wire 2 = .ok (.invokevirtual 90, 3) := by decide +kernel
theorem dX11_wire_5 : decode cX11_wire 5 = .ok (.astore 6, 2) := by decide +kernel
theorem dX11_wire_7 : decode cX11_wire 7 = .ok (.aload_n 0, 1) := by decide +kernel
theorem dX11_wire_8 : decode cX11_wire 8 = .ok (.iload_n 3, 1) := by decide +kernel
theorem dX11_wire_9 : decode cX11_wire 9 = .ok (.invokevirtual 90, 3) := by decide +kernel
theorem dX11_wire_12 : decode cX11_wire 12 = .ok (.astore 7, 2) := by decide +kernel
theorem dX11_wire_14 : decode cX11_wire 14 = .ok (.iload_n 2, 1) := by decide +kernel
theorem dX11_wire_15 : decode cX11_wire 15 = .ok (.aload 6, 2) := by decide +kernel
theorem dX11_wire_17 : decode cX11_wire 17 = .ok (.getfield 106, 3) := by decide +kernel
theorem dX11_wire_20 : decode cX11_wire 20 = .ok (.invokestatic 54, 3) := by decide +kernel
theorem dX11_wire_23 : decode cX11_wire 23 = .ok (.ifCond .eq 20, 3) := by decide +kernel
theorem dX11_wire_26 : decode cX11_wire 26 = .ok (.iload 4, 2) := by decide +kernel
theorem dX11_wire_28 : decode cX11_wire 28 = .ok (.aload 7, 2) := by decide +kernel
theorem dX11_wire_30 : decode cX11_wire 30 = .ok (.getfield 106, 3) := by decide +kernel
theorem dX11_wire_33 : decode cX11_wire 33 = .ok (.invokestatic 54, 3) := by decide +kernel
theorem dX11_wire_36 : decode cX11_wire 36 = .ok (.ifCond .eq 7, 3) := by decide +kernel
theorem dX11_wire_39 : decode cX11_wire 39 = .ok (.iconst 1, 1) := by decide +kernel
theorem dX11_wire_40 : decode cX11_wire 40 = .ok (.goto 4, 3) := by decide +kernel
theorem dX11_wire_43 : decode cX11_wire 43 = .ok (.iconst 0, 1) := by decide +kernel
theorem dX11_wire_44 : decode cX11_wire 44 = .ok (.invokestatic 58, 3) := by decide +kernel
theorem dX11_wire_47 : decode cX11_wire 47 = .ok (.iload_n 1, 1) := by decide +kernel
theorem dX11_wire_48 : decode cX11_wire 48 = .ok (.iload_n 3, 1) := by decide +kernel
theorem dX11_wire_49 : decode cX11_wire 49 = .ok (.if_icmp .eq 17, 3) := by decide +kernel
theorem dX11_wire_52 : decode cX11_wire 52 = .ok (.iload 5, 2) := by decide +kernel
theorem dX11_wire_54 : decode cX11_wire 54 = .ok (.bipush 8, 2) := by decide +kernel
theorem dX11_wire_56 : decode cX11_wire 56 = .ok (.invokestatic 54, 3) := by decide +kernel
theorem dX11_wire_59 : decode cX11_wire 59 = .ok (.ifCond .eq 7, 3) := by decide +kernel
theorem dX11_wire_62 : decode cX11_wire 62 = .ok (.iconst 1, 1) := by decide +kernel
theorem dX11_wire_63 : decode cX11_wire 63 = .ok (.goto 4, 3) := by decide +kernel
theorem dX11_wire_66 : decode cX11_wire 66 = .ok (.iconst 0, 1) := by decide +kernel
theorem dX11_wire_67 : decode cX11_wire 67 = .ok (.invokestatic 66, 3) := by decide +kernel
theorem dX11_wire_70 : decode cX11_wire 70 = .ok (.aload 6, 2) := by decide +kernel
theorem dX11_wire_72 : decode cX11_wire 72 = .ok (.iload_n 2, 1) := by decide +kernel
theorem dX11_wire_73 : decode cX11_wire 73 = .ok (.invokevirtual 109, 3) := by decide +kernel
theorem dX11_wire_76 : decode cX11_wire 76 = .ok (.ifCond .eq 17, 3) := by decide +kernel
theorem dX11_wire_79 : decode cX11_wire 79 = .ok (.aload 7, 2) := by decide +kernel
theorem dX11_wire_81 : decode cX11_wire 81 = .ok (.iload 4, 2) := by decide +kernel
theorem dX11_wire_83 : decode cX11_wire 83 = .ok (.invokevirtual 109, 3) := by decide +kernel
theorem dX11_wire_86 : decode cX11_wire 86 = .ok (.ifCond .eq 7, 3) := by decide +kernel
theorem dX11_wire_89 : decode cX11_wire 89 = .ok (.iconst 1, 1) := by decide +kernel
theorem dX11_wire_90 : decode cX11_wire 90 = .ok (.goto 4, 3) := by decide +kernel
theorem dX11_wire_93 : decode cX11_wire 93 = .ok (.iconst 0, 1) := by decide +kernel
theorem dX11_wire_94 : decode cX11_wire 94 = .ok (.invokestatic 76, 3) := by decide +kernel
theorem dX11_wire_97 : decode cX11_wire 97 = .ok (.aload_n 0, 1) := by decide +kernel
theorem dX11_wire_98 : decode cX11_wire 98 = .ok (.getfield 10, 3) := by decide +kernel
theorem dX11_wire_101 : decode cX11_wire 101 = .ok (.getfield 113, 3) := by decide +kernel
theorem dX11_wire_104 : decode cX11_wire 104 = .ok (.invokevirtual 72, 3) := by decide +kernel
theorem dX11_wire_107 : decode cX11_wire 107 = .ok (.bipush 24, 2) := by decide +kernel
theorem dX11_wire_109 : decode cX11_wire 109 = .ok (.if_icmp .ge 27, 3) := by decide +kernel
theorem dX11_wire_112 : decode cX11_wire 112 = .ok (.aload_n 0, 1) := by decide +kernel
theorem dX11_wire_113 : decode cX11_wire 113 = .ok (.getfield 10, 3) := by decide +kernel
theorem dX11_wire_116 : decode cX11_wire 116 = .ok (.aload 6, 2) := by decide +kernel
theorem dX11_wire_118 : decode cX11_wire 118 = .ok (.getfield 116, 3) := by decide +kernel
theorem dX11_wire_121 : decode cX11_wire 121 = .ok (.aload 7, 2) := by decide +kernel
theorem dX11_wire_123 : decode cX11_wire 123 = .ok (.getfield 116, 3) := by decide +kernel
theorem dX11_wire_126 : decode cX11_wire 126 = .ok (.invokevirtual 119, 3) := by decide +kernel
theorem dX11_wire_129 : decode cX11_wire 129 = .ok (.ifCond .eq 7, 3) := by decide +kernel
theorem dX11_wire_132 : decode cX11_wire 132 = .ok (.iconst 1, 1) := by decide +kernel
theorem dX11_wire_133 : decode cX11_wire 133 = .ok (.goto 4, 3) := by decide +kernel
theorem dX11_wire_136 : decode cX11_wire 136 = .ok (.iconst 0, 1) := by decide +kernel
theorem dX11_wire_137 : decode cX11_wire 137 = .ok (.invokestatic 76, 3) := by decide +kernel
theorem dX11_wire_140 : decode cX11_wire 140 = .ok (.aload_n 0, 1) := by decide +kernel
theorem dX11_wire_141 : decode cX11_wire 141 = .ok (.getfield 10, 3) := by decide +kernel
theorem dX11_wire_144 : decode cX11_wire 144 = .ok (.new 122, 3) := by decide +kernel
theorem dX11_wire_147 : decode cX11_wire 147 = .ok (.dup, 1) := by decide +kernel
theorem dX11_wire_148 : decode cX11_wire 148 = .ok (.aload 6, 2) := by decide +kernel
theorem dX11_wire_150 : decode cX11_wire 150 = .ok (.iload_n 2, 1) := by decide +kernel
theorem dX11_wire_151 : decode cX11_wire 151 = .ok (.aload 7, 2) := by decide +kernel
theorem dX11_wire_153 : decode cX11_wire 153 = .ok (.iload 4, 2) := by decide +kernel
theorem dX11_wire_155 : decode cX11_wire 155 = .ok (.iload 5, 2) := by decide +kernel
theorem dX11_wire_157 : decode cX11_wire 157 = .ok (.invokespecial 124, 3) := by decide +kernel
theorem dX11_wire_160 : decode cX11_wire 160 = .ok (.invokevirtual 127, 3) := by decide +kernel
theorem dX11_wire_163 : decode cX11_wire 163 = .ok (.ireturn, 1) := by decide +kernel
theorem dL_wire_0 : decode cL_wire 0 = .ok (.aload 6, 2) := by decide +kernel
theorem dL_wire_2 : decode cL_wire 2 = .ok (.iconst 0, 1) := by decide +kernel
theorem dL_wire_3 : decode cL_wire 3 = .ok (.aload_n 0, 1) := by decide +kernel
theorem dL_wire_4 : decode cL_wire 4 = .ok (.iload_n 1, 1) := by decide +kernel
theorem dL_wire_5 : decode cL_wire 5 = .ok (.iload_n 2, 1) := by decide +kernel
theorem dL_wire_6 : decode cL_wire 6 = .ok (.iload_n 3, 1) := by decide +kernel
theorem dL_wire_7 : decode cL_wire 7 = .ok (.iload 4, 2) := by decide +kernel
theorem dL_wire_9 : decode cL_wire 9 = .ok (.iload 5, 2) := by decide +kernel
theorem dL_wire_11 : decode cL_wire 11 = .ok (.invokevirtual 27, 3) := by decide +kernel
theorem dL_wire_14 : decode cL_wire 14 = .ok (.i2l, 1) := by decide +kernel
theorem dL_wire_15 : decode cL_wire 15 = .ok (.lastore, 1) := by decide +kernel
theorem dL_wire_16 : decode cL_wire 16 = .ok (.goto 15, 3) := by decide +kernel
theorem dL_wire_19 : decode cL_wire 19 = .ok (.astore 7, 2) := by decide +kernel
theorem dL_wire_21 : decode cL_wire 21 = .ok (.iconst 1, 1) := by decide +kernel
theorem dL_wire_22 : decode cL_wire 22 = .ok (.ireturn, 1) := by decide +kernel
theorem dL_wire_23 : decode cL_wire 23 = .ok (.astore 7, 2) := by decide +kernel
theorem dL_wire_25 : decode cL_wire 25 = .ok (.iconst 2, 1) := by decide +kernel
theorem dL_wire_26 : decode cL_wire 26 = .ok (.ireturn, 1) := by decide +kernel
theorem dL_wire_27 : decode cL_wire 27 = .ok (.astore 7, 2) := by decide +kernel
theorem dL_wire_29 : decode cL_wire 29 = .ok (.iconst 3, 1) := by decide +kernel
theorem dL_wire_30 : decode cL_wire 30 = .ok (.ireturn, 1) := by decide +kernel
theorem dL_wire_31 : decode cL_wire 31 = .ok (.iconst 0, 1) := by decide +kernel
theorem dL_wire_32 : decode cL_wire 32 = .ok (.ireturn, 1) := by decide +kernel
theorem dX12_isCavity_0 : decode cX12_isCavity 0 = .ok (.aload_n 0, 1) := by decide +kernel
theorem dX12_isCavity_1 : decode cX12_isCavity 1 = .ok (.iload_n 1, 1) := by decide +kernel
theorem dX12_isCavity_2 : decode cX12_isCavity 2 = .ok (.invokevirtual 137, 3) := by decide +kernel
theorem dX12_isCavity_5 : decode cX12_isCavity 5 = .ok (.ifCond .eq 23, 3) := by decide +kernel
theorem dX12_isCavity_8 : decode cX12_isCavity 8 = .ok (.iload_n 2, 1) := by decide +kernel
theorem dX12_isCavity_9 : decode cX12_isCavity 9 = .ok (.iconst 0, 1) := by decide +kernel
theorem dX12_isCavity_10 : decode cX12_isCavity 10 = .ok (.aload_n 0, 1) := by decide +kernel
theorem dX12_isCavity_11 : decode cX12_isCavity 11 = .ok (.getfield 25, 3) := by decide +kernel
theorem dX12_isCavity_14 : decode cX12_isCavity 14 = .ok (.iload_n 1, 1) := by decide +kernel
theorem dX12_isCavity_15 : decode cX12_isCavity 15 = .ok (.iaload, 1) := by decide +kernel
theorem dX12_isCavity_16 : decode cX12_isCavity 16 = .ok (.iconst 1, 1) := by decide +kernel
theorem dX12_isCavity_17 : decode cX12_isCavity 17 = .ok (.isub, 1) := by decide +kernel
theorem dX12_isCavity_18 : decode cX12_isCavity 18 = .ok (.invokestatic 120, 3) := by decide +kernel
theorem dX12_isCavity_21 : decode cX12_isCavity 21 = .ok (.ifCond .eq 7, 3) := by decide +kernel
theorem dX12_isCavity_24 : decode cX12_isCavity 24 = .ok (.iconst 1, 1) := by decide +kernel
theorem dX12_isCavity_25 : decode cX12_isCavity 25 = .ok (.goto 4, 3) := by decide +kernel
theorem dX12_isCavity_28 : decode cX12_isCavity 28 = .ok (.iconst 0, 1) := by decide +kernel
theorem dX12_isCavity_29 : decode cX12_isCavity 29 = .ok (.ireturn, 1) := by decide +kernel
theorem dX12_costOf_0 : decode cX12_costOf 0 = .ok (.bipush 100, 2) := by decide +kernel
theorem dX12_costOf_2 : decode cX12_costOf 2 = .ok (.aload_n 0, 1) := by decide +kernel
theorem dX12_costOf_3 : decode cX12_costOf 3 = .ok (.getfield 16, 3) := by decide +kernel
theorem dX12_costOf_6 : decode cX12_costOf 6 = .ok (.iload_n 1, 1) := by decide +kernel
theorem dX12_costOf_7 : decode cX12_costOf 7 = .ok (.iaload, 1) := by decide +kernel
theorem dX12_costOf_8 : decode cX12_costOf 8 = .ok (.imul, 1) := by decide +kernel
theorem dX12_costOf_9 : decode cX12_costOf 9 = .ok (.iconst 1, 1) := by decide +kernel
theorem dX12_costOf_10 : decode cX12_costOf 10 = .ok (.iadd, 1) := by decide +kernel
theorem dX12_costOf_11 : decode cX12_costOf 11 = .ok (.ireturn, 1) := by decide +kernel
theorem dX12_finds_0 : decode cX12_finds 0 = .ok (.iconst 0, 1) := by decide +kernel
theorem dX12_finds_1 : decode cX12_finds 1 = .ok (.istore_n 2, 1) := by decide +kernel
theorem dX12_finds_2 : decode cX12_finds 2 = .ok (.iload_n 2, 1) := by decide +kernel
theorem dX12_finds_3 : decode cX12_finds 3 = .ok (.bipush 8, 2) := by decide +kernel
theorem dX12_finds_5 : decode cX12_finds 5 = .ok (.if_icmp .ge 26, 3) := by decide +kernel
theorem dX12_finds_8 : decode cX12_finds 8 = .ok (.aload_n 0, 1) := by decide +kernel
theorem dX12_finds_9 : decode cX12_finds 9 = .ok (.getfield 50, 3) := by decide +kernel
theorem dX12_finds_12 : decode cX12_finds 12 = .ok (.iload_n 2, 1) := by decide +kernel
theorem dX12_finds_13 : decode cX12_finds 13 = .ok (.iload_n 2, 1) := by decide +kernel
theorem dX12_finds_14 : decode cX12_finds 14 = .ok (.iload_n 1, 1) := by decide +kernel
theorem dX12_finds_15 : decode cX12_finds 15 = .ok (.if_icmp .ne 7, 3) := by decide +kernel
theorem dX12_finds_18 : decode cX12_finds 18 = .ok (.iconst 0, 1) := by decide +kernel
theorem dX12_finds_19 : decode cX12_finds 19 = .ok (.goto 5, 3) := by decide +kernel
theorem dX12_finds_22 : decode cX12_finds 22 = .ok (.ldc 147, 2) := by decide +kernel
theorem dX12_finds_24 : decode cX12_finds 24 = .ok (.iastore, 1) := by decide +kernel
theorem dX12_finds_25 : decode cX12_finds 25 = .ok (.iinc 2 1, 3) := by decide +kernel
theorem dX12_finds_28 : decode cX12_finds 28 = .ok (.goto (-26), 3) := by decide +kernel
theorem dX12_finds_31 : decode cX12_finds 31 = .ok (.iconst 0, 1) := by decide +kernel
theorem dX12_finds_32 : decode cX12_finds 32 = .ok (.istore_n 2, 1) := by decide +kernel
theorem dX12_finds_33 : decode cX12_finds 33 = .ok (.iload_n 2, 1) := by decide +kernel
theorem dX12_finds_34 : decode cX12_finds 34 = .ok (.bipush 8, 2) := by decide +kernel
theorem dX12_finds_36 : decode cX12_finds 36 = .ok (.if_icmp .ge 158, 3) := by decide +kernel
theorem dX12_finds_39 : decode cX12_finds 39 = .ok (.iconst 0, 1) := by decide +kernel
theorem dX12_finds_40 : decode cX12_finds 40 = .ok (.istore_n 3, 1) := by decide +kernel
theorem dX12_finds_41 : decode cX12_finds 41 = .ok (.iload_n 3, 1) := by decide +kernel
theorem dX12_finds_42 : decode cX12_finds 42 = .ok (.aload_n 0, 1) := by decide +kernel
theorem dX12_finds_43 : decode cX12_finds 43 = .ok (.getfield 131, 3) := by decide +kernel
theorem dX12_finds_46 : decode cX12_finds 46 = .ok (.if_icmp .ge 142, 3) := by decide +kernel
theorem dX12_finds_49 : decode cX12_finds 49 = .ok (.aload_n 0, 1) := by decide +kernel
theorem dX12_finds_50 : decode cX12_finds 50 = .ok (.getfield 19, 3) := by decide +kernel
theorem dX12_finds_53 : decode cX12_finds 53 = .ok (.iload_n 3, 1) := by decide +kernel
theorem dX12_finds_54 : decode cX12_finds 54 = .ok (.iaload, 1) := by decide +kernel
theorem dX12_finds_55 : decode cX12_finds 55 = .ok (.ifCond .le 127, 3) := by decide +kernel
theorem dX12_finds_58 : decode cX12_finds 58 = .ok (.aload_n 0, 1) := by decide +kernel
theorem dX12_finds_59 : decode cX12_finds 59 = .ok (.getfield 50, 3) := by decide +kernel
theorem dX12_finds_62 : decode cX12_finds 62 = .ok (.aload_n 0, 1) := by decide +kernel
theorem dX12_finds_63 : decode cX12_finds 63 = .ok (.getfield 7, 3) := by decide +kernel
theorem dX12_finds_66 : decode cX12_finds 66 = .ok (.iload_n 3, 1) := by decide +kernel
theorem dX12_finds_67 : decode cX12_finds 67 = .ok (.iaload, 1) := by decide +kernel
theorem dX12_finds_68 : decode cX12_finds 68 = .ok (.iaload, 1) := by decide +kernel
theorem dX12_finds_69 : decode cX12_finds 69 = .ok (.aload_n 0, 1) := by decide +kernel
theorem dX12_finds_70 : decode cX12_finds 70 = .ok (.iload_n 3, 1) := by decide +kernel
theorem dX12_finds_71 : decode cX12_finds 71 = .ok (.invokevirtual 148, 3) := by decide +kernel
theorem dX12_finds_74 : decode cX12_finds 74 = .ok (.iadd, 1) := by decide +kernel
theorem dX12_finds_75 : decode cX12_finds 75 = .ok (.istore 4, 2) := by decide +kernel
theorem dX12_finds_77 : decode cX12_finds 77 = .ok (.aload_n 0, 1) := by decide +kernel
theorem dX12_finds_78 : decode cX12_finds 78 = .ok (.getfield 50, 3) := by decide +kernel
theorem dX12_finds_81 : decode cX12_finds 81 = .ok (.aload_n 0, 1) := by decide +kernel
theorem dX12_finds_82 : decode cX12_finds 82 = .ok (.getfield 13, 3) := by decide +kernel
theorem dX12_finds_85 : decode cX12_finds 85 = .ok (.iload_n 3, 1) := by decide +kernel
theorem dX12_finds_86 : decode cX12_finds 86 = .ok (.iaload, 1) := by decide +kernel
theorem dX12_finds_87 : decode cX12_finds 87 = .ok (.iaload, 1) := by decide +kernel
theorem dX12_finds_88 : decode cX12_finds 88 = .ok (.aload_n 0, 1) := by decide +kernel
theorem dX12_finds_89 : decode cX12_finds 89 = .ok (.iload_n 3, 1) := by decide +kernel
theorem dX12_finds_90 : decode cX12_finds 90 = .ok (.invokevirtual 148, 3) := by decide +kernel
theorem dX12_finds_93 : decode cX12_finds 93 = .ok (.iadd, 1) := by decide +kernel
theorem dX12_finds_94 : decode cX12_finds 94 = .ok (.istore 5, 2) := by decide +kernel
theorem dX12_finds_96 : decode cX12_finds 96 = .ok (.aload_n 0, 1) := by decide +kernel
theorem dX12_finds_97 : decode cX12_finds 97 = .ok (.getfield 50, 3) := by decide +kernel
theorem dX12_finds_100 : decode cX12_finds 100 = .ok (.aload_n 0, 1) := by decide +kernel
theorem dX12_finds_101 : decode cX12_finds 101 = .ok (.getfield 13, 3) := by decide +kernel
theorem dX12_finds_104 : decode cX12_finds 104 = .ok (.iload_n 3, 1) := by decide +kernel
theorem dX12_finds_105 : decode cX12_finds 105 = .ok (.iaload, 1) := by decide +kernel
theorem dX12_finds_106 : decode cX12_finds 106 = .ok (.iload 4, 2) := by decide +kernel
theorem dX12_finds_108 : decode cX12_finds 108 = .ok (.aload_n 0, 1) := by decide +kernel
theorem dX12_finds_109 : decode cX12_finds 109 = .ok (.getfield 50, 3) := by decide +kernel
theorem dX12_finds_112 : decode cX12_finds 112 = .ok (.aload_n 0, 1) := by decide +kernel
theorem dX12_finds_113 : decode cX12_finds 113 = .ok (.getfield 13, 3) := by decide +kernel
theorem dX12_finds_116 : decode cX12_finds 116 = .ok (.iload_n 3, 1) := by decide +kernel
theorem dX12_finds_117 : decode cX12_finds 117 = .ok (.iaload, 1) := by decide +kernel
theorem dX12_finds_118 : decode cX12_finds 118 = .ok (.iaload, 1) := by decide +kernel
theorem dX12_finds_119 : decode cX12_finds 119 = .ok (.if_icmp .ge 8, 3) := by decide +kernel
theorem dX12_finds_122 : decode cX12_finds 122 = .ok (.iload 4, 2) := by decide +kernel
theorem dX12_finds_124 : decode cX12_finds 124 = .ok (.goto 14, 3) := by decide +kernel
theorem dX12_finds_127 : decode cX12_finds 127 = .ok (.aload_n 0, 1) := by decide +kernel
theorem dX12_finds_128 : decode cX12_finds 128 = .ok (.getfield 50, 3) := by decide +kernel
theorem dX12_finds_131 : decode cX12_finds 131 = .ok (.aload_n 0, 1) := by decide +kernel
theorem dX12_finds_132 : decode cX12_finds 132 = .ok (.getfield 13, 3) := by decide +kernel
theorem dX12_finds_135 : decode cX12_finds 135 = .ok (.iload_n 3, 1) := by decide +kernel
theorem dX12_finds_136 : decode cX12_finds 136 = .ok (.iaload, 1) := by decide +kernel
theorem dX12_finds_137 : decode cX12_finds 137 = .ok (.iaload, 1) := by decide +kernel
theorem dX12_finds_138 : decode cX12_finds 138 = .ok (.iastore, 1) := by decide +kernel
theorem dX12_finds_139 : decode cX12_finds 139 = .ok (.aload_n 0, 1) := by decide +kernel
theorem dX12_finds_140 : decode cX12_finds 140 = .ok (.getfield 50, 3) := by decide +kernel
theorem dX12_finds_143 : decode cX12_finds 143 = .ok (.aload_n 0, 1) := by decide +kernel
theorem dX12_finds_144 : decode cX12_finds 144 = .ok (.getfield 7, 3) := by decide +kernel
theorem dX12_finds_147 : decode cX12_finds 147 = .ok (.iload_n 3, 1) := by decide +kernel
theorem dX12_finds_148 : decode cX12_finds 148 = .ok (.iaload, 1) := by decide +kernel
theorem dX12_finds_149 : decode cX12_finds 149 = .ok (.iload 5, 2) := by decide +kernel
theorem dX12_finds_151 : decode cX12_finds 151 = .ok (.aload_n 0, 1) := by decide +kernel
theorem dX12_finds_152 : decode cX12_finds 152 = .ok (.getfield 50, 3) := by decide +kernel
theorem dX12_finds_155 : decode cX12_finds 155 = .ok (.aload_n 0, 1) := by decide +kernel
theorem dX12_finds_156 : decode cX12_finds 156 = .ok (.getfield 7, 3) := by decide +kernel
theorem dX12_finds_159 : decode cX12_finds 159 = .ok (.iload_n 3, 1) := by decide +kernel
theorem dX12_finds_160 : decode cX12_finds 160 = .ok (.iaload, 1) := by decide +kernel
theorem dX12_finds_161 : decode cX12_finds 161 = .ok (.iaload, 1) := by decide +kernel
theorem dX12_finds_162 : decode cX12_finds 162 = .ok (.if_icmp .ge 8, 3) := by decide +kernel
theorem dX12_finds_165 : decode cX12_finds 165 = .ok (.iload 5, 2) := by decide +kernel
theorem dX12_finds_167 : decode cX12_finds 167 = .ok (.goto 14, 3) := by decide +kernel
theorem dX12_finds_170 : decode cX12_finds 170 = .ok (.aload_n 0, 1) := by decide +kernel
theorem dX12_finds_171 : decode cX12_finds 171 = .ok (.getfield 50, 3) := by decide +kernel
theorem dX12_finds_174 : decode cX12_finds 174 = .ok (.aload_n 0, 1) := by decide +kernel
theorem dX12_finds_175 : decode cX12_finds 175 = .ok (.getfield 7, 3) := by decide +kernel
theorem dX12_finds_178 : decode cX12_finds 178 = .ok (.iload_n 3, 1) := by decide +kernel
theorem dX12_finds_179 : decode cX12_finds 179 = .ok (.iaload, 1) := by decide +kernel
theorem dX12_finds_180 : decode cX12_finds 180 = .ok (.iaload, 1) := by decide +kernel
theorem dX12_finds_181 : decode cX12_finds 181 = .ok (.iastore, 1) := by decide +kernel
theorem dX12_finds_182 : decode cX12_finds 182 = .ok (.iinc 3 1, 3) := by decide +kernel
theorem dX12_finds_185 : decode cX12_finds 185 = .ok (.goto (-144), 3) := by decide +kernel
theorem dX12_finds_188 : decode cX12_finds 188 = .ok (.iinc 2 1, 3) := by decide +kernel
theorem dX12_finds_191 : decode cX12_finds 191 = .ok (.goto (-158), 3) := by decide +kernel
theorem dX12_finds_194 : decode cX12_finds 194 = .ok (.return_, 1) := by decide +kernel
theorem dX12_isTaken_0 : decode cX12_isTaken 0 = .ok (.iconst 0, 1) := by decide +kernel
theorem dX12_isTaken_1 : decode cX12_isTaken 1 = .ok (.istore_n 2, 1) := by decide +kernel
theorem dX12_isTaken_2 : decode cX12_isTaken 2 = .ok (.iconst 0, 1) := by decide +kernel
theorem dX12_isTaken_3 : decode cX12_isTaken 3 = .ok (.istore_n 3, 1) := by decide +kernel
theorem dX12_isTaken_4 : decode cX12_isTaken 4 = .ok (.iload_n 3, 1) := by decide +kernel
theorem dX12_isTaken_5 : decode cX12_isTaken 5 = .ok (.aload_n 0, 1) := by decide +kernel
theorem dX12_isTaken_6 : decode cX12_isTaken 6 = .ok (.getfield 144, 3) := by decide +kernel
theorem dX12_isTaken_9 : decode cX12_isTaken 9 = .ok (.if_icmp .ge 54, 3) := by decide +kernel
theorem dX12_isTaken_12 : decode cX12_isTaken 12 = .ok (.iload_n 2, 1) := by decide +kernel
theorem dX12_isTaken_13 : decode cX12_isTaken 13 = .ok (.ifCond .ne 38, 3) := by decide +kernel
theorem dX12_isTaken_16 : decode cX12_isTaken 16 = .ok (.aload_n 0, 1) := by decide +kernel
theorem dX12_isTaken_17 : decode cX12_isTaken 17 = .ok (.getfield 34, 3) := by decide +kernel
theorem dX12_isTaken_20 : decode cX12_isTaken 20 = .ok (.iload_n 3, 1) := by decide +kernel
theorem dX12_isTaken_21 : decode cX12_isTaken 21 = .ok (.baload, 1) := by decide +kernel
theorem dX12_isTaken_22 : decode cX12_isTaken 22 = .ok (.ifCond .ne 33, 3) := by decide +kernel
theorem dX12_isTaken_25 : decode cX12_isTaken 25 = .ok (.aload_n 0, 1) := by decide +kernel
theorem dX12_isTaken_26 : decode cX12_isTaken 26 = .ok (.getfield 38, 3) := by decide +kernel
theorem dX12_isTaken_29 : decode cX12_isTaken 29 = .ok (.iconst 2, 1) := by decide +kernel
theorem dX12_isTaken_30 : decode cX12_isTaken 30 = .ok (.iload_n 3, 1) := by decide +kernel
theorem dX12_isTaken_31 : decode cX12_isTaken 31 = .ok (.imul, 1) := by decide +kernel
theorem dX12_isTaken_32 : decode cX12_isTaken 32 = .ok (.iaload, 1) := by decide +kernel
theorem dX12_isTaken_33 : decode cX12_isTaken 33 = .ok (.iload_n 1, 1) := by decide +kernel
theorem dX12_isTaken_34 : decode cX12_isTaken 34 = .ok (.if_icmp .eq 17, 3) := by decide +kernel
theorem dX12_isTaken_37 : decode cX12_isTaken 37 = .ok (.aload_n 0, 1) := by decide +kernel
theorem dX12_isTaken_38 : decode cX12_isTaken 38 = .ok (.getfield 38, 3) := by decide +kernel
theorem dX12_isTaken_41 : decode cX12_isTaken 41 = .ok (.iconst 2, 1) := by decide +kernel
theorem dX12_isTaken_42 : decode cX12_isTaken 42 = .ok (.iload_n 3, 1) := by decide +kernel
theorem dX12_isTaken_43 : decode cX12_isTaken 43 = .ok (.imul, 1) := by decide +kernel
theorem dX12_isTaken_44 : decode cX12_isTaken 44 = .ok (.iconst 1, 1) := by decide +kernel
theorem dX12_isTaken_45 : decode cX12_isTaken 45 = .ok (.iadd, 1) := by decide +kernel
theorem dX12_isTaken_46 : decode cX12_isTaken 46 = .ok (.iaload, 1) := by decide +kernel
theorem dX12_isTaken_47 : decode cX12_isTaken 47 = .ok (.iload_n 1, 1) := by decide +kernel
theorem dX12_isTaken_48 : decode cX12_isTaken 48 = .ok (.if_icmp .ne 7, 3) := by decide +kernel
theorem dX12_isTaken_51 : decode cX12_isTaken 51 = .ok (.iconst 1, 1) := by decide +kernel
theorem dX12_isTaken_52 : decode cX12_isTaken 52 = .ok (.goto 4, 3) := by decide +kernel
theorem dX12_isTaken_55 : decode cX12_isTaken 55 = .ok (.iconst 0, 1) := by decide +kernel
theorem dX12_isTaken_56 : decode cX12_isTaken 56 = .ok (.istore_n 2, 1) := by decide +kernel
theorem dX12_isTaken_57 : decode cX12_isTaken 57 = .ok (.iinc 3 1, 3) := by decide +kernel
theorem dX12_isTaken_60 : decode cX12_isTaken 60 = .ok (.goto (-56), 3) := by decide +kernel
theorem dX12_isTaken_63 : decode cX12_isTaken 63 = .ok (.iload_n 2, 1) := by decide +kernel
theorem dX12_isTaken_64 : decode cX12_isTaken 64 = .ok (.ireturn, 1) := by decide +kernel
theorem dX12_across_0 : decode cX12_across 0 = .ok (.aload_n 0, 1) := by decide +kernel
theorem dX12_across_1 : decode cX12_across 1 = .ok (.getfield 7, 3) := by decide +kernel
theorem dX12_across_4 : decode cX12_across 4 = .ok (.iload_n 1, 1) := by decide +kernel
theorem dX12_across_5 : decode cX12_across 5 = .ok (.iaload, 1) := by decide +kernel
theorem dX12_across_6 : decode cX12_across 6 = .ok (.iload_n 2, 1) := by decide +kernel
theorem dX12_across_7 : decode cX12_across 7 = .ok (.if_icmp .ne 12, 3) := by decide +kernel
theorem dX12_across_10 : decode cX12_across 10 = .ok (.aload_n 0, 1) := by decide +kernel
theorem dX12_across_11 : decode cX12_across 11 = .ok (.getfield 13, 3) := by decide +kernel
theorem dX12_across_14 : decode cX12_across 14 = .ok (.iload_n 1, 1) := by decide +kernel
theorem dX12_across_15 : decode cX12_across 15 = .ok (.iaload, 1) := by decide +kernel
theorem dX12_across_16 : decode cX12_across 16 = .ok (.goto 23, 3) := by decide +kernel
theorem dX12_across_19 : decode cX12_across 19 = .ok (.aload_n 0, 1) := by decide +kernel
theorem dX12_across_20 : decode cX12_across 20 = .ok (.getfield 13, 3) := by decide +kernel
theorem dX12_across_23 : decode cX12_across 23 = .ok (.iload_n 1, 1) := by decide +kernel
theorem dX12_across_24 : decode cX12_across 24 = .ok (.iaload, 1) := by decide +kernel
theorem dX12_across_25 : decode cX12_across 25 = .ok (.iload_n 2, 1) := by decide +kernel
theorem dX12_across_26 : decode cX12_across 26 = .ok (.if_icmp .ne 12, 3) := by decide +kernel
theorem dX12_across_29 : decode cX12_across 29 = .ok (.aload_n 0, 1) := by decide +kernel
theorem dX12_across_30 : decode cX12_across 30 = .ok (.getfield 7, 3) := by decide +kernel
theorem dX12_across_33 : decode cX12_across 33 = .ok (.iload_n 1, 1) := by decide +kernel
theorem dX12_across_34 : decode cX12_across 34 = .ok (.iaload, 1) := by decide +kernel
theorem dX12_across_35 : decode cX12_across 35 = .ok (.goto 4, 3) := by decide +kernel
theorem dX12_across_38 : decode cX12_across 38 = .ok (.iconst (-1), 1) := by decide +kernel
theorem dX12_across_39 : decode cX12_across 39 = .ok (.ireturn, 1) := by decide +kernel
theorem dX12_lays_0 : decode cX12_lays 0 = .ok (.aload_n 0, 1) := by decide +kernel
theorem dX12_lays_1 : decode cX12_lays 1 = .ok (.getfield 44, 3) := by decide +kernel
theorem dX12_lays_4 : decode cX12_lays 4 = .ok (.iload_n 1, 1) := by decide +kernel
theorem dX12_lays_5 : decode cX12_lays 5 = .ok (.iconst 0, 1) := by decide +kernel
theorem dX12_lays_6 : decode cX12_lays 6 = .ok (.iastore, 1) := by decide +kernel
theorem dX12_lays_7 : decode cX12_lays 7 = .ok (.iload_n 2, 1) := by decide +kernel
theorem dX12_lays_8 : decode cX12_lays 8 = .ok (.istore_n 3, 1) := by decide +kernel
theorem dX12_lays_9 : decode cX12_lays 9 = .ok (.aload_n 0, 1) := by decide +kernel
theorem dX12_lays_10 : decode cX12_lays 10 = .ok (.getfield 50, 3) := by decide +kernel
theorem dX12_lays_13 : decode cX12_lays 13 = .ok (.iload_n 3, 1) := by decide +kernel
theorem dX12_lays_14 : decode cX12_lays 14 = .ok (.iaload, 1) := by decide +kernel
theorem dX12_lays_15 : decode cX12_lays 15 = .ok (.ifCond .le 121, 3) := by decide +kernel
theorem dX12_lays_18 : decode cX12_lays 18 = .ok (.iconst (-1), 1) := by decide +kernel
theorem dX12_lays_19 : decode cX12_lays 19 = .ok (.istore 4, 2) := by decide +kernel
theorem dX12_lays_21 : decode cX12_lays 21 = .ok (.aload_n 0, 1) := by decide +kernel
theorem dX12_lays_22 : decode cX12_lays 22 = .ok (.getfield 131, 3) := by decide +kernel
theorem dX12_lays_25 : decode cX12_lays 25 = .ok (.iconst 1, 1) := by decide +kernel
theorem dX12_lays_26 : decode cX12_lays 26 = .ok (.isub, 1) := by decide +kernel
theorem dX12_lays_27 : decode cX12_lays 27 = .ok (.istore 5, 2) := by decide +kernel
theorem dX12_lays_29 : decode cX12_lays 29 = .ok (.iload 5, 2) := by decide +kernel
theorem dX12_lays_31 : decode cX12_lays 31 = .ok (.ifCond .lt 66, 3) := by decide +kernel
theorem dX12_lays_34 : decode cX12_lays 34 = .ok (.aload_n 0, 1) := by decide +kernel
theorem dX12_lays_35 : decode cX12_lays 35 = .ok (.iload 5, 2) := by decide +kernel
theorem dX12_lays_37 : decode cX12_lays 37 = .ok (.iload_n 3, 1) := by decide +kernel
theorem dX12_lays_38 : decode cX12_lays 38 = .ok (.invokevirtual 152, 3) := by decide +kernel
theorem dX12_lays_41 : decode cX12_lays 41 = .ok (.istore 6, 2) := by decide +kernel
theorem dX12_lays_43 : decode cX12_lays 43 = .ok (.iload 6, 2) := by decide +kernel
theorem dX12_lays_45 : decode cX12_lays 45 = .ok (.iconst (-1), 1) := by decide +kernel
theorem dX12_lays_46 : decode cX12_lays 46 = .ok (.if_icmp .eq 41, 3) := by decide +kernel
theorem dX12_lays_49 : decode cX12_lays 49 = .ok (.aload_n 0, 1) := by decide +kernel
theorem dX12_lays_50 : decode cX12_lays 50 = .ok (.getfield 19, 3) := by decide +kernel
theorem dX12_lays_53 : decode cX12_lays 53 = .ok (.iload 5, 2) := by decide +kernel
theorem dX12_lays_55 : decode cX12_lays 55 = .ok (.iaload, 1) := by decide +kernel
theorem dX12_lays_56 : decode cX12_lays 56 = .ok (.ifCond .le 31, 3) := by decide +kernel
theorem dX12_lays_59 : decode cX12_lays 59 = .ok (.aload_n 0, 1) := by decide +kernel
theorem dX12_lays_60 : decode cX12_lays 60 = .ok (.getfield 50, 3) := by decide +kernel
theorem dX12_lays_63 : decode cX12_lays 63 = .ok (.iload 6, 2) := by decide +kernel
theorem dX12_lays_65 : decode cX12_lays 65 = .ok (.iaload, 1) := by decide +kernel
theorem dX12_lays_66 : decode cX12_lays 66 = .ok (.aload_n 0, 1) := by decide +kernel
theorem dX12_lays_67 : decode cX12_lays 67 = .ok (.iload 5, 2) := by decide +kernel
theorem dX12_lays_69 : decode cX12_lays 69 = .ok (.invokevirtual 148, 3) := by decide +kernel
theorem dX12_lays_72 : decode cX12_lays 72 = .ok (.iadd, 1) := by decide +kernel
theorem dX12_lays_73 : decode cX12_lays 73 = .ok (.aload_n 0, 1) := by decide +kernel
theorem dX12_lays_74 : decode cX12_lays 74 = .ok (.getfield 50, 3) := by decide +kernel
theorem dX12_lays_77 : decode cX12_lays 77 = .ok (.iload_n 3, 1) := by decide +kernel
theorem dX12_lays_78 : decode cX12_lays 78 = .ok (.iaload, 1) := by decide +kernel
theorem dX12_lays_79 : decode cX12_lays 79 = .ok (.if_icmp .ne 8, 3) := by decide +kernel
theorem dX12_lays_82 : decode cX12_lays 82 = .ok (.iload 5, 2) := by decide +kernel
theorem dX12_lays_84 : decode cX12_lays 84 = .ok (.goto 5, 3) := by decide +kernel
theorem dX12_lays_87 : decode cX12_lays 87 = .ok (.iload 4, 2) := by decide +kernel
theorem dX12_lays_89 : decode cX12_lays 89 = .ok (.istore 4, 2) := by decide +kernel
theorem dX12_lays_91 : decode cX12_lays 91 = .ok (.iinc 5 (-1), 3) := by decide +kernel
theorem dX12_lays_94 : decode cX12_lays 94 = .ok (.goto (-65), 3) := by decide +kernel
theorem dX12_lays_97 : decode cX12_lays 97 = .ok (.aload_n 0, 1) := by decide +kernel
theorem dX12_lays_98 : decode cX12_lays 98 = .ok (.getfield 47, 3) := by decide +kernel
theorem dX12_lays_101 : decode cX12_lays 101 = .ok (.bipush 16, 2) := by decide +kernel
theorem dX12_lays_103 : decode cX12_lays 103 = .ok (.iload_n 1, 1) := by decide +kernel
theorem dX12_lays_104 : decode cX12_lays 104 = .ok (.imul, 1) := by decide +kernel
theorem dX12_lays_105 : decode cX12_lays 105 = .ok (.aload_n 0, 1) := by decide +kernel
theorem dX12_lays_106 : decode cX12_lays 106 = .ok (.getfield 44, 3) := by decide +kernel
theorem dX12_lays_109 : decode cX12_lays 109 = .ok (.iload_n 1, 1) := by decide +kernel
theorem dX12_lays_110 : decode cX12_lays 110 = .ok (.iaload, 1) := by decide +kernel
theorem dX12_lays_111 : decode cX12_lays 111 = .ok (.iadd, 1) := by decide +kernel
theorem dX12_lays_112 : decode cX12_lays 112 = .ok (.iload 4, 2) := by decide +kernel
theorem dX12_lays_114 : decode cX12_lays 114 = .ok (.iastore, 1) := by decide +kernel
theorem dX12_lays_115 : decode cX12_lays 115 = .ok (.aload_n 0, 1) := by decide +kernel
theorem dX12_lays_116 : decode cX12_lays 116 = .ok (.getfield 44, 3) := by decide +kernel
theorem dX12_lays_119 : decode cX12_lays 119 = .ok (.iload_n 1, 1) := by decide +kernel
theorem dX12_lays_120 : decode cX12_lays 120 = .ok (.dup2, 1) := by decide +kernel
theorem dX12_lays_121 : decode cX12_lays 121 = .ok (.iaload, 1) := by decide +kernel
theorem dX12_lays_122 : decode cX12_lays 122 = .ok (.iconst 1, 1) := by decide +kernel
theorem dX12_lays_123 : decode cX12_lays 123 = .ok (.iadd, 1) := by decide +kernel
theorem dX12_lays_124 : decode cX12_lays 124 = .ok (.iastore, 1) := by decide +kernel
theorem dX12_lays_125 : decode cX12_lays 125 = .ok (.aload_n 0, 1) := by decide +kernel
theorem dX12_lays_126 : decode cX12_lays 126 = .ok (.iload 4, 2) := by decide +kernel
theorem dX12_lays_128 : decode cX12_lays 128 = .ok (.iload_n 3, 1) := by decide +kernel
theorem dX12_lays_129 : decode cX12_lays 129 = .ok (.invokevirtual 152, 3) := by decide +kernel
theorem dX12_lays_132 : decode cX12_lays 132 = .ok (.istore_n 3, 1) := by decide +kernel
theorem dX12_lays_133 : decode cX12_lays 133 = .ok (.goto (-124), 3) := by decide +kernel
theorem dX12_lays_136 : decode cX12_lays 136 = .ok (.bipush 16, 2) := by decide +kernel
theorem dX12_lays_138 : decode cX12_lays 138 = .ok (.iload_n 1, 1) := by decide +kernel
theorem dX12_lays_139 : decode cX12_lays 139 = .ok (.imul, 1) := by decide +kernel
theorem dX12_lays_140 : decode cX12_lays 140 = .ok (.istore 4, 2) := by decide +kernel
theorem dX12_lays_142 : decode cX12_lays 142 = .ok (.iload 4, 2) := by decide +kernel
theorem dX12_lays_144 : decode cX12_lays 144 = .ok (.bipush 16, 2) := by decide +kernel
theorem dX12_lays_146 : decode cX12_lays 146 = .ok (.iload_n 1, 1) := by decide +kernel
theorem dX12_lays_147 : decode cX12_lays 147 = .ok (.imul, 1) := by decide +kernel
theorem dX12_lays_148 : decode cX12_lays 148 = .ok (.aload_n 0, 1) := by decide +kernel
theorem dX12_lays_149 : decode cX12_lays 149 = .ok (.getfield 44, 3) := by decide +kernel
theorem dX12_lays_152 : decode cX12_lays 152 = .ok (.iload_n 1, 1) := by decide +kernel
theorem dX12_lays_153 : decode cX12_lays 153 = .ok (.iaload, 1) := by decide +kernel
theorem dX12_lays_154 : decode cX12_lays 154 = .ok (.iadd, 1) := by decide +kernel
theorem dX12_lays_155 : decode cX12_lays 155 = .ok (.if_icmp .ge 25, 3) := by decide +kernel
theorem dX12_lays_158 : decode cX12_lays 158 = .ok (.aload_n 0, 1) := by decide +kernel
theorem dX12_lays_159 : decode cX12_lays 159 = .ok (.getfield 19, 3) := by decide +kernel
theorem dX12_lays_162 : decode cX12_lays 162 = .ok (.aload_n 0, 1) := by decide +kernel
theorem dX12_lays_163 : decode cX12_lays 163 = .ok (.getfield 47, 3) := by decide +kernel
theorem dX12_lays_166 : decode cX12_lays 166 = .ok (.iload 4, 2) := by decide +kernel
theorem dX12_lays_168 : decode cX12_lays 168 = .ok (.iaload, 1) := by decide +kernel
theorem dX12_lays_169 : decode cX12_lays 169 = .ok (.dup2, 1) := by decide +kernel
theorem dX12_lays_170 : decode cX12_lays 170 = .ok (.iaload, 1) := by decide +kernel
theorem dX12_lays_171 : decode cX12_lays 171 = .ok (.iconst 1, 1) := by decide +kernel
theorem dX12_lays_172 : decode cX12_lays 172 = .ok (.isub, 1) := by decide +kernel
theorem dX12_lays_173 : decode cX12_lays 173 = .ok (.iastore, 1) := by decide +kernel
theorem dX12_lays_174 : decode cX12_lays 174 = .ok (.iinc 4 1, 3) := by decide +kernel
theorem dX12_lays_177 : decode cX12_lays 177 = .ok (.goto (-35), 3) := by decide +kernel
theorem dX12_lays_180 : decode cX12_lays 180 = .ok (.return_, 1) := by decide +kernel
theorem dX12_wire_0 : decode cX12_wire 0 = .ok (.aload_n 0, 1) := by decide +kernel
theorem dX12_wire_1 : decode cX12_wire 1 = .ok (.iload_n 1, 1) := by decide +kernel
theorem dX12_wire_2 : decode cX12_wire 2 = .ok (.iload_n 2, 1) := by decide +kernel
theorem dX12_wire_3 : decode cX12_wire 3 = .ok (.invokevirtual 156, 3) := by decide +kernel
theorem dX12_wire_6 : decode cX12_wire 6 = .ok (.ifCond .eq 17, 3) := by decide +kernel
theorem dX12_wire_9 : decode cX12_wire 9 = .ok (.aload_n 0, 1) := by decide +kernel
theorem dX12_wire_10 : decode cX12_wire 10 = .ok (.iload_n 3, 1) := by decide +kernel
theorem dX12_wire_11 : decode cX12_wire 11 = .ok (.iload 4, 2) := by decide +kernel
theorem dX12_wire_13 : decode cX12_wire 13 = .ok (.invokevirtual 156, 3) := by decide +kernel
theorem dX12_wire_16 : decode cX12_wire 16 = .ok (.ifCond .eq 7, 3) := by decide +kernel
theorem dX12_wire_19 : decode cX12_wire 19 = .ok (.iconst 1, 1) := by decide +kernel
theorem dX12_wire_20 : decode cX12_wire 20 = .ok (.goto 4, 3) := by decide +kernel
theorem dX12_wire_23 : decode cX12_wire 23 = .ok (.iconst 0, 1) := by decide +kernel
theorem dX12_wire_24 : decode cX12_wire 24 = .ok (.istore 6, 2) := by decide +kernel
theorem dX12_wire_26 : decode cX12_wire 26 = .ok (.iload_n 1, 1) := by decide +kernel
theorem dX12_wire_27 : decode cX12_wire 27 = .ok (.iload_n 3, 1) := by decide +kernel
theorem dX12_wire_28 : decode cX12_wire 28 = .ok (.if_icmp .eq 18, 3) := by decide +kernel
theorem dX12_wire_31 : decode cX12_wire 31 = .ok (.iload 5, 2) := by decide +kernel
theorem dX12_wire_33 : decode cX12_wire 33 = .ok (.iconst 0, 1) := by decide +kernel
theorem dX12_wire_34 : decode cX12_wire 34 = .ok (.bipush 7, 2) := by decide +kernel
theorem dX12_wire_36 : decode cX12_wire 36 = .ok (.invokestatic 120, 3) := by decide +kernel
theorem dX12_wire_39 : decode cX12_wire 39 = .ok (.ifCond .eq 7, 3) := by decide +kernel
theorem dX12_wire_42 : decode cX12_wire 42 = .ok (.iconst 1, 1) := by decide +kernel
theorem dX12_wire_43 : decode cX12_wire 43 = .ok (.goto 4, 3) := by decide +kernel
theorem dX12_wire_46 : decode cX12_wire 46 = .ok (.iconst 0, 1) := by decide +kernel
theorem dX12_wire_47 : decode cX12_wire 47 = .ok (.istore 7, 2) := by decide +kernel
theorem dX12_wire_49 : decode cX12_wire 49 = .ok (.iload 6, 2) := by decide +kernel
theorem dX12_wire_51 : decode cX12_wire 51 = .ok (.ifCond .eq 18, 3) := by decide +kernel
theorem dX12_wire_54 : decode cX12_wire 54 = .ok (.iload 7, 2) := by decide +kernel
theorem dX12_wire_56 : decode cX12_wire 56 = .ok (.ifCond .eq 13, 3) := by decide +kernel
theorem dX12_wire_59 : decode cX12_wire 59 = .ok (.aload_n 0, 1) := by decide +kernel
theorem dX12_wire_60 : decode cX12_wire 60 = .ok (.aload_n 0, 1) := by decide +kernel
theorem dX12_wire_61 : decode cX12_wire 61 = .ok (.getfield 22, 3) := by decide +kernel
theorem dX12_wire_64 : decode cX12_wire 64 = .ok (.iload_n 3, 1) := by decide +kernel
theorem dX12_wire_65 : decode cX12_wire 65 = .ok (.iaload, 1) := by decide +kernel
theorem dX12_wire_66 : decode cX12_wire 66 = .ok (.invokevirtual 159, 3) := by decide +kernel
theorem dX12_wire_69 : decode cX12_wire 69 = .ok (.bipush 8, 2) := by decide +kernel
theorem dX12_wire_71 : decode cX12_wire 71 = .ok (.iload_n 1, 1) := by decide +kernel
theorem dX12_wire_72 : decode cX12_wire 72 = .ok (.imul, 1) := by decide +kernel
theorem dX12_wire_73 : decode cX12_wire 73 = .ok (.iload_n 2, 1) := by decide +kernel
theorem dX12_wire_74 : decode cX12_wire 74 = .ok (.iadd, 1) := by decide +kernel
theorem dX12_wire_75 : decode cX12_wire 75 = .ok (.istore 8, 2) := by decide +kernel
theorem dX12_wire_77 : decode cX12_wire 77 = .ok (.bipush 8, 2) := by decide +kernel
theorem dX12_wire_79 : decode cX12_wire 79 = .ok (.iload_n 3, 1) := by decide +kernel
theorem dX12_wire_80 : decode cX12_wire 80 = .ok (.imul, 1) := by decide +kernel
theorem dX12_wire_81 : decode cX12_wire 81 = .ok (.iload 4, 2) := by decide +kernel
theorem dX12_wire_83 : decode cX12_wire 83 = .ok (.iadd, 1) := by decide +kernel
theorem dX12_wire_84 : decode cX12_wire 84 = .ok (.istore 9, 2) := by decide +kernel
theorem dX12_wire_86 : decode cX12_wire 86 = .ok (.aload_n 0, 1) := by decide +kernel
theorem dX12_wire_87 : decode cX12_wire 87 = .ok (.iload 6, 2) := by decide +kernel
theorem dX12_wire_89 : decode cX12_wire 89 = .ok (.ifCond .ne 7, 3) := by decide +kernel
theorem dX12_wire_92 : decode cX12_wire 92 = .ok (.iconst 1, 1) := by decide +kernel
theorem dX12_wire_93 : decode cX12_wire 93 = .ok (.goto 60, 3) := by decide +kernel
theorem dX12_wire_96 : decode cX12_wire 96 = .ok (.iload 7, 2) := by decide +kernel
theorem dX12_wire_98 : decode cX12_wire 98 = .ok (.ifCond .ne 7, 3) := by decide +kernel
theorem dX12_wire_101 : decode cX12_wire 101 = .ok (.iconst 2, 1) := by decide +kernel
theorem dX12_wire_102 : decode cX12_wire 102 = .ok (.goto 51, 3) := by decide +kernel
theorem dX12_wire_105 : decode cX12_wire 105 = .ok (.aload_n 0, 1) := by decide +kernel
theorem dX12_wire_106 : decode cX12_wire 106 = .ok (.iload 8, 2) := by decide +kernel
theorem dX12_wire_108 : decode cX12_wire 108 = .ok (.invokevirtual 163, 3) := by decide +kernel
theorem dX12_wire_111 : decode cX12_wire 111 = .ok (.ifCond .ne 37, 3) := by decide +kernel
theorem dX12_wire_114 : decode cX12_wire 114 = .ok (.aload_n 0, 1) := by decide +kernel
theorem dX12_wire_115 : decode cX12_wire 115 = .ok (.iload 9, 2) := by decide +kernel
theorem dX12_wire_117 : decode cX12_wire 117 = .ok (.invokevirtual 163, 3) := by decide +kernel
theorem dX12_wire_120 : decode cX12_wire 120 = .ok (.ifCond .ne 28, 3) := by decide +kernel
theorem dX12_wire_123 : decode cX12_wire 123 = .ok (.aload_n 0, 1) := by decide +kernel
theorem dX12_wire_124 : decode cX12_wire 124 = .ok (.getfield 50, 3) := by decide +kernel
theorem dX12_wire_127 : decode cX12_wire 127 = .ok (.aload_n 0, 1) := by decide +kernel
theorem dX12_wire_128 : decode cX12_wire 128 = .ok (.getfield 22, 3) := by decide +kernel
theorem dX12_wire_131 : decode cX12_wire 131 = .ok (.iload_n 1, 1) := by decide +kernel
theorem dX12_wire_132 : decode cX12_wire 132 = .ok (.iaload, 1) := by decide +kernel
theorem dX12_wire_133 : decode cX12_wire 133 = .ok (.iaload, 1) := by decide +kernel
theorem dX12_wire_134 : decode cX12_wire 134 = .ok (.ldc 147, 2) := by decide +kernel
theorem dX12_wire_136 : decode cX12_wire 136 = .ok (.if_icmp .ge 12, 3) := by decide +kernel
theorem dX12_wire_139 : decode cX12_wire 139 = .ok (.aload_n 0, 1) := by decide +kernel
theorem dX12_wire_140 : decode cX12_wire 140 = .ok (.getfield 144, 3) := by decide +kernel
theorem dX12_wire_143 : decode cX12_wire 143 = .ok (.bipush 24, 2) := by decide +kernel
theorem dX12_wire_145 : decode cX12_wire 145 = .ok (.if_icmp .ne 7, 3) := by decide +kernel
theorem dX12_wire_148 : decode cX12_wire 148 = .ok (.iconst 3, 1) := by decide +kernel
theorem dX12_wire_149 : decode cX12_wire 149 = .ok (.goto 4, 3) := by decide +kernel
theorem dX12_wire_152 : decode cX12_wire 152 = .ok (.iconst 0, 1) := by decide +kernel
theorem dX12_wire_153 : decode cX12_wire 153 = .ok (.invokevirtual 134, 3) := by decide +kernel
theorem dX12_wire_156 : decode cX12_wire 156 = .ok (.ifCond .eq 5, 3) := by decide +kernel
theorem dX12_wire_159 : decode cX12_wire 159 = .ok (.iconst 0, 1) := by decide +kernel
theorem dX12_wire_160 : decode cX12_wire 160 = .ok (.ireturn, 1) := by decide +kernel
theorem dX12_wire_161 : decode cX12_wire 161 = .ok (.aload_n 0, 1) := by decide +kernel
theorem dX12_wire_162 : decode cX12_wire 162 = .ok (.getfield 38, 3) := by decide +kernel
theorem dX12_wire_165 : decode cX12_wire 165 = .ok (.iconst 2, 1) := by decide +kernel
theorem dX12_wire_166 : decode cX12_wire 166 = .ok (.aload_n 0, 1) := by decide +kernel
theorem dX12_wire_167 : decode cX12_wire 167 = .ok (.getfield 144, 3) := by decide +kernel
theorem dX12_wire_170 : decode cX12_wire 170 = .ok (.imul, 1) := by decide +kernel
theorem dX12_wire_171 : decode cX12_wire 171 = .ok (.iload 8, 2) := by decide +kernel
theorem dX12_wire_173 : decode cX12_wire 173 = .ok (.iastore, 1) := by decide +kernel
theorem dX12_wire_174 : decode cX12_wire 174 = .ok (.aload_n 0, 1) := by decide +kernel
theorem dX12_wire_175 : decode cX12_wire 175 = .ok (.getfield 38, 3) := by decide +kernel
theorem dX12_wire_178 : decode cX12_wire 178 = .ok (.iconst 2, 1) := by decide +kernel
theorem dX12_wire_179 : decode cX12_wire 179 = .ok (.aload_n 0, 1) := by decide +kernel
theorem dX12_wire_180 : decode cX12_wire 180 = .ok (.getfield 144, 3) := by decide +kernel
theorem dX12_wire_183 : decode cX12_wire 183 = .ok (.imul, 1) := by decide +kernel
theorem dX12_wire_184 : decode cX12_wire 184 = .ok (.iconst 1, 1) := by decide +kernel
theorem dX12_wire_185 : decode cX12_wire 185 = .ok (.iadd, 1) := by decide +kernel
theorem dX12_wire_186 : decode cX12_wire 186 = .ok (.iload 9, 2) := by decide +kernel
theorem dX12_wire_188 : decode cX12_wire 188 = .ok (.iastore, 1) := by decide +kernel
theorem dX12_wire_189 : decode cX12_wire 189 = .ok (.aload_n 0, 1) := by decide +kernel
theorem dX12_wire_190 : decode cX12_wire 190 = .ok (.getfield 41, 3) := by decide +kernel
theorem dX12_wire_193 : decode cX12_wire 193 = .ok (.aload_n 0, 1) := by decide +kernel
theorem dX12_wire_194 : decode cX12_wire 194 = .ok (.getfield 144, 3) := by decide +kernel
theorem dX12_wire_197 : decode cX12_wire 197 = .ok (.iload 5, 2) := by decide +kernel
theorem dX12_wire_199 : decode cX12_wire 199 = .ok (.iastore, 1) := by decide +kernel
theorem dX12_wire_200 : decode cX12_wire 200 = .ok (.aload_n 0, 1) := by decide +kernel
theorem dX12_wire_201 : decode cX12_wire 201 = .ok (.aload_n 0, 1) := by decide +kernel
theorem dX12_wire_202 : decode cX12_wire 202 = .ok (.getfield 144, 3) := by decide +kernel
theorem dX12_wire_205 : decode cX12_wire 205 = .ok (.aload_n 0, 1) := by decide +kernel
theorem dX12_wire_206 : decode cX12_wire 206 = .ok (.getfield 22, 3) := by decide +kernel
theorem dX12_wire_209 : decode cX12_wire 209 = .ok (.iload_n 1, 1) := by decide +kernel
theorem dX12_wire_210 : decode cX12_wire 210 = .ok (.iaload, 1) := by decide +kernel
theorem dX12_wire_211 : decode cX12_wire 211 = .ok (.invokevirtual 166, 3) := by decide +kernel
theorem dX12_wire_214 : decode cX12_wire 214 = .ok (.aload_n 0, 1) := by decide +kernel
theorem dX12_wire_215 : decode cX12_wire 215 = .ok (.dup, 1) := by decide +kernel
theorem dX12_wire_216 : decode cX12_wire 216 = .ok (.getfield 144, 3) := by decide +kernel
theorem dX12_wire_219 : decode cX12_wire 219 = .ok (.iconst 1, 1) := by decide +kernel
theorem dX12_wire_220 : decode cX12_wire 220 = .ok (.iadd, 1) := by decide +kernel
theorem dX12_wire_221 : decode cX12_wire 221 = .ok (.putfield 144, 3) := by decide +kernel
theorem dX12_wire_224 : decode cX12_wire 224 = .ok (.aload_n 0, 1) := by decide +kernel
theorem dX12_wire_225 : decode cX12_wire 225 = .ok (.getfield 144, 3) := by decide +kernel
theorem dX12_wire_228 : decode cX12_wire 228 = .ok (.iconst 1, 1) := by decide +kernel
theorem dX12_wire_229 : decode cX12_wire 229 = .ok (.isub, 1) := by decide +kernel
theorem dX12_wire_230 : decode cX12_wire 230 = .ok (.ireturn, 1) := by decide +kernel
theorem dX11_wireAt_0 : decode cX11_wireAt 0 = .ok (.iload_n 1, 1) := by decide +kernel
theorem dX11_wireAt_1 : decode cX11_wireAt 1 = .ok (.aload_n 0, 1) := by decide +kernel
theorem dX11_wireAt_2 : decode cX11_wireAt 2 = .ok (.getfield 10, 3) := by decide +kernel
theorem dX11_wireAt_5 : decode cX11_wireAt 5 = .ok (.getfield 113, 3) := by decide +kernel
theorem dX11_wireAt_8 : decode cX11_wireAt 8 = .ok (.invokevirtual 72, 3) := by decide +kernel
theorem dX11_wireAt_11 : decode cX11_wireAt 11 = .ok (.invokestatic 54, 3) := by decide +kernel
theorem dX11_wireAt_14 : decode cX11_wireAt 14 = .ok (.ifCond .ne 11, 3) := by decide +kernel
theorem dX11_wireAt_17 : decode cX11_wireAt 17 = .ok (.new 299, 3) := by decide +kernel
theorem dX11_wireAt_20 : decode cX11_wireAt 20 = .ok (.dup, 1) := by decide +kernel
theorem dX11_wireAt_21 : decode cX11_wireAt 21 = .ok (.invokespecial 301, 3) := by decide +kernel
theorem dX11_wireAt_24 : decode cX11_wireAt 24 = .ok (.athrow, 1) := by decide +kernel
theorem dX11_wireAt_25 : decode cX11_wireAt 25 = .ok (.aload_n 0, 1) := by decide +kernel
theorem dX11_wireAt_26 : decode cX11_wireAt 26 = .ok (.getfield 10, 3) := by decide +kernel
theorem dX11_wireAt_29 : decode cX11_wireAt 29 = .ok (.getfield 113, 3) := by decide +kernel
theorem dX11_wireAt_32 : decode cX11_wireAt 32 = .ok (.iload_n 1, 1) := by decide +kernel
theorem dX11_wireAt_33 : decode cX11_wireAt 33 = .ok (.invokevirtual 292, 3) := by decide +kernel
theorem dX11_wireAt_36 : decode cX11_wireAt 36 = .ok (.checkcast 122, 3) := by decide +kernel
theorem dX11_wireAt_39 : decode cX11_wireAt 39 = .ok (.areturn, 1) := by decide +kernel
theorem dX2_release_0 : decode cX2_release 0 = .ok (.aload_n 0, 1) := by decide +kernel
theorem dX2_release_1 : decode cX2_release 1 = .ok (.dup, 1) := by decide +kernel
theorem dX2_release_2 : decode cX2_release 2 = .ok (.getfield 24, 3) := by decide +kernel
theorem dX2_release_5 : decode cX2_release 5 = .ok (.iconst 1, 1) := by decide +kernel
theorem dX2_release_6 : decode cX2_release 6 = .ok (.iload_n 1, 1) := by decide +kernel
theorem dX2_release_7 : decode cX2_release 7 = .ok (.ishl, 1) := by decide +kernel
theorem dX2_release_8 : decode cX2_release 8 = .ok (.iconst (-1), 1) := by decide +kernel
theorem dX2_release_9 : decode cX2_release 9 = .ok (.ixor, 1) := by decide +kernel
theorem dX2_release_10 : decode cX2_release 10 = .ok (.iand, 1) := by decide +kernel
theorem dX2_release_11 : decode cX2_release 11 = .ok (.putfield 24, 3) := by decide +kernel
theorem dX2_release_14 : decode cX2_release 14 = .ok (.return_, 1) := by decide +kernel
theorem dX10_takeOut_0 : decode cX10_takeOut 0 = .ok (.aload_n 0, 1) := by decide +kernel
theorem dX10_takeOut_1 : decode cX10_takeOut 1 = .ok (.iconst 1, 1) := by decide +kernel
theorem dX10_takeOut_2 : decode cX10_takeOut 2 = .ok (.putfield 54, 3) := by decide +kernel
theorem dX10_takeOut_5 : decode cX10_takeOut 5 = .ok (.aload_n 0, 1) := by decide +kernel
theorem dX10_takeOut_6 : decode cX10_takeOut 6 = .ok (.getfield 9, 3) := by decide +kernel
theorem dX10_takeOut_9 : decode cX10_takeOut 9 = .ok (.aload_n 0, 1) := by decide +kernel
theorem dX10_takeOut_10 : decode cX10_takeOut 10 = .ok (.getfield 15, 3) := by decide +kernel
theorem dX10_takeOut_13 : decode cX10_takeOut 13 = .ok (.invokevirtual 58, 3) := by decide +kernel
theorem dX10_takeOut_16 : decode cX10_takeOut 16 = .ok (.aload_n 0, 1) := by decide +kernel
theorem dX10_takeOut_17 : decode cX10_takeOut 17 = .ok (.getfield 19, 3) := by decide +kernel
theorem dX10_takeOut_20 : decode cX10_takeOut 20 = .ok (.aload_n 0, 1) := by decide +kernel
theorem dX10_takeOut_21 : decode cX10_takeOut 21 = .ok (.getfield 22, 3) := by decide +kernel
theorem dX10_takeOut_24 : decode cX10_takeOut 24 = .ok (.invokevirtual 58, 3) := by decide +kernel
theorem dX10_takeOut_27 : decode cX10_takeOut 27 = .ok (.iconst 0, 1) := by decide +kernel
theorem dX10_takeOut_28 : decode cX10_takeOut 28 = .ok (.istore_n 1, 1) := by decide +kernel
theorem dX10_takeOut_29 : decode cX10_takeOut 29 = .ok (.iload_n 1, 1) := by decide +kernel
theorem dX10_takeOut_30 : decode cX10_takeOut 30 = .ok (.aload_n 0, 1) := by decide +kernel
theorem dX10_takeOut_31 : decode cX10_takeOut 31 = .ok (.getfield 31, 3) := by decide +kernel
theorem dX10_takeOut_34 : decode cX10_takeOut 34 = .ok (.invokevirtual 61, 3) := by decide +kernel
theorem dX10_takeOut_37 : decode cX10_takeOut 37 = .ok (.if_icmp .ge 29, 3) := by decide +kernel
theorem dX10_takeOut_40 : decode cX10_takeOut 40 = .ok (.aload_n 0, 1) := by decide +kernel
theorem dX10_takeOut_41 : decode cX10_takeOut 41 = .ok (.getfield 31, 3) := by decide +kernel
theorem dX10_takeOut_44 : decode cX10_takeOut 44 = .ok (.iload_n 1, 1) := by decide +kernel
theorem dX10_takeOut_45 : decode cX10_takeOut 45 = .ok (.invokevirtual 65, 3) := by decide +kernel
theorem dX10_takeOut_48 : decode cX10_takeOut 48 = .ok (.checkcast 46, 3) := by decide +kernel
theorem dX10_takeOut_51 : decode cX10_takeOut 51 = .ok (.dup, 1) := by decide +kernel
theorem dX10_takeOut_52 : decode cX10_takeOut 52 = .ok (.getfield 45, 3) := by decide +kernel
theorem dX10_takeOut_55 : decode cX10_takeOut 55 = .ok (.iconst 1, 1) := by decide +kernel
theorem dX10_takeOut_56 : decode cX10_takeOut 56 = .ok (.iadd, 1) := by decide +kernel
theorem dX10_takeOut_57 : decode cX10_takeOut 57 = .ok (.putfield 45, 3) := by decide +kernel
theorem dX10_takeOut_60 : decode cX10_takeOut 60 = .ok (.iinc 1 1, 3) := by decide +kernel
theorem dX10_takeOut_63 : decode cX10_takeOut 63 = .ok (.goto (-34), 3) := by decide +kernel
theorem dX10_takeOut_66 : decode cX10_takeOut 66 = .ok (.return_, 1) := by decide +kernel
theorem dX11_pull_0 : decode cX11_pull 0 = .ok (.aload_n 0, 1) := by decide +kernel
theorem dX11_pull_1 : decode cX11_pull 1 = .ok (.iload_n 1, 1) := by decide +kernel
theorem dX11_pull_2 : decode cX11_pull 2 = .ok (.invokevirtual 131, 3) := by decide +kernel
theorem dX11_pull_5 : decode cX11_pull 5 = .ok (.astore_n 2, 1) := by decide +kernel
theorem dX11_pull_6 : decode cX11_pull 6 = .ok (.aload_n 2, 1) := by decide +kernel
theorem dX11_pull_7 : decode cX11_pull 7 = .ok (.getfield 135, 3) := by decide +kernel
theorem dX11_pull_10 : decode cX11_pull 10 = .ok (.ifCond .ne 7, 3) := by decide +kernel
theorem dX11_pull_13 : decode cX11_pull 13 = .ok (.iconst 1, 1) := by decide +kernel
theorem dX11_pull_14 : decode cX11_pull 14 = .ok (.goto 4, 3) := by decide +kernel
theorem dX11_pull_17 : decode cX11_pull 17 = .ok (.iconst 0, 1) := by decide +kernel
theorem dX11_pull_18 : decode cX11_pull 18 = .ok (.invokestatic 76, 3) := by decide +kernel
theorem dX11_pull_21 : decode cX11_pull 21 = .ok (.aload_n 2, 1) := by decide +kernel
theorem dX11_pull_22 : decode cX11_pull 22 = .ok (.invokevirtual 139, 3) := by decide +kernel
theorem dX11_pull_25 : decode cX11_pull 25 = .ok (.aload_n 2, 1) := by decide +kernel
theorem dX11_pull_26 : decode cX11_pull 26 = .ok (.getfield 142, 3) := by decide +kernel
theorem dX11_pull_29 : decode cX11_pull 29 = .ok (.ireturn, 1) := by decide +kernel
theorem dL_pull_0 : decode cL_pull 0 = .ok (.aload_n 2, 1) := by decide +kernel
theorem dL_pull_1 : decode cL_pull 1 = .ok (.iconst 0, 1) := by decide +kernel
theorem dL_pull_2 : decode cL_pull 2 = .ok (.aload_n 0, 1) := by decide +kernel
theorem dL_pull_3 : decode cL_pull 3 = .ok (.iload_n 1, 1) := by decide +kernel
theorem dL_pull_4 : decode cL_pull 4 = .ok (.invokevirtual 31, 3) := by decide +kernel
theorem dL_pull_7 : decode cL_pull 7 = .ok (.i2l, 1) := by decide +kernel
theorem dL_pull_8 : decode cL_pull 8 = .ok (.lastore, 1) := by decide +kernel
theorem dL_pull_9 : decode cL_pull 9 = .ok (.goto 9, 3) := by decide +kernel
theorem dL_pull_12 : decode cL_pull 12 = .ok (.astore_n 3, 1) := by decide +kernel
theorem dL_pull_13 : decode cL_pull 13 = .ok (.iconst 1, 1) := by decide +kernel
theorem dL_pull_14 : decode cL_pull 14 = .ok (.ireturn, 1) := by decide +kernel
theorem dL_pull_15 : decode cL_pull 15 = .ok (.astore_n 3, 1) := by decide +kernel
theorem dL_pull_16 : decode cL_pull 16 = .ok (.iconst 2, 1) := by decide +kernel
theorem dL_pull_17 : decode cL_pull 17 = .ok (.ireturn, 1) := by decide +kernel
theorem dL_pull_18 : decode cL_pull 18 = .ok (.iconst 0, 1) := by decide +kernel
theorem dL_pull_19 : decode cL_pull 19 = .ok (.ireturn, 1) := by decide +kernel
theorem dX12_isWire_0 : decode cX12_isWire 0 = .ok (.iload_n 1, 1) := by decide +kernel
theorem dX12_isWire_1 : decode cX12_isWire 1 = .ok (.iconst 0, 1) := by decide +kernel
theorem dX12_isWire_2 : decode cX12_isWire 2 = .ok (.aload_n 0, 1) := by decide +kernel
theorem dX12_isWire_3 : decode cX12_isWire 3 = .ok (.getfield 144, 3) := by decide +kernel
theorem dX12_isWire_6 : decode cX12_isWire 6 = .ok (.iconst 1, 1) := by decide +kernel
theorem dX12_isWire_7 : decode cX12_isWire 7 = .ok (.isub, 1) := by decide +kernel
theorem dX12_isWire_8 : decode cX12_isWire 8 = .ok (.invokestatic 120, 3) := by decide +kernel
theorem dX12_isWire_11 : decode cX12_isWire 11 = .ok (.ireturn, 1) := by decide +kernel
theorem dX12_lengthOf_0 : decode cX12_lengthOf 0 = .ok (.iconst 0, 1) := by decide +kernel
theorem dX12_lengthOf_1 : decode cX12_lengthOf 1 = .ok (.istore_n 2, 1) := by decide +kernel
theorem dX12_lengthOf_2 : decode cX12_lengthOf 2 = .ok (.bipush 16, 2) := by decide +kernel
theorem dX12_lengthOf_4 : decode cX12_lengthOf 4 = .ok (.iload_n 1, 1) := by decide +kernel
theorem dX12_lengthOf_5 : decode cX12_lengthOf 5 = .ok (.imul, 1) := by decide +kernel
theorem dX12_lengthOf_6 : decode cX12_lengthOf 6 = .ok (.istore_n 3, 1) := by decide +kernel
theorem dX12_lengthOf_7 : decode cX12_lengthOf 7 = .ok (.iload_n 3, 1) := by decide +kernel
theorem dX12_lengthOf_8 : decode cX12_lengthOf 8 = .ok (.bipush 16, 2) := by decide +kernel
theorem dX12_lengthOf_10 : decode cX12_lengthOf 10 = .ok (.iload_n 1, 1) := by decide +kernel
theorem dX12_lengthOf_11 : decode cX12_lengthOf 11 = .ok (.imul, 1) := by decide +kernel
theorem dX12_lengthOf_12 : decode cX12_lengthOf 12 = .ok (.aload_n 0, 1) := by decide +kernel
theorem dX12_lengthOf_13 : decode cX12_lengthOf 13 = .ok (.getfield 44, 3) := by decide +kernel
theorem dX12_lengthOf_16 : decode cX12_lengthOf 16 = .ok (.iload_n 1, 1) := by decide +kernel
theorem dX12_lengthOf_17 : decode cX12_lengthOf 17 = .ok (.iaload, 1) := by decide +kernel
theorem dX12_lengthOf_18 : decode cX12_lengthOf 18 = .ok (.iadd, 1) := by decide +kernel
theorem dX12_lengthOf_19 : decode cX12_lengthOf 19 = .ok (.if_icmp .ge 32, 3) := by decide +kernel
theorem dX12_lengthOf_22 : decode cX12_lengthOf 22 = .ok (.aload_n 0, 1) := by decide +kernel
theorem dX12_lengthOf_23 : decode cX12_lengthOf 23 = .ok (.getfield 34, 3) := by decide +kernel
theorem dX12_lengthOf_26 : decode cX12_lengthOf 26 = .ok (.iload_n 1, 1) := by decide +kernel
theorem dX12_lengthOf_27 : decode cX12_lengthOf 27 = .ok (.baload, 1) := by decide +kernel
theorem dX12_lengthOf_28 : decode cX12_lengthOf 28 = .ok (.ifCond .ne 23, 3) := by decide +kernel
theorem dX12_lengthOf_31 : decode cX12_lengthOf 31 = .ok (.iload_n 2, 1) := by decide +kernel
theorem dX12_lengthOf_32 : decode cX12_lengthOf 32 = .ok (.aload_n 0, 1) := by decide +kernel
theorem dX12_lengthOf_33 : decode cX12_lengthOf 33 = .ok (.getfield 16, 3) := by decide +kernel
theorem dX12_lengthOf_36 : decode cX12_lengthOf 36 = .ok (.aload_n 0, 1) := by decide +kernel
theorem dX12_lengthOf_37 : decode cX12_lengthOf 37 = .ok (.getfield 47, 3) := by decide +kernel
theorem dX12_lengthOf_40 : decode cX12_lengthOf 40 = .ok (.iload_n 3, 1) := by decide +kernel
theorem dX12_lengthOf_41 : decode cX12_lengthOf 41 = .ok (.iaload, 1) := by decide +kernel
theorem dX12_lengthOf_42 : decode cX12_lengthOf 42 = .ok (.iaload, 1) := by decide +kernel
theorem dX12_lengthOf_43 : decode cX12_lengthOf 43 = .ok (.iadd, 1) := by decide +kernel
theorem dX12_lengthOf_44 : decode cX12_lengthOf 44 = .ok (.istore_n 2, 1) := by decide +kernel
theorem dX12_lengthOf_45 : decode cX12_lengthOf 45 = .ok (.iinc 3 1, 3) := by decide +kernel
theorem dX12_lengthOf_48 : decode cX12_lengthOf 48 = .ok (.goto (-41), 3) := by decide +kernel
theorem dX12_lengthOf_51 : decode cX12_lengthOf 51 = .ok (.iload_n 2, 1) := by decide +kernel
theorem dX12_lengthOf_52 : decode cX12_lengthOf 52 = .ok (.ireturn, 1) := by decide +kernel
theorem dX12_pull_0 : decode cX12_pull 0 = .ok (.aload_n 0, 1) := by decide +kernel
theorem dX12_pull_1 : decode cX12_pull 1 = .ok (.aload_n 0, 1) := by decide +kernel
theorem dX12_pull_2 : decode cX12_pull 2 = .ok (.iload_n 1, 1) := by decide +kernel
theorem dX12_pull_3 : decode cX12_pull 3 = .ok (.invokevirtual 170, 3) := by decide +kernel
theorem dX12_pull_6 : decode cX12_pull 6 = .ok (.ifCond .ne 7, 3) := by decide +kernel
theorem dX12_pull_9 : decode cX12_pull 9 = .ok (.iconst 1, 1) := by decide +kernel
theorem dX12_pull_10 : decode cX12_pull 10 = .ok (.goto 17, 3) := by decide +kernel
theorem dX12_pull_13 : decode cX12_pull 13 = .ok (.aload_n 0, 1) := by decide +kernel
theorem dX12_pull_14 : decode cX12_pull 14 = .ok (.getfield 34, 3) := by decide +kernel
theorem dX12_pull_17 : decode cX12_pull 17 = .ok (.iload_n 1, 1) := by decide +kernel
theorem dX12_pull_18 : decode cX12_pull 18 = .ok (.baload, 1) := by decide +kernel
theorem dX12_pull_19 : decode cX12_pull 19 = .ok (.ifCond .eq 7, 3) := by decide +kernel
theorem dX12_pull_22 : decode cX12_pull 22 = .ok (.iconst 2, 1) := by decide +kernel
theorem dX12_pull_23 : decode cX12_pull 23 = .ok (.goto 4, 3) := by decide +kernel
theorem dX12_pull_26 : decode cX12_pull 26 = .ok (.iconst 0, 1) := by decide +kernel
theorem dX12_pull_27 : decode cX12_pull 27 = .ok (.invokevirtual 134, 3) := by decide +kernel
theorem dX12_pull_30 : decode cX12_pull 30 = .ok (.ifCond .eq 5, 3) := by decide +kernel
theorem dX12_pull_33 : decode cX12_pull 33 = .ok (.iconst 0, 1) := by decide +kernel
theorem dX12_pull_34 : decode cX12_pull 34 = .ok (.ireturn, 1) := by decide +kernel
theorem dX12_pull_35 : decode cX12_pull 35 = .ok (.aload_n 0, 1) := by decide +kernel
theorem dX12_pull_36 : decode cX12_pull 36 = .ok (.iload_n 1, 1) := by decide +kernel
theorem dX12_pull_37 : decode cX12_pull 37 = .ok (.invokevirtual 173, 3) := by decide +kernel
theorem dX12_pull_40 : decode cX12_pull 40 = .ok (.istore_n 2, 1) := by decide +kernel
theorem dX12_pull_41 : decode cX12_pull 41 = .ok (.aload_n 0, 1) := by decide +kernel
theorem dX12_pull_42 : decode cX12_pull 42 = .ok (.getfield 34, 3) := by decide +kernel
theorem dX12_pull_45 : decode cX12_pull 45 = .ok (.iload_n 1, 1) := by decide +kernel
theorem dX12_pull_46 : decode cX12_pull 46 = .ok (.iconst 1, 1) := by decide +kernel
theorem dX12_pull_47 : decode cX12_pull 47 = .ok (.bastore, 1) := by decide +kernel
theorem dX12_pull_48 : decode cX12_pull 48 = .ok (.bipush 16, 2) := by decide +kernel
theorem dX12_pull_50 : decode cX12_pull 50 = .ok (.iload_n 1, 1) := by decide +kernel
theorem dX12_pull_51 : decode cX12_pull 51 = .ok (.imul, 1) := by decide +kernel
theorem dX12_pull_52 : decode cX12_pull 52 = .ok (.istore_n 3, 1) := by decide +kernel
theorem dX12_pull_53 : decode cX12_pull 53 = .ok (.iload_n 3, 1) := by decide +kernel
theorem dX12_pull_54 : decode cX12_pull 54 = .ok (.bipush 16, 2) := by decide +kernel
theorem dX12_pull_56 : decode cX12_pull 56 = .ok (.iload_n 1, 1) := by decide +kernel
theorem dX12_pull_57 : decode cX12_pull 57 = .ok (.imul, 1) := by decide +kernel
theorem dX12_pull_58 : decode cX12_pull 58 = .ok (.aload_n 0, 1) := by decide +kernel
theorem dX12_pull_59 : decode cX12_pull 59 = .ok (.getfield 44, 3) := by decide +kernel
theorem dX12_pull_62 : decode cX12_pull 62 = .ok (.iload_n 1, 1) := by decide +kernel
theorem dX12_pull_63 : decode cX12_pull 63 = .ok (.iaload, 1) := by decide +kernel
theorem dX12_pull_64 : decode cX12_pull 64 = .ok (.iadd, 1) := by decide +kernel
theorem dX12_pull_65 : decode cX12_pull 65 = .ok (.if_icmp .ge 24, 3) := by decide +kernel
theorem dX12_pull_68 : decode cX12_pull 68 = .ok (.aload_n 0, 1) := by decide +kernel
theorem dX12_pull_69 : decode cX12_pull 69 = .ok (.getfield 19, 3) := by decide +kernel
theorem dX12_pull_72 : decode cX12_pull 72 = .ok (.aload_n 0, 1) := by decide +kernel
theorem dX12_pull_73 : decode cX12_pull 73 = .ok (.getfield 47, 3) := by decide +kernel
theorem dX12_pull_76 : decode cX12_pull 76 = .ok (.iload_n 3, 1) := by decide +kernel
theorem dX12_pull_77 : decode cX12_pull 77 = .ok (.iaload, 1) := by decide +kernel
theorem dX12_pull_78 : decode cX12_pull 78 = .ok (.dup2, 1) := by decide +kernel
theorem dX12_pull_79 : decode cX12_pull 79 = .ok (.iaload, 1) := by decide +kernel
theorem dX12_pull_80 : decode cX12_pull 80 = .ok (.iconst 1, 1) := by decide +kernel
theorem dX12_pull_81 : decode cX12_pull 81 = .ok (.iadd, 1) := by decide +kernel
theorem dX12_pull_82 : decode cX12_pull 82 = .ok (.iastore, 1) := by decide +kernel
theorem dX12_pull_83 : decode cX12_pull 83 = .ok (.iinc 3 1, 3) := by decide +kernel
theorem dX12_pull_86 : decode cX12_pull 86 = .ok (.goto (-33), 3) := by decide +kernel
theorem dX12_pull_89 : decode cX12_pull 89 = .ok (.iload_n 2, 1) := by decide +kernel
theorem dX12_pull_90 : decode cX12_pull 90 = .ok (.ireturn, 1) := by decide +kernel
theorem dX10_bundleAt_0 : decode cX10_bundleAt 0 = .ok (.iload_n 1, 1) := by decide +kernel
theorem dX10_bundleAt_1 : decode cX10_bundleAt 1 = .ok (.ifCond .lt 31, 3) := by decide +kernel
theorem dX10_bundleAt_4 : decode cX10_bundleAt 4 = .ok (.iload_n 1, 1) := by decide +kernel
theorem dX10_bundleAt_5 : decode cX10_bundleAt 5 = .ok (.aload_n 0, 1) := by decide +kernel
theorem dX10_bundleAt_6 : decode cX10_bundleAt 6 = .ok (.getfield 31, 3) := by decide +kernel
theorem dX10_bundleAt_9 : decode cX10_bundleAt 9 = .ok (.invokevirtual 61, 3) := by decide +kernel
theorem dX10_bundleAt_12 : decode cX10_bundleAt 12 = .ok (.if_icmp .ge 20, 3) := by decide +kernel
theorem dX10_bundleAt_15 : decode cX10_bundleAt 15 = .ok (.aload_n 0, 1) := by decide +kernel
theorem dX10_bundleAt_16 : decode cX10_bundleAt 16 = .ok (.getfield 31, 3) := by decide +kernel
theorem dX10_bundleAt_19 : decode cX10_bundleAt 19 = .ok (.iload_n 1, 1) := by decide +kernel
theorem dX10_bundleAt_20 : decode cX10_bundleAt 20 = .ok (.invokevirtual 65, 3) := by decide +kernel
theorem dX10_bundleAt_23 : decode cX10_bundleAt 23 = .ok (.checkcast 46, 3) := by decide +kernel
theorem dX10_bundleAt_26 : decode cX10_bundleAt 26 = .ok (.getfield 69, 3) := by decide +kernel
theorem dX10_bundleAt_29 : decode cX10_bundleAt 29 = .ok (.goto 4, 3) := by decide +kernel
theorem dX10_bundleAt_32 : decode cX10_bundleAt 32 = .ok (.iconst (-1), 1) := by decide +kernel
theorem dX10_bundleAt_33 : decode cX10_bundleAt 33 = .ok (.ireturn, 1) := by decide +kernel
theorem dX11_ofWire_0 : decode cX11_ofWire 0 = .ok (.aload_n 0, 1) := by decide +kernel
theorem dX11_ofWire_1 : decode cX11_ofWire 1 = .ok (.iload_n 1, 1) := by decide +kernel
theorem dX11_ofWire_2 : decode cX11_ofWire 2 = .ok (.invokevirtual 131, 3) := by decide +kernel
theorem dX11_ofWire_5 : decode cX11_ofWire 5 = .ok (.astore_n 3, 1) := by decide +kernel
theorem dX11_ofWire_6 : decode cX11_ofWire 6 = .ok (.iload_n 2, 1) := by decide +kernel
theorem dX11_ofWire_7 : decode cX11_ofWire 7 = .ok (.iconst (-1), 1) := by decide +kernel
theorem dX11_ofWire_8 : decode cX11_ofWire 8 = .ok (.if_icmp .lt 7, 3) := by decide +kernel
theorem dX11_ofWire_11 : decode cX11_ofWire 11 = .ok (.iconst 1, 1) := by decide +kernel
theorem dX11_ofWire_12 : decode cX11_ofWire 12 = .ok (.goto 4, 3) := by decide +kernel
theorem dX11_ofWire_15 : decode cX11_ofWire 15 = .ok (.iconst 0, 1) := by decide +kernel
theorem dX11_ofWire_16 : decode cX11_ofWire 16 = .ok (.invokestatic 58, 3) := by decide +kernel
theorem dX11_ofWire_19 : decode cX11_ofWire 19 = .ok (.iload_n 2, 1) := by decide +kernel
theorem dX11_ofWire_20 : decode cX11_ofWire 20 = .ok (.iconst (-1), 1) := by decide +kernel
theorem dX11_ofWire_21 : decode cX11_ofWire 21 = .ok (.if_icmp .ne 19, 3) := by decide +kernel
theorem dX11_ofWire_24 : decode cX11_ofWire 24 = .ok (.aload_n 3, 1) := by decide +kernel
theorem dX11_ofWire_25 : decode cX11_ofWire 25 = .ok (.getfield 135, 3) := by decide +kernel
theorem dX11_ofWire_28 : decode cX11_ofWire 28 = .ok (.ifCond .eq 7, 3) := by decide +kernel
theorem dX11_ofWire_31 : decode cX11_ofWire 31 = .ok (.iconst 0, 1) := by decide +kernel
theorem dX11_ofWire_32 : decode cX11_ofWire 32 = .ok (.goto 7, 3) := by decide +kernel
theorem dX11_ofWire_35 : decode cX11_ofWire 35 = .ok (.aload_n 3, 1) := by decide +kernel
theorem dX11_ofWire_36 : decode cX11_ofWire 36 = .ok (.getfield 142, 3) := by decide +kernel
theorem dX11_ofWire_39 : decode cX11_ofWire 39 = .ok (.ireturn, 1) := by decide +kernel
theorem dX11_ofWire_40 : decode cX11_ofWire 40 = .ok (.aload_n 3, 1) := by decide +kernel
theorem dX11_ofWire_41 : decode cX11_ofWire 41 = .ok (.getfield 135, 3) := by decide +kernel
theorem dX11_ofWire_44 : decode cX11_ofWire 44 = .ok (.ifCond .eq 7, 3) := by decide +kernel
theorem dX11_ofWire_47 : decode cX11_ofWire 47 = .ok (.iconst (-1), 1) := by decide +kernel
theorem dX11_ofWire_48 : decode cX11_ofWire 48 = .ok (.goto 8, 3) := by decide +kernel
theorem dX11_ofWire_51 : decode cX11_ofWire 51 = .ok (.aload_n 3, 1) := by decide +kernel
theorem dX11_ofWire_52 : decode cX11_ofWire 52 = .ok (.iload_n 2, 1) := by decide +kernel
theorem dX11_ofWire_53 : decode cX11_ofWire 53 = .ok (.invokevirtual 145, 3) := by decide +kernel
theorem dX11_ofWire_56 : decode cX11_ofWire 56 = .ok (.ireturn, 1) := by decide +kernel
theorem dL_ofWire_0 : decode cL_ofWire 0 = .ok (.aload_n 3, 1) := by decide +kernel
theorem dL_ofWire_1 : decode cL_ofWire 1 = .ok (.iconst 0, 1) := by decide +kernel
theorem dL_ofWire_2 : decode cL_ofWire 2 = .ok (.aload_n 0, 1) := by decide +kernel
theorem dL_ofWire_3 : decode cL_ofWire 3 = .ok (.iload_n 1, 1) := by decide +kernel
theorem dL_ofWire_4 : decode cL_ofWire 4 = .ok (.iload_n 2, 1) := by decide +kernel
theorem dL_ofWire_5 : decode cL_ofWire 5 = .ok (.invokevirtual 35, 3) := by decide +kernel
theorem dL_ofWire_8 : decode cL_ofWire 8 = .ok (.i2l, 1) := by decide +kernel
theorem dL_ofWire_9 : decode cL_ofWire 9 = .ok (.lastore, 1) := by decide +kernel
theorem dL_ofWire_10 : decode cL_ofWire 10 = .ok (.goto 7, 3) := by decide +kernel
theorem dL_ofWire_13 : decode cL_ofWire 13 = .ok (.astore 4, 2) := by decide +kernel
theorem dL_ofWire_15 : decode cL_ofWire 15 = .ok (.iconst 1, 1) := by decide +kernel
theorem dL_ofWire_16 : decode cL_ofWire 16 = .ok (.ireturn, 1) := by decide +kernel
theorem dL_ofWire_17 : decode cL_ofWire 17 = .ok (.iconst 0, 1) := by decide +kernel
theorem dL_ofWire_18 : decode cL_ofWire 18 = .ok (.ireturn, 1) := by decide +kernel
theorem dX12_ofWire_0 : decode cX12_ofWire 0 = .ok (.aload_n 0, 1) := by decide +kernel
theorem dX12_ofWire_1 : decode cX12_ofWire 1 = .ok (.aload_n 0, 1) := by decide +kernel
theorem dX12_ofWire_2 : decode cX12_ofWire 2 = .ok (.iload_n 1, 1) := by decide +kernel
theorem dX12_ofWire_3 : decode cX12_ofWire 3 = .ok (.invokevirtual 170, 3) := by decide +kernel
theorem dX12_ofWire_6 : decode cX12_ofWire 6 = .ok (.ifCond .eq 12, 3) := by decide +kernel
theorem dX12_ofWire_9 : decode cX12_ofWire 9 = .ok (.iload_n 2, 1) := by decide +kernel
theorem dX12_ofWire_10 : decode cX12_ofWire 10 = .ok (.iconst (-1), 1) := by decide +kernel
theorem dX12_ofWire_11 : decode cX12_ofWire 11 = .ok (.if_icmp .lt 7, 3) := by decide +kernel
theorem dX12_ofWire_14 : decode cX12_ofWire 14 = .ok (.iconst 0, 1) := by decide +kernel
theorem dX12_ofWire_15 : decode cX12_ofWire 15 = .ok (.goto 4, 3) := by decide +kernel
theorem dX12_ofWire_18 : decode cX12_ofWire 18 = .ok (.iconst 1, 1) := by decide +kernel
theorem dX12_ofWire_19 : decode cX12_ofWire 19 = .ok (.invokevirtual 134, 3) := by decide +kernel
theorem dX12_ofWire_22 : decode cX12_ofWire 22 = .ok (.ifCond .eq 5, 3) := by decide +kernel
theorem dX12_ofWire_25 : decode cX12_ofWire 25 = .ok (.iconst 0, 1) := by decide +kernel
theorem dX12_ofWire_26 : decode cX12_ofWire 26 = .ok (.ireturn, 1) := by decide +kernel
theorem dX12_ofWire_27 : decode cX12_ofWire 27 = .ok (.iload_n 2, 1) := by decide +kernel
theorem dX12_ofWire_28 : decode cX12_ofWire 28 = .ok (.iconst (-1), 1) := by decide +kernel
theorem dX12_ofWire_29 : decode cX12_ofWire 29 = .ok (.if_icmp .ne 11, 3) := by decide +kernel
theorem dX12_ofWire_32 : decode cX12_ofWire 32 = .ok (.aload_n 0, 1) := by decide +kernel
theorem dX12_ofWire_33 : decode cX12_ofWire 33 = .ok (.iload_n 1, 1) := by decide +kernel
theorem dX12_ofWire_34 : decode cX12_ofWire 34 = .ok (.invokevirtual 173, 3) := by decide +kernel
theorem dX12_ofWire_37 : decode cX12_ofWire 37 = .ok (.goto 37, 3) := by decide +kernel
theorem dX12_ofWire_40 : decode cX12_ofWire 40 = .ok (.aload_n 0, 1) := by decide +kernel
theorem dX12_ofWire_41 : decode cX12_ofWire 41 = .ok (.getfield 34, 3) := by decide +kernel
theorem dX12_ofWire_44 : decode cX12_ofWire 44 = .ok (.iload_n 1, 1) := by decide +kernel
theorem dX12_ofWire_45 : decode cX12_ofWire 45 = .ok (.baload, 1) := by decide +kernel
theorem dX12_ofWire_46 : decode cX12_ofWire 46 = .ok (.ifCond .ne 27, 3) := by decide +kernel
theorem dX12_ofWire_49 : decode cX12_ofWire 49 = .ok (.iload_n 2, 1) := by decide +kernel
theorem dX12_ofWire_50 : decode cX12_ofWire 50 = .ok (.aload_n 0, 1) := by decide +kernel
theorem dX12_ofWire_51 : decode cX12_ofWire 51 = .ok (.getfield 44, 3) := by decide +kernel
theorem dX12_ofWire_54 : decode cX12_ofWire 54 = .ok (.iload_n 1, 1) := by decide +kernel
theorem dX12_ofWire_55 : decode cX12_ofWire 55 = .ok (.iaload, 1) := by decide +kernel
theorem dX12_ofWire_56 : decode cX12_ofWire 56 = .ok (.if_icmp .ge 17, 3) := by decide +kernel
theorem dX12_ofWire_59 : decode cX12_ofWire 59 = .ok (.aload_n 0, 1) := by decide +kernel
theorem dX12_ofWire_60 : decode cX12_ofWire 60 = .ok (.getfield 47, 3) := by decide +kernel
theorem dX12_ofWire_63 : decode cX12_ofWire 63 = .ok (.bipush 16, 2) := by decide +kernel
theorem dX12_ofWire_65 : decode cX12_ofWire 65 = .ok (.iload_n 1, 1) := by decide +kernel
theorem dX12_ofWire_66 : decode cX12_ofWire 66 = .ok (.imul, 1) := by decide +kernel
theorem dX12_ofWire_67 : decode cX12_ofWire 67 = .ok (.iload_n 2, 1) := by decide +kernel
theorem dX12_ofWire_68 : decode cX12_ofWire 68 = .ok (.iadd, 1) := by decide +kernel
theorem dX12_ofWire_69 : decode cX12_ofWire 69 = .ok (.iaload, 1) := by decide +kernel
theorem dX12_ofWire_70 : decode cX12_ofWire 70 = .ok (.goto 4, 3) := by decide +kernel
theorem dX12_ofWire_73 : decode cX12_ofWire 73 = .ok (.iconst (-1), 1) := by decide +kernel
theorem dX12_ofWire_74 : decode cX12_ofWire 74 = .ok (.ireturn, 1) := by decide +kernel
theorem dX4_weightOf_0 : decode cX4_weightOf 0 = .ok (.iconst 0, 1) := by decide +kernel
theorem dX4_weightOf_1 : decode cX4_weightOf 1 = .ok (.istore_n 2, 1) := by decide +kernel
theorem dX4_weightOf_2 : decode cX4_weightOf 2 = .ok (.iconst 0, 1) := by decide +kernel
theorem dX4_weightOf_3 : decode cX4_weightOf 3 = .ok (.istore_n 3, 1) := by decide +kernel
theorem dX4_weightOf_4 : decode cX4_weightOf 4 = .ok (.iload_n 3, 1) := by decide +kernel
theorem dX4_weightOf_5 : decode cX4_weightOf 5 = .ok (.aload_n 0, 1) := by decide +kernel
theorem dX4_weightOf_6 : decode cX4_weightOf 6 = .ok (.getfield 21, 3) := by decide +kernel
theorem dX4_weightOf_9 : decode cX4_weightOf 9 = .ok (.invokevirtual 35, 3) := by decide +kernel
theorem dX4_weightOf_12 : decode cX4_weightOf 12 = .ok (.if_icmp .ge 50, 3) := by decide +kernel
theorem dX4_weightOf_15 : decode cX4_weightOf 15 = .ok (.aload_n 0, 1) := by decide +kernel
theorem dX4_weightOf_16 : decode cX4_weightOf 16 = .ok (.getfield 21, 3) := by decide +kernel
theorem dX4_weightOf_19 : decode cX4_weightOf 19 = .ok (.iload_n 3, 1) := by decide +kernel
theorem dX4_weightOf_20 : decode cX4_weightOf 20 = .ok (.invokevirtual 51, 3) := by decide +kernel
theorem dX4_weightOf_23 : decode cX4_weightOf 23 = .ok (.checkcast 104, 3) := by decide +kernel
theorem dX4_weightOf_26 : decode cX4_weightOf 26 = .ok (.astore 4, 2) := by decide +kernel
theorem dX4_weightOf_28 : decode cX4_weightOf 28 = .ok (.aload 4, 2) := by decide +kernel
theorem dX4_weightOf_30 : decode cX4_weightOf 30 = .ok (.getfield 128, 3) := by decide +kernel
theorem dX4_weightOf_33 : decode cX4_weightOf 33 = .ok (.ifCond .ne 23, 3) := by decide +kernel
theorem dX4_weightOf_36 : decode cX4_weightOf 36 = .ok (.iload_n 1, 1) := by decide +kernel
theorem dX4_weightOf_37 : decode cX4_weightOf 37 = .ok (.iconst 1, 1) := by decide +kernel
theorem dX4_weightOf_38 : decode cX4_weightOf 38 = .ok (.aload 4, 2) := by decide +kernel
theorem dX4_weightOf_40 : decode cX4_weightOf 40 = .ok (.getfield 132, 3) := by decide +kernel
theorem dX4_weightOf_43 : decode cX4_weightOf 43 = .ok (.ishl, 1) := by decide +kernel
theorem dX4_weightOf_44 : decode cX4_weightOf 44 = .ok (.iand, 1) := by decide +kernel
theorem dX4_weightOf_45 : decode cX4_weightOf 45 = .ok (.ifCond .eq 11, 3) := by decide +kernel
theorem dX4_weightOf_48 : decode cX4_weightOf 48 = .ok (.iload_n 2, 1) := by decide +kernel
theorem dX4_weightOf_49 : decode cX4_weightOf 49 = .ok (.aload 4, 2) := by decide +kernel
theorem dX4_weightOf_51 : decode cX4_weightOf 51 = .ok (.getfield 135, 3) := by decide +kernel
theorem dX4_weightOf_54 : decode cX4_weightOf 54 = .ok (.iadd, 1) := by decide +kernel
theorem dX4_weightOf_55 : decode cX4_weightOf 55 = .ok (.istore_n 2, 1) := by decide +kernel
theorem dX4_weightOf_56 : decode cX4_weightOf 56 = .ok (.iinc 3 1, 3) := by decide +kernel
theorem dX4_weightOf_59 : decode cX4_weightOf 59 = .ok (.goto (-55), 3) := by decide +kernel
theorem dX4_weightOf_62 : decode cX4_weightOf 62 = .ok (.iload_n 2, 1) := by decide +kernel
theorem dX4_weightOf_63 : decode cX4_weightOf 63 = .ok (.ireturn, 1) := by decide +kernel
theorem dX11_weight_0 : decode cX11_weight 0 = .ok (.iload_n 1, 1) := by decide +kernel
theorem dX11_weight_1 : decode cX11_weight 1 = .ok (.iconst 0, 1) := by decide +kernel
theorem dX11_weight_2 : decode cX11_weight 2 = .ok (.sipush 255, 3) := by decide +kernel
theorem dX11_weight_5 : decode cX11_weight 5 = .ok (.invokestatic 62, 3) := by decide +kernel
theorem dX11_weight_8 : decode cX11_weight 8 = .ok (.invokestatic 66, 3) := by decide +kernel
theorem dX11_weight_11 : decode cX11_weight 11 = .ok (.aload_n 0, 1) := by decide +kernel
theorem dX11_weight_12 : decode cX11_weight 12 = .ok (.getfield 10, 3) := by decide +kernel
theorem dX11_weight_15 : decode cX11_weight 15 = .ok (.iload_n 1, 1) := by decide +kernel
theorem dX11_weight_16 : decode cX11_weight 16 = .ok (.invokevirtual 149, 3) := by decide +kernel
theorem dX11_weight_19 : decode cX11_weight 19 = .ok (.ireturn, 1) := by decide +kernel
theorem dL_weight_0 : decode cL_weight 0 = .ok (.aload_n 2, 1) := by decide +kernel
theorem dL_weight_1 : decode cL_weight 1 = .ok (.iconst 0, 1) := by decide +kernel
theorem dL_weight_2 : decode cL_weight 2 = .ok (.aload_n 0, 1) := by decide +kernel
theorem dL_weight_3 : decode cL_weight 3 = .ok (.iload_n 1, 1) := by decide +kernel
theorem dL_weight_4 : decode cL_weight 4 = .ok (.invokevirtual 38, 3) := by decide +kernel
theorem dL_weight_7 : decode cL_weight 7 = .ok (.i2l, 1) := by decide +kernel
theorem dL_weight_8 : decode cL_weight 8 = .ok (.lastore, 1) := by decide +kernel
theorem dL_weight_9 : decode cL_weight 9 = .ok (.goto 6, 3) := by decide +kernel
theorem dL_weight_12 : decode cL_weight 12 = .ok (.astore_n 3, 1) := by decide +kernel
theorem dL_weight_13 : decode cL_weight 13 = .ok (.iconst 1, 1) := by decide +kernel
theorem dL_weight_14 : decode cL_weight 14 = .ok (.ireturn, 1) := by decide +kernel
theorem dL_weight_15 : decode cL_weight 15 = .ok (.iconst 0, 1) := by decide +kernel
theorem dL_weight_16 : decode cL_weight 16 = .ok (.ireturn, 1) := by decide +kernel
theorem dX12_areOptions_0 : decode cX12_areOptions 0 = .ok (.iload_n 0, 1) := by decide +kernel
theorem dX12_areOptions_1 : decode cX12_areOptions 1 = .ok (.iconst 0, 1) := by decide +kernel
theorem dX12_areOptions_2 : decode cX12_areOptions 2 = .ok (.sipush 255, 3) := by decide +kernel
theorem dX12_areOptions_5 : decode cX12_areOptions 5 = .ok (.invokestatic 120, 3) := by decide +kernel
theorem dX12_areOptions_8 : decode cX12_areOptions 8 = .ok (.ireturn, 1) := by decide +kernel
theorem dX12_weighs_0 : decode cX12_weighs 0 = .ok (.iconst 0, 1) := by decide +kernel
theorem dX12_weighs_1 : decode cX12_weighs 1 = .ok (.istore_n 2, 1) := by decide +kernel
theorem dX12_weighs_2 : decode cX12_weighs 2 = .ok (.iconst 0, 1) := by decide +kernel
theorem dX12_weighs_3 : decode cX12_weighs 3 = .ok (.istore_n 3, 1) := by decide +kernel
theorem dX12_weighs_4 : decode cX12_weighs 4 = .ok (.iload_n 3, 1) := by decide +kernel
theorem dX12_weighs_5 : decode cX12_weighs 5 = .ok (.aload_n 0, 1) := by decide +kernel
theorem dX12_weighs_6 : decode cX12_weighs 6 = .ok (.getfield 144, 3) := by decide +kernel
theorem dX12_weighs_9 : decode cX12_weighs 9 = .ok (.if_icmp .ge 35, 3) := by decide +kernel
theorem dX12_weighs_12 : decode cX12_weighs 12 = .ok (.iload_n 2, 1) := by decide +kernel
theorem dX12_weighs_13 : decode cX12_weighs 13 = .ok (.iload_n 1, 1) := by decide +kernel
theorem dX12_weighs_14 : decode cX12_weighs 14 = .ok (.aload_n 0, 1) := by decide +kernel
theorem dX12_weighs_15 : decode cX12_weighs 15 = .ok (.getfield 41, 3) := by decide +kernel
theorem dX12_weighs_18 : decode cX12_weighs 18 = .ok (.iload_n 3, 1) := by decide +kernel
theorem dX12_weighs_19 : decode cX12_weighs 19 = .ok (.iaload, 1) := by decide +kernel
theorem dX12_weighs_20 : decode cX12_weighs 20 = .ok (.ishr, 1) := by decide +kernel
theorem dX12_weighs_21 : decode cX12_weighs 21 = .ok (.iconst 1, 1) := by decide +kernel
theorem dX12_weighs_22 : decode cX12_weighs 22 = .ok (.iand, 1) := by decide +kernel
theorem dX12_weighs_23 : decode cX12_weighs 23 = .ok (.iconst 1, 1) := by decide +kernel
theorem dX12_weighs_24 : decode cX12_weighs 24 = .ok (.if_icmp .ne 11, 3) := by decide +kernel
theorem dX12_weighs_27 : decode cX12_weighs 27 = .ok (.aload_n 0, 1) := by decide +kernel
theorem dX12_weighs_28 : decode cX12_weighs 28 = .ok (.iload_n 3, 1) := by decide +kernel
theorem dX12_weighs_29 : decode cX12_weighs 29 = .ok (.invokevirtual 173, 3) := by decide +kernel
theorem dX12_weighs_32 : decode cX12_weighs 32 = .ok (.goto 4, 3) := by decide +kernel
theorem dX12_weighs_35 : decode cX12_weighs 35 = .ok (.iconst 0, 1) := by decide +kernel
theorem dX12_weighs_36 : decode cX12_weighs 36 = .ok (.iadd, 1) := by decide +kernel
theorem dX12_weighs_37 : decode cX12_weighs 37 = .ok (.istore_n 2, 1) := by decide +kernel
theorem dX12_weighs_38 : decode cX12_weighs 38 = .ok (.iinc 3 1, 3) := by decide +kernel
theorem dX12_weighs_41 : decode cX12_weighs 41 = .ok (.goto (-37), 3) := by decide +kernel
theorem dX12_weighs_44 : decode cX12_weighs 44 = .ok (.iload_n 2, 1) := by decide +kernel
theorem dX12_weighs_45 : decode cX12_weighs 45 = .ok (.ireturn, 1) := by decide +kernel
theorem dX12_weight_0 : decode cX12_weight 0 = .ok (.aload_n 0, 1) := by decide +kernel
theorem dX12_weight_1 : decode cX12_weight 1 = .ok (.iload_n 1, 1) := by decide +kernel
theorem dX12_weight_2 : decode cX12_weight 2 = .ok (.invokestatic 176, 3) := by decide +kernel
theorem dX12_weight_5 : decode cX12_weight 5 = .ok (.ifCond .eq 7, 3) := by decide +kernel
theorem dX12_weight_8 : decode cX12_weight 8 = .ok (.iconst 0, 1) := by decide +kernel
theorem dX12_weight_9 : decode cX12_weight 9 = .ok (.goto 4, 3) := by decide +kernel
theorem dX12_weight_12 : decode cX12_weight 12 = .ok (.iconst 1, 1) := by decide +kernel
theorem dX12_weight_13 : decode cX12_weight 13 = .ok (.invokevirtual 134, 3) := by decide +kernel
theorem dX12_weight_16 : decode cX12_weight 16 = .ok (.ifCond .eq 7, 3) := by decide +kernel
theorem dX12_weight_19 : decode cX12_weight 19 = .ok (.iconst 0, 1) := by decide +kernel
theorem dX12_weight_20 : decode cX12_weight 20 = .ok (.goto 8, 3) := by decide +kernel
theorem dX12_weight_23 : decode cX12_weight 23 = .ok (.aload_n 0, 1) := by decide +kernel
theorem dX12_weight_24 : decode cX12_weight 24 = .ok (.iload_n 1, 1) := by decide +kernel
theorem dX12_weight_25 : decode cX12_weight 25 = .ok (.invokevirtual 179, 3) := by decide +kernel
theorem dX12_weight_28 : decode cX12_weight 28 = .ok (.ireturn, 1) := by decide +kernel
theorem dX5_add_0 : decode cX5_add 0 = .ok (.aload_n 0, 1) := by decide +kernel
theorem dX5_add_1 : decode cX5_add 1 = .ok (.getfield 14, 3) := by decide +kernel
theorem dX5_add_4 : decode cX5_add 4 = .ok (.aload_n 0, 1) := by decide +kernel
theorem dX5_add_5 : decode cX5_add 5 = .ok (.getfield 29, 3) := by decide +kernel
theorem dX5_add_8 : decode cX5_add 8 = .ok (.iload_n 1, 1) := by decide +kernel
theorem dX5_add_9 : decode cX5_add 9 = .ok (.invokevirtual 33, 3) := by decide +kernel
theorem dX5_add_12 : decode cX5_add 12 = .ok (.aload_n 0, 1) := by decide +kernel
theorem dX5_add_13 : decode cX5_add 13 = .ok (.getfield 20, 3) := by decide +kernel
theorem dX5_add_16 : decode cX5_add 16 = .ok (.aload_n 0, 1) := by decide +kernel
theorem dX5_add_17 : decode cX5_add 17 = .ok (.getfield 29, 3) := by decide +kernel
theorem dX5_add_20 : decode cX5_add 20 = .ok (.iload_n 2, 1) := by decide +kernel
theorem dX5_add_21 : decode cX5_add 21 = .ok (.invokevirtual 33, 3) := by decide +kernel
theorem dX5_add_24 : decode cX5_add 24 = .ok (.aload_n 0, 1) := by decide +kernel
theorem dX5_add_25 : decode cX5_add 25 = .ok (.dup, 1) := by decide +kernel
theorem dX5_add_26 : decode cX5_add 26 = .ok (.getfield 29, 3) := by decide +kernel
theorem dX5_add_29 : decode cX5_add 29 = .ok (.iconst 1, 1) := by decide +kernel
theorem dX5_add_30 : decode cX5_add 30 = .ok (.iadd, 1) := by decide +kernel
theorem dX5_add_31 : decode cX5_add 31 = .ok (.putfield 29, 3) := by decide +kernel
theorem dX5_add_34 : decode cX5_add 34 = .ok (.aload_n 0, 1) := by decide +kernel
theorem dX5_add_35 : decode cX5_add 35 = .ok (.getfield 29, 3) := by decide +kernel
theorem dX5_add_38 : decode cX5_add 38 = .ok (.iconst 1, 1) := by decide +kernel
theorem dX5_add_39 : decode cX5_add 39 = .ok (.isub, 1) := by decide +kernel
theorem dX5_add_40 : decode cX5_add 40 = .ok (.ireturn, 1) := by decide +kernel
theorem dX11_order_0 : decode cX11_order 0 = .ok (.iload_n 1, 1) := by decide +kernel
theorem dX11_order_1 : decode cX11_order 1 = .ok (.iconst 0, 1) := by decide +kernel
theorem dX11_order_2 : decode cX11_order 2 = .ok (.sipush 255, 3) := by decide +kernel
theorem dX11_order_5 : decode cX11_order 5 = .ok (.invokestatic 62, 3) := by decide +kernel
theorem dX11_order_8 : decode cX11_order 8 = .ok (.ifCond .eq 17, 3) := by decide +kernel
theorem dX11_order_11 : decode cX11_order 11 = .ok (.iload_n 2, 1) := by decide +kernel
theorem dX11_order_12 : decode cX11_order 12 = .ok (.iconst 1, 1) := by decide +kernel
theorem dX11_order_13 : decode cX11_order 13 = .ok (.bipush 99, 2) := by decide +kernel
theorem dX11_order_15 : decode cX11_order 15 = .ok (.invokestatic 62, 3) := by decide +kernel
theorem dX11_order_18 : decode cX11_order 18 = .ok (.ifCond .eq 7, 3) := by decide +kernel
theorem dX11_order_21 : decode cX11_order 21 = .ok (.iconst 1, 1) := by decide +kernel
theorem dX11_order_22 : decode cX11_order 22 = .ok (.goto 4, 3) := by decide +kernel
theorem dX11_order_25 : decode cX11_order 25 = .ok (.iconst 0, 1) := by decide +kernel
theorem dX11_order_26 : decode cX11_order 26 = .ok (.invokestatic 66, 3) := by decide +kernel
theorem dX11_order_29 : decode cX11_order 29 = .ok (.aload_n 0, 1) := by decide +kernel
theorem dX11_order_30 : decode cX11_order 30 = .ok (.getfield 19, 3) := by decide +kernel
theorem dX11_order_33 : decode cX11_order 33 = .ok (.getfield 152, 3) := by decide +kernel
theorem dX11_order_36 : decode cX11_order 36 = .ok (.iconst 5, 1) := by decide +kernel
theorem dX11_order_37 : decode cX11_order 37 = .ok (.if_icmp .ge 7, 3) := by decide +kernel
theorem dX11_order_40 : decode cX11_order 40 = .ok (.iconst 1, 1) := by decide +kernel
theorem dX11_order_41 : decode cX11_order 41 = .ok (.goto 4, 3) := by decide +kernel
theorem dX11_order_44 : decode cX11_order 44 = .ok (.iconst 0, 1) := by decide +kernel
theorem dX11_order_45 : decode cX11_order 45 = .ok (.invokestatic 76, 3) := by decide +kernel
theorem dX11_order_48 : decode cX11_order 48 = .ok (.aload_n 0, 1) := by decide +kernel
theorem dX11_order_49 : decode cX11_order 49 = .ok (.getfield 19, 3) := by decide +kernel
theorem dX11_order_52 : decode cX11_order 52 = .ok (.iload_n 1, 1) := by decide +kernel
theorem dX11_order_53 : decode cX11_order 53 = .ok (.iload_n 2, 1) := by decide +kernel
theorem dX11_order_54 : decode cX11_order 54 = .ok (.invokevirtual 155, 3) := by decide +kernel
theorem dX11_order_57 : decode cX11_order 57 = .ok (.ireturn, 1) := by decide +kernel
theorem dL_order_0 : decode cL_order 0 = .ok (.aload_n 3, 1) := by decide +kernel
theorem dL_order_1 : decode cL_order 1 = .ok (.iconst 0, 1) := by decide +kernel
theorem dL_order_2 : decode cL_order 2 = .ok (.aload_n 0, 1) := by decide +kernel
theorem dL_order_3 : decode cL_order 3 = .ok (.iload_n 1, 1) := by decide +kernel
theorem dL_order_4 : decode cL_order 4 = .ok (.iload_n 2, 1) := by decide +kernel
theorem dL_order_5 : decode cL_order 5 = .ok (.invokevirtual 41, 3) := by decide +kernel
theorem dL_order_8 : decode cL_order 8 = .ok (.i2l, 1) := by decide +kernel
theorem dL_order_9 : decode cL_order 9 = .ok (.lastore, 1) := by decide +kernel
theorem dL_order_10 : decode cL_order 10 = .ok (.goto 11, 3) := by decide +kernel
theorem dL_order_13 : decode cL_order 13 = .ok (.astore 4, 2) := by decide +kernel
theorem dL_order_15 : decode cL_order 15 = .ok (.iconst 1, 1) := by decide +kernel
theorem dL_order_16 : decode cL_order 16 = .ok (.ireturn, 1) := by decide +kernel
theorem dL_order_17 : decode cL_order 17 = .ok (.astore 4, 2) := by decide +kernel
theorem dL_order_19 : decode cL_order 19 = .ok (.iconst 2, 1) := by decide +kernel
theorem dL_order_20 : decode cL_order 20 = .ok (.ireturn, 1) := by decide +kernel
theorem dL_order_21 : decode cL_order 21 = .ok (.iconst 0, 1) := by decide +kernel
theorem dL_order_22 : decode cL_order 22 = .ok (.ireturn, 1) := by decide +kernel
theorem dX12_order_0 : decode cX12_order 0 = .ok (.iload_n 1, 1) := by decide +kernel
theorem dX12_order_1 : decode cX12_order 1 = .ok (.invokestatic 176, 3) := by decide +kernel
theorem dX12_order_4 : decode cX12_order 4 = .ok (.ifCond .eq 17, 3) := by decide +kernel
theorem dX12_order_7 : decode cX12_order 7 = .ok (.iload_n 2, 1) := by decide +kernel
theorem dX12_order_8 : decode cX12_order 8 = .ok (.iconst 1, 1) := by decide +kernel
theorem dX12_order_9 : decode cX12_order 9 = .ok (.bipush 99, 2) := by decide +kernel
theorem dX12_order_11 : decode cX12_order 11 = .ok (.invokestatic 120, 3) := by decide +kernel
theorem dX12_order_14 : decode cX12_order 14 = .ok (.ifCond .eq 7, 3) := by decide +kernel
theorem dX12_order_17 : decode cX12_order 17 = .ok (.iconst 1, 1) := by decide +kernel
theorem dX12_order_18 : decode cX12_order 18 = .ok (.goto 4, 3) := by decide +kernel
theorem dX12_order_21 : decode cX12_order 21 = .ok (.iconst 0, 1) := by decide +kernel
theorem dX12_order_22 : decode cX12_order 22 = .ok (.istore_n 3, 1) := by decide +kernel
theorem dX12_order_23 : decode cX12_order 23 = .ok (.aload_n 0, 1) := by decide +kernel
theorem dX12_order_24 : decode cX12_order 24 = .ok (.iload_n 3, 1) := by decide +kernel
theorem dX12_order_25 : decode cX12_order 25 = .ok (.ifCond .ne 7, 3) := by decide +kernel
theorem dX12_order_28 : decode cX12_order 28 = .ok (.iconst 1, 1) := by decide +kernel
theorem dX12_order_29 : decode cX12_order 29 = .ok (.goto 16, 3) := by decide +kernel
theorem dX12_order_32 : decode cX12_order 32 = .ok (.aload_n 0, 1) := by decide +kernel
theorem dX12_order_33 : decode cX12_order 33 = .ok (.getfield 182, 3) := by decide +kernel
theorem dX12_order_36 : decode cX12_order 36 = .ok (.iconst 5, 1) := by decide +kernel
theorem dX12_order_37 : decode cX12_order 37 = .ok (.if_icmp .ne 7, 3) := by decide +kernel
theorem dX12_order_40 : decode cX12_order 40 = .ok (.iconst 2, 1) := by decide +kernel
theorem dX12_order_41 : decode cX12_order 41 = .ok (.goto 4, 3) := by decide +kernel
theorem dX12_order_44 : decode cX12_order 44 = .ok (.iconst 0, 1) := by decide +kernel
theorem dX12_order_45 : decode cX12_order 45 = .ok (.invokevirtual 134, 3) := by decide +kernel
theorem dX12_order_48 : decode cX12_order 48 = .ok (.ifCond .eq 5, 3) := by decide +kernel
theorem dX12_order_51 : decode cX12_order 51 = .ok (.iconst 0, 1) := by decide +kernel
theorem dX12_order_52 : decode cX12_order 52 = .ok (.ireturn, 1) := by decide +kernel
theorem dX12_order_53 : decode cX12_order 53 = .ok (.aload_n 0, 1) := by decide +kernel
theorem dX12_order_54 : decode cX12_order 54 = .ok (.getfield 53, 3) := by decide +kernel
theorem dX12_order_57 : decode cX12_order 57 = .ok (.aload_n 0, 1) := by decide +kernel
theorem dX12_order_58 : decode cX12_order 58 = .ok (.getfield 182, 3) := by decide +kernel
theorem dX12_order_61 : decode cX12_order 61 = .ok (.iload_n 1, 1) := by decide +kernel
theorem dX12_order_62 : decode cX12_order 62 = .ok (.iastore, 1) := by decide +kernel
theorem dX12_order_63 : decode cX12_order 63 = .ok (.aload_n 0, 1) := by decide +kernel
theorem dX12_order_64 : decode cX12_order 64 = .ok (.getfield 56, 3) := by decide +kernel
theorem dX12_order_67 : decode cX12_order 67 = .ok (.aload_n 0, 1) := by decide +kernel
theorem dX12_order_68 : decode cX12_order 68 = .ok (.getfield 182, 3) := by decide +kernel
theorem dX12_order_71 : decode cX12_order 71 = .ok (.iload_n 2, 1) := by decide +kernel
theorem dX12_order_72 : decode cX12_order 72 = .ok (.iastore, 1) := by decide +kernel
theorem dX12_order_73 : decode cX12_order 73 = .ok (.aload_n 0, 1) := by decide +kernel
theorem dX12_order_74 : decode cX12_order 74 = .ok (.dup, 1) := by decide +kernel
theorem dX12_order_75 : decode cX12_order 75 = .ok (.getfield 182, 3) := by decide +kernel
theorem dX12_order_78 : decode cX12_order 78 = .ok (.iconst 1, 1) := by decide +kernel
theorem dX12_order_79 : decode cX12_order 79 = .ok (.iadd, 1) := by decide +kernel
theorem dX12_order_80 : decode cX12_order 80 = .ok (.putfield 182, 3) := by decide +kernel
theorem dX12_order_83 : decode cX12_order 83 = .ok (.aload_n 0, 1) := by decide +kernel
theorem dX12_order_84 : decode cX12_order 84 = .ok (.getfield 182, 3) := by decide +kernel
theorem dX12_order_87 : decode cX12_order 87 = .ok (.iconst 1, 1) := by decide +kernel
theorem dX12_order_88 : decode cX12_order 88 = .ok (.isub, 1) := by decide +kernel
theorem dX12_order_89 : decode cX12_order 89 = .ok (.ireturn, 1) := by decide +kernel
theorem dX5_allOrders_0 : decode cX5_allOrders 0 = .ok (.iconst 1, 1) := by decide +kernel
theorem dX5_allOrders_1 : decode cX5_allOrders 1 = .ok (.aload_n 0, 1) := by decide +kernel
theorem dX5_allOrders_2 : decode cX5_allOrders 2 = .ok (.getfield 29, 3) := by decide +kernel
theorem dX5_allOrders_5 : decode cX5_allOrders 5 = .ok (.ishl, 1) := by decide +kernel
theorem dX5_allOrders_6 : decode cX5_allOrders 6 = .ok (.iconst 1, 1) := by decide +kernel
theorem dX5_allOrders_7 : decode cX5_allOrders 7 = .ok (.isub, 1) := by decide +kernel
theorem dX5_allOrders_8 : decode cX5_allOrders 8 = .ok (.ireturn, 1) := by decide +kernel
theorem dX5_weightAsOne_0 : decode cX5_weightAsOne 0 = .ok (.iconst 0, 1) := by decide +kernel
theorem dX5_weightAsOne_1 : decode cX5_weightAsOne 1 = .ok (.istore_n 3, 1) := by decide +kernel
theorem dX5_weightAsOne_2 : decode cX5_weightAsOne 2 = .ok (.iconst 0, 1) := by decide +kernel
theorem dX5_weightAsOne_3 : decode cX5_weightAsOne 3 = .ok (.istore 4, 2) := by decide +kernel
theorem dX5_weightAsOne_5 : decode cX5_weightAsOne 5 = .ok (.iconst 0, 1) := by decide +kernel
theorem dX5_weightAsOne_6 : decode cX5_weightAsOne 6 = .ok (.istore 5, 2) := by decide +kernel
theorem dX5_weightAsOne_8 : decode cX5_weightAsOne 8 = .ok (.iload 5, 2) := by decide +kernel
theorem dX5_weightAsOne_10 : decode cX5_weightAsOne 10 = .ok (.aload_n 0, 1) := by decide +kernel
theorem dX5_weightAsOne_11 : decode cX5_weightAsOne 11 = .ok (.getfield 29, 3) := by decide +kernel
theorem dX5_weightAsOne_14 : decode cX5_weightAsOne 14 = .ok (.if_icmp .ge 44, 3) := by decide +kernel
theorem dX5_weightAsOne_17 : decode cX5_weightAsOne 17 = .ok (.iload_n 2, 1) := by decide +kernel
theorem dX5_weightAsOne_18 : decode cX5_weightAsOne 18 = .ok (.iconst 1, 1) := by decide +kernel
theorem dX5_weightAsOne_19 : decode cX5_weightAsOne 19 = .ok (.iload 5, 2) := by decide +kernel
theorem dX5_weightAsOne_21 : decode cX5_weightAsOne 21 = .ok (.ishl, 1) := by decide +kernel
theorem dX5_weightAsOne_22 : decode cX5_weightAsOne 22 = .ok (.iand, 1) := by decide +kernel
theorem dX5_weightAsOne_23 : decode cX5_weightAsOne 23 = .ok (.ifCond .eq 29, 3) := by decide +kernel
theorem dX5_weightAsOne_26 : decode cX5_weightAsOne 26 = .ok (.iload_n 3, 1) := by decide +kernel
theorem dX5_weightAsOne_27 : decode cX5_weightAsOne 27 = .ok (.aload_n 0, 1) := by decide +kernel
theorem dX5_weightAsOne_28 : decode cX5_weightAsOne 28 = .ok (.getfield 14, 3) := by decide +kernel
theorem dX5_weightAsOne_31 : decode cX5_weightAsOne 31 = .ok (.iload 5, 2) := by decide +kernel
theorem dX5_weightAsOne_33 : decode cX5_weightAsOne 33 = .ok (.invokevirtual 45, 3) := by decide +kernel
theorem dX5_weightAsOne_36 : decode cX5_weightAsOne 36 = .ok (.ior, 1) := by decide +kernel
theorem dX5_weightAsOne_37 : decode cX5_weightAsOne 37 = .ok (.istore_n 3, 1) := by decide +kernel
theorem dX5_weightAsOne_38 : decode cX5_weightAsOne 38 = .ok (.iload 4, 2) := by decide +kernel
theorem dX5_weightAsOne_40 : decode cX5_weightAsOne 40 = .ok (.aload_n 0, 1) := by decide +kernel
theorem dX5_weightAsOne_41 : decode cX5_weightAsOne 41 = .ok (.getfield 20, 3) := by decide +kernel
theorem dX5_weightAsOne_44 : decode cX5_weightAsOne 44 = .ok (.iload 5, 2) := by decide +kernel
theorem dX5_weightAsOne_46 : decode cX5_weightAsOne 46 = .ok (.invokevirtual 45, 3) := by decide +kernel
theorem dX5_weightAsOne_49 : decode cX5_weightAsOne 49 = .ok (.iadd, 1) := by decide +kernel
theorem dX5_weightAsOne_50 : decode cX5_weightAsOne 50 = .ok (.istore 4, 2) := by decide +kernel
theorem dX5_weightAsOne_52 : decode cX5_weightAsOne 52 = .ok (.iinc 5 1, 3) := by decide +kernel
theorem dX5_weightAsOne_55 : decode cX5_weightAsOne 55 = .ok (.goto (-47), 3) := by decide +kernel
theorem dX5_weightAsOne_58 : decode cX5_weightAsOne 58 = .ok (.aload_n 1, 1) := by decide +kernel
theorem dX5_weightAsOne_59 : decode cX5_weightAsOne 59 = .ok (.iload_n 3, 1) := by decide +kernel
theorem dX5_weightAsOne_60 : decode cX5_weightAsOne 60 = .ok (.invokevirtual 49, 3) := by decide +kernel
theorem dX5_weightAsOne_63 : decode cX5_weightAsOne 63 = .ok (.iload 4, 2) := by decide +kernel
theorem dX5_weightAsOne_65 : decode cX5_weightAsOne 65 = .ok (.imul, 1) := by decide +kernel
theorem dX5_weightAsOne_66 : decode cX5_weightAsOne 66 = .ok (.ireturn, 1) := by decide +kernel
theorem dX5_weighSets_0 : decode cX5_weighSets 0 = .ok (.aload_n 0, 1) := by decide +kernel
theorem dX5_weighSets_1 : decode cX5_weighSets 1 = .ok (.invokevirtual 37, 3) := by decide +kernel
theorem dX5_weighSets_4 : decode cX5_weighSets 4 = .ok (.istore_n 2, 1) := by decide +kernel
theorem dX5_weighSets_5 : decode cX5_weighSets 5 = .ok (.iconst 0, 1) := by decide +kernel
theorem dX5_weighSets_6 : decode cX5_weighSets 6 = .ok (.istore_n 3, 1) := by decide +kernel
theorem dX5_weighSets_7 : decode cX5_weighSets 7 = .ok (.iload_n 3, 1) := by decide +kernel
theorem dX5_weighSets_8 : decode cX5_weighSets 8 = .ok (.iload_n 2, 1) := by decide +kernel
theorem dX5_weighSets_9 : decode cX5_weighSets 9 = .ok (.if_icmp .gt 23, 3) := by decide +kernel
theorem dX5_weighSets_12 : decode cX5_weighSets 12 = .ok (.aload_n 0, 1) := by decide +kernel
theorem dX5_weighSets_13 : decode cX5_weighSets 13 = .ok (.getfield 23, 3) := by decide +kernel
theorem dX5_weighSets_16 : decode cX5_weighSets 16 = .ok (.iload_n 3, 1) := by decide +kernel
theorem dX5_weighSets_17 : decode cX5_weighSets 17 = .ok (.aload_n 0, 1) := by decide +kernel
theorem dX5_weighSets_18 : decode cX5_weighSets 18 = .ok (.aload_n 1, 1) := by decide +kernel
theorem dX5_weighSets_19 : decode cX5_weighSets 19 = .ok (.iload_n 3, 1) := by decide +kernel
theorem dX5_weighSets_20 : decode cX5_weighSets 20 = .ok (.invokevirtual 41, 3) := by decide +kernel
theorem dX5_weighSets_23 : decode cX5_weighSets 23 = .ok (.invokevirtual 33, 3) := by decide +kernel
theorem dX5_weighSets_26 : decode cX5_weighSets 26 = .ok (.iinc 3 1, 3) := by decide +kernel
theorem dX5_weighSets_29 : decode cX5_weighSets 29 = .ok (.goto (-22), 3) := by decide +kernel
theorem dX5_weighSets_32 : decode cX5_weighSets 32 = .ok (.return_, 1) := by decide +kernel
theorem dX5_leastOfRest_0 : decode cX5_leastOfRest 0 = .ok (.iload_n 1, 1) := by decide +kernel
theorem dX5_leastOfRest_1 : decode cX5_leastOfRest 1 = .ok (.ifCond .ne 5, 3) := by decide +kernel
theorem dX5_leastOfRest_4 : decode cX5_leastOfRest 4 = .ok (.iconst 0, 1) := by decide +kernel
theorem dX5_leastOfRest_5 : decode cX5_leastOfRest 5 = .ok (.ireturn, 1) := by decide +kernel
theorem dX5_leastOfRest_6 : decode cX5_leastOfRest 6 = .ok (.iload_n 2, 1) := by decide +kernel
theorem dX5_leastOfRest_7 : decode cX5_leastOfRest 7 = .ok (.iconst 1, 1) := by decide +kernel
theorem dX5_leastOfRest_8 : decode cX5_leastOfRest 8 = .ok (.if_icmp .ge 6, 3) := by decide +kernel
theorem dX5_leastOfRest_11 : decode cX5_leastOfRest 11 = .ok (.ldc 62, 2) := by decide +kernel
theorem dX5_leastOfRest_13 : decode cX5_leastOfRest 13 = .ok (.ireturn, 1) := by decide +kernel
theorem dX5_leastOfRest_14 : decode cX5_leastOfRest 14 = .ok (.iload_n 1, 1) := by decide +kernel
theorem dX5_leastOfRest_15 : decode cX5_leastOfRest 15 = .ok (.iload_n 1, 1) := by decide +kernel
theorem dX5_leastOfRest_16 : decode cX5_leastOfRest 16 = .ok (.ineg, 1) := by decide +kernel
theorem dX5_leastOfRest_17 : decode cX5_leastOfRest 17 = .ok (.iand, 1) := by decide +kernel
theorem dX5_leastOfRest_18 : decode cX5_leastOfRest 18 = .ok (.istore_n 3, 1) := by decide +kernel
theorem dX5_leastOfRest_19 : decode cX5_leastOfRest 19 = .ok (.ldc 62, 2) := by decide +kernel
theorem dX5_leastOfRest_21 : decode cX5_leastOfRest 21 = .ok (.istore 4, 2) := by decide +kernel
theorem dX5_leastOfRest_23 : decode cX5_leastOfRest 23 = .ok (.iload_n 3, 1) := by decide +kernel
theorem dX5_leastOfRest_24 : decode cX5_leastOfRest 24 = .ok (.istore 5, 2) := by decide +kernel
theorem dX5_leastOfRest_26 : decode cX5_leastOfRest 26 = .ok (.iload 5, 2) := by decide +kernel
theorem dX5_leastOfRest_28 : decode cX5_leastOfRest 28 = .ok (.iload_n 1, 1) := by decide +kernel
theorem dX5_leastOfRest_29 : decode cX5_leastOfRest 29 = .ok (.if_icmp .gt 56, 3) := by decide +kernel
theorem dX5_leastOfRest_32 : decode cX5_leastOfRest 32 = .ok (.iload 5, 2) := by decide +kernel
theorem dX5_leastOfRest_34 : decode cX5_leastOfRest 34 = .ok (.iload_n 1, 1) := by decide +kernel
theorem dX5_leastOfRest_35 : decode cX5_leastOfRest 35 = .ok (.iconst (-1), 1) := by decide +kernel
theorem dX5_leastOfRest_36 : decode cX5_leastOfRest 36 = .ok (.ixor, 1) := by decide +kernel
theorem dX5_leastOfRest_37 : decode cX5_leastOfRest 37 = .ok (.iand, 1) := by decide +kernel
theorem dX5_leastOfRest_38 : decode cX5_leastOfRest 38 = .ok (.ifCond .ne 41, 3) := by decide +kernel
theorem dX5_leastOfRest_41 : decode cX5_leastOfRest 41 = .ok (.iload 5, 2) := by decide +kernel
theorem dX5_leastOfRest_43 : decode cX5_leastOfRest 43 = .ok (.iload_n 3, 1) := by decide +kernel
theorem dX5_leastOfRest_44 : decode cX5_leastOfRest 44 = .ok (.iand, 1) := by decide +kernel
theorem dX5_leastOfRest_45 : decode cX5_leastOfRest 45 = .ok (.ifCond .eq 34, 3) := by decide +kernel
theorem dX5_leastOfRest_48 : decode cX5_leastOfRest 48 = .ok (.aload_n 0, 1) := by decide +kernel
theorem dX5_leastOfRest_49 : decode cX5_leastOfRest 49 = .ok (.iload_n 1, 1) := by decide +kernel
theorem dX5_leastOfRest_50 : decode cX5_leastOfRest 50 = .ok (.iload 5, 2) := by decide +kernel
theorem dX5_leastOfRest_52 : decode cX5_leastOfRest 52 = .ok (.iconst (-1), 1) := by decide +kernel
theorem dX5_leastOfRest_53 : decode cX5_leastOfRest 53 = .ok (.ixor, 1) := by decide +kernel
theorem dX5_leastOfRest_54 : decode cX5_leastOfRest 54 = .ok (.iand, 1) := by decide +kernel
theorem dX5_leastOfRest_55 : decode cX5_leastOfRest 55 = .ok (.iload_n 2, 1) := by decide +kernel
theorem dX5_leastOfRest_56 : decode cX5_leastOfRest 56 = .ok (.iconst 1, 1) := by decide +kernel
theorem dX5_leastOfRest_57 : decode cX5_leastOfRest 57 = .ok (.isub, 1) := by decide +kernel
theorem dX5_leastOfRest_58 : decode cX5_leastOfRest 58 = .ok (.invokestatic 58, 3) := by decide +kernel
theorem dX5_leastOfRest_61 : decode cX5_leastOfRest 61 = .ok (.istore 6, 2) := by decide +kernel
theorem dX5_leastOfRest_63 : decode cX5_leastOfRest 63 = .ok (.iload 4, 2) := by decide +kernel
theorem dX5_leastOfRest_65 : decode cX5_leastOfRest 65 = .ok (.aload_n 0, 1) := by decide +kernel
theorem dX5_leastOfRest_66 : decode cX5_leastOfRest 66 = .ok (.iload 5, 2) := by decide +kernel
theorem dX5_leastOfRest_68 : decode cX5_leastOfRest 68 = .ok (.invokevirtual 45, 3) := by decide +kernel
theorem dX5_leastOfRest_71 : decode cX5_leastOfRest 71 = .ok (.iload 6, 2) := by decide +kernel
theorem dX5_leastOfRest_73 : decode cX5_leastOfRest 73 = .ok (.iadd, 1) := by decide +kernel
theorem dX5_leastOfRest_74 : decode cX5_leastOfRest 74 = .ok (.invokestatic 63, 3) := by decide +kernel
theorem dX5_leastOfRest_77 : decode cX5_leastOfRest 77 = .ok (.istore 4, 2) := by decide +kernel
theorem dX5_leastOfRest_79 : decode cX5_leastOfRest 79 = .ok (.iinc 5 1, 3) := by decide +kernel
theorem dX5_leastOfRest_82 : decode cX5_leastOfRest 82 = .ok (.goto (-56), 3) := by decide +kernel
theorem dX5_leastOfRest_85 : decode cX5_leastOfRest 85 = .ok (.iload 4, 2) := by decide +kernel
theorem dX5_leastOfRest_87 : decode cX5_leastOfRest 87 = .ok (.ireturn, 1) := by decide +kernel
theorem dX5_leastByChoice_0 : decode cX5_leastByChoice 0 = .ok (.aload_n 0, 1) := by decide +kernel
theorem dX5_leastByChoice_1 : decode cX5_leastByChoice 1 = .ok (.aload_n 1, 1) := by decide +kernel
theorem dX5_leastByChoice_2 : decode cX5_leastByChoice 2 = .ok (.invokevirtual 54, 3) := by decide +kernel
theorem dX5_leastByChoice_5 : decode cX5_leastByChoice 5 = .ok (.aload_n 0, 1) := by decide +kernel
theorem dX5_leastByChoice_6 : decode cX5_leastByChoice 6 = .ok (.getfield 23, 3) := by decide +kernel
theorem dX5_leastByChoice_9 : decode cX5_leastByChoice 9 = .ok (.aload_n 0, 1) := by decide +kernel
theorem dX5_leastByChoice_10 : decode cX5_leastByChoice 10 = .ok (.invokevirtual 37, 3) := by decide +kernel
theorem dX5_leastByChoice_13 : decode cX5_leastByChoice 13 = .ok (.iload_n 2, 1) := by decide +kernel
theorem dX5_leastByChoice_14 : decode cX5_leastByChoice 14 = .ok (.invokestatic 58, 3) := by decide +kernel
theorem dX5_leastByChoice_17 : decode cX5_leastByChoice 17 = .ok (.ireturn, 1) := by decide +kernel
theorem dX11_least_0 : decode cX11_least 0 = .ok (.iload_n 1, 1) := by decide +kernel
theorem dX11_least_1 : decode cX11_least 1 = .ok (.iconst 1, 1) := by decide +kernel
theorem dX11_least_2 : decode cX11_least 2 = .ok (.iconst 5, 1) := by decide +kernel
theorem dX11_least_3 : decode cX11_least 3 = .ok (.invokestatic 62, 3) := by decide +kernel
theorem dX11_least_6 : decode cX11_least 6 = .ok (.invokestatic 66, 3) := by decide +kernel
theorem dX11_least_9 : decode cX11_least 9 = .ok (.aload_n 0, 1) := by decide +kernel
theorem dX11_least_10 : decode cX11_least 10 = .ok (.getfield 19, 3) := by decide +kernel
theorem dX11_least_13 : decode cX11_least 13 = .ok (.aload_n 0, 1) := by decide +kernel
theorem dX11_least_14 : decode cX11_least 14 = .ok (.getfield 10, 3) := by decide +kernel
theorem dX11_least_17 : decode cX11_least 17 = .ok (.iload_n 1, 1) := by decide +kernel
theorem dX11_least_18 : decode cX11_least 18 = .ok (.invokevirtual 159, 3) := by decide +kernel
theorem dX11_least_21 : decode cX11_least 21 = .ok (.ireturn, 1) := by decide +kernel
theorem dL_least_0 : decode cL_least 0 = .ok (.aload_n 2, 1) := by decide +kernel
theorem dL_least_1 : decode cL_least 1 = .ok (.iconst 0, 1) := by decide +kernel
theorem dL_least_2 : decode cL_least 2 = .ok (.aload_n 0, 1) := by decide +kernel
theorem dL_least_3 : decode cL_least 3 = .ok (.iload_n 1, 1) := by decide +kernel
theorem dL_least_4 : decode cL_least 4 = .ok (.invokevirtual 44, 3) := by decide +kernel
theorem dL_least_7 : decode cL_least 7 = .ok (.i2l, 1) := by decide +kernel
theorem dL_least_8 : decode cL_least 8 = .ok (.lastore, 1) := by decide +kernel
theorem dL_least_9 : decode cL_least 9 = .ok (.goto 6, 3) := by decide +kernel
theorem dL_least_12 : decode cL_least 12 = .ok (.astore_n 3, 1) := by decide +kernel
theorem dL_least_13 : decode cL_least 13 = .ok (.iconst 1, 1) := by decide +kernel
theorem dL_least_14 : decode cL_least 14 = .ok (.ireturn, 1) := by decide +kernel
theorem dL_least_15 : decode cL_least 15 = .ok (.iconst 0, 1) := by decide +kernel
theorem dL_least_16 : decode cL_least 16 = .ok (.ireturn, 1) := by decide +kernel
theorem dX12_weightOfFamilies_0 : decode cX12_weightOfFamilies 0 = .ok (.iconst 0, 1) := by decide +kernel
theorem dX12_weightOfFamilies_1 : decode cX12_weightOfFamilies 1 = .ok (.istore_n 2, 1) := by decide +kernel
theorem dX12_weightOfFamilies_2 : decode cX12_weightOfFamilies 2 = .ok (.iconst 0, 1) := by decide +kernel
theorem dX12_weightOfFamilies_3 : decode cX12_weightOfFamilies 3 = .ok (.istore_n 3, 1) := by decide +kernel
theorem dX12_weightOfFamilies_4 : decode cX12_weightOfFamilies 4 = .ok (.iload_n 3, 1) := by decide +kernel
theorem dX12_weightOfFamilies_5 : decode cX12_weightOfFamilies 5 = .ok (.iload_n 1, 1) := by decide +kernel
theorem dX12_weightOfFamilies_6 : decode cX12_weightOfFamilies 6 = .ok (.if_icmp .ge 99, 3) := by decide +kernel
theorem dX12_weightOfFamilies_9 : decode cX12_weightOfFamilies 9 = .ok (.iconst 0, 1) := by decide +kernel
theorem dX12_weightOfFamilies_10 : decode cX12_weightOfFamilies 10 = .ok (.istore 4, 2) := by decide +kernel
theorem dX12_weightOfFamilies_12 : decode cX12_weightOfFamilies 12 = .ok (.iconst 0, 1) := by decide +kernel
theorem dX12_weightOfFamilies_13 : decode cX12_weightOfFamilies 13 = .ok (.istore 5, 2) := by decide +kernel
theorem dX12_weightOfFamilies_15 : decode cX12_weightOfFamilies 15 = .ok (.iconst 0, 1) := by decide +kernel
theorem dX12_weightOfFamilies_16 : decode cX12_weightOfFamilies 16 = .ok (.istore 6, 2) := by decide +kernel
theorem dX12_weightOfFamilies_18 : decode cX12_weightOfFamilies 18 = .ok (.iload 6, 2) := by decide +kernel
theorem dX12_weightOfFamilies_20 : decode cX12_weightOfFamilies 20 = .ok (.aload_n 0, 1) := by decide +kernel
theorem dX12_weightOfFamilies_21 : decode cX12_weightOfFamilies 21 = .ok (.getfield 182, 3) := by decide +kernel
theorem dX12_weightOfFamilies_24 : decode cX12_weightOfFamilies 24 = .ok (.if_icmp .ge 63, 3) := by decide +kernel
theorem dX12_weightOfFamilies_27 : decode cX12_weightOfFamilies 27 = .ok (.iload 4, 2) := by decide +kernel
theorem dX12_weightOfFamilies_29 : decode cX12_weightOfFamilies 29 = .ok (.aload_n 0, 1) := by decide +kernel
theorem dX12_weightOfFamilies_30 : decode cX12_weightOfFamilies 30 = .ok (.getfield 59, 3) := by decide +kernel
theorem dX12_weightOfFamilies_33 : decode cX12_weightOfFamilies 33 = .ok (.iload 6, 2) := by decide +kernel
theorem dX12_weightOfFamilies_35 : decode cX12_weightOfFamilies 35 = .ok (.iaload, 1) := by decide +kernel
theorem dX12_weightOfFamilies_36 : decode cX12_weightOfFamilies 36 = .ok (.iload_n 3, 1) := by decide +kernel
theorem dX12_weightOfFamilies_37 : decode cX12_weightOfFamilies 37 = .ok (.if_icmp .ne 13, 3) := by decide +kernel
theorem dX12_weightOfFamilies_40 : decode cX12_weightOfFamilies 40 = .ok (.aload_n 0, 1) := by decide +kernel
theorem dX12_weightOfFamilies_41 : decode cX12_weightOfFamilies 41 = .ok (.getfield 53, 3) := by decide +kernel
theorem dX12_weightOfFamilies_44 : decode cX12_weightOfFamilies 44 = .ok (.iload 6, 2) := by decide +kernel
theorem dX12_weightOfFamilies_46 : decode cX12_weightOfFamilies 46 = .ok (.iaload, 1) := by decide +kernel
theorem dX12_weightOfFamilies_47 : decode cX12_weightOfFamilies 47 = .ok (.goto 4, 3) := by decide +kernel
theorem dX12_weightOfFamilies_50 : decode cX12_weightOfFamilies 50 = .ok (.iconst 0, 1) := by decide +kernel
theorem dX12_weightOfFamilies_51 : decode cX12_weightOfFamilies 51 = .ok (.ior, 1) := by decide +kernel
theorem dX12_weightOfFamilies_52 : decode cX12_weightOfFamilies 52 = .ok (.istore 4, 2) := by decide +kernel
theorem dX12_weightOfFamilies_54 : decode cX12_weightOfFamilies 54 = .ok (.iload 5, 2) := by decide +kernel
theorem dX12_weightOfFamilies_56 : decode cX12_weightOfFamilies 56 = .ok (.aload_n 0, 1) := by decide +kernel
theorem dX12_weightOfFamilies_57 : decode cX12_weightOfFamilies 57 = .ok (.getfield 59, 3) := by decide +kernel
theorem dX12_weightOfFamilies_60 : decode cX12_weightOfFamilies 60 = .ok (.iload 6, 2) := by decide +kernel
theorem dX12_weightOfFamilies_62 : decode cX12_weightOfFamilies 62 = .ok (.iaload, 1) := by decide +kernel
theorem dX12_weightOfFamilies_63 : decode cX12_weightOfFamilies 63 = .ok (.iload_n 3, 1) := by decide +kernel
theorem dX12_weightOfFamilies_64 : decode cX12_weightOfFamilies 64 = .ok (.if_icmp .ne 13, 3) := by decide +kernel
theorem dX12_weightOfFamilies_67 : decode cX12_weightOfFamilies 67 = .ok (.aload_n 0, 1) := by decide +kernel
theorem dX12_weightOfFamilies_68 : decode cX12_weightOfFamilies 68 = .ok (.getfield 56, 3) := by decide +kernel
theorem dX12_weightOfFamilies_71 : decode cX12_weightOfFamilies 71 = .ok (.iload 6, 2) := by decide +kernel
theorem dX12_weightOfFamilies_73 : decode cX12_weightOfFamilies 73 = .ok (.iaload, 1) := by decide +kernel
theorem dX12_weightOfFamilies_74 : decode cX12_weightOfFamilies 74 = .ok (.goto 4, 3) := by decide +kernel
theorem dX12_weightOfFamilies_77 : decode cX12_weightOfFamilies 77 = .ok (.iconst 0, 1) := by decide +kernel
theorem dX12_weightOfFamilies_78 : decode cX12_weightOfFamilies 78 = .ok (.iadd, 1) := by decide +kernel
theorem dX12_weightOfFamilies_79 : decode cX12_weightOfFamilies 79 = .ok (.istore 5, 2) := by decide +kernel
theorem dX12_weightOfFamilies_81 : decode cX12_weightOfFamilies 81 = .ok (.iinc 6 1, 3) := by decide +kernel
theorem dX12_weightOfFamilies_84 : decode cX12_weightOfFamilies 84 = .ok (.goto (-66), 3) := by decide +kernel
theorem dX12_weightOfFamilies_87 : decode cX12_weightOfFamilies 87 = .ok (.iload_n 2, 1) := by decide +kernel
theorem dX12_weightOfFamilies_88 : decode cX12_weightOfFamilies 88 = .ok (.iload 5, 2) := by decide +kernel
theorem dX12_weightOfFamilies_90 : decode cX12_weightOfFamilies 90 = .ok (.aload_n 0, 1) := by decide +kernel
theorem dX12_weightOfFamilies_91 : decode cX12_weightOfFamilies 91 = .ok (.iload 4, 2) := by decide +kernel
theorem dX12_weightOfFamilies_93 : decode cX12_weightOfFamilies 93 = .ok (.invokevirtual 179, 3) := by decide +kernel
theorem dX12_weightOfFamilies_96 : decode cX12_weightOfFamilies 96 = .ok (.imul, 1) := by decide +kernel
theorem dX12_weightOfFamilies_97 : decode cX12_weightOfFamilies 97 = .ok (.iadd, 1) := by decide +kernel
theorem dX12_weightOfFamilies_98 : decode cX12_weightOfFamilies 98 = .ok (.istore_n 2, 1) := by decide +kernel
theorem dX12_weightOfFamilies_99 : decode cX12_weightOfFamilies 99 = .ok (.iinc 3 1, 3) := by decide +kernel
theorem dX12_weightOfFamilies_102 : decode cX12_weightOfFamilies 102 = .ok (.goto (-98), 3) := by decide +kernel
theorem dX12_weightOfFamilies_105 : decode cX12_weightOfFamilies 105 = .ok (.iload_n 2, 1) := by decide +kernel
theorem dX12_weightOfFamilies_106 : decode cX12_weightOfFamilies 106 = .ok (.ireturn, 1) := by decide +kernel
theorem dX12_leastOf_0 : decode cX12_leastOf 0 = .ok (.iconst 1, 1) := by decide +kernel
theorem dX12_leastOf_1 : decode cX12_leastOf 1 = .ok (.istore_n 2, 1) := by decide +kernel
theorem dX12_leastOf_2 : decode cX12_leastOf 2 = .ok (.iconst 0, 1) := by decide +kernel
theorem dX12_leastOf_3 : decode cX12_leastOf 3 = .ok (.istore_n 3, 1) := by decide +kernel
theorem dX12_leastOf_4 : decode cX12_leastOf 4 = .ok (.iload_n 3, 1) := by decide +kernel
theorem dX12_leastOf_5 : decode cX12_leastOf 5 = .ok (.aload_n 0, 1) := by decide +kernel
theorem dX12_leastOf_6 : decode cX12_leastOf 6 = .ok (.getfield 182, 3) := by decide +kernel
theorem dX12_leastOf_9 : decode cX12_leastOf 9 = .ok (.if_icmp .ge 13, 3) := by decide +kernel
theorem dX12_leastOf_12 : decode cX12_leastOf 12 = .ok (.iload_n 2, 1) := by decide +kernel
theorem dX12_leastOf_13 : decode cX12_leastOf 13 = .ok (.iload_n 1, 1) := by decide +kernel
theorem dX12_leastOf_14 : decode cX12_leastOf 14 = .ok (.imul, 1) := by decide +kernel
theorem dX12_leastOf_15 : decode cX12_leastOf 15 = .ok (.istore_n 2, 1) := by decide +kernel
theorem dX12_leastOf_16 : decode cX12_leastOf 16 = .ok (.iinc 3 1, 3) := by decide +kernel
theorem dX12_leastOf_19 : decode cX12_leastOf 19 = .ok (.goto (-15), 3) := by decide +kernel
theorem dX12_leastOf_22 : decode cX12_leastOf 22 = .ok (.ldc 147, 2) := by decide +kernel
theorem dX12_leastOf_24 : decode cX12_leastOf 24 = .ok (.istore_n 3, 1) := by decide +kernel
theorem dX12_leastOf_25 : decode cX12_leastOf 25 = .ok (.iconst 0, 1) := by decide +kernel
theorem dX12_leastOf_26 : decode cX12_leastOf 26 = .ok (.istore 4, 2) := by decide +kernel
theorem dX12_leastOf_28 : decode cX12_leastOf 28 = .ok (.iload 4, 2) := by decide +kernel
theorem dX12_leastOf_30 : decode cX12_leastOf 30 = .ok (.iload_n 2, 1) := by decide +kernel
theorem dX12_leastOf_31 : decode cX12_leastOf 31 = .ok (.if_icmp .ge 68, 3) := by decide +kernel
theorem dX12_leastOf_34 : decode cX12_leastOf 34 = .ok (.iload 4, 2) := by decide +kernel
theorem dX12_leastOf_36 : decode cX12_leastOf 36 = .ok (.istore 5, 2) := by decide +kernel
theorem dX12_leastOf_38 : decode cX12_leastOf 38 = .ok (.iconst 0, 1) := by decide +kernel
theorem dX12_leastOf_39 : decode cX12_leastOf 39 = .ok (.istore 6, 2) := by decide +kernel
theorem dX12_leastOf_41 : decode cX12_leastOf 41 = .ok (.iload 6, 2) := by decide +kernel
theorem dX12_leastOf_43 : decode cX12_leastOf 43 = .ok (.aload_n 0, 1) := by decide +kernel
theorem dX12_leastOf_44 : decode cX12_leastOf 44 = .ok (.getfield 182, 3) := by decide +kernel
theorem dX12_leastOf_47 : decode cX12_leastOf 47 = .ok (.if_icmp .ge 26, 3) := by decide +kernel
theorem dX12_leastOf_50 : decode cX12_leastOf 50 = .ok (.aload_n 0, 1) := by decide +kernel
theorem dX12_leastOf_51 : decode cX12_leastOf 51 = .ok (.getfield 59, 3) := by decide +kernel
theorem dX12_leastOf_54 : decode cX12_leastOf 54 = .ok (.iload 6, 2) := by decide +kernel
theorem dX12_leastOf_56 : decode cX12_leastOf 56 = .ok (.iload 5, 2) := by decide +kernel
theorem dX12_leastOf_58 : decode cX12_leastOf 58 = .ok (.iload_n 1, 1) := by decide +kernel
theorem dX12_leastOf_59 : decode cX12_leastOf 59 = .ok (.irem, 1) := by decide +kernel
theorem dX12_leastOf_60 : decode cX12_leastOf 60 = .ok (.iastore, 1) := by decide +kernel
theorem dX12_leastOf_61 : decode cX12_leastOf 61 = .ok (.iload 5, 2) := by decide +kernel
theorem dX12_leastOf_63 : decode cX12_leastOf 63 = .ok (.iload_n 1, 1) := by decide +kernel
theorem dX12_leastOf_64 : decode cX12_leastOf 64 = .ok (.idiv, 1) := by decide +kernel
theorem dX12_leastOf_65 : decode cX12_leastOf 65 = .ok (.istore 5, 2) := by decide +kernel
theorem dX12_leastOf_67 : decode cX12_leastOf 67 = .ok (.iinc 6 1, 3) := by decide +kernel
theorem dX12_leastOf_70 : decode cX12_leastOf 70 = .ok (.goto (-29), 3) := by decide +kernel
theorem dX12_leastOf_73 : decode cX12_leastOf 73 = .ok (.aload_n 0, 1) := by decide +kernel
theorem dX12_leastOf_74 : decode cX12_leastOf 74 = .ok (.iload_n 1, 1) := by decide +kernel
theorem dX12_leastOf_75 : decode cX12_leastOf 75 = .ok (.invokevirtual 185, 3) := by decide +kernel
theorem dX12_leastOf_78 : decode cX12_leastOf 78 = .ok (.istore 6, 2) := by decide +kernel
theorem dX12_leastOf_80 : decode cX12_leastOf 80 = .ok (.iload 6, 2) := by decide +kernel
theorem dX12_leastOf_82 : decode cX12_leastOf 82 = .ok (.iload_n 3, 1) := by decide +kernel
theorem dX12_leastOf_83 : decode cX12_leastOf 83 = .ok (.if_icmp .ge 8, 3) := by decide +kernel
theorem dX12_leastOf_86 : decode cX12_leastOf 86 = .ok (.iload 6, 2) := by decide +kernel
theorem dX12_leastOf_88 : decode cX12_leastOf 88 = .ok (.goto 4, 3) := by decide +kernel
theorem dX12_leastOf_91 : decode cX12_leastOf 91 = .ok (.iload_n 3, 1) := by decide +kernel
theorem dX12_leastOf_92 : decode cX12_leastOf 92 = .ok (.istore_n 3, 1) := by decide +kernel
theorem dX12_leastOf_93 : decode cX12_leastOf 93 = .ok (.iinc 4 1, 3) := by decide +kernel
theorem dX12_leastOf_96 : decode cX12_leastOf 96 = .ok (.goto (-68), 3) := by decide +kernel
theorem dX12_leastOf_99 : decode cX12_leastOf 99 = .ok (.iload_n 3, 1) := by decide +kernel
theorem dX12_leastOf_100 : decode cX12_leastOf 100 = .ok (.ireturn, 1) := by decide +kernel
theorem dX12_least_0 : decode cX12_least 0 = .ok (.aload_n 0, 1) := by decide +kernel
theorem dX12_least_1 : decode cX12_least 1 = .ok (.iload_n 1, 1) := by decide +kernel
theorem dX12_least_2 : decode cX12_least 2 = .ok (.iconst 1, 1) := by decide +kernel
theorem dX12_least_3 : decode cX12_least 3 = .ok (.iconst 5, 1) := by decide +kernel
theorem dX12_least_4 : decode cX12_least 4 = .ok (.invokestatic 120, 3) := by decide +kernel
theorem dX12_least_7 : decode cX12_least 7 = .ok (.ifCond .eq 7, 3) := by decide +kernel
theorem dX12_least_10 : decode cX12_least 10 = .ok (.iconst 0, 1) := by decide +kernel
theorem dX12_least_11 : decode cX12_least 11 = .ok (.goto 4, 3) := by decide +kernel
theorem dX12_least_14 : decode cX12_least 14 = .ok (.iconst 1, 1) := by decide +kernel
theorem dX12_least_15 : decode cX12_least 15 = .ok (.invokevirtual 134, 3) := by decide +kernel
theorem dX12_least_18 : decode cX12_least 18 = .ok (.ifCond .eq 7, 3) := by decide +kernel
theorem dX12_least_21 : decode cX12_least 21 = .ok (.iconst 0, 1) := by decide +kernel
theorem dX12_least_22 : decode cX12_least 22 = .ok (.goto 8, 3) := by decide +kernel
theorem dX12_least_25 : decode cX12_least 25 = .ok (.aload_n 0, 1) := by decide +kernel
theorem dX12_least_26 : decode cX12_least 26 = .ok (.iload_n 1, 1) := by decide +kernel
theorem dX12_least_27 : decode cX12_least 27 = .ok (.invokevirtual 188, 3) := by decide +kernel
theorem dX12_least_30 : decode cX12_least 30 = .ok (.ireturn, 1) := by decide +kernel
theorem dX5_leastWithOneMore_0 : decode cX5_leastWithOneMore 0 = .ok (.aload_n 0, 1) := by decide +kernel
theorem dX5_leastWithOneMore_1 : decode cX5_leastWithOneMore 1 = .ok (.getfield 26, 3) := by decide +kernel
theorem dX5_leastWithOneMore_4 : decode cX5_leastWithOneMore 4 = .ok (.iload_n 1, 1) := by decide +kernel
theorem dX5_leastWithOneMore_5 : decode cX5_leastWithOneMore 5 = .ok (.invokevirtual 45, 3) := by decide +kernel
theorem dX5_leastWithOneMore_8 : decode cX5_leastWithOneMore 8 = .ok (.istore_n 2, 1) := by decide +kernel
theorem dX5_leastWithOneMore_9 : decode cX5_leastWithOneMore 9 = .ok (.iconst 1, 1) := by decide +kernel
theorem dX5_leastWithOneMore_10 : decode cX5_leastWithOneMore 10 = .ok (.istore_n 3, 1) := by decide +kernel
theorem dX5_leastWithOneMore_11 : decode cX5_leastWithOneMore 11 = .ok (.iload_n 3, 1) := by decide +kernel
theorem dX5_leastWithOneMore_12 : decode cX5_leastWithOneMore 12 = .ok (.iload_n 1, 1) := by decide +kernel
theorem dX5_leastWithOneMore_13 : decode cX5_leastWithOneMore 13 = .ok (.if_icmp .gt 43, 3) := by decide +kernel
theorem dX5_leastWithOneMore_16 : decode cX5_leastWithOneMore 16 = .ok (.iload_n 3, 1) := by decide +kernel
theorem dX5_leastWithOneMore_17 : decode cX5_leastWithOneMore 17 = .ok (.iload_n 1, 1) := by decide +kernel
theorem dX5_leastWithOneMore_18 : decode cX5_leastWithOneMore 18 = .ok (.iconst (-1), 1) := by decide +kernel
theorem dX5_leastWithOneMore_19 : decode cX5_leastWithOneMore 19 = .ok (.ixor, 1) := by decide +kernel
theorem dX5_leastWithOneMore_20 : decode cX5_leastWithOneMore 20 = .ok (.iand, 1) := by decide +kernel
theorem dX5_leastWithOneMore_21 : decode cX5_leastWithOneMore 21 = .ok (.ifCond .ne 29, 3) := by decide +kernel
theorem dX5_leastWithOneMore_24 : decode cX5_leastWithOneMore 24 = .ok (.iload_n 2, 1) := by decide +kernel
theorem dX5_leastWithOneMore_25 : decode cX5_leastWithOneMore 25 = .ok (.aload_n 0, 1) := by decide +kernel
theorem dX5_leastWithOneMore_26 : decode cX5_leastWithOneMore 26 = .ok (.getfield 23, 3) := by decide +kernel
theorem dX5_leastWithOneMore_29 : decode cX5_leastWithOneMore 29 = .ok (.iload_n 3, 1) := by decide +kernel
theorem dX5_leastWithOneMore_30 : decode cX5_leastWithOneMore 30 = .ok (.invokevirtual 45, 3) := by decide +kernel
theorem dX5_leastWithOneMore_33 : decode cX5_leastWithOneMore 33 = .ok (.aload_n 0, 1) := by decide +kernel
theorem dX5_leastWithOneMore_34 : decode cX5_leastWithOneMore 34 = .ok (.getfield 26, 3) := by decide +kernel
theorem dX5_leastWithOneMore_37 : decode cX5_leastWithOneMore 37 = .ok (.iload_n 1, 1) := by decide +kernel
theorem dX5_leastWithOneMore_38 : decode cX5_leastWithOneMore 38 = .ok (.iload_n 3, 1) := by decide +kernel
theorem dX5_leastWithOneMore_39 : decode cX5_leastWithOneMore 39 = .ok (.iconst (-1), 1) := by decide +kernel
theorem dX5_leastWithOneMore_40 : decode cX5_leastWithOneMore 40 = .ok (.ixor, 1) := by decide +kernel
theorem dX5_leastWithOneMore_41 : decode cX5_leastWithOneMore 41 = .ok (.iand, 1) := by decide +kernel
theorem dX5_leastWithOneMore_42 : decode cX5_leastWithOneMore 42 = .ok (.invokevirtual 45, 3) := by decide +kernel
theorem dX5_leastWithOneMore_45 : decode cX5_leastWithOneMore 45 = .ok (.iadd, 1) := by decide +kernel
theorem dX5_leastWithOneMore_46 : decode cX5_leastWithOneMore 46 = .ok (.invokestatic 63, 3) := by decide +kernel
theorem dX5_leastWithOneMore_49 : decode cX5_leastWithOneMore 49 = .ok (.istore_n 2, 1) := by decide +kernel
theorem dX5_leastWithOneMore_50 : decode cX5_leastWithOneMore 50 = .ok (.iinc 3 1, 3) := by decide +kernel
theorem dX5_leastWithOneMore_53 : decode cX5_leastWithOneMore 53 = .ok (.goto (-42), 3) := by decide +kernel
theorem dX5_leastWithOneMore_56 : decode cX5_leastWithOneMore 56 = .ok (.iload_n 2, 1) := by decide +kernel
theorem dX5_leastWithOneMore_57 : decode cX5_leastWithOneMore 57 = .ok (.ireturn, 1) := by decide +kernel
theorem dX5_addFamily_0 : decode cX5_addFamily 0 = .ok (.aload_n 0, 1) := by decide +kernel
theorem dX5_addFamily_1 : decode cX5_addFamily 1 = .ok (.invokevirtual 37, 3) := by decide +kernel
theorem dX5_addFamily_4 : decode cX5_addFamily 4 = .ok (.istore_n 1, 1) := by decide +kernel
theorem dX5_addFamily_5 : decode cX5_addFamily 5 = .ok (.iload_n 1, 1) := by decide +kernel
theorem dX5_addFamily_6 : decode cX5_addFamily 6 = .ok (.ifCond .lt 22, 3) := by decide +kernel
theorem dX5_addFamily_9 : decode cX5_addFamily 9 = .ok (.aload_n 0, 1) := by decide +kernel
theorem dX5_addFamily_10 : decode cX5_addFamily 10 = .ok (.getfield 26, 3) := by decide +kernel
theorem dX5_addFamily_13 : decode cX5_addFamily 13 = .ok (.iload_n 1, 1) := by decide +kernel
theorem dX5_addFamily_14 : decode cX5_addFamily 14 = .ok (.aload_n 0, 1) := by decide +kernel
theorem dX5_addFamily_15 : decode cX5_addFamily 15 = .ok (.iload_n 1, 1) := by decide +kernel
theorem dX5_addFamily_16 : decode cX5_addFamily 16 = .ok (.invokevirtual 75, 3) := by decide +kernel
theorem dX5_addFamily_19 : decode cX5_addFamily 19 = .ok (.invokevirtual 33, 3) := by decide +kernel
theorem dX5_addFamily_22 : decode cX5_addFamily 22 = .ok (.iinc 1 (-1), 3) := by decide +kernel
theorem dX5_addFamily_25 : decode cX5_addFamily 25 = .ok (.goto (-20), 3) := by decide +kernel
theorem dX5_addFamily_28 : decode cX5_addFamily 28 = .ok (.return_, 1) := by decide +kernel
theorem dX5_leastByTable_0 : decode cX5_leastByTable 0 = .ok (.aload_n 0, 1) := by decide +kernel
theorem dX5_leastByTable_1 : decode cX5_leastByTable 1 = .ok (.aload_n 1, 1) := by decide +kernel
theorem dX5_leastByTable_2 : decode cX5_leastByTable 2 = .ok (.invokevirtual 54, 3) := by decide +kernel
theorem dX5_leastByTable_5 : decode cX5_leastByTable 5 = .ok (.aload_n 0, 1) := by decide +kernel
theorem dX5_leastByTable_6 : decode cX5_leastByTable 6 = .ok (.getfield 26, 3) := by decide +kernel
theorem dX5_leastByTable_9 : decode cX5_leastByTable 9 = .ok (.ldc 62, 2) := by decide +kernel
theorem dX5_leastByTable_11 : decode cX5_leastByTable 11 = .ok (.invokevirtual 69, 3) := by decide +kernel
theorem dX5_leastByTable_14 : decode cX5_leastByTable 14 = .ok (.aload_n 0, 1) := by decide +kernel
theorem dX5_leastByTable_15 : decode cX5_leastByTable 15 = .ok (.getfield 26, 3) := by decide +kernel
theorem dX5_leastByTable_18 : decode cX5_leastByTable 18 = .ok (.iconst 0, 1) := by decide +kernel
theorem dX5_leastByTable_19 : decode cX5_leastByTable 19 = .ok (.iconst 0, 1) := by decide +kernel
theorem dX5_leastByTable_20 : decode cX5_leastByTable 20 = .ok (.invokevirtual 33, 3) := by decide +kernel
theorem dX5_leastByTable_23 : decode cX5_leastByTable 23 = .ok (.iconst 1, 1) := by decide +kernel
theorem dX5_leastByTable_24 : decode cX5_leastByTable 24 = .ok (.istore_n 3, 1) := by decide +kernel
theorem dX5_leastByTable_25 : decode cX5_leastByTable 25 = .ok (.iload_n 3, 1) := by decide +kernel
theorem dX5_leastByTable_26 : decode cX5_leastByTable 26 = .ok (.iload_n 2, 1) := by decide +kernel
theorem dX5_leastByTable_27 : decode cX5_leastByTable 27 = .ok (.if_icmp .gt 13, 3) := by decide +kernel
theorem dX5_leastByTable_30 : decode cX5_leastByTable 30 = .ok (.aload_n 0, 1) := by decide +kernel
theorem dX5_leastByTable_31 : decode cX5_leastByTable 31 = .ok (.invokevirtual 72, 3) := by decide +kernel
theorem dX5_leastByTable_34 : decode cX5_leastByTable 34 = .ok (.iinc 3 1, 3) := by decide +kernel
theorem dX5_leastByTable_37 : decode cX5_leastByTable 37 = .ok (.goto (-12), 3) := by decide +kernel
theorem dX5_leastByTable_40 : decode cX5_leastByTable 40 = .ok (.aload_n 0, 1) := by decide +kernel
theorem dX5_leastByTable_41 : decode cX5_leastByTable 41 = .ok (.getfield 26, 3) := by decide +kernel
theorem dX5_leastByTable_44 : decode cX5_leastByTable 44 = .ok (.aload_n 0, 1) := by decide +kernel
theorem dX5_leastByTable_45 : decode cX5_leastByTable 45 = .ok (.invokevirtual 37, 3) := by decide +kernel
theorem dX5_leastByTable_48 : decode cX5_leastByTable 48 = .ok (.invokevirtual 45, 3) := by decide +kernel
theorem dX5_leastByTable_51 : decode cX5_leastByTable 51 = .ok (.ireturn, 1) := by decide +kernel
theorem dX11_leastAnew_0 : decode cX11_leastAnew 0 = .ok (.iload_n 1, 1) := by decide +kernel
theorem dX11_leastAnew_1 : decode cX11_leastAnew 1 = .ok (.iconst 1, 1) := by decide +kernel
theorem dX11_leastAnew_2 : decode cX11_leastAnew 2 = .ok (.iconst 5, 1) := by decide +kernel
theorem dX11_leastAnew_3 : decode cX11_leastAnew 3 = .ok (.invokestatic 62, 3) := by decide +kernel
theorem dX11_leastAnew_6 : decode cX11_leastAnew 6 = .ok (.invokestatic 66, 3) := by decide +kernel
theorem dX11_leastAnew_9 : decode cX11_leastAnew 9 = .ok (.aload_n 0, 1) := by decide +kernel
theorem dX11_leastAnew_10 : decode cX11_leastAnew 10 = .ok (.getfield 19, 3) := by decide +kernel
theorem dX11_leastAnew_13 : decode cX11_leastAnew 13 = .ok (.aload_n 0, 1) := by decide +kernel
theorem dX11_leastAnew_14 : decode cX11_leastAnew 14 = .ok (.getfield 10, 3) := by decide +kernel
theorem dX11_leastAnew_17 : decode cX11_leastAnew 17 = .ok (.iload_n 1, 1) := by decide +kernel
theorem dX11_leastAnew_18 : decode cX11_leastAnew 18 = .ok (.invokevirtual 163, 3) := by decide +kernel
theorem dX11_leastAnew_21 : decode cX11_leastAnew 21 = .ok (.ireturn, 1) := by decide +kernel
theorem dL_leastAnew_0 : decode cL_leastAnew 0 = .ok (.aload_n 2, 1) := by decide +kernel
theorem dL_leastAnew_1 : decode cL_leastAnew 1 = .ok (.iconst 0, 1) := by decide +kernel
theorem dL_leastAnew_2 : decode cL_leastAnew 2 = .ok (.aload_n 0, 1) := by decide +kernel
theorem dL_leastAnew_3 : decode cL_leastAnew 3 = .ok (.iload_n 1, 1) := by decide +kernel
theorem dL_leastAnew_4 : decode cL_leastAnew 4 = .ok (.invokevirtual 47, 3) := by decide +kernel
theorem dL_leastAnew_7 : decode cL_leastAnew 7 = .ok (.i2l, 1) := by decide +kernel
theorem dL_leastAnew_8 : decode cL_leastAnew 8 = .ok (.lastore, 1) := by decide +kernel
theorem dL_leastAnew_9 : decode cL_leastAnew 9 = .ok (.goto 6, 3) := by decide +kernel
theorem dL_leastAnew_12 : decode cL_leastAnew 12 = .ok (.astore_n 3, 1) := by decide +kernel
theorem dL_leastAnew_13 : decode cL_leastAnew 13 = .ok (.iconst 1, 1) := by decide +kernel
theorem dL_leastAnew_14 : decode cL_leastAnew 14 = .ok (.ireturn, 1) := by decide +kernel
theorem dL_leastAnew_15 : decode cL_leastAnew 15 = .ok (.iconst 0, 1) := by decide +kernel
theorem dL_leastAnew_16 : decode cL_leastAnew 16 = .ok (.ireturn, 1) := by decide +kernel
theorem dX12_leastAnew_0 : decode cX12_leastAnew 0 = .ok (.aload_n 0, 1) := by decide +kernel
theorem dX12_leastAnew_1 : decode cX12_leastAnew 1 = .ok (.iload_n 1, 1) := by decide +kernel
theorem dX12_leastAnew_2 : decode cX12_leastAnew 2 = .ok (.invokevirtual 191, 3) := by decide +kernel
theorem dX12_leastAnew_5 : decode cX12_leastAnew 5 = .ok (.ireturn, 1) := by decide +kernel
theorem dJ9_floorDiv_7cf53_0 : decode cJ9_floorDiv_7cf53 0 = .ok (.iload_n 0, 1) := by decide +kernel
theorem dJ9_floorDiv_7cf53_1 : decode cJ9_floorDiv_7cf53 1 = .ok (.iload_n 1, 1) := by decide +kernel
theorem dJ9_floorDiv_7cf53_2 : decode cJ9_floorDiv_7cf53 2 = .ok (.idiv, 1) := by decide +kernel
theorem dJ9_floorDiv_7cf53_3 : decode cJ9_floorDiv_7cf53 3 = .ok (.istore_n 2, 1) := by decide +kernel
theorem dJ9_floorDiv_7cf53_4 : decode cJ9_floorDiv_7cf53 4 = .ok (.iload_n 0, 1) := by decide +kernel
theorem dJ9_floorDiv_7cf53_5 : decode cJ9_floorDiv_7cf53 5 = .ok (.iload_n 1, 1) := by decide +kernel
theorem dJ9_floorDiv_7cf53_6 : decode cJ9_floorDiv_7cf53 6 = .ok (.ixor, 1) := by decide +kernel
theorem dJ9_floorDiv_7cf53_7 : decode cJ9_floorDiv_7cf53 7 = .ok (.ifCond .ge 14, 3) := by decide +kernel
theorem dJ9_floorDiv_7cf53_10 : decode cJ9_floorDiv_7cf53 10 = .ok (.iload_n 2, 1) := by decide +kernel
theorem dJ9_floorDiv_7cf53_11 : decode cJ9_floorDiv_7cf53 11 = .ok (.iload_n 1, 1) := by decide +kernel
theorem dJ9_floorDiv_7cf53_12 : decode cJ9_floorDiv_7cf53 12 = .ok (.imul, 1) := by decide +kernel
theorem dJ9_floorDiv_7cf53_13 : decode cJ9_floorDiv_7cf53 13 = .ok (.iload_n 0, 1) := by decide +kernel
theorem dJ9_floorDiv_7cf53_14 : decode cJ9_floorDiv_7cf53 14 = .ok (.if_icmp .eq 7, 3) := by decide +kernel
theorem dJ9_floorDiv_7cf53_17 : decode cJ9_floorDiv_7cf53 17 = .ok (.iload_n 2, 1) := by decide +kernel
theorem dJ9_floorDiv_7cf53_18 : decode cJ9_floorDiv_7cf53 18 = .ok (.iconst 1, 1) := by decide +kernel
theorem dJ9_floorDiv_7cf53_19 : decode cJ9_floorDiv_7cf53 19 = .ok (.isub, 1) := by decide +kernel
theorem dJ9_floorDiv_7cf53_20 : decode cJ9_floorDiv_7cf53 20 = .ok (.ireturn, 1) := by decide +kernel
theorem dJ9_floorDiv_7cf53_21 : decode cJ9_floorDiv_7cf53 21 = .ok (.iload_n 2, 1) := by decide +kernel
theorem dJ9_floorDiv_7cf53_22 : decode cJ9_floorDiv_7cf53 22 = .ok (.ireturn, 1) := by decide +kernel
theorem dX11_divideDown_0 : decode cX11_divideDown 0 = .ok (.iload_n 1, 1) := by decide +kernel
theorem dX11_divideDown_1 : decode cX11_divideDown 1 = .ok (.iconst 1, 1) := by decide +kernel
theorem dX11_divideDown_2 : decode cX11_divideDown 2 = .ok (.if_icmp .ge 7, 3) := by decide +kernel
theorem dX11_divideDown_5 : decode cX11_divideDown 5 = .ok (.iconst 0, 1) := by decide +kernel
theorem dX11_divideDown_6 : decode cX11_divideDown 6 = .ok (.goto 8, 3) := by decide +kernel
theorem dX11_divideDown_9 : decode cX11_divideDown 9 = .ok (.iload_n 0, 1) := by decide +kernel
theorem dX11_divideDown_10 : decode cX11_divideDown 10 = .ok (.iload_n 1, 1) := by decide +kernel
theorem dX11_divideDown_11 : decode cX11_divideDown 11 = .ok (.invokestatic 308, 3) := by decide +kernel
theorem dX11_divideDown_14 : decode cX11_divideDown 14 = .ok (.ireturn, 1) := by decide +kernel
theorem dX3_window_0 : decode cX3_window 0 = .ok (.aload_n 0, 1) := by decide +kernel
theorem dX3_window_1 : decode cX3_window 1 = .ok (.getfield 18, 3) := by decide +kernel
theorem dX3_window_4 : decode cX3_window 4 = .ok (.iconst 3, 1) := by decide +kernel
theorem dX3_window_5 : decode cX3_window 5 = .ok (.if_icmp .ge 5, 3) := by decide +kernel
theorem dX3_window_8 : decode cX3_window 8 = .ok (.iconst 0, 1) := by decide +kernel
theorem dX3_window_9 : decode cX3_window 9 = .ok (.ireturn, 1) := by decide +kernel
theorem dX3_window_10 : decode cX3_window 10 = .ok (.iconst 0, 1) := by decide +kernel
theorem dX3_window_11 : decode cX3_window 11 = .ok (.istore_n 1, 1) := by decide +kernel
theorem dX3_window_12 : decode cX3_window 12 = .ok (.iconst 0, 1) := by decide +kernel
theorem dX3_window_13 : decode cX3_window 13 = .ok (.istore_n 2, 1) := by decide +kernel
theorem dX3_window_14 : decode cX3_window 14 = .ok (.iload_n 2, 1) := by decide +kernel
theorem dX3_window_15 : decode cX3_window 15 = .ok (.bipush 8, 2) := by decide +kernel
theorem dX3_window_17 : decode cX3_window 17 = .ok (.if_icmp .ge 20, 3) := by decide +kernel
theorem dX3_window_20 : decode cX3_window 20 = .ok (.iload_n 1, 1) := by decide +kernel
theorem dX3_window_21 : decode cX3_window 21 = .ok (.aload_n 0, 1) := by decide +kernel
theorem dX3_window_22 : decode cX3_window 22 = .ok (.getfield 14, 3) := by decide +kernel
theorem dX3_window_25 : decode cX3_window 25 = .ok (.iload_n 2, 1) := by decide +kernel
theorem dX3_window_26 : decode cX3_window 26 = .ok (.invokevirtual 42, 3) := by decide +kernel
theorem dX3_window_29 : decode cX3_window 29 = .ok (.iadd, 1) := by decide +kernel
theorem dX3_window_30 : decode cX3_window 30 = .ok (.istore_n 1, 1) := by decide +kernel
theorem dX3_window_31 : decode cX3_window 31 = .ok (.iinc 2 1, 3) := by decide +kernel
theorem dX3_window_34 : decode cX3_window 34 = .ok (.goto (-20), 3) := by decide +kernel
theorem dX3_window_37 : decode cX3_window 37 = .ok (.iload_n 1, 1) := by decide +kernel
theorem dX3_window_38 : decode cX3_window 38 = .ok (.aload_n 0, 1) := by decide +kernel
theorem dX3_window_39 : decode cX3_window 39 = .ok (.getfield 18, 3) := by decide +kernel
theorem dX3_window_42 : decode cX3_window 42 = .ok (.bipush 8, 2) := by decide +kernel
theorem dX3_window_44 : decode cX3_window 44 = .ok (.invokestatic 45, 3) := by decide +kernel
theorem dX3_window_47 : decode cX3_window 47 = .ok (.invokestatic 49, 3) := by decide +kernel
theorem dX3_window_50 : decode cX3_window 50 = .ok (.ireturn, 1) := by decide +kernel
theorem dJ9_abs_0f7a4_0 : decode cJ9_abs_0f7a4 0 = .ok (.iload_n 0, 1) := by decide +kernel
theorem dJ9_abs_0f7a4_1 : decode cJ9_abs_0f7a4 1 = .ok (.ifCond .ge 8, 3) := by decide +kernel
theorem dJ9_abs_0f7a4_4 : decode cJ9_abs_0f7a4 4 = .ok (.iload_n 0, 1) := by decide +kernel
theorem dJ9_abs_0f7a4_5 : decode cJ9_abs_0f7a4 5 = .ok (.ineg, 1) := by decide +kernel
theorem dJ9_abs_0f7a4_6 : decode cJ9_abs_0f7a4 6 = .ok (.goto 4, 3) := by decide +kernel
theorem dJ9_abs_0f7a4_9 : decode cJ9_abs_0f7a4 9 = .ok (.iload_n 0, 1) := by decide +kernel
theorem dJ9_abs_0f7a4_10 : decode cJ9_abs_0f7a4 10 = .ok (.ireturn, 1) := by decide +kernel
theorem dX3_judge_0 : decode cX3_judge 0 = .ok (.aload_n 0, 1) := by decide +kernel
theorem dX3_judge_1 : decode cX3_judge 1 = .ok (.getfield 18, 3) := by decide +kernel
theorem dX3_judge_4 : decode cX3_judge 4 = .ok (.iconst 3, 1) := by decide +kernel
theorem dX3_judge_5 : decode cX3_judge 5 = .ok (.if_icmp .lt 22, 3) := by decide +kernel
theorem dX3_judge_8 : decode cX3_judge 8 = .ok (.iload_n 1, 1) := by decide +kernel
theorem dX3_judge_9 : decode cX3_judge 9 = .ok (.aload_n 0, 1) := by decide +kernel
theorem dX3_judge_10 : decode cX3_judge 10 = .ok (.invokevirtual 22, 3) := by decide +kernel
theorem dX3_judge_13 : decode cX3_judge 13 = .ok (.isub, 1) := by decide +kernel
theorem dX3_judge_14 : decode cX3_judge 14 = .ok (.invokestatic 26, 3) := by decide +kernel
theorem dX3_judge_17 : decode cX3_judge 17 = .ok (.bipush 10, 2) := by decide +kernel
theorem dX3_judge_19 : decode cX3_judge 19 = .ok (.imul, 1) := by decide +kernel
theorem dX3_judge_20 : decode cX3_judge 20 = .ok (.aload_n 0, 1) := by decide +kernel
theorem dX3_judge_21 : decode cX3_judge 21 = .ok (.invokevirtual 22, 3) := by decide +kernel
theorem dX3_judge_24 : decode cX3_judge 24 = .ok (.if_icmp .gt 7, 3) := by decide +kernel
theorem dX3_judge_27 : decode cX3_judge 27 = .ok (.iconst 1, 1) := by decide +kernel
theorem dX3_judge_28 : decode cX3_judge 28 = .ok (.goto 4, 3) := by decide +kernel
theorem dX3_judge_31 : decode cX3_judge 31 = .ok (.iconst 0, 1) := by decide +kernel
theorem dX3_judge_32 : decode cX3_judge 32 = .ok (.istore_n 2, 1) := by decide +kernel
theorem dX3_judge_33 : decode cX3_judge 33 = .ok (.aload_n 0, 1) := by decide +kernel
theorem dX3_judge_34 : decode cX3_judge 34 = .ok (.dup, 1) := by decide +kernel
theorem dX3_judge_35 : decode cX3_judge 35 = .ok (.getfield 32, 3) := by decide +kernel
theorem dX3_judge_38 : decode cX3_judge 38 = .ok (.iconst 1, 1) := by decide +kernel
theorem dX3_judge_39 : decode cX3_judge 39 = .ok (.iadd, 1) := by decide +kernel
theorem dX3_judge_40 : decode cX3_judge 40 = .ok (.putfield 32, 3) := by decide +kernel
theorem dX3_judge_43 : decode cX3_judge 43 = .ok (.iload_n 2, 1) := by decide +kernel
theorem dX3_judge_44 : decode cX3_judge 44 = .ok (.ifCond .eq 50, 3) := by decide +kernel
theorem dX3_judge_47 : decode cX3_judge 47 = .ok (.aload_n 0, 1) := by decide +kernel
theorem dX3_judge_48 : decode cX3_judge 48 = .ok (.dup, 1) := by decide +kernel
theorem dX3_judge_49 : decode cX3_judge 49 = .ok (.getfield 18, 3) := by decide +kernel
theorem dX3_judge_52 : decode cX3_judge 52 = .ok (.iconst 1, 1) := by decide +kernel
theorem dX3_judge_53 : decode cX3_judge 53 = .ok (.iadd, 1) := by decide +kernel
theorem dX3_judge_54 : decode cX3_judge 54 = .ok (.putfield 18, 3) := by decide +kernel
theorem dX3_judge_57 : decode cX3_judge 57 = .ok (.aload_n 0, 1) := by decide +kernel
theorem dX3_judge_58 : decode cX3_judge 58 = .ok (.getfield 14, 3) := by decide +kernel
theorem dX3_judge_61 : decode cX3_judge 61 = .ok (.aload_n 0, 1) := by decide +kernel
theorem dX3_judge_62 : decode cX3_judge 62 = .ok (.getfield 35, 3) := by decide +kernel
theorem dX3_judge_65 : decode cX3_judge 65 = .ok (.iload_n 1, 1) := by decide +kernel
theorem dX3_judge_66 : decode cX3_judge 66 = .ok (.invokevirtual 38, 3) := by decide +kernel
theorem dX3_judge_69 : decode cX3_judge 69 = .ok (.aload_n 0, 1) := by decide +kernel
theorem dX3_judge_70 : decode cX3_judge 70 = .ok (.aload_n 0, 1) := by decide +kernel
theorem dX3_judge_71 : decode cX3_judge 71 = .ok (.getfield 35, 3) := by decide +kernel
theorem dX3_judge_74 : decode cX3_judge 74 = .ok (.iconst 1, 1) := by decide +kernel
theorem dX3_judge_75 : decode cX3_judge 75 = .ok (.iadd, 1) := by decide +kernel
theorem dX3_judge_76 : decode cX3_judge 76 = .ok (.bipush 8, 2) := by decide +kernel
theorem dX3_judge_78 : decode cX3_judge 78 = .ok (.if_icmp .ge 12, 3) := by decide +kernel
theorem dX3_judge_81 : decode cX3_judge 81 = .ok (.aload_n 0, 1) := by decide +kernel
theorem dX3_judge_82 : decode cX3_judge 82 = .ok (.getfield 35, 3) := by decide +kernel
theorem dX3_judge_85 : decode cX3_judge 85 = .ok (.iconst 1, 1) := by decide +kernel
theorem dX3_judge_86 : decode cX3_judge 86 = .ok (.iadd, 1) := by decide +kernel
theorem dX3_judge_87 : decode cX3_judge 87 = .ok (.goto 4, 3) := by decide +kernel
theorem dX3_judge_90 : decode cX3_judge 90 = .ok (.iconst 0, 1) := by decide +kernel
theorem dX3_judge_91 : decode cX3_judge 91 = .ok (.putfield 35, 3) := by decide +kernel
theorem dX3_judge_94 : decode cX3_judge 94 = .ok (.iload_n 2, 1) := by decide +kernel
theorem dX3_judge_95 : decode cX3_judge 95 = .ok (.ireturn, 1) := by decide +kernel
theorem dX11_crimp_0 : decode cX11_crimp 0 = .ok (.iload_n 1, 1) := by decide +kernel
theorem dX11_crimp_1 : decode cX11_crimp 1 = .ok (.iconst 1, 1) := by decide +kernel
theorem dX11_crimp_2 : decode cX11_crimp 2 = .ok (.sipush 9999, 3) := by decide +kernel
theorem dX11_crimp_5 : decode cX11_crimp 5 = .ok (.invokestatic 62, 3) := by decide +kernel
theorem dX11_crimp_8 : decode cX11_crimp 8 = .ok (.invokestatic 66, 3) := by decide +kernel
theorem dX11_crimp_11 : decode cX11_crimp 11 = .ok (.aload_n 0, 1) := by decide +kernel
theorem dX11_crimp_12 : decode cX11_crimp 12 = .ok (.getfield 26, 3) := by decide +kernel
theorem dX11_crimp_15 : decode cX11_crimp 15 = .ok (.iload_n 1, 1) := by decide +kernel
theorem dX11_crimp_16 : decode cX11_crimp 16 = .ok (.invokevirtual 166, 3) := by decide +kernel
theorem dX11_crimp_19 : decode cX11_crimp 19 = .ok (.ireturn, 1) := by decide +kernel
theorem dL_crimp_0 : decode cL_crimp 0 = .ok (.aload_n 2, 1) := by decide +kernel
theorem dL_crimp_1 : decode cL_crimp 1 = .ok (.iconst 0, 1) := by decide +kernel
theorem dL_crimp_2 : decode cL_crimp 2 = .ok (.aload_n 0, 1) := by decide +kernel
theorem dL_crimp_3 : decode cL_crimp 3 = .ok (.iload_n 1, 1) := by decide +kernel
theorem dL_crimp_4 : decode cL_crimp 4 = .ok (.invokevirtual 50, 3) := by decide +kernel
theorem dL_crimp_7 : decode cL_crimp 7 = .ok (.ifCond .eq 7, 3) := by decide +kernel
theorem dL_crimp_10 : decode cL_crimp 10 = .ok (.lconst 1, 1) := by decide +kernel
theorem dL_crimp_11 : decode cL_crimp 11 = .ok (.goto 4, 3) := by decide +kernel
theorem dL_crimp_14 : decode cL_crimp 14 = .ok (.lconst 0, 1) := by decide +kernel
theorem dL_crimp_15 : decode cL_crimp 15 = .ok (.lastore, 1) := by decide +kernel
theorem dL_crimp_16 : decode cL_crimp 16 = .ok (.goto 6, 3) := by decide +kernel
theorem dL_crimp_19 : decode cL_crimp 19 = .ok (.astore_n 3, 1) := by decide +kernel
theorem dL_crimp_20 : decode cL_crimp 20 = .ok (.iconst 1, 1) := by decide +kernel
theorem dL_crimp_21 : decode cL_crimp 21 = .ok (.ireturn, 1) := by decide +kernel
theorem dL_crimp_22 : decode cL_crimp 22 = .ok (.iconst 0, 1) := by decide +kernel
theorem dL_crimp_23 : decode cL_crimp 23 = .ok (.ireturn, 1) := by decide +kernel
theorem dX12_window_0 : decode cX12_window 0 = .ok (.aload_n 0, 1) := by decide +kernel
theorem dX12_window_1 : decode cX12_window 1 = .ok (.getfield 194, 3) := by decide +kernel
theorem dX12_window_4 : decode cX12_window 4 = .ok (.iconst 3, 1) := by decide +kernel
theorem dX12_window_5 : decode cX12_window 5 = .ok (.if_icmp .ge 5, 3) := by decide +kernel
theorem dX12_window_8 : decode cX12_window 8 = .ok (.iconst 0, 1) := by decide +kernel
theorem dX12_window_9 : decode cX12_window 9 = .ok (.ireturn, 1) := by decide +kernel
theorem dX12_window_10 : decode cX12_window 10 = .ok (.aload_n 0, 1) := by decide +kernel
theorem dX12_window_11 : decode cX12_window 11 = .ok (.getfield 194, 3) := by decide +kernel
theorem dX12_window_14 : decode cX12_window 14 = .ok (.bipush 8, 2) := by decide +kernel
theorem dX12_window_16 : decode cX12_window 16 = .ok (.if_icmp .ge 10, 3) := by decide +kernel
theorem dX12_window_19 : decode cX12_window 19 = .ok (.aload_n 0, 1) := by decide +kernel
theorem dX12_window_20 : decode cX12_window 20 = .ok (.getfield 194, 3) := by decide +kernel
theorem dX12_window_23 : decode cX12_window 23 = .ok (.goto 5, 3) := by decide +kernel
theorem dX12_window_26 : decode cX12_window 26 = .ok (.bipush 8, 2) := by decide +kernel
theorem dX12_window_28 : decode cX12_window 28 = .ok (.istore_n 1, 1) := by decide +kernel
theorem dX12_window_29 : decode cX12_window 29 = .ok (.iconst 0, 1) := by decide +kernel
theorem dX12_window_30 : decode cX12_window 30 = .ok (.istore_n 2, 1) := by decide +kernel
theorem dX12_window_31 : decode cX12_window 31 = .ok (.iconst 0, 1) := by decide +kernel
theorem dX12_window_32 : decode cX12_window 32 = .ok (.istore_n 3, 1) := by decide +kernel
theorem dX12_window_33 : decode cX12_window 33 = .ok (.iload_n 3, 1) := by decide +kernel
theorem dX12_window_34 : decode cX12_window 34 = .ok (.iload_n 1, 1) := by decide +kernel
theorem dX12_window_35 : decode cX12_window 35 = .ok (.if_icmp .ge 18, 3) := by decide +kernel
theorem dX12_window_38 : decode cX12_window 38 = .ok (.iload_n 2, 1) := by decide +kernel
theorem dX12_window_39 : decode cX12_window 39 = .ok (.aload_n 0, 1) := by decide +kernel
theorem dX12_window_40 : decode cX12_window 40 = .ok (.getfield 62, 3) := by decide +kernel
theorem dX12_window_43 : decode cX12_window 43 = .ok (.iload_n 3, 1) := by decide +kernel
theorem dX12_window_44 : decode cX12_window 44 = .ok (.iaload, 1) := by decide +kernel
theorem dX12_window_45 : decode cX12_window 45 = .ok (.iadd, 1) := by decide +kernel
theorem dX12_window_46 : decode cX12_window 46 = .ok (.istore_n 2, 1) := by decide +kernel
theorem dX12_window_47 : decode cX12_window 47 = .ok (.iinc 3 1, 3) := by decide +kernel
theorem dX12_window_50 : decode cX12_window 50 = .ok (.goto (-17), 3) := by decide +kernel
theorem dX12_window_53 : decode cX12_window 53 = .ok (.iload_n 2, 1) := by decide +kernel
theorem dX12_window_54 : decode cX12_window 54 = .ok (.iload_n 1, 1) := by decide +kernel
theorem dX12_window_55 : decode cX12_window 55 = .ok (.idiv, 1) := by decide +kernel
theorem dX12_window_56 : decode cX12_window 56 = .ok (.ireturn, 1) := by decide +kernel
theorem dX12_crimp_0 : decode cX12_crimp 0 = .ok (.aload_n 0, 1) := by decide +kernel
theorem dX12_crimp_1 : decode cX12_crimp 1 = .ok (.iload_n 1, 1) := by decide +kernel
theorem dX12_crimp_2 : decode cX12_crimp 2 = .ok (.iconst 1, 1) := by decide +kernel
theorem dX12_crimp_3 : decode cX12_crimp 3 = .ok (.sipush 9999, 3) := by decide +kernel
theorem dX12_crimp_6 : decode cX12_crimp 6 = .ok (.invokestatic 120, 3) := by decide +kernel
theorem dX12_crimp_9 : decode cX12_crimp 9 = .ok (.ifCond .eq 7, 3) := by decide +kernel
theorem dX12_crimp_12 : decode cX12_crimp 12 = .ok (.iconst 0, 1) := by decide +kernel
theorem dX12_crimp_13 : decode cX12_crimp 13 = .ok (.goto 4, 3) := by decide +kernel
theorem dX12_crimp_16 : decode cX12_crimp 16 = .ok (.iconst 1, 1) := by decide +kernel
theorem dX12_crimp_17 : decode cX12_crimp 17 = .ok (.invokevirtual 134, 3) := by decide +kernel
theorem dX12_crimp_20 : decode cX12_crimp 20 = .ok (.ifCond .eq 5, 3) := by decide +kernel
theorem dX12_crimp_23 : decode cX12_crimp 23 = .ok (.iconst 0, 1) := by decide +kernel
theorem dX12_crimp_24 : decode cX12_crimp 24 = .ok (.ireturn, 1) := by decide +kernel
theorem dX12_crimp_25 : decode cX12_crimp 25 = .ok (.iload_n 1, 1) := by decide +kernel
theorem dX12_crimp_26 : decode cX12_crimp 26 = .ok (.aload_n 0, 1) := by decide +kernel
theorem dX12_crimp_27 : decode cX12_crimp 27 = .ok (.invokevirtual 197, 3) := by decide +kernel
theorem dX12_crimp_30 : decode cX12_crimp 30 = .ok (.if_icmp .le 12, 3) := by decide +kernel
theorem dX12_crimp_33 : decode cX12_crimp 33 = .ok (.iload_n 1, 1) := by decide +kernel
theorem dX12_crimp_34 : decode cX12_crimp 34 = .ok (.aload_n 0, 1) := by decide +kernel
theorem dX12_crimp_35 : decode cX12_crimp 35 = .ok (.invokevirtual 197, 3) := by decide +kernel
theorem dX12_crimp_38 : decode cX12_crimp 38 = .ok (.isub, 1) := by decide +kernel
theorem dX12_crimp_39 : decode cX12_crimp 39 = .ok (.goto 9, 3) := by decide +kernel
theorem dX12_crimp_42 : decode cX12_crimp 42 = .ok (.aload_n 0, 1) := by decide +kernel
theorem dX12_crimp_43 : decode cX12_crimp 43 = .ok (.invokevirtual 197, 3) := by decide +kernel
theorem dX12_crimp_46 : decode cX12_crimp 46 = .ok (.iload_n 1, 1) := by decide +kernel
theorem dX12_crimp_47 : decode cX12_crimp 47 = .ok (.isub, 1) := by decide +kernel
theorem dX12_crimp_48 : decode cX12_crimp 48 = .ok (.istore_n 2, 1) := by decide +kernel
theorem dX12_crimp_49 : decode cX12_crimp 49 = .ok (.aload_n 0, 1) := by decide +kernel
theorem dX12_crimp_50 : decode cX12_crimp 50 = .ok (.getfield 194, 3) := by decide +kernel
theorem dX12_crimp_53 : decode cX12_crimp 53 = .ok (.iconst 3, 1) := by decide +kernel
theorem dX12_crimp_54 : decode cX12_crimp 54 = .ok (.if_icmp .lt 14, 3) := by decide +kernel
theorem dX12_crimp_57 : decode cX12_crimp 57 = .ok (.bipush 10, 2) := by decide +kernel
theorem dX12_crimp_59 : decode cX12_crimp 59 = .ok (.iload_n 2, 1) := by decide +kernel
theorem dX12_crimp_60 : decode cX12_crimp 60 = .ok (.imul, 1) := by decide +kernel
theorem dX12_crimp_61 : decode cX12_crimp 61 = .ok (.aload_n 0, 1) := by decide +kernel
theorem dX12_crimp_62 : decode cX12_crimp 62 = .ok (.invokevirtual 197, 3) := by decide +kernel
theorem dX12_crimp_65 : decode cX12_crimp 65 = .ok (.if_icmp .gt 7, 3) := by decide +kernel
theorem dX12_crimp_68 : decode cX12_crimp 68 = .ok (.iconst 1, 1) := by decide +kernel
theorem dX12_crimp_69 : decode cX12_crimp 69 = .ok (.goto 4, 3) := by decide +kernel
theorem dX12_crimp_72 : decode cX12_crimp 72 = .ok (.iconst 0, 1) := by decide +kernel
theorem dX12_crimp_73 : decode cX12_crimp 73 = .ok (.istore_n 3, 1) := by decide +kernel
theorem dX12_crimp_74 : decode cX12_crimp 74 = .ok (.aload_n 0, 1) := by decide +kernel
theorem dX12_crimp_75 : decode cX12_crimp 75 = .ok (.dup, 1) := by decide +kernel
theorem dX12_crimp_76 : decode cX12_crimp 76 = .ok (.getfield 201, 3) := by decide +kernel
theorem dX12_crimp_79 : decode cX12_crimp 79 = .ok (.iconst 1, 1) := by decide +kernel
theorem dX12_crimp_80 : decode cX12_crimp 80 = .ok (.iadd, 1) := by decide +kernel
theorem dX12_crimp_81 : decode cX12_crimp 81 = .ok (.putfield 201, 3) := by decide +kernel
theorem dX12_crimp_84 : decode cX12_crimp 84 = .ok (.iload_n 3, 1) := by decide +kernel
theorem dX12_crimp_85 : decode cX12_crimp 85 = .ok (.ifCond .eq 26, 3) := by decide +kernel
theorem dX12_crimp_88 : decode cX12_crimp 88 = .ok (.aload_n 0, 1) := by decide +kernel
theorem dX12_crimp_89 : decode cX12_crimp 89 = .ok (.getfield 62, 3) := by decide +kernel
theorem dX12_crimp_92 : decode cX12_crimp 92 = .ok (.aload_n 0, 1) := by decide +kernel
theorem dX12_crimp_93 : decode cX12_crimp 93 = .ok (.getfield 194, 3) := by decide +kernel
theorem dX12_crimp_96 : decode cX12_crimp 96 = .ok (.bipush 8, 2) := by decide +kernel
theorem dX12_crimp_98 : decode cX12_crimp 98 = .ok (.irem, 1) := by decide +kernel
theorem dX12_crimp_99 : decode cX12_crimp 99 = .ok (.iload_n 1, 1) := by decide +kernel
theorem dX12_crimp_100 : decode cX12_crimp 100 = .ok (.iastore, 1) := by decide +kernel
theorem dX12_crimp_101 : decode cX12_crimp 101 = .ok (.aload_n 0, 1) := by decide +kernel
theorem dX12_crimp_102 : decode cX12_crimp 102 = .ok (.dup, 1) := by decide +kernel
theorem dX12_crimp_103 : decode cX12_crimp 103 = .ok (.getfield 194, 3) := by decide +kernel
theorem dX12_crimp_106 : decode cX12_crimp 106 = .ok (.iconst 1, 1) := by decide +kernel
theorem dX12_crimp_107 : decode cX12_crimp 107 = .ok (.iadd, 1) := by decide +kernel
theorem dX12_crimp_108 : decode cX12_crimp 108 = .ok (.putfield 194, 3) := by decide +kernel
theorem dX12_crimp_111 : decode cX12_crimp 111 = .ok (.iload_n 3, 1) := by decide +kernel
theorem dX12_crimp_112 : decode cX12_crimp 112 = .ok (.ireturn, 1) := by decide +kernel
theorem dX11_crimps_0 : decode cX11_crimps 0 = .ok (.iload_n 1, 1) := by decide +kernel
theorem dX11_crimps_1 : decode cX11_crimps 1 = .ok (.iconst 0, 1) := by decide +kernel
theorem dX11_crimps_2 : decode cX11_crimps 2 = .ok (.iconst 2, 1) := by decide +kernel
theorem dX11_crimps_3 : decode cX11_crimps 3 = .ok (.invokestatic 62, 3) := by decide +kernel
theorem dX11_crimps_6 : decode cX11_crimps 6 = .ok (.invokestatic 66, 3) := by decide +kernel
theorem dX11_crimps_9 : decode cX11_crimps 9 = .ok (.iload_n 1, 1) := by decide +kernel
theorem dX11_crimps_10 : decode cX11_crimps 10 = .ok (.ifCond .ne 11, 3) := by decide +kernel
theorem dX11_crimps_13 : decode cX11_crimps 13 = .ok (.aload_n 0, 1) := by decide +kernel
theorem dX11_crimps_14 : decode cX11_crimps 14 = .ok (.getfield 26, 3) := by decide +kernel
theorem dX11_crimps_17 : decode cX11_crimps 17 = .ok (.getfield 169, 3) := by decide +kernel
theorem dX11_crimps_20 : decode cX11_crimps 20 = .ok (.ireturn, 1) := by decide +kernel
theorem dX11_crimps_21 : decode cX11_crimps 21 = .ok (.iload_n 1, 1) := by decide +kernel
theorem dX11_crimps_22 : decode cX11_crimps 22 = .ok (.iconst 1, 1) := by decide +kernel
theorem dX11_crimps_23 : decode cX11_crimps 23 = .ok (.if_icmp .ne 13, 3) := by decide +kernel
theorem dX11_crimps_26 : decode cX11_crimps 26 = .ok (.aload_n 0, 1) := by decide +kernel
theorem dX11_crimps_27 : decode cX11_crimps 27 = .ok (.getfield 26, 3) := by decide +kernel
theorem dX11_crimps_30 : decode cX11_crimps 30 = .ok (.getfield 170, 3) := by decide +kernel
theorem dX11_crimps_33 : decode cX11_crimps 33 = .ok (.goto 10, 3) := by decide +kernel
theorem dX11_crimps_36 : decode cX11_crimps 36 = .ok (.aload_n 0, 1) := by decide +kernel
theorem dX11_crimps_37 : decode cX11_crimps 37 = .ok (.getfield 26, 3) := by decide +kernel
theorem dX11_crimps_40 : decode cX11_crimps 40 = .ok (.invokevirtual 173, 3) := by decide +kernel
theorem dX11_crimps_43 : decode cX11_crimps 43 = .ok (.ireturn, 1) := by decide +kernel
theorem dL_crimps_0 : decode cL_crimps 0 = .ok (.aload_n 2, 1) := by decide +kernel
theorem dL_crimps_1 : decode cL_crimps 1 = .ok (.iconst 0, 1) := by decide +kernel
theorem dL_crimps_2 : decode cL_crimps 2 = .ok (.aload_n 0, 1) := by decide +kernel
theorem dL_crimps_3 : decode cL_crimps 3 = .ok (.iload_n 1, 1) := by decide +kernel
theorem dL_crimps_4 : decode cL_crimps 4 = .ok (.invokevirtual 54, 3) := by decide +kernel
theorem dL_crimps_7 : decode cL_crimps 7 = .ok (.i2l, 1) := by decide +kernel
theorem dL_crimps_8 : decode cL_crimps 8 = .ok (.lastore, 1) := by decide +kernel
theorem dL_crimps_9 : decode cL_crimps 9 = .ok (.goto 6, 3) := by decide +kernel
theorem dL_crimps_12 : decode cL_crimps 12 = .ok (.astore_n 3, 1) := by decide +kernel
theorem dL_crimps_13 : decode cL_crimps 13 = .ok (.iconst 1, 1) := by decide +kernel
theorem dL_crimps_14 : decode cL_crimps 14 = .ok (.ireturn, 1) := by decide +kernel
theorem dL_crimps_15 : decode cL_crimps 15 = .ok (.iconst 0, 1) := by decide +kernel
theorem dL_crimps_16 : decode cL_crimps 16 = .ok (.ireturn, 1) := by decide +kernel
theorem dX12_crimps_0 : decode cX12_crimps 0 = .ok (.aload_n 0, 1) := by decide +kernel
theorem dX12_crimps_1 : decode cX12_crimps 1 = .ok (.iload_n 1, 1) := by decide +kernel
theorem dX12_crimps_2 : decode cX12_crimps 2 = .ok (.iconst 0, 1) := by decide +kernel
theorem dX12_crimps_3 : decode cX12_crimps 3 = .ok (.iconst 2, 1) := by decide +kernel
theorem dX12_crimps_4 : decode cX12_crimps 4 = .ok (.invokestatic 120, 3) := by decide +kernel
theorem dX12_crimps_7 : decode cX12_crimps 7 = .ok (.ifCond .eq 7, 3) := by decide +kernel
theorem dX12_crimps_10 : decode cX12_crimps 10 = .ok (.iconst 0, 1) := by decide +kernel
theorem dX12_crimps_11 : decode cX12_crimps 11 = .ok (.goto 4, 3) := by decide +kernel
theorem dX12_crimps_14 : decode cX12_crimps 14 = .ok (.iconst 1, 1) := by decide +kernel
theorem dX12_crimps_15 : decode cX12_crimps 15 = .ok (.invokevirtual 134, 3) := by decide +kernel
theorem dX12_crimps_18 : decode cX12_crimps 18 = .ok (.ifCond .eq 7, 3) := by decide +kernel
theorem dX12_crimps_21 : decode cX12_crimps 21 = .ok (.iconst 0, 1) := by decide +kernel
theorem dX12_crimps_22 : decode cX12_crimps 22 = .ok (.goto 30, 3) := by decide +kernel
theorem dX12_crimps_25 : decode cX12_crimps 25 = .ok (.iload_n 1, 1) := by decide +kernel
theorem dX12_crimps_26 : decode cX12_crimps 26 = .ok (.ifCond .ne 10, 3) := by decide +kernel
theorem dX12_crimps_29 : decode cX12_crimps 29 = .ok (.aload_n 0, 1) := by decide +kernel
theorem dX12_crimps_30 : decode cX12_crimps 30 = .ok (.getfield 201, 3) := by decide +kernel
theorem dX12_crimps_33 : decode cX12_crimps 33 = .ok (.goto 19, 3) := by decide +kernel
theorem dX12_crimps_36 : decode cX12_crimps 36 = .ok (.iload_n 1, 1) := by decide +kernel
theorem dX12_crimps_37 : decode cX12_crimps 37 = .ok (.iconst 1, 1) := by decide +kernel
theorem dX12_crimps_38 : decode cX12_crimps 38 = .ok (.if_icmp .ne 10, 3) := by decide +kernel
theorem dX12_crimps_41 : decode cX12_crimps 41 = .ok (.aload_n 0, 1) := by decide +kernel
theorem dX12_crimps_42 : decode cX12_crimps 42 = .ok (.getfield 194, 3) := by decide +kernel
theorem dX12_crimps_45 : decode cX12_crimps 45 = .ok (.goto 7, 3) := by decide +kernel
theorem dX12_crimps_48 : decode cX12_crimps 48 = .ok (.aload_n 0, 1) := by decide +kernel
theorem dX12_crimps_49 : decode cX12_crimps 49 = .ok (.invokevirtual 197, 3) := by decide +kernel
theorem dX12_crimps_52 : decode cX12_crimps 52 = .ok (.ireturn, 1) := by decide +kernel
theorem dX7_init_0 : decode cX7_init 0 = .ok (.aload_n 0, 1) := by decide +kernel
theorem dX7_init_1 : decode cX7_init 1 = .ok (.invokespecial 3, 3) := by decide +kernel
theorem dX7_init_4 : decode cX7_init 4 = .ok (.aload_n 0, 1) := by decide +kernel
theorem dX7_init_5 : decode cX7_init 5 = .ok (.iload_n 1, 1) := by decide +kernel
theorem dX7_init_6 : decode cX7_init 6 = .ok (.putfield 9, 3) := by decide +kernel
theorem dX7_init_9 : decode cX7_init 9 = .ok (.aload_n 0, 1) := by decide +kernel
theorem dX7_init_10 : decode cX7_init 10 = .ok (.iload_n 3, 1) := by decide +kernel
theorem dX7_init_11 : decode cX7_init 11 = .ok (.putfield 15, 3) := by decide +kernel
theorem dX7_init_14 : decode cX7_init 14 = .ok (.aload_n 0, 1) := by decide +kernel
theorem dX7_init_15 : decode cX7_init 15 = .ok (.iload_n 2, 1) := by decide +kernel
theorem dX7_init_16 : decode cX7_init 16 = .ok (.putfield 18, 3) := by decide +kernel
theorem dX7_init_19 : decode cX7_init 19 = .ok (.return_, 1) := by decide +kernel
theorem dX11_reel_0 : decode cX11_reel 0 = .ok (.iload_n 1, 1) := by decide +kernel
theorem dX11_reel_1 : decode cX11_reel 1 = .ok (.bipush 6, 2) := by decide +kernel
theorem dX11_reel_3 : decode cX11_reel 3 = .ok (.invokestatic 54, 3) := by decide +kernel
theorem dX11_reel_6 : decode cX11_reel 6 = .ok (.invokestatic 58, 3) := by decide +kernel
theorem dX11_reel_9 : decode cX11_reel 9 = .ok (.iload_n 2, 1) := by decide +kernel
theorem dX11_reel_10 : decode cX11_reel 10 = .ok (.iconst 1, 1) := by decide +kernel
theorem dX11_reel_11 : decode cX11_reel 11 = .ok (.bipush 99, 2) := by decide +kernel
theorem dX11_reel_13 : decode cX11_reel 13 = .ok (.invokestatic 62, 3) := by decide +kernel
theorem dX11_reel_16 : decode cX11_reel 16 = .ok (.ifCond .eq 18, 3) := by decide +kernel
theorem dX11_reel_19 : decode cX11_reel 19 = .ok (.iload_n 3, 1) := by decide +kernel
theorem dX11_reel_20 : decode cX11_reel 20 = .ok (.iconst 1, 1) := by decide +kernel
theorem dX11_reel_21 : decode cX11_reel 21 = .ok (.sipush 5000, 3) := by decide +kernel
theorem dX11_reel_24 : decode cX11_reel 24 = .ok (.invokestatic 62, 3) := by decide +kernel
theorem dX11_reel_27 : decode cX11_reel 27 = .ok (.ifCond .eq 7, 3) := by decide +kernel
theorem dX11_reel_30 : decode cX11_reel 30 = .ok (.iconst 1, 1) := by decide +kernel
theorem dX11_reel_31 : decode cX11_reel 31 = .ok (.goto 4, 3) := by decide +kernel
theorem dX11_reel_34 : decode cX11_reel 34 = .ok (.iconst 0, 1) := by decide +kernel
theorem dX11_reel_35 : decode cX11_reel 35 = .ok (.invokestatic 66, 3) := by decide +kernel
theorem dX11_reel_38 : decode cX11_reel 38 = .ok (.aload_n 0, 1) := by decide +kernel
theorem dX11_reel_39 : decode cX11_reel 39 = .ok (.getfield 40, 3) := by decide +kernel
theorem dX11_reel_42 : decode cX11_reel 42 = .ok (.invokevirtual 72, 3) := by decide +kernel
theorem dX11_reel_45 : decode cX11_reel 45 = .ok (.bipush 12, 2) := by decide +kernel
theorem dX11_reel_47 : decode cX11_reel 47 = .ok (.if_icmp .ge 7, 3) := by decide +kernel
theorem dX11_reel_50 : decode cX11_reel 50 = .ok (.iconst 1, 1) := by decide +kernel
theorem dX11_reel_51 : decode cX11_reel 51 = .ok (.goto 4, 3) := by decide +kernel
theorem dX11_reel_54 : decode cX11_reel 54 = .ok (.iconst 0, 1) := by decide +kernel
theorem dX11_reel_55 : decode cX11_reel 55 = .ok (.invokestatic 76, 3) := by decide +kernel
theorem dX11_reel_58 : decode cX11_reel 58 = .ok (.aload_n 0, 1) := by decide +kernel
theorem dX11_reel_59 : decode cX11_reel 59 = .ok (.getfield 40, 3) := by decide +kernel
theorem dX11_reel_62 : decode cX11_reel 62 = .ok (.new 176, 3) := by decide +kernel
theorem dX11_reel_65 : decode cX11_reel 65 = .ok (.dup, 1) := by decide +kernel
theorem dX11_reel_66 : decode cX11_reel 66 = .ok (.iload_n 1, 1) := by decide +kernel
theorem dX11_reel_67 : decode cX11_reel 67 = .ok (.iload_n 2, 1) := by decide +kernel
theorem dX11_reel_68 : decode cX11_reel 68 = .ok (.iload_n 3, 1) := by decide +kernel
theorem dX11_reel_69 : decode cX11_reel 69 = .ok (.invokespecial 178, 3) := by decide +kernel
theorem dX11_reel_72 : decode cX11_reel 72 = .ok (.invokevirtual 181, 3) := by decide +kernel
theorem dX11_reel_75 : decode cX11_reel 75 = .ok (.pop, 1) := by decide +kernel
theorem dX11_reel_76 : decode cX11_reel 76 = .ok (.aload_n 0, 1) := by decide +kernel
theorem dX11_reel_77 : decode cX11_reel 77 = .ok (.getfield 40, 3) := by decide +kernel
theorem dX11_reel_80 : decode cX11_reel 80 = .ok (.invokevirtual 72, 3) := by decide +kernel
theorem dX11_reel_83 : decode cX11_reel 83 = .ok (.iconst 1, 1) := by decide +kernel
theorem dX11_reel_84 : decode cX11_reel 84 = .ok (.isub, 1) := by decide +kernel
theorem dX11_reel_85 : decode cX11_reel 85 = .ok (.ireturn, 1) := by decide +kernel
theorem dL_reel_0 : decode cL_reel 0 = .ok (.aload 4, 2) := by decide +kernel
theorem dL_reel_2 : decode cL_reel 2 = .ok (.iconst 0, 1) := by decide +kernel
theorem dL_reel_3 : decode cL_reel 3 = .ok (.aload_n 0, 1) := by decide +kernel
theorem dL_reel_4 : decode cL_reel 4 = .ok (.iload_n 1, 1) := by decide +kernel
theorem dL_reel_5 : decode cL_reel 5 = .ok (.iload_n 2, 1) := by decide +kernel
theorem dL_reel_6 : decode cL_reel 6 = .ok (.iload_n 3, 1) := by decide +kernel
theorem dL_reel_7 : decode cL_reel 7 = .ok (.invokevirtual 57, 3) := by decide +kernel
theorem dL_reel_10 : decode cL_reel 10 = .ok (.i2l, 1) := by decide +kernel
theorem dL_reel_11 : decode cL_reel 11 = .ok (.lastore, 1) := by decide +kernel
theorem dL_reel_12 : decode cL_reel 12 = .ok (.goto 15, 3) := by decide +kernel
theorem dL_reel_15 : decode cL_reel 15 = .ok (.astore 5, 2) := by decide +kernel
theorem dL_reel_17 : decode cL_reel 17 = .ok (.iconst 1, 1) := by decide +kernel
theorem dL_reel_18 : decode cL_reel 18 = .ok (.ireturn, 1) := by decide +kernel
theorem dL_reel_19 : decode cL_reel 19 = .ok (.astore 5, 2) := by decide +kernel
theorem dL_reel_21 : decode cL_reel 21 = .ok (.iconst 2, 1) := by decide +kernel
theorem dL_reel_22 : decode cL_reel 22 = .ok (.ireturn, 1) := by decide +kernel
theorem dL_reel_23 : decode cL_reel 23 = .ok (.astore 5, 2) := by decide +kernel
theorem dL_reel_25 : decode cL_reel 25 = .ok (.iconst 3, 1) := by decide +kernel
theorem dL_reel_26 : decode cL_reel 26 = .ok (.ireturn, 1) := by decide +kernel
theorem dL_reel_27 : decode cL_reel 27 = .ok (.iconst 0, 1) := by decide +kernel
theorem dL_reel_28 : decode cL_reel 28 = .ok (.ireturn, 1) := by decide +kernel
theorem dX12_reel_0 : decode cX12_reel 0 = .ok (.iload_n 2, 1) := by decide +kernel
theorem dX12_reel_1 : decode cX12_reel 1 = .ok (.iconst 1, 1) := by decide +kernel
theorem dX12_reel_2 : decode cX12_reel 2 = .ok (.bipush 99, 2) := by decide +kernel
theorem dX12_reel_4 : decode cX12_reel 4 = .ok (.invokestatic 120, 3) := by decide +kernel
theorem dX12_reel_7 : decode cX12_reel 7 = .ok (.ifCond .eq 18, 3) := by decide +kernel
theorem dX12_reel_10 : decode cX12_reel 10 = .ok (.iload_n 3, 1) := by decide +kernel
theorem dX12_reel_11 : decode cX12_reel 11 = .ok (.iconst 1, 1) := by decide +kernel
theorem dX12_reel_12 : decode cX12_reel 12 = .ok (.sipush 5000, 3) := by decide +kernel
theorem dX12_reel_15 : decode cX12_reel 15 = .ok (.invokestatic 120, 3) := by decide +kernel
theorem dX12_reel_18 : decode cX12_reel 18 = .ok (.ifCond .eq 7, 3) := by decide +kernel
theorem dX12_reel_21 : decode cX12_reel 21 = .ok (.iconst 1, 1) := by decide +kernel
theorem dX12_reel_22 : decode cX12_reel 22 = .ok (.goto 4, 3) := by decide +kernel
theorem dX12_reel_25 : decode cX12_reel 25 = .ok (.iconst 0, 1) := by decide +kernel
theorem dX12_reel_26 : decode cX12_reel 26 = .ok (.istore 4, 2) := by decide +kernel
theorem dX12_reel_28 : decode cX12_reel 28 = .ok (.aload_n 0, 1) := by decide +kernel
theorem dX12_reel_29 : decode cX12_reel 29 = .ok (.iload_n 1, 1) := by decide +kernel
theorem dX12_reel_30 : decode cX12_reel 30 = .ok (.iconst 0, 1) := by decide +kernel
theorem dX12_reel_31 : decode cX12_reel 31 = .ok (.iconst 5, 1) := by decide +kernel
theorem dX12_reel_32 : decode cX12_reel 32 = .ok (.invokestatic 120, 3) := by decide +kernel
theorem dX12_reel_35 : decode cX12_reel 35 = .ok (.ifCond .ne 7, 3) := by decide +kernel
theorem dX12_reel_38 : decode cX12_reel 38 = .ok (.iconst 1, 1) := by decide +kernel
theorem dX12_reel_39 : decode cX12_reel 39 = .ok (.goto 26, 3) := by decide +kernel
theorem dX12_reel_42 : decode cX12_reel 42 = .ok (.iload 4, 2) := by decide +kernel
theorem dX12_reel_44 : decode cX12_reel 44 = .ok (.ifCond .ne 7, 3) := by decide +kernel
theorem dX12_reel_47 : decode cX12_reel 47 = .ok (.iconst 2, 1) := by decide +kernel
theorem dX12_reel_48 : decode cX12_reel 48 = .ok (.goto 17, 3) := by decide +kernel
theorem dX12_reel_51 : decode cX12_reel 51 = .ok (.aload_n 0, 1) := by decide +kernel
theorem dX12_reel_52 : decode cX12_reel 52 = .ok (.getfield 204, 3) := by decide +kernel
theorem dX12_reel_55 : decode cX12_reel 55 = .ok (.bipush 12, 2) := by decide +kernel
theorem dX12_reel_57 : decode cX12_reel 57 = .ok (.if_icmp .ne 7, 3) := by decide +kernel
theorem dX12_reel_60 : decode cX12_reel 60 = .ok (.iconst 3, 1) := by decide +kernel
theorem dX12_reel_61 : decode cX12_reel 61 = .ok (.goto 4, 3) := by decide +kernel
theorem dX12_reel_64 : decode cX12_reel 64 = .ok (.iconst 0, 1) := by decide +kernel
theorem dX12_reel_65 : decode cX12_reel 65 = .ok (.invokevirtual 134, 3) := by decide +kernel
theorem dX12_reel_68 : decode cX12_reel 68 = .ok (.ifCond .eq 5, 3) := by decide +kernel
theorem dX12_reel_71 : decode cX12_reel 71 = .ok (.iconst 0, 1) := by decide +kernel
theorem dX12_reel_72 : decode cX12_reel 72 = .ok (.ireturn, 1) := by decide +kernel
theorem dX12_reel_73 : decode cX12_reel 73 = .ok (.aload_n 0, 1) := by decide +kernel
theorem dX12_reel_74 : decode cX12_reel 74 = .ok (.getfield 65, 3) := by decide +kernel
theorem dX12_reel_77 : decode cX12_reel 77 = .ok (.aload_n 0, 1) := by decide +kernel
theorem dX12_reel_78 : decode cX12_reel 78 = .ok (.getfield 204, 3) := by decide +kernel
theorem dX12_reel_81 : decode cX12_reel 81 = .ok (.iload_n 1, 1) := by decide +kernel
theorem dX12_reel_82 : decode cX12_reel 82 = .ok (.iastore, 1) := by decide +kernel
theorem dX12_reel_83 : decode cX12_reel 83 = .ok (.aload_n 0, 1) := by decide +kernel
theorem dX12_reel_84 : decode cX12_reel 84 = .ok (.getfield 68, 3) := by decide +kernel
theorem dX12_reel_87 : decode cX12_reel 87 = .ok (.aload_n 0, 1) := by decide +kernel
theorem dX12_reel_88 : decode cX12_reel 88 = .ok (.getfield 204, 3) := by decide +kernel
theorem dX12_reel_91 : decode cX12_reel 91 = .ok (.iload_n 2, 1) := by decide +kernel
theorem dX12_reel_92 : decode cX12_reel 92 = .ok (.iastore, 1) := by decide +kernel
theorem dX12_reel_93 : decode cX12_reel 93 = .ok (.aload_n 0, 1) := by decide +kernel
theorem dX12_reel_94 : decode cX12_reel 94 = .ok (.getfield 71, 3) := by decide +kernel
theorem dX12_reel_97 : decode cX12_reel 97 = .ok (.aload_n 0, 1) := by decide +kernel
theorem dX12_reel_98 : decode cX12_reel 98 = .ok (.getfield 204, 3) := by decide +kernel
theorem dX12_reel_101 : decode cX12_reel 101 = .ok (.iload_n 3, 1) := by decide +kernel
theorem dX12_reel_102 : decode cX12_reel 102 = .ok (.iastore, 1) := by decide +kernel
theorem dX12_reel_103 : decode cX12_reel 103 = .ok (.aload_n 0, 1) := by decide +kernel
theorem dX12_reel_104 : decode cX12_reel 104 = .ok (.getfield 74, 3) := by decide +kernel
theorem dX12_reel_107 : decode cX12_reel 107 = .ok (.aload_n 0, 1) := by decide +kernel
theorem dX12_reel_108 : decode cX12_reel 108 = .ok (.getfield 204, 3) := by decide +kernel
theorem dX12_reel_111 : decode cX12_reel 111 = .ok (.iconst (-1), 1) := by decide +kernel
theorem dX12_reel_112 : decode cX12_reel 112 = .ok (.iastore, 1) := by decide +kernel
theorem dX12_reel_113 : decode cX12_reel 113 = .ok (.aload_n 0, 1) := by decide +kernel
theorem dX12_reel_114 : decode cX12_reel 114 = .ok (.dup, 1) := by decide +kernel
theorem dX12_reel_115 : decode cX12_reel 115 = .ok (.getfield 204, 3) := by decide +kernel
theorem dX12_reel_118 : decode cX12_reel 118 = .ok (.iconst 1, 1) := by decide +kernel
theorem dX12_reel_119 : decode cX12_reel 119 = .ok (.iadd, 1) := by decide +kernel
theorem dX12_reel_120 : decode cX12_reel 120 = .ok (.putfield 204, 3) := by decide +kernel
theorem dX12_reel_123 : decode cX12_reel 123 = .ok (.aload_n 0, 1) := by decide +kernel
theorem dX12_reel_124 : decode cX12_reel 124 = .ok (.getfield 204, 3) := by decide +kernel
theorem dX12_reel_127 : decode cX12_reel 127 = .ok (.iconst 1, 1) := by decide +kernel
theorem dX12_reel_128 : decode cX12_reel 128 = .ok (.isub, 1) := by decide +kernel
theorem dX12_reel_129 : decode cX12_reel 129 = .ok (.ireturn, 1) := by decide +kernel
theorem dX11_reelAt_0 : decode cX11_reelAt 0 = .ok (.iload_n 1, 1) := by decide +kernel
theorem dX11_reelAt_1 : decode cX11_reelAt 1 = .ok (.aload_n 0, 1) := by decide +kernel
theorem dX11_reelAt_2 : decode cX11_reelAt 2 = .ok (.getfield 40, 3) := by decide +kernel
theorem dX11_reelAt_5 : decode cX11_reelAt 5 = .ok (.invokevirtual 72, 3) := by decide +kernel
theorem dX11_reelAt_8 : decode cX11_reelAt 8 = .ok (.invokestatic 54, 3) := by decide +kernel
theorem dX11_reelAt_11 : decode cX11_reelAt 11 = .ok (.ifCond .ne 11, 3) := by decide +kernel
theorem dX11_reelAt_14 : decode cX11_reelAt 14 = .ok (.new 299, 3) := by decide +kernel
theorem dX11_reelAt_17 : decode cX11_reelAt 17 = .ok (.dup, 1) := by decide +kernel
theorem dX11_reelAt_18 : decode cX11_reelAt 18 = .ok (.invokespecial 301, 3) := by decide +kernel
theorem dX11_reelAt_21 : decode cX11_reelAt 21 = .ok (.athrow, 1) := by decide +kernel
theorem dX11_reelAt_22 : decode cX11_reelAt 22 = .ok (.aload_n 0, 1) := by decide +kernel
theorem dX11_reelAt_23 : decode cX11_reelAt 23 = .ok (.getfield 40, 3) := by decide +kernel
theorem dX11_reelAt_26 : decode cX11_reelAt 26 = .ok (.iload_n 1, 1) := by decide +kernel
theorem dX11_reelAt_27 : decode cX11_reelAt 27 = .ok (.invokevirtual 292, 3) := by decide +kernel
theorem dX11_reelAt_30 : decode cX11_reelAt 30 = .ok (.checkcast 176, 3) := by decide +kernel
theorem dX11_reelAt_33 : decode cX11_reelAt 33 = .ok (.areturn, 1) := by decide +kernel
theorem dX7_beginClock_0 : decode cX7_beginClock 0 = .ok (.aload_n 0, 1) := by decide +kernel
theorem dX7_beginClock_1 : decode cX7_beginClock 1 = .ok (.iconst 1, 1) := by decide +kernel
theorem dX7_beginClock_2 : decode cX7_beginClock 2 = .ok (.putfield 21, 3) := by decide +kernel
theorem dX7_beginClock_5 : decode cX7_beginClock 5 = .ok (.aload_n 0, 1) := by decide +kernel
theorem dX7_beginClock_6 : decode cX7_beginClock 6 = .ok (.iload_n 1, 1) := by decide +kernel
theorem dX7_beginClock_7 : decode cX7_beginClock 7 = .ok (.putfield 25, 3) := by decide +kernel
theorem dX7_beginClock_10 : decode cX7_beginClock 10 = .ok (.return_, 1) := by decide +kernel
theorem dX7_clockAt_0 : decode cX7_clockAt 0 = .ok (.aload_n 0, 1) := by decide +kernel
theorem dX7_clockAt_1 : decode cX7_clockAt 1 = .ok (.getfield 15, 3) := by decide +kernel
theorem dX7_clockAt_4 : decode cX7_clockAt 4 = .ok (.iload_n 1, 1) := by decide +kernel
theorem dX7_clockAt_5 : decode cX7_clockAt 5 = .ok (.aload_n 0, 1) := by decide +kernel
theorem dX7_clockAt_6 : decode cX7_clockAt 6 = .ok (.getfield 25, 3) := by decide +kernel
theorem dX7_clockAt_9 : decode cX7_clockAt 9 = .ok (.isub, 1) := by decide +kernel
theorem dX7_clockAt_10 : decode cX7_clockAt 10 = .ok (.isub, 1) := by decide +kernel
theorem dX7_clockAt_11 : decode cX7_clockAt 11 = .ok (.istore_n 2, 1) := by decide +kernel
theorem dX7_clockAt_12 : decode cX7_clockAt 12 = .ok (.aload_n 0, 1) := by decide +kernel
theorem dX7_clockAt_13 : decode cX7_clockAt 13 = .ok (.getfield 21, 3) := by decide +kernel
theorem dX7_clockAt_16 : decode cX7_clockAt 16 = .ok (.ifCond .eq 11, 3) := by decide +kernel
theorem dX7_clockAt_19 : decode cX7_clockAt 19 = .ok (.iload_n 2, 1) := by decide +kernel
theorem dX7_clockAt_20 : decode cX7_clockAt 20 = .ok (.ifCond .lt 7, 3) := by decide +kernel
theorem dX7_clockAt_23 : decode cX7_clockAt 23 = .ok (.iload_n 2, 1) := by decide +kernel
theorem dX7_clockAt_24 : decode cX7_clockAt 24 = .ok (.goto 4, 3) := by decide +kernel
theorem dX7_clockAt_27 : decode cX7_clockAt 27 = .ok (.iconst (-1), 1) := by decide +kernel
theorem dX7_clockAt_28 : decode cX7_clockAt 28 = .ok (.ireturn, 1) := by decide +kernel
theorem dX11_open_0 : decode cX11_open 0 = .ok (.aload_n 0, 1) := by decide +kernel
theorem dX11_open_1 : decode cX11_open 1 = .ok (.iload_n 1, 1) := by decide +kernel
theorem dX11_open_2 : decode cX11_open 2 = .ok (.invokevirtual 184, 3) := by decide +kernel
theorem dX11_open_5 : decode cX11_open 5 = .ok (.astore_n 3, 1) := by decide +kernel
theorem dX11_open_6 : decode cX11_open 6 = .ok (.iload_n 2, 1) := by decide +kernel
theorem dX11_open_7 : decode cX11_open 7 = .ok (.ifCond .ne 10, 3) := by decide +kernel
theorem dX11_open_10 : decode cX11_open 10 = .ok (.aload_n 3, 1) := by decide +kernel
theorem dX11_open_11 : decode cX11_open 11 = .ok (.getfield 188, 3) := by decide +kernel
theorem dX11_open_14 : decode cX11_open 14 = .ok (.ifCond .ne 7, 3) := by decide +kernel
theorem dX11_open_17 : decode cX11_open 17 = .ok (.iconst 1, 1) := by decide +kernel
theorem dX11_open_18 : decode cX11_open 18 = .ok (.goto 4, 3) := by decide +kernel
theorem dX11_open_21 : decode cX11_open 21 = .ok (.iconst 0, 1) := by decide +kernel
theorem dX11_open_22 : decode cX11_open 22 = .ok (.invokestatic 76, 3) := by decide +kernel
theorem dX11_open_25 : decode cX11_open 25 = .ok (.aload_n 3, 1) := by decide +kernel
theorem dX11_open_26 : decode cX11_open 26 = .ok (.aload_n 0, 1) := by decide +kernel
theorem dX11_open_27 : decode cX11_open 27 = .ok (.getfield 51, 3) := by decide +kernel
theorem dX11_open_30 : decode cX11_open 30 = .ok (.invokevirtual 191, 3) := by decide +kernel
theorem dX11_open_33 : decode cX11_open 33 = .ok (.aload_n 3, 1) := by decide +kernel
theorem dX11_open_34 : decode cX11_open 34 = .ok (.aload_n 0, 1) := by decide +kernel
theorem dX11_open_35 : decode cX11_open 35 = .ok (.getfield 51, 3) := by decide +kernel
theorem dX11_open_38 : decode cX11_open 38 = .ok (.invokevirtual 195, 3) := by decide +kernel
theorem dX11_open_41 : decode cX11_open 41 = .ok (.ireturn, 1) := by decide +kernel
theorem dL_open_0 : decode cL_open 0 = .ok (.aload_n 3, 1) := by decide +kernel
theorem dL_open_1 : decode cL_open 1 = .ok (.iconst 0, 1) := by decide +kernel
theorem dL_open_2 : decode cL_open 2 = .ok (.aload_n 0, 1) := by decide +kernel
theorem dL_open_3 : decode cL_open 3 = .ok (.iload_n 1, 1) := by decide +kernel
theorem dL_open_4 : decode cL_open 4 = .ok (.iload_n 2, 1) := by decide +kernel
theorem dL_open_5 : decode cL_open 5 = .ok (.invokevirtual 60, 3) := by decide +kernel
theorem dL_open_8 : decode cL_open 8 = .ok (.i2l, 1) := by decide +kernel
theorem dL_open_9 : decode cL_open 9 = .ok (.lastore, 1) := by decide +kernel
theorem dL_open_10 : decode cL_open 10 = .ok (.goto 11, 3) := by decide +kernel
theorem dL_open_13 : decode cL_open 13 = .ok (.astore 4, 2) := by decide +kernel
theorem dL_open_15 : decode cL_open 15 = .ok (.iconst 1, 1) := by decide +kernel
theorem dL_open_16 : decode cL_open 16 = .ok (.ireturn, 1) := by decide +kernel
theorem dL_open_17 : decode cL_open 17 = .ok (.astore 4, 2) := by decide +kernel
theorem dL_open_19 : decode cL_open 19 = .ok (.iconst 2, 1) := by decide +kernel
theorem dL_open_20 : decode cL_open 20 = .ok (.ireturn, 1) := by decide +kernel
theorem dL_open_21 : decode cL_open 21 = .ok (.iconst 0, 1) := by decide +kernel
theorem dL_open_22 : decode cL_open 22 = .ok (.ireturn, 1) := by decide +kernel
theorem dX12_isReel_0 : decode cX12_isReel 0 = .ok (.iload_n 1, 1) := by decide +kernel
theorem dX12_isReel_1 : decode cX12_isReel 1 = .ok (.iconst 0, 1) := by decide +kernel
theorem dX12_isReel_2 : decode cX12_isReel 2 = .ok (.aload_n 0, 1) := by decide +kernel
theorem dX12_isReel_3 : decode cX12_isReel 3 = .ok (.getfield 204, 3) := by decide +kernel
theorem dX12_isReel_6 : decode cX12_isReel 6 = .ok (.iconst 1, 1) := by decide +kernel
theorem dX12_isReel_7 : decode cX12_isReel 7 = .ok (.isub, 1) := by decide +kernel
theorem dX12_isReel_8 : decode cX12_isReel 8 = .ok (.invokestatic 120, 3) := by decide +kernel
theorem dX12_isReel_11 : decode cX12_isReel 11 = .ok (.ireturn, 1) := by decide +kernel
theorem dX12_runs_0 : decode cX12_runs 0 = .ok (.aload_n 0, 1) := by decide +kernel
theorem dX12_runs_1 : decode cX12_runs 1 = .ok (.getfield 74, 3) := by decide +kernel
theorem dX12_runs_4 : decode cX12_runs 4 = .ok (.iload_n 1, 1) := by decide +kernel
theorem dX12_runs_5 : decode cX12_runs 5 = .ok (.iaload, 1) := by decide +kernel
theorem dX12_runs_6 : decode cX12_runs 6 = .ok (.iconst (-1), 1) := by decide +kernel
theorem dX12_runs_7 : decode cX12_runs 7 = .ok (.if_icmp .ne 7, 3) := by decide +kernel
theorem dX12_runs_10 : decode cX12_runs 10 = .ok (.iconst (-1), 1) := by decide +kernel
theorem dX12_runs_11 : decode cX12_runs 11 = .ok (.goto 21, 3) := by decide +kernel
theorem dX12_runs_14 : decode cX12_runs 14 = .ok (.aload_n 0, 1) := by decide +kernel
theorem dX12_runs_15 : decode cX12_runs 15 = .ok (.getfield 74, 3) := by decide +kernel
theorem dX12_runs_18 : decode cX12_runs 18 = .ok (.iload_n 1, 1) := by decide +kernel
theorem dX12_runs_19 : decode cX12_runs 19 = .ok (.iaload, 1) := by decide +kernel
theorem dX12_runs_20 : decode cX12_runs 20 = .ok (.aload_n 0, 1) := by decide +kernel
theorem dX12_runs_21 : decode cX12_runs 21 = .ok (.getfield 71, 3) := by decide +kernel
theorem dX12_runs_24 : decode cX12_runs 24 = .ok (.iload_n 1, 1) := by decide +kernel
theorem dX12_runs_25 : decode cX12_runs 25 = .ok (.iaload, 1) := by decide +kernel
theorem dX12_runs_26 : decode cX12_runs 26 = .ok (.iadd, 1) := by decide +kernel
theorem dX12_runs_27 : decode cX12_runs 27 = .ok (.aload_n 0, 1) := by decide +kernel
theorem dX12_runs_28 : decode cX12_runs 28 = .ok (.getfield 207, 3) := by decide +kernel
theorem dX12_runs_31 : decode cX12_runs 31 = .ok (.isub, 1) := by decide +kernel
theorem dX12_runs_32 : decode cX12_runs 32 = .ok (.istore_n 2, 1) := by decide +kernel
theorem dX12_runs_33 : decode cX12_runs 33 = .ok (.iload_n 2, 1) := by decide +kernel
theorem dX12_runs_34 : decode cX12_runs 34 = .ok (.ifCond .ge 7, 3) := by decide +kernel
theorem dX12_runs_37 : decode cX12_runs 37 = .ok (.iconst (-1), 1) := by decide +kernel
theorem dX12_runs_38 : decode cX12_runs 38 = .ok (.goto 4, 3) := by decide +kernel
theorem dX12_runs_41 : decode cX12_runs 41 = .ok (.iload_n 2, 1) := by decide +kernel
theorem dX12_runs_42 : decode cX12_runs 42 = .ok (.ireturn, 1) := by decide +kernel
theorem dX12_open_0 : decode cX12_open 0 = .ok (.aload_n 0, 1) := by decide +kernel
theorem dX12_open_1 : decode cX12_open 1 = .ok (.aload_n 0, 1) := by decide +kernel
theorem dX12_open_2 : decode cX12_open 2 = .ok (.iload_n 1, 1) := by decide +kernel
theorem dX12_open_3 : decode cX12_open 3 = .ok (.invokevirtual 210, 3) := by decide +kernel
theorem dX12_open_6 : decode cX12_open 6 = .ok (.ifCond .ne 7, 3) := by decide +kernel
theorem dX12_open_9 : decode cX12_open 9 = .ok (.iconst 1, 1) := by decide +kernel
theorem dX12_open_10 : decode cX12_open 10 = .ok (.goto 22, 3) := by decide +kernel
theorem dX12_open_13 : decode cX12_open 13 = .ok (.aload_n 0, 1) := by decide +kernel
theorem dX12_open_14 : decode cX12_open 14 = .ok (.getfield 74, 3) := by decide +kernel
theorem dX12_open_17 : decode cX12_open 17 = .ok (.iload_n 1, 1) := by decide +kernel
theorem dX12_open_18 : decode cX12_open 18 = .ok (.iaload, 1) := by decide +kernel
theorem dX12_open_19 : decode cX12_open 19 = .ok (.iconst (-1), 1) := by decide +kernel
theorem dX12_open_20 : decode cX12_open 20 = .ok (.if_icmp .eq 11, 3) := by decide +kernel
theorem dX12_open_23 : decode cX12_open 23 = .ok (.iload_n 2, 1) := by decide +kernel
theorem dX12_open_24 : decode cX12_open 24 = .ok (.ifCond .ne 7, 3) := by decide +kernel
theorem dX12_open_27 : decode cX12_open 27 = .ok (.iconst 2, 1) := by decide +kernel
theorem dX12_open_28 : decode cX12_open 28 = .ok (.goto 4, 3) := by decide +kernel
theorem dX12_open_31 : decode cX12_open 31 = .ok (.iconst 0, 1) := by decide +kernel
theorem dX12_open_32 : decode cX12_open 32 = .ok (.invokevirtual 134, 3) := by decide +kernel
theorem dX12_open_35 : decode cX12_open 35 = .ok (.ifCond .eq 5, 3) := by decide +kernel
theorem dX12_open_38 : decode cX12_open 38 = .ok (.iconst 0, 1) := by decide +kernel
theorem dX12_open_39 : decode cX12_open 39 = .ok (.ireturn, 1) := by decide +kernel
theorem dX12_open_40 : decode cX12_open 40 = .ok (.aload_n 0, 1) := by decide +kernel
theorem dX12_open_41 : decode cX12_open 41 = .ok (.getfield 74, 3) := by decide +kernel
theorem dX12_open_44 : decode cX12_open 44 = .ok (.iload_n 1, 1) := by decide +kernel
theorem dX12_open_45 : decode cX12_open 45 = .ok (.aload_n 0, 1) := by decide +kernel
theorem dX12_open_46 : decode cX12_open 46 = .ok (.getfield 207, 3) := by decide +kernel
theorem dX12_open_49 : decode cX12_open 49 = .ok (.iastore, 1) := by decide +kernel
theorem dX12_open_50 : decode cX12_open 50 = .ok (.aload_n 0, 1) := by decide +kernel
theorem dX12_open_51 : decode cX12_open 51 = .ok (.iload_n 1, 1) := by decide +kernel
theorem dX12_open_52 : decode cX12_open 52 = .ok (.invokevirtual 213, 3) := by decide +kernel
theorem dX12_open_55 : decode cX12_open 55 = .ok (.ireturn, 1) := by decide +kernel
theorem dX11_ofReel_0 : decode cX11_ofReel 0 = .ok (.aload_n 0, 1) := by decide +kernel
theorem dX11_ofReel_1 : decode cX11_ofReel 1 = .ok (.iload_n 1, 1) := by decide +kernel
theorem dX11_ofReel_2 : decode cX11_ofReel 2 = .ok (.invokevirtual 184, 3) := by decide +kernel
theorem dX11_ofReel_5 : decode cX11_ofReel 5 = .ok (.astore_n 3, 1) := by decide +kernel
theorem dX11_ofReel_6 : decode cX11_ofReel 6 = .ok (.iload_n 2, 1) := by decide +kernel
theorem dX11_ofReel_7 : decode cX11_ofReel 7 = .ok (.iconst 0, 1) := by decide +kernel
theorem dX11_ofReel_8 : decode cX11_ofReel 8 = .ok (.iconst 2, 1) := by decide +kernel
theorem dX11_ofReel_9 : decode cX11_ofReel 9 = .ok (.invokestatic 62, 3) := by decide +kernel
theorem dX11_ofReel_12 : decode cX11_ofReel 12 = .ok (.invokestatic 58, 3) := by decide +kernel
theorem dX11_ofReel_15 : decode cX11_ofReel 15 = .ok (.iload_n 2, 1) := by decide +kernel
theorem dX11_ofReel_16 : decode cX11_ofReel 16 = .ok (.ifCond .ne 8, 3) := by decide +kernel
theorem dX11_ofReel_19 : decode cX11_ofReel 19 = .ok (.aload_n 3, 1) := by decide +kernel
theorem dX11_ofReel_20 : decode cX11_ofReel 20 = .ok (.getfield 198, 3) := by decide +kernel
theorem dX11_ofReel_23 : decode cX11_ofReel 23 = .ok (.ireturn, 1) := by decide +kernel
theorem dX11_ofReel_24 : decode cX11_ofReel 24 = .ok (.iload_n 2, 1) := by decide +kernel
theorem dX11_ofReel_25 : decode cX11_ofReel 25 = .ok (.iconst 1, 1) := by decide +kernel
theorem dX11_ofReel_26 : decode cX11_ofReel 26 = .ok (.if_icmp .ne 10, 3) := by decide +kernel
theorem dX11_ofReel_29 : decode cX11_ofReel 29 = .ok (.aload_n 3, 1) := by decide +kernel
theorem dX11_ofReel_30 : decode cX11_ofReel 30 = .ok (.getfield 201, 3) := by decide +kernel
theorem dX11_ofReel_33 : decode cX11_ofReel 33 = .ok (.goto 11, 3) := by decide +kernel
theorem dX11_ofReel_36 : decode cX11_ofReel 36 = .ok (.aload_n 3, 1) := by decide +kernel
theorem dX11_ofReel_37 : decode cX11_ofReel 37 = .ok (.aload_n 0, 1) := by decide +kernel
theorem dX11_ofReel_38 : decode cX11_ofReel 38 = .ok (.getfield 51, 3) := by decide +kernel
theorem dX11_ofReel_41 : decode cX11_ofReel 41 = .ok (.invokevirtual 195, 3) := by decide +kernel
theorem dX11_ofReel_44 : decode cX11_ofReel 44 = .ok (.ireturn, 1) := by decide +kernel
theorem dL_ofReel_0 : decode cL_ofReel 0 = .ok (.aload_n 3, 1) := by decide +kernel
theorem dL_ofReel_1 : decode cL_ofReel 1 = .ok (.iconst 0, 1) := by decide +kernel
theorem dL_ofReel_2 : decode cL_ofReel 2 = .ok (.aload_n 0, 1) := by decide +kernel
theorem dL_ofReel_3 : decode cL_ofReel 3 = .ok (.iload_n 1, 1) := by decide +kernel
theorem dL_ofReel_4 : decode cL_ofReel 4 = .ok (.iload_n 2, 1) := by decide +kernel
theorem dL_ofReel_5 : decode cL_ofReel 5 = .ok (.invokevirtual 64, 3) := by decide +kernel
theorem dL_ofReel_8 : decode cL_ofReel 8 = .ok (.i2l, 1) := by decide +kernel
theorem dL_ofReel_9 : decode cL_ofReel 9 = .ok (.lastore, 1) := by decide +kernel
theorem dL_ofReel_10 : decode cL_ofReel 10 = .ok (.goto 7, 3) := by decide +kernel
theorem dL_ofReel_13 : decode cL_ofReel 13 = .ok (.astore 4, 2) := by decide +kernel
theorem dL_ofReel_15 : decode cL_ofReel 15 = .ok (.iconst 1, 1) := by decide +kernel
theorem dL_ofReel_16 : decode cL_ofReel 16 = .ok (.ireturn, 1) := by decide +kernel
theorem dL_ofReel_17 : decode cL_ofReel 17 = .ok (.iconst 0, 1) := by decide +kernel
theorem dL_ofReel_18 : decode cL_ofReel 18 = .ok (.ireturn, 1) := by decide +kernel
theorem dX12_ofReel_0 : decode cX12_ofReel 0 = .ok (.aload_n 0, 1) := by decide +kernel
theorem dX12_ofReel_1 : decode cX12_ofReel 1 = .ok (.aload_n 0, 1) := by decide +kernel
theorem dX12_ofReel_2 : decode cX12_ofReel 2 = .ok (.iload_n 1, 1) := by decide +kernel
theorem dX12_ofReel_3 : decode cX12_ofReel 3 = .ok (.invokevirtual 210, 3) := by decide +kernel
theorem dX12_ofReel_6 : decode cX12_ofReel 6 = .ok (.ifCond .eq 16, 3) := by decide +kernel
theorem dX12_ofReel_9 : decode cX12_ofReel 9 = .ok (.iload_n 2, 1) := by decide +kernel
theorem dX12_ofReel_10 : decode cX12_ofReel 10 = .ok (.iconst 0, 1) := by decide +kernel
theorem dX12_ofReel_11 : decode cX12_ofReel 11 = .ok (.iconst 2, 1) := by decide +kernel
theorem dX12_ofReel_12 : decode cX12_ofReel 12 = .ok (.invokestatic 120, 3) := by decide +kernel
theorem dX12_ofReel_15 : decode cX12_ofReel 15 = .ok (.ifCond .eq 7, 3) := by decide +kernel
theorem dX12_ofReel_18 : decode cX12_ofReel 18 = .ok (.iconst 0, 1) := by decide +kernel
theorem dX12_ofReel_19 : decode cX12_ofReel 19 = .ok (.goto 4, 3) := by decide +kernel
theorem dX12_ofReel_22 : decode cX12_ofReel 22 = .ok (.iconst 1, 1) := by decide +kernel
theorem dX12_ofReel_23 : decode cX12_ofReel 23 = .ok (.invokevirtual 134, 3) := by decide +kernel
theorem dX12_ofReel_26 : decode cX12_ofReel 26 = .ok (.ifCond .eq 5, 3) := by decide +kernel
theorem dX12_ofReel_29 : decode cX12_ofReel 29 = .ok (.iconst 0, 1) := by decide +kernel
theorem dX12_ofReel_30 : decode cX12_ofReel 30 = .ok (.ireturn, 1) := by decide +kernel
theorem dX12_ofReel_31 : decode cX12_ofReel 31 = .ok (.iload_n 2, 1) := by decide +kernel
theorem dX12_ofReel_32 : decode cX12_ofReel 32 = .ok (.ifCond .ne 12, 3) := by decide +kernel
theorem dX12_ofReel_35 : decode cX12_ofReel 35 = .ok (.aload_n 0, 1) := by decide +kernel
theorem dX12_ofReel_36 : decode cX12_ofReel 36 = .ok (.getfield 65, 3) := by decide +kernel
theorem dX12_ofReel_39 : decode cX12_ofReel 39 = .ok (.iload_n 1, 1) := by decide +kernel
theorem dX12_ofReel_40 : decode cX12_ofReel 40 = .ok (.iaload, 1) := by decide +kernel
theorem dX12_ofReel_41 : decode cX12_ofReel 41 = .ok (.goto 22, 3) := by decide +kernel
theorem dX12_ofReel_44 : decode cX12_ofReel 44 = .ok (.iload_n 2, 1) := by decide +kernel
theorem dX12_ofReel_45 : decode cX12_ofReel 45 = .ok (.iconst 1, 1) := by decide +kernel
theorem dX12_ofReel_46 : decode cX12_ofReel 46 = .ok (.if_icmp .ne 12, 3) := by decide +kernel
theorem dX12_ofReel_49 : decode cX12_ofReel 49 = .ok (.aload_n 0, 1) := by decide +kernel
theorem dX12_ofReel_50 : decode cX12_ofReel 50 = .ok (.getfield 68, 3) := by decide +kernel
theorem dX12_ofReel_53 : decode cX12_ofReel 53 = .ok (.iload_n 1, 1) := by decide +kernel
theorem dX12_ofReel_54 : decode cX12_ofReel 54 = .ok (.iaload, 1) := by decide +kernel
theorem dX12_ofReel_55 : decode cX12_ofReel 55 = .ok (.goto 8, 3) := by decide +kernel
theorem dX12_ofReel_58 : decode cX12_ofReel 58 = .ok (.aload_n 0, 1) := by decide +kernel
theorem dX12_ofReel_59 : decode cX12_ofReel 59 = .ok (.iload_n 1, 1) := by decide +kernel
theorem dX12_ofReel_60 : decode cX12_ofReel 60 = .ok (.invokevirtual 213, 3) := by decide +kernel
theorem dX12_ofReel_63 : decode cX12_ofReel 63 = .ok (.ireturn, 1) := by decide +kernel
theorem dX9_init_0 : decode cX9_init 0 = .ok (.aload_n 0, 1) := by decide +kernel
theorem dX9_init_1 : decode cX9_init 1 = .ok (.invokespecial 3, 3) := by decide +kernel
theorem dX9_init_4 : decode cX9_init 4 = .ok (.aload_n 0, 1) := by decide +kernel
theorem dX9_init_5 : decode cX9_init 5 = .ok (.iconst (-1), 1) := by decide +kernel
theorem dX9_init_6 : decode cX9_init 6 = .ok (.putfield 9, 3) := by decide +kernel
theorem dX9_init_9 : decode cX9_init 9 = .ok (.aload_n 0, 1) := by decide +kernel
theorem dX9_init_10 : decode cX9_init 10 = .ok (.iconst (-1), 1) := by decide +kernel
theorem dX9_init_11 : decode cX9_init 11 = .ok (.putfield 15, 3) := by decide +kernel
theorem dX9_init_14 : decode cX9_init 14 = .ok (.aload_n 0, 1) := by decide +kernel
theorem dX9_init_15 : decode cX9_init 15 = .ok (.iconst (-1), 1) := by decide +kernel
theorem dX9_init_16 : decode cX9_init 16 = .ok (.putfield 18, 3) := by decide +kernel
theorem dX9_init_19 : decode cX9_init 19 = .ok (.aload_n 0, 1) := by decide +kernel
theorem dX9_init_20 : decode cX9_init 20 = .ok (.iconst 0, 1) := by decide +kernel
theorem dX9_init_21 : decode cX9_init 21 = .ok (.putfield 21, 3) := by decide +kernel
theorem dX9_init_24 : decode cX9_init 24 = .ok (.return_, 1) := by decide +kernel
theorem dX0_init_0 : decode cX0_init 0 = .ok (.aload_n 0, 1) := by decide +kernel
theorem dX0_init_1 : decode cX0_init 1 = .ok (.invokespecial 3, 3) := by decide +kernel
theorem dX0_init_4 : decode cX0_init 4 = .ok (.aload_n 0, 1) := by decide +kernel
theorem dX0_init_5 : decode cX0_init 5 = .ok (.new 9, 3) := by decide +kernel
theorem dX0_init_8 : decode cX0_init 8 = .ok (.dup, 1) := by decide +kernel
theorem dX0_init_9 : decode cX0_init 9 = .ok (.invokespecial 11, 3) := by decide +kernel
theorem dX0_init_12 : decode cX0_init 12 = .ok (.putfield 12, 3) := by decide +kernel
theorem dX0_init_15 : decode cX0_init 15 = .ok (.aload_n 0, 1) := by decide +kernel
theorem dX0_init_16 : decode cX0_init 16 = .ok (.new 18, 3) := by decide +kernel
theorem dX0_init_19 : decode cX0_init 19 = .ok (.dup, 1) := by decide +kernel
theorem dX0_init_20 : decode cX0_init 20 = .ok (.iconst 4, 1) := by decide +kernel
theorem dX0_init_21 : decode cX0_init 21 = .ok (.invokespecial 20, 3) := by decide +kernel
theorem dX0_init_24 : decode cX0_init 24 = .ok (.putfield 23, 3) := by decide +kernel
theorem dX0_init_27 : decode cX0_init 27 = .ok (.iconst 0, 1) := by decide +kernel
theorem dX0_init_28 : decode cX0_init 28 = .ok (.istore_n 1, 1) := by decide +kernel
theorem dX0_init_29 : decode cX0_init 29 = .ok (.iload_n 1, 1) := by decide +kernel
theorem dX0_init_30 : decode cX0_init 30 = .ok (.bipush 8, 2) := by decide +kernel
theorem dX0_init_32 : decode cX0_init 32 = .ok (.if_icmp .ge 24, 3) := by decide +kernel
theorem dX0_init_35 : decode cX0_init 35 = .ok (.aload_n 0, 1) := by decide +kernel
theorem dX0_init_36 : decode cX0_init 36 = .ok (.getfield 12, 3) := by decide +kernel
theorem dX0_init_39 : decode cX0_init 39 = .ok (.new 27, 3) := by decide +kernel
theorem dX0_init_42 : decode cX0_init 42 = .ok (.dup, 1) := by decide +kernel
theorem dX0_init_43 : decode cX0_init 43 = .ok (.invokespecial 29, 3) := by decide +kernel
theorem dX0_init_46 : decode cX0_init 46 = .ok (.invokevirtual 30, 3) := by decide +kernel
theorem dX0_init_49 : decode cX0_init 49 = .ok (.pop, 1) := by decide +kernel
theorem dX0_init_50 : decode cX0_init 50 = .ok (.iinc 1 1, 3) := by decide +kernel
theorem dX0_init_53 : decode cX0_init 53 = .ok (.goto (-24), 3) := by decide +kernel
theorem dX0_init_56 : decode cX0_init 56 = .ok (.return_, 1) := by decide +kernel
theorem dX11_board_0 : decode cX11_board 0 = .ok (.aload_n 0, 1) := by decide +kernel
theorem dX11_board_1 : decode cX11_board 1 = .ok (.getfield 44, 3) := by decide +kernel
theorem dX11_board_4 : decode cX11_board 4 = .ok (.invokevirtual 72, 3) := by decide +kernel
theorem dX11_board_7 : decode cX11_board 7 = .ok (.bipush 12, 2) := by decide +kernel
theorem dX11_board_9 : decode cX11_board 9 = .ok (.if_icmp .ge 7, 3) := by decide +kernel
theorem dX11_board_12 : decode cX11_board 12 = .ok (.iconst 1, 1) := by decide +kernel
theorem dX11_board_13 : decode cX11_board 13 = .ok (.goto 4, 3) := by decide +kernel
theorem dX11_board_16 : decode cX11_board 16 = .ok (.iconst 0, 1) := by decide +kernel
theorem dX11_board_17 : decode cX11_board 17 = .ok (.invokestatic 76, 3) := by decide +kernel
theorem dX11_board_20 : decode cX11_board 20 = .ok (.aload_n 0, 1) := by decide +kernel
theorem dX11_board_21 : decode cX11_board 21 = .ok (.getfield 44, 3) := by decide +kernel
theorem dX11_board_24 : decode cX11_board 24 = .ok (.new 204, 3) := by decide +kernel
theorem dX11_board_27 : decode cX11_board 27 = .ok (.dup, 1) := by decide +kernel
theorem dX11_board_28 : decode cX11_board 28 = .ok (.invokespecial 206, 3) := by decide +kernel
theorem dX11_board_31 : decode cX11_board 31 = .ok (.invokevirtual 181, 3) := by decide +kernel
theorem dX11_board_34 : decode cX11_board 34 = .ok (.pop, 1) := by decide +kernel
theorem dX11_board_35 : decode cX11_board 35 = .ok (.aload_n 0, 1) := by decide +kernel
theorem dX11_board_36 : decode cX11_board 36 = .ok (.getfield 44, 3) := by decide +kernel
theorem dX11_board_39 : decode cX11_board 39 = .ok (.invokevirtual 72, 3) := by decide +kernel
theorem dX11_board_42 : decode cX11_board 42 = .ok (.iconst 1, 1) := by decide +kernel
theorem dX11_board_43 : decode cX11_board 43 = .ok (.isub, 1) := by decide +kernel
theorem dX11_board_44 : decode cX11_board 44 = .ok (.ireturn, 1) := by decide +kernel
theorem dL_board_0 : decode cL_board 0 = .ok (.aload_n 1, 1) := by decide +kernel
theorem dL_board_1 : decode cL_board 1 = .ok (.iconst 0, 1) := by decide +kernel
theorem dL_board_2 : decode cL_board 2 = .ok (.aload_n 0, 1) := by decide +kernel
theorem dL_board_3 : decode cL_board 3 = .ok (.invokevirtual 67, 3) := by decide +kernel
theorem dL_board_6 : decode cL_board 6 = .ok (.i2l, 1) := by decide +kernel
theorem dL_board_7 : decode cL_board 7 = .ok (.lastore, 1) := by decide +kernel
theorem dL_board_8 : decode cL_board 8 = .ok (.goto 6, 3) := by decide +kernel
theorem dL_board_11 : decode cL_board 11 = .ok (.astore_n 2, 1) := by decide +kernel
theorem dL_board_12 : decode cL_board 12 = .ok (.iconst 1, 1) := by decide +kernel
theorem dL_board_13 : decode cL_board 13 = .ok (.ireturn, 1) := by decide +kernel
theorem dL_board_14 : decode cL_board 14 = .ok (.iconst 0, 1) := by decide +kernel
theorem dL_board_15 : decode cL_board 15 = .ok (.ireturn, 1) := by decide +kernel
theorem dX12_board_0 : decode cX12_board 0 = .ok (.aload_n 0, 1) := by decide +kernel
theorem dX12_board_1 : decode cX12_board 1 = .ok (.aload_n 0, 1) := by decide +kernel
theorem dX12_board_2 : decode cX12_board 2 = .ok (.getfield 216, 3) := by decide +kernel
theorem dX12_board_5 : decode cX12_board 5 = .ok (.bipush 12, 2) := by decide +kernel
theorem dX12_board_7 : decode cX12_board 7 = .ok (.if_icmp .ne 7, 3) := by decide +kernel
theorem dX12_board_10 : decode cX12_board 10 = .ok (.iconst 1, 1) := by decide +kernel
theorem dX12_board_11 : decode cX12_board 11 = .ok (.goto 4, 3) := by decide +kernel
theorem dX12_board_14 : decode cX12_board 14 = .ok (.iconst 0, 1) := by decide +kernel
theorem dX12_board_15 : decode cX12_board 15 = .ok (.invokevirtual 134, 3) := by decide +kernel
theorem dX12_board_18 : decode cX12_board 18 = .ok (.ifCond .eq 5, 3) := by decide +kernel
theorem dX12_board_21 : decode cX12_board 21 = .ok (.iconst 0, 1) := by decide +kernel
theorem dX12_board_22 : decode cX12_board 22 = .ok (.ireturn, 1) := by decide +kernel
theorem dX12_board_23 : decode cX12_board 23 = .ok (.aload_n 0, 1) := by decide +kernel
theorem dX12_board_24 : decode cX12_board 24 = .ok (.dup, 1) := by decide +kernel
theorem dX12_board_25 : decode cX12_board 25 = .ok (.getfield 216, 3) := by decide +kernel
theorem dX12_board_28 : decode cX12_board 28 = .ok (.iconst 1, 1) := by decide +kernel
theorem dX12_board_29 : decode cX12_board 29 = .ok (.iadd, 1) := by decide +kernel
theorem dX12_board_30 : decode cX12_board 30 = .ok (.putfield 216, 3) := by decide +kernel
theorem dX12_board_33 : decode cX12_board 33 = .ok (.aload_n 0, 1) := by decide +kernel
theorem dX12_board_34 : decode cX12_board 34 = .ok (.getfield 216, 3) := by decide +kernel
theorem dX12_board_37 : decode cX12_board 37 = .ok (.iconst 1, 1) := by decide +kernel
theorem dX12_board_38 : decode cX12_board 38 = .ok (.isub, 1) := by decide +kernel
theorem dX12_board_39 : decode cX12_board 39 = .ok (.ireturn, 1) := by decide +kernel
theorem dX11_boardAt_0 : decode cX11_boardAt 0 = .ok (.iload_n 1, 1) := by decide +kernel
theorem dX11_boardAt_1 : decode cX11_boardAt 1 = .ok (.aload_n 0, 1) := by decide +kernel
theorem dX11_boardAt_2 : decode cX11_boardAt 2 = .ok (.getfield 44, 3) := by decide +kernel
theorem dX11_boardAt_5 : decode cX11_boardAt 5 = .ok (.invokevirtual 72, 3) := by decide +kernel
theorem dX11_boardAt_8 : decode cX11_boardAt 8 = .ok (.invokestatic 54, 3) := by decide +kernel
theorem dX11_boardAt_11 : decode cX11_boardAt 11 = .ok (.ifCond .ne 11, 3) := by decide +kernel
theorem dX11_boardAt_14 : decode cX11_boardAt 14 = .ok (.new 299, 3) := by decide +kernel
theorem dX11_boardAt_17 : decode cX11_boardAt 17 = .ok (.dup, 1) := by decide +kernel
theorem dX11_boardAt_18 : decode cX11_boardAt 18 = .ok (.invokespecial 301, 3) := by decide +kernel
theorem dX11_boardAt_21 : decode cX11_boardAt 21 = .ok (.athrow, 1) := by decide +kernel
theorem dX11_boardAt_22 : decode cX11_boardAt 22 = .ok (.aload_n 0, 1) := by decide +kernel
theorem dX11_boardAt_23 : decode cX11_boardAt 23 = .ok (.getfield 44, 3) := by decide +kernel
theorem dX11_boardAt_26 : decode cX11_boardAt 26 = .ok (.iload_n 1, 1) := by decide +kernel
theorem dX11_boardAt_27 : decode cX11_boardAt 27 = .ok (.invokevirtual 292, 3) := by decide +kernel
theorem dX11_boardAt_30 : decode cX11_boardAt 30 = .ok (.checkcast 204, 3) := by decide +kernel
theorem dX11_boardAt_33 : decode cX11_boardAt 33 = .ok (.areturn, 1) := by decide +kernel
theorem dX0_slotAt_0 : decode cX0_slotAt 0 = .ok (.iload_n 1, 1) := by decide +kernel
theorem dX0_slotAt_1 : decode cX0_slotAt 1 = .ok (.aload_n 0, 1) := by decide +kernel
theorem dX0_slotAt_2 : decode cX0_slotAt 2 = .ok (.getfield 12, 3) := by decide +kernel
theorem dX0_slotAt_5 : decode cX0_slotAt 5 = .ok (.invokevirtual 34, 3) := by decide +kernel
theorem dX0_slotAt_8 : decode cX0_slotAt 8 = .ok (.invokestatic 38, 3) := by decide +kernel
theorem dX0_slotAt_11 : decode cX0_slotAt 11 = .ok (.ifCond .ne 11, 3) := by decide +kernel
theorem dX0_slotAt_14 : decode cX0_slotAt 14 = .ok (.new 42, 3) := by decide +kernel
theorem dX0_slotAt_17 : decode cX0_slotAt 17 = .ok (.dup, 1) := by decide +kernel
theorem dX0_slotAt_18 : decode cX0_slotAt 18 = .ok (.invokespecial 44, 3) := by decide +kernel
theorem dX0_slotAt_21 : decode cX0_slotAt 21 = .ok (.athrow, 1) := by decide +kernel
theorem dX0_slotAt_22 : decode cX0_slotAt 22 = .ok (.aload_n 0, 1) := by decide +kernel
theorem dX0_slotAt_23 : decode cX0_slotAt 23 = .ok (.getfield 12, 3) := by decide +kernel
theorem dX0_slotAt_26 : decode cX0_slotAt 26 = .ok (.iload_n 1, 1) := by decide +kernel
theorem dX0_slotAt_27 : decode cX0_slotAt 27 = .ok (.invokevirtual 45, 3) := by decide +kernel
theorem dX0_slotAt_30 : decode cX0_slotAt 30 = .ok (.checkcast 27, 3) := by decide +kernel
theorem dX0_slotAt_33 : decode cX0_slotAt 33 = .ok (.areturn, 1) := by decide +kernel
theorem dX9_hasPart_0 : decode cX9_hasPart 0 = .ok (.aload_n 0, 1) := by decide +kernel
theorem dX9_hasPart_1 : decode cX9_hasPart 1 = .ok (.getfield 9, 3) := by decide +kernel
theorem dX9_hasPart_4 : decode cX9_hasPart 4 = .ok (.iconst (-1), 1) := by decide +kernel
theorem dX9_hasPart_5 : decode cX9_hasPart 5 = .ok (.if_icmp .eq 7, 3) := by decide +kernel
theorem dX9_hasPart_8 : decode cX9_hasPart 8 = .ok (.iconst 1, 1) := by decide +kernel
theorem dX9_hasPart_9 : decode cX9_hasPart 9 = .ok (.goto 4, 3) := by decide +kernel
theorem dX9_hasPart_12 : decode cX9_hasPart 12 = .ok (.iconst 0, 1) := by decide +kernel
theorem dX9_hasPart_13 : decode cX9_hasPart 13 = .ok (.ireturn, 1) := by decide +kernel
theorem dX7_gives_0 : decode cX7_gives 0 = .ok (.aload_n 0, 1) := by decide +kernel
theorem dX7_gives_1 : decode cX7_gives 1 = .ok (.getfield 18, 3) := by decide +kernel
theorem dX7_gives_4 : decode cX7_gives 4 = .ok (.ifCond .le 16, 3) := by decide +kernel
theorem dX7_gives_7 : decode cX7_gives 7 = .ok (.aload_n 0, 1) := by decide +kernel
theorem dX7_gives_8 : decode cX7_gives 8 = .ok (.iload_n 1, 1) := by decide +kernel
theorem dX7_gives_9 : decode cX7_gives 9 = .ok (.invokevirtual 28, 3) := by decide +kernel
theorem dX7_gives_12 : decode cX7_gives 12 = .ok (.iconst (-1), 1) := by decide +kernel
theorem dX7_gives_13 : decode cX7_gives 13 = .ok (.if_icmp .eq 7, 3) := by decide +kernel
theorem dX7_gives_16 : decode cX7_gives 16 = .ok (.iconst 1, 1) := by decide +kernel
theorem dX7_gives_17 : decode cX7_gives 17 = .ok (.goto 4, 3) := by decide +kernel
theorem dX7_gives_20 : decode cX7_gives 20 = .ok (.iconst 0, 1) := by decide +kernel
theorem dX7_gives_21 : decode cX7_gives 21 = .ok (.ireturn, 1) := by decide +kernel
theorem dX9_fill_0 : decode cX9_fill 0 = .ok (.aload_n 2, 1) := by decide +kernel
theorem dX9_fill_1 : decode cX9_fill 1 = .ok (.dup, 1) := by decide +kernel
theorem dX9_fill_2 : decode cX9_fill 2 = .ok (.getfield 24, 3) := by decide +kernel
theorem dX9_fill_5 : decode cX9_fill 5 = .ok (.iconst 1, 1) := by decide +kernel
theorem dX9_fill_6 : decode cX9_fill 6 = .ok (.isub, 1) := by decide +kernel
theorem dX9_fill_7 : decode cX9_fill 7 = .ok (.putfield 24, 3) := by decide +kernel
theorem dX9_fill_10 : decode cX9_fill 10 = .ok (.aload_n 0, 1) := by decide +kernel
theorem dX9_fill_11 : decode cX9_fill 11 = .ok (.aload_n 2, 1) := by decide +kernel
theorem dX9_fill_12 : decode cX9_fill 12 = .ok (.getfield 29, 3) := by decide +kernel
theorem dX9_fill_15 : decode cX9_fill 15 = .ok (.putfield 9, 3) := by decide +kernel
theorem dX9_fill_18 : decode cX9_fill 18 = .ok (.aload_n 0, 1) := by decide +kernel
theorem dX9_fill_19 : decode cX9_fill 19 = .ok (.iload_n 1, 1) := by decide +kernel
theorem dX9_fill_20 : decode cX9_fill 20 = .ok (.putfield 15, 3) := by decide +kernel
theorem dX9_fill_23 : decode cX9_fill 23 = .ok (.aload_n 0, 1) := by decide +kernel
theorem dX9_fill_24 : decode cX9_fill 24 = .ok (.iload_n 3, 1) := by decide +kernel
theorem dX9_fill_25 : decode cX9_fill 25 = .ok (.putfield 18, 3) := by decide +kernel
theorem dX9_fill_28 : decode cX9_fill 28 = .ok (.return_, 1) := by decide +kernel
theorem dX11_place_0 : decode cX11_place 0 = .ok (.aload_n 0, 1) := by decide +kernel
theorem dX11_place_1 : decode cX11_place 1 = .ok (.iload_n 1, 1) := by decide +kernel
theorem dX11_place_2 : decode cX11_place 2 = .ok (.invokevirtual 207, 3) := by decide +kernel
theorem dX11_place_5 : decode cX11_place 5 = .ok (.astore 4, 2) := by decide +kernel
theorem dX11_place_7 : decode cX11_place 7 = .ok (.aload 4, 2) := by decide +kernel
theorem dX11_place_9 : decode cX11_place 9 = .ok (.iload_n 2, 1) := by decide +kernel
theorem dX11_place_10 : decode cX11_place 10 = .ok (.invokevirtual 211, 3) := by decide +kernel
theorem dX11_place_13 : decode cX11_place 13 = .ok (.astore 5, 2) := by decide +kernel
theorem dX11_place_15 : decode cX11_place 15 = .ok (.aload_n 0, 1) := by decide +kernel
theorem dX11_place_16 : decode cX11_place 16 = .ok (.iload_n 3, 1) := by decide +kernel
theorem dX11_place_17 : decode cX11_place 17 = .ok (.invokevirtual 184, 3) := by decide +kernel
theorem dX11_place_20 : decode cX11_place 20 = .ok (.astore 6, 2) := by decide +kernel
theorem dX11_place_22 : decode cX11_place 22 = .ok (.aload 4, 2) := by decide +kernel
theorem dX11_place_24 : decode cX11_place 24 = .ok (.getfield 215, 3) := by decide +kernel
theorem dX11_place_27 : decode cX11_place 27 = .ok (.ifCond .ne 27, 3) := by decide +kernel
theorem dX11_place_30 : decode cX11_place 30 = .ok (.aload 5, 2) := by decide +kernel
theorem dX11_place_32 : decode cX11_place 32 = .ok (.invokevirtual 218, 3) := by decide +kernel
theorem dX11_place_35 : decode cX11_place 35 = .ok (.ifCond .ne 19, 3) := by decide +kernel
theorem dX11_place_38 : decode cX11_place 38 = .ok (.aload 6, 2) := by decide +kernel
theorem dX11_place_40 : decode cX11_place 40 = .ok (.aload_n 0, 1) := by decide +kernel
theorem dX11_place_41 : decode cX11_place 41 = .ok (.getfield 51, 3) := by decide +kernel
theorem dX11_place_44 : decode cX11_place 44 = .ok (.invokevirtual 224, 3) := by decide +kernel
theorem dX11_place_47 : decode cX11_place 47 = .ok (.ifCond .eq 7, 3) := by decide +kernel
theorem dX11_place_50 : decode cX11_place 50 = .ok (.iconst 1, 1) := by decide +kernel
theorem dX11_place_51 : decode cX11_place 51 = .ok (.goto 4, 3) := by decide +kernel
theorem dX11_place_54 : decode cX11_place 54 = .ok (.iconst 0, 1) := by decide +kernel
theorem dX11_place_55 : decode cX11_place 55 = .ok (.invokestatic 76, 3) := by decide +kernel
theorem dX11_place_58 : decode cX11_place 58 = .ok (.aload 5, 2) := by decide +kernel
theorem dX11_place_60 : decode cX11_place 60 = .ok (.iload_n 3, 1) := by decide +kernel
theorem dX11_place_61 : decode cX11_place 61 = .ok (.aload 6, 2) := by decide +kernel
theorem dX11_place_63 : decode cX11_place 63 = .ok (.aload_n 0, 1) := by decide +kernel
theorem dX11_place_64 : decode cX11_place 64 = .ok (.getfield 51, 3) := by decide +kernel
theorem dX11_place_67 : decode cX11_place 67 = .ok (.invokevirtual 227, 3) := by decide +kernel
theorem dX11_place_70 : decode cX11_place 70 = .ok (.aload 6, 2) := by decide +kernel
theorem dX11_place_72 : decode cX11_place 72 = .ok (.getfield 201, 3) := by decide +kernel
theorem dX11_place_75 : decode cX11_place 75 = .ok (.ireturn, 1) := by decide +kernel
theorem dL_place_0 : decode cL_place 0 = .ok (.aload 4, 2) := by decide +kernel
theorem dL_place_2 : decode cL_place 2 = .ok (.iconst 0, 1) := by decide +kernel
theorem dL_place_3 : decode cL_place 3 = .ok (.aload_n 0, 1) := by decide +kernel
theorem dL_place_4 : decode cL_place 4 = .ok (.iload_n 1, 1) := by decide +kernel
theorem dL_place_5 : decode cL_place 5 = .ok (.iload_n 2, 1) := by decide +kernel
theorem dL_place_6 : decode cL_place 6 = .ok (.iload_n 3, 1) := by decide +kernel
theorem dL_place_7 : decode cL_place 7 = .ok (.invokevirtual 71, 3) := by decide +kernel
theorem dL_place_10 : decode cL_place 10 = .ok (.i2l, 1) := by decide +kernel
theorem dL_place_11 : decode cL_place 11 = .ok (.lastore, 1) := by decide +kernel
theorem dL_place_12 : decode cL_place 12 = .ok (.goto 11, 3) := by decide +kernel
theorem dL_place_15 : decode cL_place 15 = .ok (.astore 5, 2) := by decide +kernel
theorem dL_place_17 : decode cL_place 17 = .ok (.iconst 1, 1) := by decide +kernel
theorem dL_place_18 : decode cL_place 18 = .ok (.ireturn, 1) := by decide +kernel
theorem dL_place_19 : decode cL_place 19 = .ok (.astore 5, 2) := by decide +kernel
theorem dL_place_21 : decode cL_place 21 = .ok (.iconst 2, 1) := by decide +kernel
theorem dL_place_22 : decode cL_place 22 = .ok (.ireturn, 1) := by decide +kernel
theorem dL_place_23 : decode cL_place 23 = .ok (.iconst 0, 1) := by decide +kernel
theorem dL_place_24 : decode cL_place 24 = .ok (.ireturn, 1) := by decide +kernel
theorem dX12_isBoard_0 : decode cX12_isBoard 0 = .ok (.iload_n 1, 1) := by decide +kernel
theorem dX12_isBoard_1 : decode cX12_isBoard 1 = .ok (.iconst 0, 1) := by decide +kernel
theorem dX12_isBoard_2 : decode cX12_isBoard 2 = .ok (.aload_n 0, 1) := by decide +kernel
theorem dX12_isBoard_3 : decode cX12_isBoard 3 = .ok (.getfield 216, 3) := by decide +kernel
theorem dX12_isBoard_6 : decode cX12_isBoard 6 = .ok (.iconst 1, 1) := by decide +kernel
theorem dX12_isBoard_7 : decode cX12_isBoard 7 = .ok (.isub, 1) := by decide +kernel
theorem dX12_isBoard_8 : decode cX12_isBoard 8 = .ok (.invokestatic 120, 3) := by decide +kernel
theorem dX12_isBoard_11 : decode cX12_isBoard 11 = .ok (.ireturn, 1) := by decide +kernel
theorem dX12_isSlot_0 : decode cX12_isSlot 0 = .ok (.iload_n 0, 1) := by decide +kernel
theorem dX12_isSlot_1 : decode cX12_isSlot 1 = .ok (.iconst 0, 1) := by decide +kernel
theorem dX12_isSlot_2 : decode cX12_isSlot 2 = .ok (.bipush 7, 2) := by decide +kernel
theorem dX12_isSlot_4 : decode cX12_isSlot 4 = .ok (.invokestatic 120, 3) := by decide +kernel
theorem dX12_isSlot_7 : decode cX12_isSlot 7 = .ok (.ireturn, 1) := by decide +kernel
theorem dX12_gives_0 : decode cX12_gives 0 = .ok (.aload_n 0, 1) := by decide +kernel
theorem dX12_gives_1 : decode cX12_gives 1 = .ok (.iload_n 1, 1) := by decide +kernel
theorem dX12_gives_2 : decode cX12_gives 2 = .ok (.invokevirtual 213, 3) := by decide +kernel
theorem dX12_gives_5 : decode cX12_gives 5 = .ok (.iconst (-1), 1) := by decide +kernel
theorem dX12_gives_6 : decode cX12_gives 6 = .ok (.if_icmp .eq 16, 3) := by decide +kernel
theorem dX12_gives_9 : decode cX12_gives 9 = .ok (.aload_n 0, 1) := by decide +kernel
theorem dX12_gives_10 : decode cX12_gives 10 = .ok (.getfield 68, 3) := by decide +kernel
theorem dX12_gives_13 : decode cX12_gives 13 = .ok (.iload_n 1, 1) := by decide +kernel
theorem dX12_gives_14 : decode cX12_gives 14 = .ok (.iaload, 1) := by decide +kernel
theorem dX12_gives_15 : decode cX12_gives 15 = .ok (.ifCond .le 7, 3) := by decide +kernel
theorem dX12_gives_18 : decode cX12_gives 18 = .ok (.iconst 1, 1) := by decide +kernel
theorem dX12_gives_19 : decode cX12_gives 19 = .ok (.goto 4, 3) := by decide +kernel
theorem dX12_gives_22 : decode cX12_gives 22 = .ok (.iconst 0, 1) := by decide +kernel
theorem dX12_gives_23 : decode cX12_gives 23 = .ok (.ireturn, 1) := by decide +kernel
theorem dX12_place_0 : decode cX12_place 0 = .ok (.aload_n 0, 1) := by decide +kernel
theorem dX12_place_1 : decode cX12_place 1 = .ok (.iload_n 1, 1) := by decide +kernel
theorem dX12_place_2 : decode cX12_place 2 = .ok (.invokevirtual 219, 3) := by decide +kernel
theorem dX12_place_5 : decode cX12_place 5 = .ok (.ifCond .eq 22, 3) := by decide +kernel
theorem dX12_place_8 : decode cX12_place 8 = .ok (.iload_n 2, 1) := by decide +kernel
theorem dX12_place_9 : decode cX12_place 9 = .ok (.invokestatic 222, 3) := by decide +kernel
theorem dX12_place_12 : decode cX12_place 12 = .ok (.ifCond .eq 15, 3) := by decide +kernel
theorem dX12_place_15 : decode cX12_place 15 = .ok (.aload_n 0, 1) := by decide +kernel
theorem dX12_place_16 : decode cX12_place 16 = .ok (.iload_n 3, 1) := by decide +kernel
theorem dX12_place_17 : decode cX12_place 17 = .ok (.invokevirtual 210, 3) := by decide +kernel
theorem dX12_place_20 : decode cX12_place 20 = .ok (.ifCond .eq 7, 3) := by decide +kernel
theorem dX12_place_23 : decode cX12_place 23 = .ok (.iconst 1, 1) := by decide +kernel
theorem dX12_place_24 : decode cX12_place 24 = .ok (.goto 4, 3) := by decide +kernel
theorem dX12_place_27 : decode cX12_place 27 = .ok (.iconst 0, 1) := by decide +kernel
theorem dX12_place_28 : decode cX12_place 28 = .ok (.istore 4, 2) := by decide +kernel
theorem dX12_place_30 : decode cX12_place 30 = .ok (.iload 4, 2) := by decide +kernel
theorem dX12_place_32 : decode cX12_place 32 = .ok (.ifCond .eq 39, 3) := by decide +kernel
theorem dX12_place_35 : decode cX12_place 35 = .ok (.aload_n 0, 1) := by decide +kernel
theorem dX12_place_36 : decode cX12_place 36 = .ok (.getfield 89, 3) := by decide +kernel
theorem dX12_place_39 : decode cX12_place 39 = .ok (.iload_n 1, 1) := by decide +kernel
theorem dX12_place_40 : decode cX12_place 40 = .ok (.baload, 1) := by decide +kernel
theorem dX12_place_41 : decode cX12_place 41 = .ok (.ifCond .ne 30, 3) := by decide +kernel
theorem dX12_place_44 : decode cX12_place 44 = .ok (.aload_n 0, 1) := by decide +kernel
theorem dX12_place_45 : decode cX12_place 45 = .ok (.getfield 98, 3) := by decide +kernel
theorem dX12_place_48 : decode cX12_place 48 = .ok (.bipush 8, 2) := by decide +kernel
theorem dX12_place_50 : decode cX12_place 50 = .ok (.iload_n 1, 1) := by decide +kernel
theorem dX12_place_51 : decode cX12_place 51 = .ok (.imul, 1) := by decide +kernel
theorem dX12_place_52 : decode cX12_place 52 = .ok (.iload_n 2, 1) := by decide +kernel
theorem dX12_place_53 : decode cX12_place 53 = .ok (.iadd, 1) := by decide +kernel
theorem dX12_place_54 : decode cX12_place 54 = .ok (.iaload, 1) := by decide +kernel
theorem dX12_place_55 : decode cX12_place 55 = .ok (.iconst (-1), 1) := by decide +kernel
theorem dX12_place_56 : decode cX12_place 56 = .ok (.if_icmp .ne 15, 3) := by decide +kernel
theorem dX12_place_59 : decode cX12_place 59 = .ok (.aload_n 0, 1) := by decide +kernel
theorem dX12_place_60 : decode cX12_place 60 = .ok (.iload_n 3, 1) := by decide +kernel
theorem dX12_place_61 : decode cX12_place 61 = .ok (.invokevirtual 225, 3) := by decide +kernel
theorem dX12_place_64 : decode cX12_place 64 = .ok (.ifCond .eq 7, 3) := by decide +kernel
theorem dX12_place_67 : decode cX12_place 67 = .ok (.iconst 1, 1) := by decide +kernel
theorem dX12_place_68 : decode cX12_place 68 = .ok (.goto 4, 3) := by decide +kernel
theorem dX12_place_71 : decode cX12_place 71 = .ok (.iconst 0, 1) := by decide +kernel
theorem dX12_place_72 : decode cX12_place 72 = .ok (.istore 5, 2) := by decide +kernel
theorem dX12_place_74 : decode cX12_place 74 = .ok (.aload_n 0, 1) := by decide +kernel
theorem dX12_place_75 : decode cX12_place 75 = .ok (.iload 4, 2) := by decide +kernel
theorem dX12_place_77 : decode cX12_place 77 = .ok (.ifCond .ne 7, 3) := by decide +kernel
theorem dX12_place_80 : decode cX12_place 80 = .ok (.iconst 1, 1) := by decide +kernel
theorem dX12_place_81 : decode cX12_place 81 = .ok (.goto 13, 3) := by decide +kernel
theorem dX12_place_84 : decode cX12_place 84 = .ok (.iload 5, 2) := by decide +kernel
theorem dX12_place_86 : decode cX12_place 86 = .ok (.ifCond .eq 7, 3) := by decide +kernel
theorem dX12_place_89 : decode cX12_place 89 = .ok (.iconst 0, 1) := by decide +kernel
theorem dX12_place_90 : decode cX12_place 90 = .ok (.goto 4, 3) := by decide +kernel
theorem dX12_place_93 : decode cX12_place 93 = .ok (.iconst 2, 1) := by decide +kernel
theorem dX12_place_94 : decode cX12_place 94 = .ok (.invokevirtual 134, 3) := by decide +kernel
theorem dX12_place_97 : decode cX12_place 97 = .ok (.ifCond .eq 5, 3) := by decide +kernel
theorem dX12_place_100 : decode cX12_place 100 = .ok (.iconst 0, 1) := by decide +kernel
theorem dX12_place_101 : decode cX12_place 101 = .ok (.ireturn, 1) := by decide +kernel
theorem dX12_place_102 : decode cX12_place 102 = .ok (.aload_n 0, 1) := by decide +kernel
theorem dX12_place_103 : decode cX12_place 103 = .ok (.getfield 98, 3) := by decide +kernel
theorem dX12_place_106 : decode cX12_place 106 = .ok (.bipush 8, 2) := by decide +kernel
theorem dX12_place_108 : decode cX12_place 108 = .ok (.iload_n 1, 1) := by decide +kernel
theorem dX12_place_109 : decode cX12_place 109 = .ok (.imul, 1) := by decide +kernel
theorem dX12_place_110 : decode cX12_place 110 = .ok (.iload_n 2, 1) := by decide +kernel
theorem dX12_place_111 : decode cX12_place 111 = .ok (.iadd, 1) := by decide +kernel
theorem dX12_place_112 : decode cX12_place 112 = .ok (.iload_n 3, 1) := by decide +kernel
theorem dX12_place_113 : decode cX12_place 113 = .ok (.iastore, 1) := by decide +kernel
theorem dX12_place_114 : decode cX12_place 114 = .ok (.aload_n 0, 1) := by decide +kernel
theorem dX12_place_115 : decode cX12_place 115 = .ok (.getfield 101, 3) := by decide +kernel
theorem dX12_place_118 : decode cX12_place 118 = .ok (.bipush 8, 2) := by decide +kernel
theorem dX12_place_120 : decode cX12_place 120 = .ok (.iload_n 1, 1) := by decide +kernel
theorem dX12_place_121 : decode cX12_place 121 = .ok (.imul, 1) := by decide +kernel
theorem dX12_place_122 : decode cX12_place 122 = .ok (.iload_n 2, 1) := by decide +kernel
theorem dX12_place_123 : decode cX12_place 123 = .ok (.iadd, 1) := by decide +kernel
theorem dX12_place_124 : decode cX12_place 124 = .ok (.aload_n 0, 1) := by decide +kernel
theorem dX12_place_125 : decode cX12_place 125 = .ok (.getfield 207, 3) := by decide +kernel
theorem dX12_place_128 : decode cX12_place 128 = .ok (.iastore, 1) := by decide +kernel
theorem dX12_place_129 : decode cX12_place 129 = .ok (.aload_n 0, 1) := by decide +kernel
theorem dX12_place_130 : decode cX12_place 130 = .ok (.getfield 68, 3) := by decide +kernel
theorem dX12_place_133 : decode cX12_place 133 = .ok (.iload_n 3, 1) := by decide +kernel
theorem dX12_place_134 : decode cX12_place 134 = .ok (.dup2, 1) := by decide +kernel
theorem dX12_place_135 : decode cX12_place 135 = .ok (.iaload, 1) := by decide +kernel
theorem dX12_place_136 : decode cX12_place 136 = .ok (.iconst 1, 1) := by decide +kernel
theorem dX12_place_137 : decode cX12_place 137 = .ok (.isub, 1) := by decide +kernel
theorem dX12_place_138 : decode cX12_place 138 = .ok (.iastore, 1) := by decide +kernel
theorem dX12_place_139 : decode cX12_place 139 = .ok (.aload_n 0, 1) := by decide +kernel
theorem dX12_place_140 : decode cX12_place 140 = .ok (.getfield 68, 3) := by decide +kernel
theorem dX12_place_143 : decode cX12_place 143 = .ok (.iload_n 3, 1) := by decide +kernel
theorem dX12_place_144 : decode cX12_place 144 = .ok (.iaload, 1) := by decide +kernel
theorem dX12_place_145 : decode cX12_place 145 = .ok (.ireturn, 1) := by decide +kernel
theorem dX11_limits_0 : decode cX11_limits 0 = .ok (.iload_n 2, 1) := by decide +kernel
theorem dX11_limits_1 : decode cX11_limits 1 = .ok (.iload_n 1, 1) := by decide +kernel
theorem dX11_limits_2 : decode cX11_limits 2 = .ok (.ifCond .eq 7, 3) := by decide +kernel
theorem dX11_limits_5 : decode cX11_limits 5 = .ok (.iconst 4, 1) := by decide +kernel
theorem dX11_limits_6 : decode cX11_limits 6 = .ok (.goto 5, 3) := by decide +kernel
theorem dX11_limits_9 : decode cX11_limits 9 = .ok (.bipush 6, 2) := by decide +kernel
theorem dX11_limits_11 : decode cX11_limits 11 = .ok (.invokestatic 54, 3) := by decide +kernel
theorem dX11_limits_14 : decode cX11_limits 14 = .ok (.invokestatic 58, 3) := by decide +kernel
theorem dX11_limits_17 : decode cX11_limits 17 = .ok (.iload_n 3, 1) := by decide +kernel
theorem dX11_limits_18 : decode cX11_limits 18 = .ok (.iconst 0, 1) := by decide +kernel
theorem dX11_limits_19 : decode cX11_limits 19 = .ok (.sipush 400, 3) := by decide +kernel
theorem dX11_limits_22 : decode cX11_limits 22 = .ok (.invokestatic 62, 3) := by decide +kernel
theorem dX11_limits_25 : decode cX11_limits 25 = .ok (.ifCond .eq 23, 3) := by decide +kernel
theorem dX11_limits_28 : decode cX11_limits 28 = .ok (.iload_n 1, 1) := by decide +kernel
theorem dX11_limits_29 : decode cX11_limits 29 = .ok (.ifCond .ne 15, 3) := by decide +kernel
theorem dX11_limits_32 : decode cX11_limits 32 = .ok (.iload 4, 2) := by decide +kernel
theorem dX11_limits_34 : decode cX11_limits 34 = .ok (.iload_n 3, 1) := by decide +kernel
theorem dX11_limits_35 : decode cX11_limits 35 = .ok (.sipush 400, 3) := by decide +kernel
theorem dX11_limits_38 : decode cX11_limits 38 = .ok (.invokestatic 62, 3) := by decide +kernel
theorem dX11_limits_41 : decode cX11_limits 41 = .ok (.ifCond .eq 7, 3) := by decide +kernel
theorem dX11_limits_44 : decode cX11_limits 44 = .ok (.iconst 1, 1) := by decide +kernel
theorem dX11_limits_45 : decode cX11_limits 45 = .ok (.goto 4, 3) := by decide +kernel
theorem dX11_limits_48 : decode cX11_limits 48 = .ok (.iconst 0, 1) := by decide +kernel
theorem dX11_limits_49 : decode cX11_limits 49 = .ok (.invokestatic 66, 3) := by decide +kernel
theorem dX11_limits_52 : decode cX11_limits 52 = .ok (.iload_n 1, 1) := by decide +kernel
theorem dX11_limits_53 : decode cX11_limits 53 = .ok (.ifCond .eq 18, 3) := by decide +kernel
theorem dX11_limits_56 : decode cX11_limits 56 = .ok (.aload_n 0, 1) := by decide +kernel
theorem dX11_limits_57 : decode cX11_limits 57 = .ok (.getfield 33, 3) := by decide +kernel
theorem dX11_limits_60 : decode cX11_limits 60 = .ok (.getfield 231, 3) := by decide +kernel
theorem dX11_limits_63 : decode cX11_limits 63 = .ok (.iload_n 2, 1) := by decide +kernel
theorem dX11_limits_64 : decode cX11_limits 64 = .ok (.iload_n 3, 1) := by decide +kernel
theorem dX11_limits_65 : decode cX11_limits 65 = .ok (.invokevirtual 235, 3) := by decide +kernel
theorem dX11_limits_68 : decode cX11_limits 68 = .ok (.goto 28, 3) := by decide +kernel
theorem dX11_limits_71 : decode cX11_limits 71 = .ok (.aload_n 0, 1) := by decide +kernel
theorem dX11_limits_72 : decode cX11_limits 72 = .ok (.getfield 33, 3) := by decide +kernel
theorem dX11_limits_75 : decode cX11_limits 75 = .ok (.getfield 241, 3) := by decide +kernel
theorem dX11_limits_78 : decode cX11_limits 78 = .ok (.iload_n 2, 1) := by decide +kernel
theorem dX11_limits_79 : decode cX11_limits 79 = .ok (.iload_n 3, 1) := by decide +kernel
theorem dX11_limits_80 : decode cX11_limits 80 = .ok (.invokevirtual 235, 3) := by decide +kernel
theorem dX11_limits_83 : decode cX11_limits 83 = .ok (.aload_n 0, 1) := by decide +kernel
theorem dX11_limits_84 : decode cX11_limits 84 = .ok (.getfield 33, 3) := by decide +kernel
theorem dX11_limits_87 : decode cX11_limits 87 = .ok (.getfield 244, 3) := by decide +kernel
theorem dX11_limits_90 : decode cX11_limits 90 = .ok (.iload_n 2, 1) := by decide +kernel
theorem dX11_limits_91 : decode cX11_limits 91 = .ok (.iload 4, 2) := by decide +kernel
theorem dX11_limits_93 : decode cX11_limits 93 = .ok (.invokevirtual 235, 3) := by decide +kernel
theorem dX11_limits_96 : decode cX11_limits 96 = .ok (.return_, 1) := by decide +kernel
theorem dL_limits_0 : decode cL_limits 0 = .ok (.aload_n 0, 1) := by decide +kernel
theorem dL_limits_1 : decode cL_limits 1 = .ok (.iload_n 1, 1) := by decide +kernel
theorem dL_limits_2 : decode cL_limits 2 = .ok (.iload_n 2, 1) := by decide +kernel
theorem dL_limits_3 : decode cL_limits 3 = .ok (.iload_n 3, 1) := by decide +kernel
theorem dL_limits_4 : decode cL_limits 4 = .ok (.iload 4, 2) := by decide +kernel
theorem dL_limits_6 : decode cL_limits 6 = .ok (.invokevirtual 74, 3) := by decide +kernel
theorem dL_limits_9 : decode cL_limits 9 = .ok (.goto 11, 3) := by decide +kernel
theorem dL_limits_12 : decode cL_limits 12 = .ok (.astore 5, 2) := by decide +kernel
theorem dL_limits_14 : decode cL_limits 14 = .ok (.iconst 1, 1) := by decide +kernel
theorem dL_limits_15 : decode cL_limits 15 = .ok (.ireturn, 1) := by decide +kernel
theorem dL_limits_16 : decode cL_limits 16 = .ok (.astore 5, 2) := by decide +kernel
theorem dL_limits_18 : decode cL_limits 18 = .ok (.iconst 2, 1) := by decide +kernel
theorem dL_limits_19 : decode cL_limits 19 = .ok (.ireturn, 1) := by decide +kernel
theorem dL_limits_20 : decode cL_limits 20 = .ok (.iconst 0, 1) := by decide +kernel
theorem dL_limits_21 : decode cL_limits 21 = .ok (.ireturn, 1) := by decide +kernel
theorem dX12_limits_0 : decode cX12_limits 0 = .ok (.iload_n 2, 1) := by decide +kernel
theorem dX12_limits_1 : decode cX12_limits 1 = .ok (.iconst 0, 1) := by decide +kernel
theorem dX12_limits_2 : decode cX12_limits 2 = .ok (.iload_n 1, 1) := by decide +kernel
theorem dX12_limits_3 : decode cX12_limits 3 = .ok (.ifCond .eq 7, 3) := by decide +kernel
theorem dX12_limits_6 : decode cX12_limits 6 = .ok (.iconst 3, 1) := by decide +kernel
theorem dX12_limits_7 : decode cX12_limits 7 = .ok (.goto 4, 3) := by decide +kernel
theorem dX12_limits_10 : decode cX12_limits 10 = .ok (.iconst 5, 1) := by decide +kernel
theorem dX12_limits_11 : decode cX12_limits 11 = .ok (.invokestatic 120, 3) := by decide +kernel
theorem dX12_limits_14 : decode cX12_limits 14 = .ok (.istore 5, 2) := by decide +kernel
theorem dX12_limits_16 : decode cX12_limits 16 = .ok (.iload_n 3, 1) := by decide +kernel
theorem dX12_limits_17 : decode cX12_limits 17 = .ok (.iconst 0, 1) := by decide +kernel
theorem dX12_limits_18 : decode cX12_limits 18 = .ok (.sipush 400, 3) := by decide +kernel
theorem dX12_limits_21 : decode cX12_limits 21 = .ok (.invokestatic 120, 3) := by decide +kernel
theorem dX12_limits_24 : decode cX12_limits 24 = .ok (.ifCond .eq 23, 3) := by decide +kernel
theorem dX12_limits_27 : decode cX12_limits 27 = .ok (.iload_n 1, 1) := by decide +kernel
theorem dX12_limits_28 : decode cX12_limits 28 = .ok (.ifCond .ne 15, 3) := by decide +kernel
theorem dX12_limits_31 : decode cX12_limits 31 = .ok (.iload 4, 2) := by decide +kernel
theorem dX12_limits_33 : decode cX12_limits 33 = .ok (.iload_n 3, 1) := by decide +kernel
theorem dX12_limits_34 : decode cX12_limits 34 = .ok (.sipush 400, 3) := by decide +kernel
theorem dX12_limits_37 : decode cX12_limits 37 = .ok (.invokestatic 120, 3) := by decide +kernel
theorem dX12_limits_40 : decode cX12_limits 40 = .ok (.ifCond .eq 7, 3) := by decide +kernel
theorem dX12_limits_43 : decode cX12_limits 43 = .ok (.iconst 1, 1) := by decide +kernel
theorem dX12_limits_44 : decode cX12_limits 44 = .ok (.goto 4, 3) := by decide +kernel
theorem dX12_limits_47 : decode cX12_limits 47 = .ok (.iconst 0, 1) := by decide +kernel
theorem dX12_limits_48 : decode cX12_limits 48 = .ok (.istore 6, 2) := by decide +kernel
theorem dX12_limits_50 : decode cX12_limits 50 = .ok (.aload_n 0, 1) := by decide +kernel
theorem dX12_limits_51 : decode cX12_limits 51 = .ok (.iload 5, 2) := by decide +kernel
theorem dX12_limits_53 : decode cX12_limits 53 = .ok (.ifCond .ne 7, 3) := by decide +kernel
theorem dX12_limits_56 : decode cX12_limits 56 = .ok (.iconst 1, 1) := by decide +kernel
theorem dX12_limits_57 : decode cX12_limits 57 = .ok (.goto 13, 3) := by decide +kernel
theorem dX12_limits_60 : decode cX12_limits 60 = .ok (.iload 6, 2) := by decide +kernel
theorem dX12_limits_62 : decode cX12_limits 62 = .ok (.ifCond .eq 7, 3) := by decide +kernel
theorem dX12_limits_65 : decode cX12_limits 65 = .ok (.iconst 0, 1) := by decide +kernel
theorem dX12_limits_66 : decode cX12_limits 66 = .ok (.goto 4, 3) := by decide +kernel
theorem dX12_limits_69 : decode cX12_limits 69 = .ok (.iconst 2, 1) := by decide +kernel
theorem dX12_limits_70 : decode cX12_limits 70 = .ok (.invokevirtual 134, 3) := by decide +kernel
theorem dX12_limits_73 : decode cX12_limits 73 = .ok (.ifCond .eq 4, 3) := by decide +kernel
theorem dX12_limits_76 : decode cX12_limits 76 = .ok (.return_, 1) := by decide +kernel
theorem dX12_limits_77 : decode cX12_limits 77 = .ok (.iload_n 1, 1) := by decide +kernel
theorem dX12_limits_78 : decode cX12_limits 78 = .ok (.ifCond .eq 13, 3) := by decide +kernel
theorem dX12_limits_81 : decode cX12_limits 81 = .ok (.aload_n 0, 1) := by decide +kernel
theorem dX12_limits_82 : decode cX12_limits 82 = .ok (.getfield 77, 3) := by decide +kernel
theorem dX12_limits_85 : decode cX12_limits 85 = .ok (.iload_n 2, 1) := by decide +kernel
theorem dX12_limits_86 : decode cX12_limits 86 = .ok (.iload_n 3, 1) := by decide +kernel
theorem dX12_limits_87 : decode cX12_limits 87 = .ok (.iastore, 1) := by decide +kernel
theorem dX12_limits_88 : decode cX12_limits 88 = .ok (.goto 18, 3) := by decide +kernel
theorem dX12_limits_91 : decode cX12_limits 91 = .ok (.aload_n 0, 1) := by decide +kernel
theorem dX12_limits_92 : decode cX12_limits 92 = .ok (.getfield 80, 3) := by decide +kernel
theorem dX12_limits_95 : decode cX12_limits 95 = .ok (.iload_n 2, 1) := by decide +kernel
theorem dX12_limits_96 : decode cX12_limits 96 = .ok (.iload_n 3, 1) := by decide +kernel
theorem dX12_limits_97 : decode cX12_limits 97 = .ok (.iastore, 1) := by decide +kernel
theorem dX12_limits_98 : decode cX12_limits 98 = .ok (.aload_n 0, 1) := by decide +kernel
theorem dX12_limits_99 : decode cX12_limits 99 = .ok (.getfield 83, 3) := by decide +kernel
theorem dX12_limits_102 : decode cX12_limits 102 = .ok (.iload_n 2, 1) := by decide +kernel
theorem dX12_limits_103 : decode cX12_limits 103 = .ok (.iload 4, 2) := by decide +kernel
theorem dX12_limits_105 : decode cX12_limits 105 = .ok (.iastore, 1) := by decide +kernel
theorem dX12_limits_106 : decode cX12_limits 106 = .ok (.return_, 1) := by decide +kernel
theorem dX8_copyFrom_0 : decode cX8_copyFrom 0 = .ok (.iconst 0, 1) := by decide +kernel
theorem dX8_copyFrom_1 : decode cX8_copyFrom 1 = .ok (.istore_n 2, 1) := by decide +kernel
theorem dX8_copyFrom_2 : decode cX8_copyFrom 2 = .ok (.iload_n 2, 1) := by decide +kernel
theorem dX8_copyFrom_3 : decode cX8_copyFrom 3 = .ok (.aload_n 0, 1) := by decide +kernel
theorem dX8_copyFrom_4 : decode cX8_copyFrom 4 = .ok (.getfield 7, 3) := by decide +kernel
theorem dX8_copyFrom_7 : decode cX8_copyFrom 7 = .ok (.arraylength, 1) := by decide +kernel
theorem dX8_copyFrom_8 : decode cX8_copyFrom 8 = .ok (.if_icmp .ge 20, 3) := by decide +kernel
theorem dX8_copyFrom_11 : decode cX8_copyFrom 11 = .ok (.aload_n 0, 1) := by decide +kernel
theorem dX8_copyFrom_12 : decode cX8_copyFrom 12 = .ok (.getfield 7, 3) := by decide +kernel
theorem dX8_copyFrom_15 : decode cX8_copyFrom 15 = .ok (.iload_n 2, 1) := by decide +kernel
theorem dX8_copyFrom_16 : decode cX8_copyFrom 16 = .ok (.aload_n 1, 1) := by decide +kernel
theorem dX8_copyFrom_17 : decode cX8_copyFrom 17 = .ok (.iload_n 2, 1) := by decide +kernel
theorem dX8_copyFrom_18 : decode cX8_copyFrom 18 = .ok (.invokevirtual 13, 3) := by decide +kernel
theorem dX8_copyFrom_21 : decode cX8_copyFrom 21 = .ok (.iastore, 1) := by decide +kernel
theorem dX8_copyFrom_22 : decode cX8_copyFrom 22 = .ok (.iinc 2 1, 3) := by decide +kernel
theorem dX8_copyFrom_25 : decode cX8_copyFrom 25 = .ok (.goto (-23), 3) := by decide +kernel
theorem dX8_copyFrom_28 : decode cX8_copyFrom 28 = .ok (.return_, 1) := by decide +kernel
theorem dX0_mass_0 : decode cX0_mass 0 = .ok (.iconst 2, 1) := by decide +kernel
theorem dX0_mass_1 : decode cX0_mass 1 = .ok (.istore_n 1, 1) := by decide +kernel
theorem dX0_mass_2 : decode cX0_mass 2 = .ok (.iconst 0, 1) := by decide +kernel
theorem dX0_mass_3 : decode cX0_mass 3 = .ok (.istore_n 2, 1) := by decide +kernel
theorem dX0_mass_4 : decode cX0_mass 4 = .ok (.iload_n 2, 1) := by decide +kernel
theorem dX0_mass_5 : decode cX0_mass 5 = .ok (.aload_n 0, 1) := by decide +kernel
theorem dX0_mass_6 : decode cX0_mass 6 = .ok (.getfield 12, 3) := by decide +kernel
theorem dX0_mass_9 : decode cX0_mass 9 = .ok (.invokevirtual 34, 3) := by decide +kernel
theorem dX0_mass_12 : decode cX0_mass 12 = .ok (.if_icmp .ge 29, 3) := by decide +kernel
theorem dX0_mass_15 : decode cX0_mass 15 = .ok (.aload_n 0, 1) := by decide +kernel
theorem dX0_mass_16 : decode cX0_mass 16 = .ok (.getfield 12, 3) := by decide +kernel
theorem dX0_mass_19 : decode cX0_mass 19 = .ok (.iload_n 2, 1) := by decide +kernel
theorem dX0_mass_20 : decode cX0_mass 20 = .ok (.invokevirtual 45, 3) := by decide +kernel
theorem dX0_mass_23 : decode cX0_mass 23 = .ok (.checkcast 27, 3) := by decide +kernel
theorem dX0_mass_26 : decode cX0_mass 26 = .ok (.invokevirtual 49, 3) := by decide +kernel
theorem dX0_mass_29 : decode cX0_mass 29 = .ok (.ifCond .eq 6, 3) := by decide +kernel
theorem dX0_mass_32 : decode cX0_mass 32 = .ok (.iinc 1 1, 3) := by decide +kernel
theorem dX0_mass_35 : decode cX0_mass 35 = .ok (.iinc 2 1, 3) := by decide +kernel
theorem dX0_mass_38 : decode cX0_mass 38 = .ok (.goto (-34), 3) := by decide +kernel
theorem dX0_mass_41 : decode cX0_mass 41 = .ok (.iload_n 1, 1) := by decide +kernel
theorem dX0_mass_42 : decode cX0_mass 42 = .ok (.ireturn, 1) := by decide +kernel
theorem dX6_peakOf_0 : decode cX6_peakOf 0 = .ok (.bipush 25, 2) := by decide +kernel
theorem dX6_peakOf_2 : decode cX6_peakOf 2 = .ok (.istore_n 2, 1) := by decide +kernel
theorem dX6_peakOf_3 : decode cX6_peakOf 3 = .ok (.iconst 0, 1) := by decide +kernel
theorem dX6_peakOf_4 : decode cX6_peakOf 4 = .ok (.istore_n 3, 1) := by decide +kernel
theorem dX6_peakOf_5 : decode cX6_peakOf 5 = .ok (.iconst 0, 1) := by decide +kernel
theorem dX6_peakOf_6 : decode cX6_peakOf 6 = .ok (.istore 4, 2) := by decide +kernel
theorem dX6_peakOf_8 : decode cX6_peakOf 8 = .ok (.iload 4, 2) := by decide +kernel
theorem dX6_peakOf_10 : decode cX6_peakOf 10 = .ok (.iconst 4, 1) := by decide +kernel
theorem dX6_peakOf_11 : decode cX6_peakOf 11 = .ok (.if_icmp .ge 45, 3) := by decide +kernel
theorem dX6_peakOf_14 : decode cX6_peakOf 14 = .ok (.iconst 0, 1) := by decide +kernel
theorem dX6_peakOf_15 : decode cX6_peakOf 15 = .ok (.istore 5, 2) := by decide +kernel
theorem dX6_peakOf_17 : decode cX6_peakOf 17 = .ok (.iload 5, 2) := by decide +kernel
theorem dX6_peakOf_19 : decode cX6_peakOf 19 = .ok (.iconst 3, 1) := by decide +kernel
theorem dX6_peakOf_20 : decode cX6_peakOf 20 = .ok (.if_icmp .ge 30, 3) := by decide +kernel
theorem dX6_peakOf_23 : decode cX6_peakOf 23 = .ok (.iload_n 2, 1) := by decide +kernel
theorem dX6_peakOf_24 : decode cX6_peakOf 24 = .ok (.aload_n 0, 1) := by decide +kernel
theorem dX6_peakOf_25 : decode cX6_peakOf 25 = .ok (.iload 4, 2) := by decide +kernel
theorem dX6_peakOf_27 : decode cX6_peakOf 27 = .ok (.invokevirtual 33, 3) := by decide +kernel
theorem dX6_peakOf_30 : decode cX6_peakOf 30 = .ok (.iload_n 2, 1) := by decide +kernel
theorem dX6_peakOf_31 : decode cX6_peakOf 31 = .ok (.isub, 1) := by decide +kernel
theorem dX6_peakOf_32 : decode cX6_peakOf 32 = .ok (.iload_n 1, 1) := by decide +kernel
theorem dX6_peakOf_33 : decode cX6_peakOf 33 = .ok (.invokestatic 37, 3) := by decide +kernel
theorem dX6_peakOf_36 : decode cX6_peakOf 36 = .ok (.iadd, 1) := by decide +kernel
theorem dX6_peakOf_37 : decode cX6_peakOf 37 = .ok (.istore_n 2, 1) := by decide +kernel
theorem dX6_peakOf_38 : decode cX6_peakOf 38 = .ok (.iload_n 3, 1) := by decide +kernel
theorem dX6_peakOf_39 : decode cX6_peakOf 39 = .ok (.iload_n 2, 1) := by decide +kernel
theorem dX6_peakOf_40 : decode cX6_peakOf 40 = .ok (.invokestatic 41, 3) := by decide +kernel
theorem dX6_peakOf_43 : decode cX6_peakOf 43 = .ok (.istore_n 3, 1) := by decide +kernel
theorem dX6_peakOf_44 : decode cX6_peakOf 44 = .ok (.iinc 5 1, 3) := by decide +kernel
theorem dX6_peakOf_47 : decode cX6_peakOf 47 = .ok (.goto (-30), 3) := by decide +kernel
theorem dX6_peakOf_50 : decode cX6_peakOf 50 = .ok (.iinc 4 1, 3) := by decide +kernel
theorem dX6_peakOf_53 : decode cX6_peakOf 53 = .ok (.goto (-45), 3) := by decide +kernel
theorem dX6_peakOf_56 : decode cX6_peakOf 56 = .ok (.iload_n 3, 1) := by decide +kernel
theorem dX6_peakOf_57 : decode cX6_peakOf 57 = .ok (.ireturn, 1) := by decide +kernel
theorem dX0_peak_0 : decode cX0_peak 0 = .ok (.aload_n 0, 1) := by decide +kernel
theorem dX0_peak_1 : decode cX0_peak 1 = .ok (.getfield 23, 3) := by decide +kernel
theorem dX0_peak_4 : decode cX0_peak 4 = .ok (.aload_n 0, 1) := by decide +kernel
theorem dX0_peak_5 : decode cX0_peak 5 = .ok (.invokevirtual 53, 3) := by decide +kernel
theorem dX0_peak_8 : decode cX0_peak 8 = .ok (.invokestatic 56, 3) := by decide +kernel
theorem dX0_peak_11 : decode cX0_peak 11 = .ok (.ireturn, 1) := by decide +kernel
theorem dX9_jointFor_0 : decode cX9_jointFor 0 = .ok (.aload_n 0, 1) := by decide +kernel
theorem dX9_jointFor_1 : decode cX9_jointFor 1 = .ok (.getfield 42, 3) := by decide +kernel
theorem dX9_jointFor_4 : decode cX9_jointFor 4 = .ok (.iload_n 1, 1) := by decide +kernel
theorem dX9_jointFor_5 : decode cX9_jointFor 5 = .ok (.if_icmp .le 5, 3) := by decide +kernel
theorem dX9_jointFor_8 : decode cX9_jointFor 8 = .ok (.iconst 1, 1) := by decide +kernel
theorem dX9_jointFor_9 : decode cX9_jointFor 9 = .ok (.ireturn, 1) := by decide +kernel
theorem dX9_jointFor_10 : decode cX9_jointFor 10 = .ok (.aload_n 0, 1) := by decide +kernel
theorem dX9_jointFor_11 : decode cX9_jointFor 11 = .ok (.getfield 48, 3) := by decide +kernel
theorem dX9_jointFor_14 : decode cX9_jointFor 14 = .ok (.iload_n 1, 1) := by decide +kernel
theorem dX9_jointFor_15 : decode cX9_jointFor 15 = .ok (.if_icmp .ge 7, 3) := by decide +kernel
theorem dX9_jointFor_18 : decode cX9_jointFor 18 = .ok (.iconst 2, 1) := by decide +kernel
theorem dX9_jointFor_19 : decode cX9_jointFor 19 = .ok (.goto 4, 3) := by decide +kernel
theorem dX9_jointFor_22 : decode cX9_jointFor 22 = .ok (.iconst 0, 1) := by decide +kernel
theorem dX9_jointFor_23 : decode cX9_jointFor 23 = .ok (.ireturn, 1) := by decide +kernel
theorem dX9_join_0 : decode cX9_join 0 = .ok (.aload_n 0, 1) := by decide +kernel
theorem dX9_join_1 : decode cX9_join 1 = .ok (.aload_n 1, 1) := by decide +kernel
theorem dX9_join_2 : decode cX9_join 2 = .ok (.getfield 30, 3) := by decide +kernel
theorem dX9_join_5 : decode cX9_join 5 = .ok (.aload_n 0, 1) := by decide +kernel
theorem dX9_join_6 : decode cX9_join 6 = .ok (.getfield 9, 3) := by decide +kernel
theorem dX9_join_9 : decode cX9_join 9 = .ok (.invokevirtual 36, 3) := by decide +kernel
theorem dX9_join_12 : decode cX9_join 12 = .ok (.putfield 42, 3) := by decide +kernel
theorem dX9_join_15 : decode cX9_join 15 = .ok (.aload_n 0, 1) := by decide +kernel
theorem dX9_join_16 : decode cX9_join 16 = .ok (.aload_n 1, 1) := by decide +kernel
theorem dX9_join_17 : decode cX9_join 17 = .ok (.getfield 45, 3) := by decide +kernel
theorem dX9_join_20 : decode cX9_join 20 = .ok (.aload_n 0, 1) := by decide +kernel
theorem dX9_join_21 : decode cX9_join 21 = .ok (.getfield 9, 3) := by decide +kernel
theorem dX9_join_24 : decode cX9_join 24 = .ok (.invokevirtual 36, 3) := by decide +kernel
theorem dX9_join_27 : decode cX9_join 27 = .ok (.putfield 48, 3) := by decide +kernel
theorem dX9_join_30 : decode cX9_join 30 = .ok (.aload_n 0, 1) := by decide +kernel
theorem dX9_join_31 : decode cX9_join 31 = .ok (.aload_n 0, 1) := by decide +kernel
theorem dX9_join_32 : decode cX9_join 32 = .ok (.iload_n 2, 1) := by decide +kernel
theorem dX9_join_33 : decode cX9_join 33 = .ok (.invokevirtual 51, 3) := by decide +kernel
theorem dX9_join_36 : decode cX9_join 36 = .ok (.putfield 21, 3) := by decide +kernel
theorem dX9_join_39 : decode cX9_join 39 = .ok (.return_, 1) := by decide +kernel
theorem dX0_goThrough_0 : decode cX0_goThrough 0 = .ok (.aload_n 0, 1) := by decide +kernel
theorem dX0_goThrough_1 : decode cX0_goThrough 1 = .ok (.getfield 23, 3) := by decide +kernel
theorem dX0_goThrough_4 : decode cX0_goThrough 4 = .ok (.aload_n 1, 1) := by decide +kernel
theorem dX0_goThrough_5 : decode cX0_goThrough 5 = .ok (.getfield 62, 3) := by decide +kernel
theorem dX0_goThrough_8 : decode cX0_goThrough 8 = .ok (.invokevirtual 63, 3) := by decide +kernel
theorem dX0_goThrough_11 : decode cX0_goThrough 11 = .ok (.aload_n 0, 1) := by decide +kernel
theorem dX0_goThrough_12 : decode cX0_goThrough 12 = .ok (.iconst 1, 1) := by decide +kernel
theorem dX0_goThrough_13 : decode cX0_goThrough 13 = .ok (.putfield 67, 3) := by decide +kernel
theorem dX0_goThrough_16 : decode cX0_goThrough 16 = .ok (.aload_n 0, 1) := by decide +kernel
theorem dX0_goThrough_17 : decode cX0_goThrough 17 = .ok (.invokevirtual 71, 3) := by decide +kernel
theorem dX0_goThrough_20 : decode cX0_goThrough 20 = .ok (.istore_n 2, 1) := by decide +kernel
theorem dX0_goThrough_21 : decode cX0_goThrough 21 = .ok (.iconst 0, 1) := by decide +kernel
theorem dX0_goThrough_22 : decode cX0_goThrough 22 = .ok (.istore_n 3, 1) := by decide +kernel
theorem dX0_goThrough_23 : decode cX0_goThrough 23 = .ok (.iload_n 3, 1) := by decide +kernel
theorem dX0_goThrough_24 : decode cX0_goThrough 24 = .ok (.aload_n 0, 1) := by decide +kernel
theorem dX0_goThrough_25 : decode cX0_goThrough 25 = .ok (.getfield 12, 3) := by decide +kernel
theorem dX0_goThrough_28 : decode cX0_goThrough 28 = .ok (.invokevirtual 34, 3) := by decide +kernel
theorem dX0_goThrough_31 : decode cX0_goThrough 31 = .ok (.if_icmp .ge 37, 3) := by decide +kernel
theorem dX0_goThrough_34 : decode cX0_goThrough 34 = .ok (.aload_n 0, 1) := by decide +kernel
theorem dX0_goThrough_35 : decode cX0_goThrough 35 = .ok (.getfield 12, 3) := by decide +kernel
theorem dX0_goThrough_38 : decode cX0_goThrough 38 = .ok (.iload_n 3, 1) := by decide +kernel
theorem dX0_goThrough_39 : decode cX0_goThrough 39 = .ok (.invokevirtual 45, 3) := by decide +kernel
theorem dX0_goThrough_42 : decode cX0_goThrough 42 = .ok (.checkcast 27, 3) := by decide +kernel
theorem dX0_goThrough_45 : decode cX0_goThrough 45 = .ok (.astore 4, 2) := by decide +kernel
theorem dX0_goThrough_47 : decode cX0_goThrough 47 = .ok (.aload 4, 2) := by decide +kernel
theorem dX0_goThrough_49 : decode cX0_goThrough 49 = .ok (.invokevirtual 49, 3) := by decide +kernel
theorem dX0_goThrough_52 : decode cX0_goThrough 52 = .ok (.ifCond .eq 10, 3) := by decide +kernel
theorem dX0_goThrough_55 : decode cX0_goThrough 55 = .ok (.aload 4, 2) := by decide +kernel
theorem dX0_goThrough_57 : decode cX0_goThrough 57 = .ok (.aload_n 1, 1) := by decide +kernel
theorem dX0_goThrough_58 : decode cX0_goThrough 58 = .ok (.iload_n 2, 1) := by decide +kernel
theorem dX0_goThrough_59 : decode cX0_goThrough 59 = .ok (.invokevirtual 74, 3) := by decide +kernel
theorem dX0_goThrough_62 : decode cX0_goThrough 62 = .ok (.iinc 3 1, 3) := by decide +kernel
theorem dX0_goThrough_65 : decode cX0_goThrough 65 = .ok (.goto (-42), 3) := by decide +kernel
theorem dX0_goThrough_68 : decode cX0_goThrough 68 = .ok (.iload_n 2, 1) := by decide +kernel
theorem dX0_goThrough_69 : decode cX0_goThrough 69 = .ok (.ireturn, 1) := by decide +kernel
theorem dX11_solder_0 : decode cX11_solder 0 = .ok (.aload_n 0, 1) := by decide +kernel
theorem dX11_solder_1 : decode cX11_solder 1 = .ok (.iload_n 1, 1) := by decide +kernel
theorem dX11_solder_2 : decode cX11_solder 2 = .ok (.invokevirtual 207, 3) := by decide +kernel
theorem dX11_solder_5 : decode cX11_solder 5 = .ok (.astore_n 2, 1) := by decide +kernel
theorem dX11_solder_6 : decode cX11_solder 6 = .ok (.aload_n 2, 1) := by decide +kernel
theorem dX11_solder_7 : decode cX11_solder 7 = .ok (.getfield 215, 3) := by decide +kernel
theorem dX11_solder_10 : decode cX11_solder 10 = .ok (.ifCond .ne 7, 3) := by decide +kernel
theorem dX11_solder_13 : decode cX11_solder 13 = .ok (.iconst 1, 1) := by decide +kernel
theorem dX11_solder_14 : decode cX11_solder 14 = .ok (.goto 4, 3) := by decide +kernel
theorem dX11_solder_17 : decode cX11_solder 17 = .ok (.iconst 0, 1) := by decide +kernel
theorem dX11_solder_18 : decode cX11_solder 18 = .ok (.invokestatic 76, 3) := by decide +kernel
theorem dX11_solder_21 : decode cX11_solder 21 = .ok (.aload_n 2, 1) := by decide +kernel
theorem dX11_solder_22 : decode cX11_solder 22 = .ok (.aload_n 0, 1) := by decide +kernel
theorem dX11_solder_23 : decode cX11_solder 23 = .ok (.getfield 33, 3) := by decide +kernel
theorem dX11_solder_26 : decode cX11_solder 26 = .ok (.invokevirtual 247, 3) := by decide +kernel
theorem dX11_solder_29 : decode cX11_solder 29 = .ok (.ireturn, 1) := by decide +kernel
theorem dL_solder_0 : decode cL_solder 0 = .ok (.aload_n 2, 1) := by decide +kernel
theorem dL_solder_1 : decode cL_solder 1 = .ok (.iconst 0, 1) := by decide +kernel
theorem dL_solder_2 : decode cL_solder 2 = .ok (.aload_n 0, 1) := by decide +kernel
theorem dL_solder_3 : decode cL_solder 3 = .ok (.iload_n 1, 1) := by decide +kernel
theorem dL_solder_4 : decode cL_solder 4 = .ok (.invokevirtual 78, 3) := by decide +kernel
theorem dL_solder_7 : decode cL_solder 7 = .ok (.i2l, 1) := by decide +kernel
theorem dL_solder_8 : decode cL_solder 8 = .ok (.lastore, 1) := by decide +kernel
theorem dL_solder_9 : decode cL_solder 9 = .ok (.goto 9, 3) := by decide +kernel
theorem dL_solder_12 : decode cL_solder 12 = .ok (.astore_n 3, 1) := by decide +kernel
theorem dL_solder_13 : decode cL_solder 13 = .ok (.iconst 1, 1) := by decide +kernel
theorem dL_solder_14 : decode cL_solder 14 = .ok (.ireturn, 1) := by decide +kernel
theorem dL_solder_15 : decode cL_solder 15 = .ok (.astore_n 3, 1) := by decide +kernel
theorem dL_solder_16 : decode cL_solder 16 = .ok (.iconst 2, 1) := by decide +kernel
theorem dL_solder_17 : decode cL_solder 17 = .ok (.ireturn, 1) := by decide +kernel
theorem dL_solder_18 : decode cL_solder 18 = .ok (.iconst 0, 1) := by decide +kernel
theorem dL_solder_19 : decode cL_solder 19 = .ok (.ireturn, 1) := by decide +kernel
theorem dX12_down_0 : decode cX12_down 0 = .ok (.iload_n 0, 1) := by decide +kernel
theorem dX12_down_1 : decode cX12_down 1 = .ok (.iload_n 1, 1) := by decide +kernel
theorem dX12_down_2 : decode cX12_down 2 = .ok (.idiv, 1) := by decide +kernel
theorem dX12_down_3 : decode cX12_down 3 = .ok (.istore_n 2, 1) := by decide +kernel
theorem dX12_down_4 : decode cX12_down 4 = .ok (.iload_n 2, 1) := by decide +kernel
theorem dX12_down_5 : decode cX12_down 5 = .ok (.iload_n 1, 1) := by decide +kernel
theorem dX12_down_6 : decode cX12_down 6 = .ok (.imul, 1) := by decide +kernel
theorem dX12_down_7 : decode cX12_down 7 = .ok (.iload_n 0, 1) := by decide +kernel
theorem dX12_down_8 : decode cX12_down 8 = .ok (.if_icmp .le 9, 3) := by decide +kernel
theorem dX12_down_11 : decode cX12_down 11 = .ok (.iload_n 2, 1) := by decide +kernel
theorem dX12_down_12 : decode cX12_down 12 = .ok (.iconst 1, 1) := by decide +kernel
theorem dX12_down_13 : decode cX12_down 13 = .ok (.isub, 1) := by decide +kernel
theorem dX12_down_14 : decode cX12_down 14 = .ok (.goto 4, 3) := by decide +kernel
theorem dX12_down_17 : decode cX12_down 17 = .ok (.iload_n 2, 1) := by decide +kernel
theorem dX12_down_18 : decode cX12_down 18 = .ok (.ireturn, 1) := by decide +kernel
theorem dX12_peakOf_0 : decode cX12_peakOf 0 = .ok (.iconst 2, 1) := by decide +kernel
theorem dX12_peakOf_1 : decode cX12_peakOf 1 = .ok (.istore_n 2, 1) := by decide +kernel
theorem dX12_peakOf_2 : decode cX12_peakOf 2 = .ok (.bipush 8, 2) := by decide +kernel
theorem dX12_peakOf_4 : decode cX12_peakOf 4 = .ok (.iload_n 1, 1) := by decide +kernel
theorem dX12_peakOf_5 : decode cX12_peakOf 5 = .ok (.imul, 1) := by decide +kernel
theorem dX12_peakOf_6 : decode cX12_peakOf 6 = .ok (.istore_n 3, 1) := by decide +kernel
theorem dX12_peakOf_7 : decode cX12_peakOf 7 = .ok (.iload_n 3, 1) := by decide +kernel
theorem dX12_peakOf_8 : decode cX12_peakOf 8 = .ok (.bipush 8, 2) := by decide +kernel
theorem dX12_peakOf_10 : decode cX12_peakOf 10 = .ok (.iload_n 1, 1) := by decide +kernel
theorem dX12_peakOf_11 : decode cX12_peakOf 11 = .ok (.imul, 1) := by decide +kernel
theorem dX12_peakOf_12 : decode cX12_peakOf 12 = .ok (.bipush 8, 2) := by decide +kernel
theorem dX12_peakOf_14 : decode cX12_peakOf 14 = .ok (.iadd, 1) := by decide +kernel
theorem dX12_peakOf_15 : decode cX12_peakOf 15 = .ok (.if_icmp .ge 27, 3) := by decide +kernel
theorem dX12_peakOf_18 : decode cX12_peakOf 18 = .ok (.iload_n 2, 1) := by decide +kernel
theorem dX12_peakOf_19 : decode cX12_peakOf 19 = .ok (.aload_n 0, 1) := by decide +kernel
theorem dX12_peakOf_20 : decode cX12_peakOf 20 = .ok (.getfield 98, 3) := by decide +kernel
theorem dX12_peakOf_23 : decode cX12_peakOf 23 = .ok (.iload_n 3, 1) := by decide +kernel
theorem dX12_peakOf_24 : decode cX12_peakOf 24 = .ok (.iaload, 1) := by decide +kernel
theorem dX12_peakOf_25 : decode cX12_peakOf 25 = .ok (.iconst (-1), 1) := by decide +kernel
theorem dX12_peakOf_26 : decode cX12_peakOf 26 = .ok (.if_icmp .ne 7, 3) := by decide +kernel
theorem dX12_peakOf_29 : decode cX12_peakOf 29 = .ok (.iconst 0, 1) := by decide +kernel
theorem dX12_peakOf_30 : decode cX12_peakOf 30 = .ok (.goto 4, 3) := by decide +kernel
theorem dX12_peakOf_33 : decode cX12_peakOf 33 = .ok (.iconst 1, 1) := by decide +kernel
theorem dX12_peakOf_34 : decode cX12_peakOf 34 = .ok (.iadd, 1) := by decide +kernel
theorem dX12_peakOf_35 : decode cX12_peakOf 35 = .ok (.istore_n 2, 1) := by decide +kernel
theorem dX12_peakOf_36 : decode cX12_peakOf 36 = .ok (.iinc 3 1, 3) := by decide +kernel
theorem dX12_peakOf_39 : decode cX12_peakOf 39 = .ok (.goto (-32), 3) := by decide +kernel
theorem dX12_peakOf_42 : decode cX12_peakOf 42 = .ok (.bipush 25, 2) := by decide +kernel
theorem dX12_peakOf_44 : decode cX12_peakOf 44 = .ok (.istore_n 3, 1) := by decide +kernel
theorem dX12_peakOf_45 : decode cX12_peakOf 45 = .ok (.iconst (-1), 1) := by decide +kernel
theorem dX12_peakOf_46 : decode cX12_peakOf 46 = .ok (.istore 4, 2) := by decide +kernel
theorem dX12_peakOf_48 : decode cX12_peakOf 48 = .ok (.iconst 0, 1) := by decide +kernel
theorem dX12_peakOf_49 : decode cX12_peakOf 49 = .ok (.istore 5, 2) := by decide +kernel
theorem dX12_peakOf_51 : decode cX12_peakOf 51 = .ok (.iload 5, 2) := by decide +kernel
theorem dX12_peakOf_53 : decode cX12_peakOf 53 = .ok (.bipush 12, 2) := by decide +kernel
theorem dX12_peakOf_55 : decode cX12_peakOf 55 = .ok (.if_icmp .ge 41, 3) := by decide +kernel
theorem dX12_peakOf_58 : decode cX12_peakOf 58 = .ok (.iload_n 3, 1) := by decide +kernel
theorem dX12_peakOf_59 : decode cX12_peakOf 59 = .ok (.aload_n 0, 1) := by decide +kernel
theorem dX12_peakOf_60 : decode cX12_peakOf 60 = .ok (.getfield 77, 3) := by decide +kernel
theorem dX12_peakOf_63 : decode cX12_peakOf 63 = .ok (.iload 5, 2) := by decide +kernel
theorem dX12_peakOf_65 : decode cX12_peakOf 65 = .ok (.iconst 3, 1) := by decide +kernel
theorem dX12_peakOf_66 : decode cX12_peakOf 66 = .ok (.idiv, 1) := by decide +kernel
theorem dX12_peakOf_67 : decode cX12_peakOf 67 = .ok (.iaload, 1) := by decide +kernel
theorem dX12_peakOf_68 : decode cX12_peakOf 68 = .ok (.iload_n 3, 1) := by decide +kernel
theorem dX12_peakOf_69 : decode cX12_peakOf 69 = .ok (.isub, 1) := by decide +kernel
theorem dX12_peakOf_70 : decode cX12_peakOf 70 = .ok (.iload_n 2, 1) := by decide +kernel
theorem dX12_peakOf_71 : decode cX12_peakOf 71 = .ok (.invokestatic 228, 3) := by decide +kernel
theorem dX12_peakOf_74 : decode cX12_peakOf 74 = .ok (.iadd, 1) := by decide +kernel
theorem dX12_peakOf_75 : decode cX12_peakOf 75 = .ok (.istore_n 3, 1) := by decide +kernel
theorem dX12_peakOf_76 : decode cX12_peakOf 76 = .ok (.iload_n 3, 1) := by decide +kernel
theorem dX12_peakOf_77 : decode cX12_peakOf 77 = .ok (.iload 4, 2) := by decide +kernel
theorem dX12_peakOf_79 : decode cX12_peakOf 79 = .ok (.if_icmp .le 7, 3) := by decide +kernel
theorem dX12_peakOf_82 : decode cX12_peakOf 82 = .ok (.iload_n 3, 1) := by decide +kernel
theorem dX12_peakOf_83 : decode cX12_peakOf 83 = .ok (.goto 5, 3) := by decide +kernel
theorem dX12_peakOf_86 : decode cX12_peakOf 86 = .ok (.iload 4, 2) := by decide +kernel
theorem dX12_peakOf_88 : decode cX12_peakOf 88 = .ok (.istore 4, 2) := by decide +kernel
theorem dX12_peakOf_90 : decode cX12_peakOf 90 = .ok (.iinc 5 1, 3) := by decide +kernel
theorem dX12_peakOf_93 : decode cX12_peakOf 93 = .ok (.goto (-42), 3) := by decide +kernel
theorem dX12_peakOf_96 : decode cX12_peakOf 96 = .ok (.iload 4, 2) := by decide +kernel
theorem dX12_peakOf_98 : decode cX12_peakOf 98 = .ok (.ireturn, 1) := by decide +kernel
theorem dX12_solder_0 : decode cX12_solder 0 = .ok (.aload_n 0, 1) := by decide +kernel
theorem dX12_solder_1 : decode cX12_solder 1 = .ok (.aload_n 0, 1) := by decide +kernel
theorem dX12_solder_2 : decode cX12_solder 2 = .ok (.iload_n 1, 1) := by decide +kernel
theorem dX12_solder_3 : decode cX12_solder 3 = .ok (.invokevirtual 219, 3) := by decide +kernel
theorem dX12_solder_6 : decode cX12_solder 6 = .ok (.ifCond .ne 7, 3) := by decide +kernel
theorem dX12_solder_9 : decode cX12_solder 9 = .ok (.iconst 1, 1) := by decide +kernel
theorem dX12_solder_10 : decode cX12_solder 10 = .ok (.goto 17, 3) := by decide +kernel
theorem dX12_solder_13 : decode cX12_solder 13 = .ok (.aload_n 0, 1) := by decide +kernel
theorem dX12_solder_14 : decode cX12_solder 14 = .ok (.getfield 89, 3) := by decide +kernel
theorem dX12_solder_17 : decode cX12_solder 17 = .ok (.iload_n 1, 1) := by decide +kernel
theorem dX12_solder_18 : decode cX12_solder 18 = .ok (.baload, 1) := by decide +kernel
theorem dX12_solder_19 : decode cX12_solder 19 = .ok (.ifCond .eq 7, 3) := by decide +kernel
theorem dX12_solder_22 : decode cX12_solder 22 = .ok (.iconst 2, 1) := by decide +kernel
theorem dX12_solder_23 : decode cX12_solder 23 = .ok (.goto 4, 3) := by decide +kernel
theorem dX12_solder_26 : decode cX12_solder 26 = .ok (.iconst 0, 1) := by decide +kernel
theorem dX12_solder_27 : decode cX12_solder 27 = .ok (.invokevirtual 134, 3) := by decide +kernel
theorem dX12_solder_30 : decode cX12_solder 30 = .ok (.ifCond .eq 5, 3) := by decide +kernel
theorem dX12_solder_33 : decode cX12_solder 33 = .ok (.iconst 0, 1) := by decide +kernel
theorem dX12_solder_34 : decode cX12_solder 34 = .ok (.ireturn, 1) := by decide +kernel
theorem dX12_solder_35 : decode cX12_solder 35 = .ok (.aload_n 0, 1) := by decide +kernel
theorem dX12_solder_36 : decode cX12_solder 36 = .ok (.iload_n 1, 1) := by decide +kernel
theorem dX12_solder_37 : decode cX12_solder 37 = .ok (.invokevirtual 231, 3) := by decide +kernel
theorem dX12_solder_40 : decode cX12_solder 40 = .ok (.istore_n 2, 1) := by decide +kernel
theorem dX12_solder_41 : decode cX12_solder 41 = .ok (.aload_n 0, 1) := by decide +kernel
theorem dX12_solder_42 : decode cX12_solder 42 = .ok (.getfield 89, 3) := by decide +kernel
theorem dX12_solder_45 : decode cX12_solder 45 = .ok (.iload_n 1, 1) := by decide +kernel
theorem dX12_solder_46 : decode cX12_solder 46 = .ok (.iconst 1, 1) := by decide +kernel
theorem dX12_solder_47 : decode cX12_solder 47 = .ok (.bastore, 1) := by decide +kernel
theorem dX12_solder_48 : decode cX12_solder 48 = .ok (.bipush 8, 2) := by decide +kernel
theorem dX12_solder_50 : decode cX12_solder 50 = .ok (.iload_n 1, 1) := by decide +kernel
theorem dX12_solder_51 : decode cX12_solder 51 = .ok (.imul, 1) := by decide +kernel
theorem dX12_solder_52 : decode cX12_solder 52 = .ok (.istore_n 3, 1) := by decide +kernel
theorem dX12_solder_53 : decode cX12_solder 53 = .ok (.iload_n 3, 1) := by decide +kernel
theorem dX12_solder_54 : decode cX12_solder 54 = .ok (.bipush 8, 2) := by decide +kernel
theorem dX12_solder_56 : decode cX12_solder 56 = .ok (.iload_n 1, 1) := by decide +kernel
theorem dX12_solder_57 : decode cX12_solder 57 = .ok (.imul, 1) := by decide +kernel
theorem dX12_solder_58 : decode cX12_solder 58 = .ok (.bipush 8, 2) := by decide +kernel
theorem dX12_solder_60 : decode cX12_solder 60 = .ok (.iadd, 1) := by decide +kernel
theorem dX12_solder_61 : decode cX12_solder 61 = .ok (.if_icmp .ge 81, 3) := by decide +kernel
theorem dX12_solder_64 : decode cX12_solder 64 = .ok (.aload_n 0, 1) := by decide +kernel
theorem dX12_solder_65 : decode cX12_solder 65 = .ok (.getfield 98, 3) := by decide +kernel
theorem dX12_solder_68 : decode cX12_solder 68 = .ok (.iload_n 3, 1) := by decide +kernel
theorem dX12_solder_69 : decode cX12_solder 69 = .ok (.iaload, 1) := by decide +kernel
theorem dX12_solder_70 : decode cX12_solder 70 = .ok (.iconst (-1), 1) := by decide +kernel
theorem dX12_solder_71 : decode cX12_solder 71 = .ok (.if_icmp .eq 65, 3) := by decide +kernel
theorem dX12_solder_74 : decode cX12_solder 74 = .ok (.aload_n 0, 1) := by decide +kernel
theorem dX12_solder_75 : decode cX12_solder 75 = .ok (.getfield 65, 3) := by decide +kernel
theorem dX12_solder_78 : decode cX12_solder 78 = .ok (.aload_n 0, 1) := by decide +kernel
theorem dX12_solder_79 : decode cX12_solder 79 = .ok (.getfield 98, 3) := by decide +kernel
theorem dX12_solder_82 : decode cX12_solder 82 = .ok (.iload_n 3, 1) := by decide +kernel
theorem dX12_solder_83 : decode cX12_solder 83 = .ok (.iaload, 1) := by decide +kernel
theorem dX12_solder_84 : decode cX12_solder 84 = .ok (.iaload, 1) := by decide +kernel
theorem dX12_solder_85 : decode cX12_solder 85 = .ok (.istore 4, 2) := by decide +kernel
theorem dX12_solder_87 : decode cX12_solder 87 = .ok (.aload_n 0, 1) := by decide +kernel
theorem dX12_solder_88 : decode cX12_solder 88 = .ok (.getfield 104, 3) := by decide +kernel
theorem dX12_solder_91 : decode cX12_solder 91 = .ok (.iload_n 3, 1) := by decide +kernel
theorem dX12_solder_92 : decode cX12_solder 92 = .ok (.aload_n 0, 1) := by decide +kernel
theorem dX12_solder_93 : decode cX12_solder 93 = .ok (.getfield 80, 3) := by decide +kernel
theorem dX12_solder_96 : decode cX12_solder 96 = .ok (.iload 4, 2) := by decide +kernel
theorem dX12_solder_98 : decode cX12_solder 98 = .ok (.iaload, 1) := by decide +kernel
theorem dX12_solder_99 : decode cX12_solder 99 = .ok (.iload_n 2, 1) := by decide +kernel
theorem dX12_solder_100 : decode cX12_solder 100 = .ok (.if_icmp .le 7, 3) := by decide +kernel
theorem dX12_solder_103 : decode cX12_solder 103 = .ok (.iconst 1, 1) := by decide +kernel
theorem dX12_solder_104 : decode cX12_solder 104 = .ok (.goto 19, 3) := by decide +kernel
theorem dX12_solder_107 : decode cX12_solder 107 = .ok (.aload_n 0, 1) := by decide +kernel
theorem dX12_solder_108 : decode cX12_solder 108 = .ok (.getfield 83, 3) := by decide +kernel
theorem dX12_solder_111 : decode cX12_solder 111 = .ok (.iload 4, 2) := by decide +kernel
theorem dX12_solder_113 : decode cX12_solder 113 = .ok (.iaload, 1) := by decide +kernel
theorem dX12_solder_114 : decode cX12_solder 114 = .ok (.iload_n 2, 1) := by decide +kernel
theorem dX12_solder_115 : decode cX12_solder 115 = .ok (.if_icmp .ge 7, 3) := by decide +kernel
theorem dX12_solder_118 : decode cX12_solder 118 = .ok (.iconst 2, 1) := by decide +kernel
theorem dX12_solder_119 : decode cX12_solder 119 = .ok (.goto 4, 3) := by decide +kernel
theorem dX12_solder_122 : decode cX12_solder 122 = .ok (.iconst 0, 1) := by decide +kernel
theorem dX12_solder_123 : decode cX12_solder 123 = .ok (.iastore, 1) := by decide +kernel
theorem dX12_solder_124 : decode cX12_solder 124 = .ok (.aload_n 0, 1) := by decide +kernel
theorem dX12_solder_125 : decode cX12_solder 125 = .ok (.getfield 107, 3) := by decide +kernel
theorem dX12_solder_128 : decode cX12_solder 128 = .ok (.iload_n 3, 1) := by decide +kernel
theorem dX12_solder_129 : decode cX12_solder 129 = .ok (.aload_n 0, 1) := by decide +kernel
theorem dX12_solder_130 : decode cX12_solder 130 = .ok (.getfield 104, 3) := by decide +kernel
theorem dX12_solder_133 : decode cX12_solder 133 = .ok (.iload_n 3, 1) := by decide +kernel
theorem dX12_solder_134 : decode cX12_solder 134 = .ok (.iaload, 1) := by decide +kernel
theorem dX12_solder_135 : decode cX12_solder 135 = .ok (.iastore, 1) := by decide +kernel
theorem dX12_solder_136 : decode cX12_solder 136 = .ok (.iinc 3 1, 3) := by decide +kernel
theorem dX12_solder_139 : decode cX12_solder 139 = .ok (.goto (-86), 3) := by decide +kernel
theorem dX12_solder_142 : decode cX12_solder 142 = .ok (.iload_n 2, 1) := by decide +kernel
theorem dX12_solder_143 : decode cX12_solder 143 = .ok (.ireturn, 1) := by decide +kernel
theorem dX11_flaw_0 : decode cX11_flaw 0 = .ok (.aload_n 0, 1) := by decide +kernel
theorem dX11_flaw_1 : decode cX11_flaw 1 = .ok (.iload_n 1, 1) := by decide +kernel
theorem dX11_flaw_2 : decode cX11_flaw 2 = .ok (.invokevirtual 207, 3) := by decide +kernel
theorem dX11_flaw_5 : decode cX11_flaw 5 = .ok (.astore_n 3, 1) := by decide +kernel
theorem dX11_flaw_6 : decode cX11_flaw 6 = .ok (.aload_n 3, 1) := by decide +kernel
theorem dX11_flaw_7 : decode cX11_flaw 7 = .ok (.iload_n 2, 1) := by decide +kernel
theorem dX11_flaw_8 : decode cX11_flaw 8 = .ok (.invokevirtual 211, 3) := by decide +kernel
theorem dX11_flaw_11 : decode cX11_flaw 11 = .ok (.astore 4, 2) := by decide +kernel
theorem dX11_flaw_13 : decode cX11_flaw 13 = .ok (.aload_n 3, 1) := by decide +kernel
theorem dX11_flaw_14 : decode cX11_flaw 14 = .ok (.getfield 215, 3) := by decide +kernel
theorem dX11_flaw_17 : decode cX11_flaw 17 = .ok (.ifCond .eq 22, 3) := by decide +kernel
theorem dX11_flaw_20 : decode cX11_flaw 20 = .ok (.aload_n 3, 1) := by decide +kernel
theorem dX11_flaw_21 : decode cX11_flaw 21 = .ok (.getfield 251, 3) := by decide +kernel
theorem dX11_flaw_24 : decode cX11_flaw 24 = .ok (.ifCond .ne 15, 3) := by decide +kernel
theorem dX11_flaw_27 : decode cX11_flaw 27 = .ok (.aload 4, 2) := by decide +kernel
theorem dX11_flaw_29 : decode cX11_flaw 29 = .ok (.invokevirtual 218, 3) := by decide +kernel
theorem dX11_flaw_32 : decode cX11_flaw 32 = .ok (.ifCond .eq 7, 3) := by decide +kernel
theorem dX11_flaw_35 : decode cX11_flaw 35 = .ok (.iconst 1, 1) := by decide +kernel
theorem dX11_flaw_36 : decode cX11_flaw 36 = .ok (.goto 4, 3) := by decide +kernel
theorem dX11_flaw_39 : decode cX11_flaw 39 = .ok (.iconst 0, 1) := by decide +kernel
theorem dX11_flaw_40 : decode cX11_flaw 40 = .ok (.invokestatic 76, 3) := by decide +kernel
theorem dX11_flaw_43 : decode cX11_flaw 43 = .ok (.aload 4, 2) := by decide +kernel
theorem dX11_flaw_45 : decode cX11_flaw 45 = .ok (.iconst 3, 1) := by decide +kernel
theorem dX11_flaw_46 : decode cX11_flaw 46 = .ok (.putfield 254, 3) := by decide +kernel
theorem dX11_flaw_49 : decode cX11_flaw 49 = .ok (.aload 4, 2) := by decide +kernel
theorem dX11_flaw_51 : decode cX11_flaw 51 = .ok (.iconst 0, 1) := by decide +kernel
theorem dX11_flaw_52 : decode cX11_flaw 52 = .ok (.putfield 257, 3) := by decide +kernel
theorem dX11_flaw_55 : decode cX11_flaw 55 = .ok (.return_, 1) := by decide +kernel
theorem dL_flaw_0 : decode cL_flaw 0 = .ok (.aload_n 0, 1) := by decide +kernel
theorem dL_flaw_1 : decode cL_flaw 1 = .ok (.iload_n 1, 1) := by decide +kernel
theorem dL_flaw_2 : decode cL_flaw 2 = .ok (.iload_n 2, 1) := by decide +kernel
theorem dL_flaw_3 : decode cL_flaw 3 = .ok (.invokevirtual 81, 3) := by decide +kernel
theorem dL_flaw_6 : decode cL_flaw 6 = .ok (.goto 9, 3) := by decide +kernel
theorem dL_flaw_9 : decode cL_flaw 9 = .ok (.astore_n 3, 1) := by decide +kernel
theorem dL_flaw_10 : decode cL_flaw 10 = .ok (.iconst 1, 1) := by decide +kernel
theorem dL_flaw_11 : decode cL_flaw 11 = .ok (.ireturn, 1) := by decide +kernel
theorem dL_flaw_12 : decode cL_flaw 12 = .ok (.astore_n 3, 1) := by decide +kernel
theorem dL_flaw_13 : decode cL_flaw 13 = .ok (.iconst 2, 1) := by decide +kernel
theorem dL_flaw_14 : decode cL_flaw 14 = .ok (.ireturn, 1) := by decide +kernel
theorem dL_flaw_15 : decode cL_flaw 15 = .ok (.iconst 0, 1) := by decide +kernel
theorem dL_flaw_16 : decode cL_flaw 16 = .ok (.ireturn, 1) := by decide +kernel
theorem dX12_flaw_0 : decode cX12_flaw 0 = .ok (.aload_n 0, 1) := by decide +kernel
theorem dX12_flaw_1 : decode cX12_flaw 1 = .ok (.iload_n 1, 1) := by decide +kernel
theorem dX12_flaw_2 : decode cX12_flaw 2 = .ok (.invokevirtual 219, 3) := by decide +kernel
theorem dX12_flaw_5 : decode cX12_flaw 5 = .ok (.ifCond .eq 14, 3) := by decide +kernel
theorem dX12_flaw_8 : decode cX12_flaw 8 = .ok (.iload_n 2, 1) := by decide +kernel
theorem dX12_flaw_9 : decode cX12_flaw 9 = .ok (.invokestatic 222, 3) := by decide +kernel
theorem dX12_flaw_12 : decode cX12_flaw 12 = .ok (.ifCond .eq 7, 3) := by decide +kernel
theorem dX12_flaw_15 : decode cX12_flaw 15 = .ok (.iconst 1, 1) := by decide +kernel
theorem dX12_flaw_16 : decode cX12_flaw 16 = .ok (.goto 4, 3) := by decide +kernel
theorem dX12_flaw_19 : decode cX12_flaw 19 = .ok (.iconst 0, 1) := by decide +kernel
theorem dX12_flaw_20 : decode cX12_flaw 20 = .ok (.istore_n 3, 1) := by decide +kernel
theorem dX12_flaw_21 : decode cX12_flaw 21 = .ok (.aload_n 0, 1) := by decide +kernel
theorem dX12_flaw_22 : decode cX12_flaw 22 = .ok (.iload_n 3, 1) := by decide +kernel
theorem dX12_flaw_23 : decode cX12_flaw 23 = .ok (.ifCond .ne 7, 3) := by decide +kernel
theorem dX12_flaw_26 : decode cX12_flaw 26 = .ok (.iconst 1, 1) := by decide +kernel
theorem dX12_flaw_27 : decode cX12_flaw 27 = .ok (.goto 41, 3) := by decide +kernel
theorem dX12_flaw_30 : decode cX12_flaw 30 = .ok (.aload_n 0, 1) := by decide +kernel
theorem dX12_flaw_31 : decode cX12_flaw 31 = .ok (.getfield 89, 3) := by decide +kernel
theorem dX12_flaw_34 : decode cX12_flaw 34 = .ok (.iload_n 1, 1) := by decide +kernel
theorem dX12_flaw_35 : decode cX12_flaw 35 = .ok (.baload, 1) := by decide +kernel
theorem dX12_flaw_36 : decode cX12_flaw 36 = .ok (.ifCond .eq 27, 3) := by decide +kernel
theorem dX12_flaw_39 : decode cX12_flaw 39 = .ok (.aload_n 0, 1) := by decide +kernel
theorem dX12_flaw_40 : decode cX12_flaw 40 = .ok (.getfield 95, 3) := by decide +kernel
theorem dX12_flaw_43 : decode cX12_flaw 43 = .ok (.iload_n 1, 1) := by decide +kernel
theorem dX12_flaw_44 : decode cX12_flaw 44 = .ok (.baload, 1) := by decide +kernel
theorem dX12_flaw_45 : decode cX12_flaw 45 = .ok (.ifCond .ne 18, 3) := by decide +kernel
theorem dX12_flaw_48 : decode cX12_flaw 48 = .ok (.aload_n 0, 1) := by decide +kernel
theorem dX12_flaw_49 : decode cX12_flaw 49 = .ok (.getfield 98, 3) := by decide +kernel
theorem dX12_flaw_52 : decode cX12_flaw 52 = .ok (.bipush 8, 2) := by decide +kernel
theorem dX12_flaw_54 : decode cX12_flaw 54 = .ok (.iload_n 1, 1) := by decide +kernel
theorem dX12_flaw_55 : decode cX12_flaw 55 = .ok (.imul, 1) := by decide +kernel
theorem dX12_flaw_56 : decode cX12_flaw 56 = .ok (.iload_n 2, 1) := by decide +kernel
theorem dX12_flaw_57 : decode cX12_flaw 57 = .ok (.iadd, 1) := by decide +kernel
theorem dX12_flaw_58 : decode cX12_flaw 58 = .ok (.iaload, 1) := by decide +kernel
theorem dX12_flaw_59 : decode cX12_flaw 59 = .ok (.iconst (-1), 1) := by decide +kernel
theorem dX12_flaw_60 : decode cX12_flaw 60 = .ok (.if_icmp .ne 7, 3) := by decide +kernel
theorem dX12_flaw_63 : decode cX12_flaw 63 = .ok (.iconst 2, 1) := by decide +kernel
theorem dX12_flaw_64 : decode cX12_flaw 64 = .ok (.goto 4, 3) := by decide +kernel
theorem dX12_flaw_67 : decode cX12_flaw 67 = .ok (.iconst 0, 1) := by decide +kernel
theorem dX12_flaw_68 : decode cX12_flaw 68 = .ok (.invokevirtual 134, 3) := by decide +kernel
theorem dX12_flaw_71 : decode cX12_flaw 71 = .ok (.ifCond .ne 27, 3) := by decide +kernel
theorem dX12_flaw_74 : decode cX12_flaw 74 = .ok (.aload_n 0, 1) := by decide +kernel
theorem dX12_flaw_75 : decode cX12_flaw 75 = .ok (.getfield 107, 3) := by decide +kernel
theorem dX12_flaw_78 : decode cX12_flaw 78 = .ok (.bipush 8, 2) := by decide +kernel
theorem dX12_flaw_80 : decode cX12_flaw 80 = .ok (.iload_n 1, 1) := by decide +kernel
theorem dX12_flaw_81 : decode cX12_flaw 81 = .ok (.imul, 1) := by decide +kernel
theorem dX12_flaw_82 : decode cX12_flaw 82 = .ok (.iload_n 2, 1) := by decide +kernel
theorem dX12_flaw_83 : decode cX12_flaw 83 = .ok (.iadd, 1) := by decide +kernel
theorem dX12_flaw_84 : decode cX12_flaw 84 = .ok (.iconst 3, 1) := by decide +kernel
theorem dX12_flaw_85 : decode cX12_flaw 85 = .ok (.iastore, 1) := by decide +kernel
theorem dX12_flaw_86 : decode cX12_flaw 86 = .ok (.aload_n 0, 1) := by decide +kernel
theorem dX12_flaw_87 : decode cX12_flaw 87 = .ok (.getfield 110, 3) := by decide +kernel
theorem dX12_flaw_90 : decode cX12_flaw 90 = .ok (.bipush 8, 2) := by decide +kernel
theorem dX12_flaw_92 : decode cX12_flaw 92 = .ok (.iload_n 1, 1) := by decide +kernel
theorem dX12_flaw_93 : decode cX12_flaw 93 = .ok (.imul, 1) := by decide +kernel
theorem dX12_flaw_94 : decode cX12_flaw 94 = .ok (.iload_n 2, 1) := by decide +kernel
theorem dX12_flaw_95 : decode cX12_flaw 95 = .ok (.iadd, 1) := by decide +kernel
theorem dX12_flaw_96 : decode cX12_flaw 96 = .ok (.iconst 0, 1) := by decide +kernel
theorem dX12_flaw_97 : decode cX12_flaw 97 = .ok (.bastore, 1) := by decide +kernel
theorem dX12_flaw_98 : decode cX12_flaw 98 = .ok (.return_, 1) := by decide +kernel
theorem dJ6_bitCount_0f7a4_0 : decode cJ6_bitCount_0f7a4 0 = .ok (.iload_n 0, 1) := by decide +kernel
theorem dJ6_bitCount_0f7a4_1 : decode cJ6_bitCount_0f7a4 1 = .ok (.iload_n 0, 1) := by decide +kernel
theorem dJ6_bitCount_0f7a4_2 : decode cJ6_bitCount_0f7a4 2 = .ok (.iconst 1, 1) := by decide +kernel
theorem dJ6_bitCount_0f7a4_3 : decode cJ6_bitCount_0f7a4 3 = .ok (.iushr, 1) := by decide +kernel
theorem dJ6_bitCount_0f7a4_4 : decode cJ6_bitCount_0f7a4 4 = .ok (.ldc_w 265, 3) := by decide +kernel
theorem dJ6_bitCount_0f7a4_7 : decode cJ6_bitCount_0f7a4 7 = .ok (.iand, 1) := by decide +kernel
theorem dJ6_bitCount_0f7a4_8 : decode cJ6_bitCount_0f7a4 8 = .ok (.isub, 1) := by decide +kernel
theorem dJ6_bitCount_0f7a4_9 : decode cJ6_bitCount_0f7a4 9 = .ok (.istore_n 0, 1) := by decide +kernel
theorem dJ6_bitCount_0f7a4_10 : decode cJ6_bitCount_0f7a4 10 = .ok (.iload_n 0, 1) := by decide +kernel
theorem dJ6_bitCount_0f7a4_11 : decode cJ6_bitCount_0f7a4 11 = .ok (.ldc_w 266, 3) := by decide +kernel
theorem dJ6_bitCount_0f7a4_14 : decode cJ6_bitCount_0f7a4 14 = .ok (.iand, 1) := by decide +kernel
theorem dJ6_bitCount_0f7a4_15 : decode cJ6_bitCount_0f7a4 15 = .ok (.iload_n 0, 1) := by decide +kernel
theorem dJ6_bitCount_0f7a4_16 : decode cJ6_bitCount_0f7a4 16 = .ok (.iconst 2, 1) := by decide +kernel
theorem dJ6_bitCount_0f7a4_17 : decode cJ6_bitCount_0f7a4 17 = .ok (.iushr, 1) := by decide +kernel
theorem dJ6_bitCount_0f7a4_18 : decode cJ6_bitCount_0f7a4 18 = .ok (.ldc_w 266, 3) := by decide +kernel
theorem dJ6_bitCount_0f7a4_21 : decode cJ6_bitCount_0f7a4 21 = .ok (.iand, 1) := by decide +kernel
theorem dJ6_bitCount_0f7a4_22 : decode cJ6_bitCount_0f7a4 22 = .ok (.iadd, 1) := by decide +kernel
theorem dJ6_bitCount_0f7a4_23 : decode cJ6_bitCount_0f7a4 23 = .ok (.istore_n 0, 1) := by decide +kernel
theorem dJ6_bitCount_0f7a4_24 : decode cJ6_bitCount_0f7a4 24 = .ok (.iload_n 0, 1) := by decide +kernel
theorem dJ6_bitCount_0f7a4_25 : decode cJ6_bitCount_0f7a4 25 = .ok (.iload_n 0, 1) := by decide +kernel
theorem dJ6_bitCount_0f7a4_26 : decode cJ6_bitCount_0f7a4 26 = .ok (.iconst 4, 1) := by decide +kernel
theorem dJ6_bitCount_0f7a4_27 : decode cJ6_bitCount_0f7a4 27 = .ok (.iushr, 1) := by decide +kernel
theorem dJ6_bitCount_0f7a4_28 : decode cJ6_bitCount_0f7a4 28 = .ok (.iadd, 1) := by decide +kernel
theorem dJ6_bitCount_0f7a4_29 : decode cJ6_bitCount_0f7a4 29 = .ok (.ldc_w 267, 3) := by decide +kernel
theorem dJ6_bitCount_0f7a4_32 : decode cJ6_bitCount_0f7a4 32 = .ok (.iand, 1) := by decide +kernel
theorem dJ6_bitCount_0f7a4_33 : decode cJ6_bitCount_0f7a4 33 = .ok (.istore_n 0, 1) := by decide +kernel
theorem dJ6_bitCount_0f7a4_34 : decode cJ6_bitCount_0f7a4 34 = .ok (.iload_n 0, 1) := by decide +kernel
theorem dJ6_bitCount_0f7a4_35 : decode cJ6_bitCount_0f7a4 35 = .ok (.iload_n 0, 1) := by decide +kernel
theorem dJ6_bitCount_0f7a4_36 : decode cJ6_bitCount_0f7a4 36 = .ok (.bipush 8, 2) := by decide +kernel
theorem dJ6_bitCount_0f7a4_38 : decode cJ6_bitCount_0f7a4 38 = .ok (.iushr, 1) := by decide +kernel
theorem dJ6_bitCount_0f7a4_39 : decode cJ6_bitCount_0f7a4 39 = .ok (.iadd, 1) := by decide +kernel
theorem dJ6_bitCount_0f7a4_40 : decode cJ6_bitCount_0f7a4 40 = .ok (.istore_n 0, 1) := by decide +kernel
theorem dJ6_bitCount_0f7a4_41 : decode cJ6_bitCount_0f7a4 41 = .ok (.iload_n 0, 1) := by decide +kernel
theorem dJ6_bitCount_0f7a4_42 : decode cJ6_bitCount_0f7a4 42 = .ok (.iload_n 0, 1) := by decide +kernel
theorem dJ6_bitCount_0f7a4_43 : decode cJ6_bitCount_0f7a4 43 = .ok (.bipush 16, 2) := by decide +kernel
theorem dJ6_bitCount_0f7a4_45 : decode cJ6_bitCount_0f7a4 45 = .ok (.iushr, 1) := by decide +kernel
theorem dJ6_bitCount_0f7a4_46 : decode cJ6_bitCount_0f7a4 46 = .ok (.iadd, 1) := by decide +kernel
theorem dJ6_bitCount_0f7a4_47 : decode cJ6_bitCount_0f7a4 47 = .ok (.istore_n 0, 1) := by decide +kernel
theorem dJ6_bitCount_0f7a4_48 : decode cJ6_bitCount_0f7a4 48 = .ok (.iload_n 0, 1) := by decide +kernel
theorem dJ6_bitCount_0f7a4_49 : decode cJ6_bitCount_0f7a4 49 = .ok (.bipush 63, 2) := by decide +kernel
theorem dJ6_bitCount_0f7a4_51 : decode cJ6_bitCount_0f7a4 51 = .ok (.iand, 1) := by decide +kernel
theorem dJ6_bitCount_0f7a4_52 : decode cJ6_bitCount_0f7a4 52 = .ok (.ireturn, 1) := by decide +kernel
theorem dX11_cover_0 : decode cX11_cover 0 = .ok (.iload_n 1, 1) := by decide +kernel
theorem dX11_cover_1 : decode cX11_cover 1 = .ok (.bipush 8, 2) := by decide +kernel
theorem dX11_cover_3 : decode cX11_cover 3 = .ok (.invokestatic 54, 3) := by decide +kernel
theorem dX11_cover_6 : decode cX11_cover 6 = .ok (.invokestatic 58, 3) := by decide +kernel
theorem dX11_cover_9 : decode cX11_cover 9 = .ok (.aload_n 0, 1) := by decide +kernel
theorem dX11_cover_10 : decode cX11_cover 10 = .ok (.iload_n 2, 1) := by decide +kernel
theorem dX11_cover_11 : decode cX11_cover 11 = .ok (.ifCond .eq 14, 3) := by decide +kernel
theorem dX11_cover_14 : decode cX11_cover 14 = .ok (.aload_n 0, 1) := by decide +kernel
theorem dX11_cover_15 : decode cX11_cover 15 = .ok (.getfield 47, 3) := by decide +kernel
theorem dX11_cover_18 : decode cX11_cover 18 = .ok (.iconst 1, 1) := by decide +kernel
theorem dX11_cover_19 : decode cX11_cover 19 = .ok (.iload_n 1, 1) := by decide +kernel
theorem dX11_cover_20 : decode cX11_cover 20 = .ok (.ishl, 1) := by decide +kernel
theorem dX11_cover_21 : decode cX11_cover 21 = .ok (.ior, 1) := by decide +kernel
theorem dX11_cover_22 : decode cX11_cover 22 = .ok (.goto 13, 3) := by decide +kernel
theorem dX11_cover_25 : decode cX11_cover 25 = .ok (.aload_n 0, 1) := by decide +kernel
theorem dX11_cover_26 : decode cX11_cover 26 = .ok (.getfield 47, 3) := by decide +kernel
theorem dX11_cover_29 : decode cX11_cover 29 = .ok (.iconst 1, 1) := by decide +kernel
theorem dX11_cover_30 : decode cX11_cover 30 = .ok (.iload_n 1, 1) := by decide +kernel
theorem dX11_cover_31 : decode cX11_cover 31 = .ok (.ishl, 1) := by decide +kernel
theorem dX11_cover_32 : decode cX11_cover 32 = .ok (.iconst (-1), 1) := by decide +kernel
theorem dX11_cover_33 : decode cX11_cover 33 = .ok (.ixor, 1) := by decide +kernel
theorem dX11_cover_34 : decode cX11_cover 34 = .ok (.iand, 1) := by decide +kernel
theorem dX11_cover_35 : decode cX11_cover 35 = .ok (.putfield 47, 3) := by decide +kernel
theorem dX11_cover_38 : decode cX11_cover 38 = .ok (.aload_n 0, 1) := by decide +kernel
theorem dX11_cover_39 : decode cX11_cover 39 = .ok (.getfield 47, 3) := by decide +kernel
theorem dX11_cover_42 : decode cX11_cover 42 = .ok (.invokestatic 260, 3) := by decide +kernel
theorem dX11_cover_45 : decode cX11_cover 45 = .ok (.ireturn, 1) := by decide +kernel
theorem dL_cover_0 : decode cL_cover 0 = .ok (.aload_n 3, 1) := by decide +kernel
theorem dL_cover_1 : decode cL_cover 1 = .ok (.iconst 0, 1) := by decide +kernel
theorem dL_cover_2 : decode cL_cover 2 = .ok (.aload_n 0, 1) := by decide +kernel
theorem dL_cover_3 : decode cL_cover 3 = .ok (.iload_n 1, 1) := by decide +kernel
theorem dL_cover_4 : decode cL_cover 4 = .ok (.iload_n 2, 1) := by decide +kernel
theorem dL_cover_5 : decode cL_cover 5 = .ok (.invokevirtual 85, 3) := by decide +kernel
theorem dL_cover_8 : decode cL_cover 8 = .ok (.i2l, 1) := by decide +kernel
theorem dL_cover_9 : decode cL_cover 9 = .ok (.lastore, 1) := by decide +kernel
theorem dL_cover_10 : decode cL_cover 10 = .ok (.goto 7, 3) := by decide +kernel
theorem dL_cover_13 : decode cL_cover 13 = .ok (.astore 4, 2) := by decide +kernel
theorem dL_cover_15 : decode cL_cover 15 = .ok (.iconst 1, 1) := by decide +kernel
theorem dL_cover_16 : decode cL_cover 16 = .ok (.ireturn, 1) := by decide +kernel
theorem dL_cover_17 : decode cL_cover 17 = .ok (.iconst 0, 1) := by decide +kernel
theorem dL_cover_18 : decode cL_cover 18 = .ok (.ireturn, 1) := by decide +kernel
theorem dX12_cover_0 : decode cX12_cover 0 = .ok (.aload_n 0, 1) := by decide +kernel
theorem dX12_cover_1 : decode cX12_cover 1 = .ok (.iload_n 1, 1) := by decide +kernel
theorem dX12_cover_2 : decode cX12_cover 2 = .ok (.invokestatic 222, 3) := by decide +kernel
theorem dX12_cover_5 : decode cX12_cover 5 = .ok (.ifCond .eq 7, 3) := by decide +kernel
theorem dX12_cover_8 : decode cX12_cover 8 = .ok (.iconst 0, 1) := by decide +kernel
theorem dX12_cover_9 : decode cX12_cover 9 = .ok (.goto 4, 3) := by decide +kernel
theorem dX12_cover_12 : decode cX12_cover 12 = .ok (.iconst 1, 1) := by decide +kernel
theorem dX12_cover_13 : decode cX12_cover 13 = .ok (.invokevirtual 134, 3) := by decide +kernel
theorem dX12_cover_16 : decode cX12_cover 16 = .ok (.ifCond .eq 5, 3) := by decide +kernel
theorem dX12_cover_19 : decode cX12_cover 19 = .ok (.iconst 0, 1) := by decide +kernel
theorem dX12_cover_20 : decode cX12_cover 20 = .ok (.ireturn, 1) := by decide +kernel
theorem dX12_cover_21 : decode cX12_cover 21 = .ok (.aload_n 0, 1) := by decide +kernel
theorem dX12_cover_22 : decode cX12_cover 22 = .ok (.getfield 86, 3) := by decide +kernel
theorem dX12_cover_25 : decode cX12_cover 25 = .ok (.iload_n 1, 1) := by decide +kernel
theorem dX12_cover_26 : decode cX12_cover 26 = .ok (.iload_n 2, 1) := by decide +kernel
theorem dX12_cover_27 : decode cX12_cover 27 = .ok (.bastore, 1) := by decide +kernel
theorem dX12_cover_28 : decode cX12_cover 28 = .ok (.iconst 0, 1) := by decide +kernel
theorem dX12_cover_29 : decode cX12_cover 29 = .ok (.istore_n 3, 1) := by decide +kernel
theorem dX12_cover_30 : decode cX12_cover 30 = .ok (.iconst 0, 1) := by decide +kernel
theorem dX12_cover_31 : decode cX12_cover 31 = .ok (.istore 4, 2) := by decide +kernel
theorem dX12_cover_33 : decode cX12_cover 33 = .ok (.iload 4, 2) := by decide +kernel
theorem dX12_cover_35 : decode cX12_cover 35 = .ok (.bipush 8, 2) := by decide +kernel
theorem dX12_cover_37 : decode cX12_cover 37 = .ok (.if_icmp .ge 27, 3) := by decide +kernel
theorem dX12_cover_40 : decode cX12_cover 40 = .ok (.iload_n 3, 1) := by decide +kernel
theorem dX12_cover_41 : decode cX12_cover 41 = .ok (.aload_n 0, 1) := by decide +kernel
theorem dX12_cover_42 : decode cX12_cover 42 = .ok (.getfield 86, 3) := by decide +kernel
theorem dX12_cover_45 : decode cX12_cover 45 = .ok (.iload 4, 2) := by decide +kernel
theorem dX12_cover_47 : decode cX12_cover 47 = .ok (.baload, 1) := by decide +kernel
theorem dX12_cover_48 : decode cX12_cover 48 = .ok (.ifCond .eq 7, 3) := by decide +kernel
theorem dX12_cover_51 : decode cX12_cover 51 = .ok (.iconst 1, 1) := by decide +kernel
theorem dX12_cover_52 : decode cX12_cover 52 = .ok (.goto 4, 3) := by decide +kernel
theorem dX12_cover_55 : decode cX12_cover 55 = .ok (.iconst 0, 1) := by decide +kernel
theorem dX12_cover_56 : decode cX12_cover 56 = .ok (.iadd, 1) := by decide +kernel
theorem dX12_cover_57 : decode cX12_cover 57 = .ok (.istore_n 3, 1) := by decide +kernel
theorem dX12_cover_58 : decode cX12_cover 58 = .ok (.iinc 4 1, 3) := by decide +kernel
theorem dX12_cover_61 : decode cX12_cover 61 = .ok (.goto (-28), 3) := by decide +kernel
theorem dX12_cover_64 : decode cX12_cover 64 = .ok (.iload_n 3, 1) := by decide +kernel
theorem dX12_cover_65 : decode cX12_cover 65 = .ok (.ireturn, 1) := by decide +kernel
theorem dX0_findFaults_0 : decode cX0_findFaults 0 = .ok (.aload_n 0, 1) := by decide +kernel
theorem dX0_findFaults_1 : decode cX0_findFaults 1 = .ok (.iconst 1, 1) := by decide +kernel
theorem dX0_findFaults_2 : decode cX0_findFaults 2 = .ok (.putfield 78, 3) := by decide +kernel
theorem dX0_findFaults_5 : decode cX0_findFaults 5 = .ok (.iconst 0, 1) := by decide +kernel
theorem dX0_findFaults_6 : decode cX0_findFaults 6 = .ok (.istore_n 2, 1) := by decide +kernel
theorem dX0_findFaults_7 : decode cX0_findFaults 7 = .ok (.iload_n 2, 1) := by decide +kernel
theorem dX0_findFaults_8 : decode cX0_findFaults 8 = .ok (.aload_n 0, 1) := by decide +kernel
theorem dX0_findFaults_9 : decode cX0_findFaults 9 = .ok (.getfield 12, 3) := by decide +kernel
theorem dX0_findFaults_12 : decode cX0_findFaults 12 = .ok (.invokevirtual 34, 3) := by decide +kernel
theorem dX0_findFaults_15 : decode cX0_findFaults 15 = .ok (.if_icmp .ge 41, 3) := by decide +kernel
theorem dX0_findFaults_18 : decode cX0_findFaults 18 = .ok (.aload_n 0, 1) := by decide +kernel
theorem dX0_findFaults_19 : decode cX0_findFaults 19 = .ok (.getfield 12, 3) := by decide +kernel
theorem dX0_findFaults_22 : decode cX0_findFaults 22 = .ok (.iload_n 2, 1) := by decide +kernel
theorem dX0_findFaults_23 : decode cX0_findFaults 23 = .ok (.invokevirtual 45, 3) := by decide +kernel
theorem dX0_findFaults_26 : decode cX0_findFaults 26 = .ok (.checkcast 27, 3) := by decide +kernel
theorem dX0_findFaults_29 : decode cX0_findFaults 29 = .ok (.astore_n 3, 1) := by decide +kernel
theorem dX0_findFaults_30 : decode cX0_findFaults 30 = .ok (.iload_n 1, 1) := by decide +kernel
theorem dX0_findFaults_31 : decode cX0_findFaults 31 = .ok (.iconst 1, 1) := by decide +kernel
theorem dX0_findFaults_32 : decode cX0_findFaults 32 = .ok (.iload_n 2, 1) := by decide +kernel
theorem dX0_findFaults_33 : decode cX0_findFaults 33 = .ok (.ishl, 1) := by decide +kernel
theorem dX0_findFaults_34 : decode cX0_findFaults 34 = .ok (.iand, 1) := by decide +kernel
theorem dX0_findFaults_35 : decode cX0_findFaults 35 = .ok (.ifCond .eq 15, 3) := by decide +kernel
theorem dX0_findFaults_38 : decode cX0_findFaults 38 = .ok (.aload_n 3, 1) := by decide +kernel
theorem dX0_findFaults_39 : decode cX0_findFaults 39 = .ok (.getfield 81, 3) := by decide +kernel
theorem dX0_findFaults_42 : decode cX0_findFaults 42 = .ok (.ifCond .eq 8, 3) := by decide +kernel
theorem dX0_findFaults_45 : decode cX0_findFaults 45 = .ok (.aload_n 3, 1) := by decide +kernel
theorem dX0_findFaults_46 : decode cX0_findFaults 46 = .ok (.iconst 1, 1) := by decide +kernel
theorem dX0_findFaults_47 : decode cX0_findFaults 47 = .ok (.putfield 85, 3) := by decide +kernel
theorem dX0_findFaults_50 : decode cX0_findFaults 50 = .ok (.iinc 2 1, 3) := by decide +kernel
theorem dX0_findFaults_53 : decode cX0_findFaults 53 = .ok (.goto (-46), 3) := by decide +kernel
theorem dX0_findFaults_56 : decode cX0_findFaults 56 = .ok (.return_, 1) := by decide +kernel
theorem dX0_faultsFound_0 : decode cX0_faultsFound 0 = .ok (.iconst 0, 1) := by decide +kernel
theorem dX0_faultsFound_1 : decode cX0_faultsFound 1 = .ok (.istore_n 2, 1) := by decide +kernel
theorem dX0_faultsFound_2 : decode cX0_faultsFound 2 = .ok (.iconst 0, 1) := by decide +kernel
theorem dX0_faultsFound_3 : decode cX0_faultsFound 3 = .ok (.istore_n 3, 1) := by decide +kernel
theorem dX0_faultsFound_4 : decode cX0_faultsFound 4 = .ok (.iload_n 3, 1) := by decide +kernel
theorem dX0_faultsFound_5 : decode cX0_faultsFound 5 = .ok (.aload_n 0, 1) := by decide +kernel
theorem dX0_faultsFound_6 : decode cX0_faultsFound 6 = .ok (.getfield 12, 3) := by decide +kernel
theorem dX0_faultsFound_9 : decode cX0_faultsFound 9 = .ok (.invokevirtual 34, 3) := by decide +kernel
theorem dX0_faultsFound_12 : decode cX0_faultsFound 12 = .ok (.if_icmp .ge 42, 3) := by decide +kernel
theorem dX0_faultsFound_15 : decode cX0_faultsFound 15 = .ok (.aload_n 0, 1) := by decide +kernel
theorem dX0_faultsFound_16 : decode cX0_faultsFound 16 = .ok (.getfield 12, 3) := by decide +kernel
theorem dX0_faultsFound_19 : decode cX0_faultsFound 19 = .ok (.iload_n 3, 1) := by decide +kernel
theorem dX0_faultsFound_20 : decode cX0_faultsFound 20 = .ok (.invokevirtual 45, 3) := by decide +kernel
theorem dX0_faultsFound_23 : decode cX0_faultsFound 23 = .ok (.checkcast 27, 3) := by decide +kernel
theorem dX0_faultsFound_26 : decode cX0_faultsFound 26 = .ok (.astore 4, 2) := by decide +kernel
theorem dX0_faultsFound_28 : decode cX0_faultsFound 28 = .ok (.aload 4, 2) := by decide +kernel
theorem dX0_faultsFound_30 : decode cX0_faultsFound 30 = .ok (.getfield 81, 3) := by decide +kernel
theorem dX0_faultsFound_33 : decode cX0_faultsFound 33 = .ok (.ifCond .eq 15, 3) := by decide +kernel
theorem dX0_faultsFound_36 : decode cX0_faultsFound 36 = .ok (.aload 4, 2) := by decide +kernel
theorem dX0_faultsFound_38 : decode cX0_faultsFound 38 = .ok (.getfield 85, 3) := by decide +kernel
theorem dX0_faultsFound_41 : decode cX0_faultsFound 41 = .ok (.iload_n 1, 1) := by decide +kernel
theorem dX0_faultsFound_42 : decode cX0_faultsFound 42 = .ok (.if_icmp .ne 6, 3) := by decide +kernel
theorem dX0_faultsFound_45 : decode cX0_faultsFound 45 = .ok (.iinc 2 1, 3) := by decide +kernel
theorem dX0_faultsFound_48 : decode cX0_faultsFound 48 = .ok (.iinc 3 1, 3) := by decide +kernel
theorem dX0_faultsFound_51 : decode cX0_faultsFound 51 = .ok (.goto (-47), 3) := by decide +kernel
theorem dX0_faultsFound_54 : decode cX0_faultsFound 54 = .ok (.iload_n 2, 1) := by decide +kernel
theorem dX0_faultsFound_55 : decode cX0_faultsFound 55 = .ok (.ireturn, 1) := by decide +kernel
theorem dX11_test_0 : decode cX11_test 0 = .ok (.aload_n 0, 1) := by decide +kernel
theorem dX11_test_1 : decode cX11_test 1 = .ok (.iload_n 1, 1) := by decide +kernel
theorem dX11_test_2 : decode cX11_test 2 = .ok (.invokevirtual 207, 3) := by decide +kernel
theorem dX11_test_5 : decode cX11_test 5 = .ok (.astore_n 2, 1) := by decide +kernel
theorem dX11_test_6 : decode cX11_test 6 = .ok (.aload_n 2, 1) := by decide +kernel
theorem dX11_test_7 : decode cX11_test 7 = .ok (.getfield 215, 3) := by decide +kernel
theorem dX11_test_10 : decode cX11_test 10 = .ok (.ifCond .eq 14, 3) := by decide +kernel
theorem dX11_test_13 : decode cX11_test 13 = .ok (.aload_n 2, 1) := by decide +kernel
theorem dX11_test_14 : decode cX11_test 14 = .ok (.getfield 251, 3) := by decide +kernel
theorem dX11_test_17 : decode cX11_test 17 = .ok (.ifCond .ne 7, 3) := by decide +kernel
theorem dX11_test_20 : decode cX11_test 20 = .ok (.iconst 1, 1) := by decide +kernel
theorem dX11_test_21 : decode cX11_test 21 = .ok (.goto 4, 3) := by decide +kernel
theorem dX11_test_24 : decode cX11_test 24 = .ok (.iconst 0, 1) := by decide +kernel
theorem dX11_test_25 : decode cX11_test 25 = .ok (.invokestatic 76, 3) := by decide +kernel
theorem dX11_test_28 : decode cX11_test 28 = .ok (.aload_n 2, 1) := by decide +kernel
theorem dX11_test_29 : decode cX11_test 29 = .ok (.aload_n 0, 1) := by decide +kernel
theorem dX11_test_30 : decode cX11_test 30 = .ok (.getfield 47, 3) := by decide +kernel
theorem dX11_test_33 : decode cX11_test 33 = .ok (.invokevirtual 265, 3) := by decide +kernel
theorem dX11_test_36 : decode cX11_test 36 = .ok (.aload_n 2, 1) := by decide +kernel
theorem dX11_test_37 : decode cX11_test 37 = .ok (.iconst 1, 1) := by decide +kernel
theorem dX11_test_38 : decode cX11_test 38 = .ok (.invokevirtual 268, 3) := by decide +kernel
theorem dX11_test_41 : decode cX11_test 41 = .ok (.ireturn, 1) := by decide +kernel
theorem dL_test_0 : decode cL_test 0 = .ok (.aload_n 2, 1) := by decide +kernel
theorem dL_test_1 : decode cL_test 1 = .ok (.iconst 0, 1) := by decide +kernel
theorem dL_test_2 : decode cL_test 2 = .ok (.aload_n 0, 1) := by decide +kernel
theorem dL_test_3 : decode cL_test 3 = .ok (.iload_n 1, 1) := by decide +kernel
theorem dL_test_4 : decode cL_test 4 = .ok (.invokevirtual 88, 3) := by decide +kernel
theorem dL_test_7 : decode cL_test 7 = .ok (.i2l, 1) := by decide +kernel
theorem dL_test_8 : decode cL_test 8 = .ok (.lastore, 1) := by decide +kernel
theorem dL_test_9 : decode cL_test 9 = .ok (.goto 9, 3) := by decide +kernel
theorem dL_test_12 : decode cL_test 12 = .ok (.astore_n 3, 1) := by decide +kernel
theorem dL_test_13 : decode cL_test 13 = .ok (.iconst 1, 1) := by decide +kernel
theorem dL_test_14 : decode cL_test 14 = .ok (.ireturn, 1) := by decide +kernel
theorem dL_test_15 : decode cL_test 15 = .ok (.astore_n 3, 1) := by decide +kernel
theorem dL_test_16 : decode cL_test 16 = .ok (.iconst 2, 1) := by decide +kernel
theorem dL_test_17 : decode cL_test 17 = .ok (.ireturn, 1) := by decide +kernel
theorem dL_test_18 : decode cL_test 18 = .ok (.iconst 0, 1) := by decide +kernel
theorem dL_test_19 : decode cL_test 19 = .ok (.ireturn, 1) := by decide +kernel
theorem dX12_faults_0 : decode cX12_faults 0 = .ok (.iconst 0, 1) := by decide +kernel
theorem dX12_faults_1 : decode cX12_faults 1 = .ok (.istore_n 3, 1) := by decide +kernel
theorem dX12_faults_2 : decode cX12_faults 2 = .ok (.bipush 8, 2) := by decide +kernel
theorem dX12_faults_4 : decode cX12_faults 4 = .ok (.iload_n 1, 1) := by decide +kernel
theorem dX12_faults_5 : decode cX12_faults 5 = .ok (.imul, 1) := by decide +kernel
theorem dX12_faults_6 : decode cX12_faults 6 = .ok (.istore 4, 2) := by decide +kernel
theorem dX12_faults_8 : decode cX12_faults 8 = .ok (.iload 4, 2) := by decide +kernel
theorem dX12_faults_10 : decode cX12_faults 10 = .ok (.bipush 8, 2) := by decide +kernel
theorem dX12_faults_12 : decode cX12_faults 12 = .ok (.iload_n 1, 1) := by decide +kernel
theorem dX12_faults_13 : decode cX12_faults 13 = .ok (.imul, 1) := by decide +kernel
theorem dX12_faults_14 : decode cX12_faults 14 = .ok (.bipush 8, 2) := by decide +kernel
theorem dX12_faults_16 : decode cX12_faults 16 = .ok (.iadd, 1) := by decide +kernel
theorem dX12_faults_17 : decode cX12_faults 17 = .ok (.if_icmp .ge 38, 3) := by decide +kernel
theorem dX12_faults_20 : decode cX12_faults 20 = .ok (.iload_n 3, 1) := by decide +kernel
theorem dX12_faults_21 : decode cX12_faults 21 = .ok (.aload_n 0, 1) := by decide +kernel
theorem dX12_faults_22 : decode cX12_faults 22 = .ok (.getfield 107, 3) := by decide +kernel
theorem dX12_faults_25 : decode cX12_faults 25 = .ok (.iload 4, 2) := by decide +kernel
theorem dX12_faults_27 : decode cX12_faults 27 = .ok (.iaload, 1) := by decide +kernel
theorem dX12_faults_28 : decode cX12_faults 28 = .ok (.ifCond .eq 18, 3) := by decide +kernel
theorem dX12_faults_31 : decode cX12_faults 31 = .ok (.aload_n 0, 1) := by decide +kernel
theorem dX12_faults_32 : decode cX12_faults 32 = .ok (.getfield 110, 3) := by decide +kernel
theorem dX12_faults_35 : decode cX12_faults 35 = .ok (.iload 4, 2) := by decide +kernel
theorem dX12_faults_37 : decode cX12_faults 37 = .ok (.baload, 1) := by decide +kernel
theorem dX12_faults_38 : decode cX12_faults 38 = .ok (.iload_n 2, 1) := by decide +kernel
theorem dX12_faults_39 : decode cX12_faults 39 = .ok (.if_icmp .ne 7, 3) := by decide +kernel
theorem dX12_faults_42 : decode cX12_faults 42 = .ok (.iconst 1, 1) := by decide +kernel
theorem dX12_faults_43 : decode cX12_faults 43 = .ok (.goto 4, 3) := by decide +kernel
theorem dX12_faults_46 : decode cX12_faults 46 = .ok (.iconst 0, 1) := by decide +kernel
theorem dX12_faults_47 : decode cX12_faults 47 = .ok (.iadd, 1) := by decide +kernel
theorem dX12_faults_48 : decode cX12_faults 48 = .ok (.istore_n 3, 1) := by decide +kernel
theorem dX12_faults_49 : decode cX12_faults 49 = .ok (.iinc 4 1, 3) := by decide +kernel
theorem dX12_faults_52 : decode cX12_faults 52 = .ok (.goto (-44), 3) := by decide +kernel
theorem dX12_faults_55 : decode cX12_faults 55 = .ok (.iload_n 3, 1) := by decide +kernel
theorem dX12_faults_56 : decode cX12_faults 56 = .ok (.ireturn, 1) := by decide +kernel
theorem dX12_test_0 : decode cX12_test 0 = .ok (.aload_n 0, 1) := by decide +kernel
theorem dX12_test_1 : decode cX12_test 1 = .ok (.aload_n 0, 1) := by decide +kernel
theorem dX12_test_2 : decode cX12_test 2 = .ok (.iload_n 1, 1) := by decide +kernel
theorem dX12_test_3 : decode cX12_test 3 = .ok (.invokevirtual 219, 3) := by decide +kernel
theorem dX12_test_6 : decode cX12_test 6 = .ok (.ifCond .ne 7, 3) := by decide +kernel
theorem dX12_test_9 : decode cX12_test 9 = .ok (.iconst 1, 1) := by decide +kernel
theorem dX12_test_10 : decode cX12_test 10 = .ok (.goto 26, 3) := by decide +kernel
theorem dX12_test_13 : decode cX12_test 13 = .ok (.aload_n 0, 1) := by decide +kernel
theorem dX12_test_14 : decode cX12_test 14 = .ok (.getfield 89, 3) := by decide +kernel
theorem dX12_test_17 : decode cX12_test 17 = .ok (.iload_n 1, 1) := by decide +kernel
theorem dX12_test_18 : decode cX12_test 18 = .ok (.baload, 1) := by decide +kernel
theorem dX12_test_19 : decode cX12_test 19 = .ok (.ifCond .eq 12, 3) := by decide +kernel
theorem dX12_test_22 : decode cX12_test 22 = .ok (.aload_n 0, 1) := by decide +kernel
theorem dX12_test_23 : decode cX12_test 23 = .ok (.getfield 95, 3) := by decide +kernel
theorem dX12_test_26 : decode cX12_test 26 = .ok (.iload_n 1, 1) := by decide +kernel
theorem dX12_test_27 : decode cX12_test 27 = .ok (.baload, 1) := by decide +kernel
theorem dX12_test_28 : decode cX12_test 28 = .ok (.ifCond .eq 7, 3) := by decide +kernel
theorem dX12_test_31 : decode cX12_test 31 = .ok (.iconst 2, 1) := by decide +kernel
theorem dX12_test_32 : decode cX12_test 32 = .ok (.goto 4, 3) := by decide +kernel
theorem dX12_test_35 : decode cX12_test 35 = .ok (.iconst 0, 1) := by decide +kernel
theorem dX12_test_36 : decode cX12_test 36 = .ok (.invokevirtual 134, 3) := by decide +kernel
theorem dX12_test_39 : decode cX12_test 39 = .ok (.ifCond .eq 5, 3) := by decide +kernel
theorem dX12_test_42 : decode cX12_test 42 = .ok (.iconst 0, 1) := by decide +kernel
theorem dX12_test_43 : decode cX12_test 43 = .ok (.ireturn, 1) := by decide +kernel
theorem dX12_test_44 : decode cX12_test 44 = .ok (.aload_n 0, 1) := by decide +kernel
theorem dX12_test_45 : decode cX12_test 45 = .ok (.getfield 92, 3) := by decide +kernel
theorem dX12_test_48 : decode cX12_test 48 = .ok (.iload_n 1, 1) := by decide +kernel
theorem dX12_test_49 : decode cX12_test 49 = .ok (.iconst 1, 1) := by decide +kernel
theorem dX12_test_50 : decode cX12_test 50 = .ok (.bastore, 1) := by decide +kernel
theorem dX12_test_51 : decode cX12_test 51 = .ok (.iconst 0, 1) := by decide +kernel
theorem dX12_test_52 : decode cX12_test 52 = .ok (.istore_n 2, 1) := by decide +kernel
theorem dX12_test_53 : decode cX12_test 53 = .ok (.iload_n 2, 1) := by decide +kernel
theorem dX12_test_54 : decode cX12_test 54 = .ok (.bipush 8, 2) := by decide +kernel
theorem dX12_test_56 : decode cX12_test 56 = .ok (.if_icmp .ge 54, 3) := by decide +kernel
theorem dX12_test_59 : decode cX12_test 59 = .ok (.bipush 8, 2) := by decide +kernel
theorem dX12_test_61 : decode cX12_test 61 = .ok (.iload_n 1, 1) := by decide +kernel
theorem dX12_test_62 : decode cX12_test 62 = .ok (.imul, 1) := by decide +kernel
theorem dX12_test_63 : decode cX12_test 63 = .ok (.iload_n 2, 1) := by decide +kernel
theorem dX12_test_64 : decode cX12_test 64 = .ok (.iadd, 1) := by decide +kernel
theorem dX12_test_65 : decode cX12_test 65 = .ok (.istore_n 3, 1) := by decide +kernel
theorem dX12_test_66 : decode cX12_test 66 = .ok (.aload_n 0, 1) := by decide +kernel
theorem dX12_test_67 : decode cX12_test 67 = .ok (.getfield 110, 3) := by decide +kernel
theorem dX12_test_70 : decode cX12_test 70 = .ok (.iload_n 3, 1) := by decide +kernel
theorem dX12_test_71 : decode cX12_test 71 = .ok (.aload_n 0, 1) := by decide +kernel
theorem dX12_test_72 : decode cX12_test 72 = .ok (.getfield 110, 3) := by decide +kernel
theorem dX12_test_75 : decode cX12_test 75 = .ok (.iload_n 3, 1) := by decide +kernel
theorem dX12_test_76 : decode cX12_test 76 = .ok (.baload, 1) := by decide +kernel
theorem dX12_test_77 : decode cX12_test 77 = .ok (.ifCond .ne 21, 3) := by decide +kernel
theorem dX12_test_80 : decode cX12_test 80 = .ok (.aload_n 0, 1) := by decide +kernel
theorem dX12_test_81 : decode cX12_test 81 = .ok (.getfield 86, 3) := by decide +kernel
theorem dX12_test_84 : decode cX12_test 84 = .ok (.iload_n 2, 1) := by decide +kernel
theorem dX12_test_85 : decode cX12_test 85 = .ok (.baload, 1) := by decide +kernel
theorem dX12_test_86 : decode cX12_test 86 = .ok (.ifCond .eq 16, 3) := by decide +kernel
theorem dX12_test_89 : decode cX12_test 89 = .ok (.aload_n 0, 1) := by decide +kernel
theorem dX12_test_90 : decode cX12_test 90 = .ok (.getfield 107, 3) := by decide +kernel
theorem dX12_test_93 : decode cX12_test 93 = .ok (.iload_n 3, 1) := by decide +kernel
theorem dX12_test_94 : decode cX12_test 94 = .ok (.iaload, 1) := by decide +kernel
theorem dX12_test_95 : decode cX12_test 95 = .ok (.ifCond .eq 7, 3) := by decide +kernel
theorem dX12_test_98 : decode cX12_test 98 = .ok (.iconst 1, 1) := by decide +kernel
theorem dX12_test_99 : decode cX12_test 99 = .ok (.goto 4, 3) := by decide +kernel
theorem dX12_test_102 : decode cX12_test 102 = .ok (.iconst 0, 1) := by decide +kernel
theorem dX12_test_103 : decode cX12_test 103 = .ok (.bastore, 1) := by decide +kernel
theorem dX12_test_104 : decode cX12_test 104 = .ok (.iinc 2 1, 3) := by decide +kernel
theorem dX12_test_107 : decode cX12_test 107 = .ok (.goto (-54), 3) := by decide +kernel
theorem dX12_test_110 : decode cX12_test 110 = .ok (.aload_n 0, 1) := by decide +kernel
theorem dX12_test_111 : decode cX12_test 111 = .ok (.iload_n 1, 1) := by decide +kernel
theorem dX12_test_112 : decode cX12_test 112 = .ok (.iconst 1, 1) := by decide +kernel
theorem dX12_test_113 : decode cX12_test 113 = .ok (.invokevirtual 234, 3) := by decide +kernel
theorem dX12_test_116 : decode cX12_test 116 = .ok (.ireturn, 1) := by decide +kernel
theorem dX9_mend_0 : decode cX9_mend 0 = .ok (.aload_n 0, 1) := by decide +kernel
theorem dX9_mend_1 : decode cX9_mend 1 = .ok (.iconst 0, 1) := by decide +kernel
theorem dX9_mend_2 : decode cX9_mend 2 = .ok (.putfield 21, 3) := by decide +kernel
theorem dX9_mend_5 : decode cX9_mend 5 = .ok (.aload_n 0, 1) := by decide +kernel
theorem dX9_mend_6 : decode cX9_mend 6 = .ok (.iconst 0, 1) := by decide +kernel
theorem dX9_mend_7 : decode cX9_mend 7 = .ok (.putfield 54, 3) := by decide +kernel
theorem dX9_mend_10 : decode cX9_mend 10 = .ok (.aload_n 0, 1) := by decide +kernel
theorem dX9_mend_11 : decode cX9_mend 11 = .ok (.iconst 1, 1) := by decide +kernel
theorem dX9_mend_12 : decode cX9_mend 12 = .ok (.putfield 58, 3) := by decide +kernel
theorem dX9_mend_15 : decode cX9_mend 15 = .ok (.return_, 1) := by decide +kernel
theorem dX11_repair_0 : decode cX11_repair 0 = .ok (.aload_n 0, 1) := by decide +kernel
theorem dX11_repair_1 : decode cX11_repair 1 = .ok (.iload_n 1, 1) := by decide +kernel
theorem dX11_repair_2 : decode cX11_repair 2 = .ok (.invokevirtual 207, 3) := by decide +kernel
theorem dX11_repair_5 : decode cX11_repair 5 = .ok (.astore 4, 2) := by decide +kernel
theorem dX11_repair_7 : decode cX11_repair 7 = .ok (.aload 4, 2) := by decide +kernel
theorem dX11_repair_9 : decode cX11_repair 9 = .ok (.iload_n 2, 1) := by decide +kernel
theorem dX11_repair_10 : decode cX11_repair 10 = .ok (.invokevirtual 211, 3) := by decide +kernel
theorem dX11_repair_13 : decode cX11_repair 13 = .ok (.astore 5, 2) := by decide +kernel
theorem dX11_repair_15 : decode cX11_repair 15 = .ok (.aload_n 0, 1) := by decide +kernel
theorem dX11_repair_16 : decode cX11_repair 16 = .ok (.iload_n 3, 1) := by decide +kernel
theorem dX11_repair_17 : decode cX11_repair 17 = .ok (.invokevirtual 184, 3) := by decide +kernel
theorem dX11_repair_20 : decode cX11_repair 20 = .ok (.astore 6, 2) := by decide +kernel
theorem dX11_repair_22 : decode cX11_repair 22 = .ok (.aload 5, 2) := by decide +kernel
theorem dX11_repair_24 : decode cX11_repair 24 = .ok (.getfield 257, 3) := by decide +kernel
theorem dX11_repair_27 : decode cX11_repair 27 = .ok (.ifCond .eq 15, 3) := by decide +kernel
theorem dX11_repair_30 : decode cX11_repair 30 = .ok (.aload 5, 2) := by decide +kernel
theorem dX11_repair_32 : decode cX11_repair 32 = .ok (.getfield 272, 3) := by decide +kernel
theorem dX11_repair_35 : decode cX11_repair 35 = .ok (.ifCond .ne 7, 3) := by decide +kernel
theorem dX11_repair_38 : decode cX11_repair 38 = .ok (.iconst 1, 1) := by decide +kernel
theorem dX11_repair_39 : decode cX11_repair 39 = .ok (.goto 4, 3) := by decide +kernel
theorem dX11_repair_42 : decode cX11_repair 42 = .ok (.iconst 0, 1) := by decide +kernel
theorem dX11_repair_43 : decode cX11_repair 43 = .ok (.invokestatic 76, 3) := by decide +kernel
theorem dX11_repair_46 : decode cX11_repair 46 = .ok (.aload 6, 2) := by decide +kernel
theorem dX11_repair_48 : decode cX11_repair 48 = .ok (.getfield 198, 3) := by decide +kernel
theorem dX11_repair_51 : decode cX11_repair 51 = .ok (.aload 5, 2) := by decide +kernel
theorem dX11_repair_53 : decode cX11_repair 53 = .ok (.getfield 275, 3) := by decide +kernel
theorem dX11_repair_56 : decode cX11_repair 56 = .ok (.if_icmp .ne 19, 3) := by decide +kernel
theorem dX11_repair_59 : decode cX11_repair 59 = .ok (.aload 6, 2) := by decide +kernel
theorem dX11_repair_61 : decode cX11_repair 61 = .ok (.aload_n 0, 1) := by decide +kernel
theorem dX11_repair_62 : decode cX11_repair 62 = .ok (.getfield 51, 3) := by decide +kernel
theorem dX11_repair_65 : decode cX11_repair 65 = .ok (.invokevirtual 224, 3) := by decide +kernel
theorem dX11_repair_68 : decode cX11_repair 68 = .ok (.ifCond .eq 7, 3) := by decide +kernel
theorem dX11_repair_71 : decode cX11_repair 71 = .ok (.iconst 1, 1) := by decide +kernel
theorem dX11_repair_72 : decode cX11_repair 72 = .ok (.goto 4, 3) := by decide +kernel
theorem dX11_repair_75 : decode cX11_repair 75 = .ok (.iconst 0, 1) := by decide +kernel
theorem dX11_repair_76 : decode cX11_repair 76 = .ok (.invokestatic 76, 3) := by decide +kernel
theorem dX11_repair_79 : decode cX11_repair 79 = .ok (.aload 5, 2) := by decide +kernel
theorem dX11_repair_81 : decode cX11_repair 81 = .ok (.iload_n 3, 1) := by decide +kernel
theorem dX11_repair_82 : decode cX11_repair 82 = .ok (.aload 6, 2) := by decide +kernel
theorem dX11_repair_84 : decode cX11_repair 84 = .ok (.aload_n 0, 1) := by decide +kernel
theorem dX11_repair_85 : decode cX11_repair 85 = .ok (.getfield 51, 3) := by decide +kernel
theorem dX11_repair_88 : decode cX11_repair 88 = .ok (.invokevirtual 227, 3) := by decide +kernel
theorem dX11_repair_91 : decode cX11_repair 91 = .ok (.aload 5, 2) := by decide +kernel
theorem dX11_repair_93 : decode cX11_repair 93 = .ok (.invokevirtual 276, 3) := by decide +kernel
theorem dX11_repair_96 : decode cX11_repair 96 = .ok (.aload 4, 2) := by decide +kernel
theorem dX11_repair_98 : decode cX11_repair 98 = .ok (.iconst 0, 1) := by decide +kernel
theorem dX11_repair_99 : decode cX11_repair 99 = .ok (.putfield 279, 3) := by decide +kernel
theorem dX11_repair_102 : decode cX11_repair 102 = .ok (.aload 4, 2) := by decide +kernel
theorem dX11_repair_104 : decode cX11_repair 104 = .ok (.iconst 1, 1) := by decide +kernel
theorem dX11_repair_105 : decode cX11_repair 105 = .ok (.invokevirtual 268, 3) := by decide +kernel
theorem dX11_repair_108 : decode cX11_repair 108 = .ok (.ireturn, 1) := by decide +kernel
theorem dL_repair_0 : decode cL_repair 0 = .ok (.aload 4, 2) := by decide +kernel
theorem dL_repair_2 : decode cL_repair 2 = .ok (.iconst 0, 1) := by decide +kernel
theorem dL_repair_3 : decode cL_repair 3 = .ok (.aload_n 0, 1) := by decide +kernel
theorem dL_repair_4 : decode cL_repair 4 = .ok (.iload_n 1, 1) := by decide +kernel
theorem dL_repair_5 : decode cL_repair 5 = .ok (.iload_n 2, 1) := by decide +kernel
theorem dL_repair_6 : decode cL_repair 6 = .ok (.iload_n 3, 1) := by decide +kernel
theorem dL_repair_7 : decode cL_repair 7 = .ok (.invokevirtual 91, 3) := by decide +kernel
theorem dL_repair_10 : decode cL_repair 10 = .ok (.i2l, 1) := by decide +kernel
theorem dL_repair_11 : decode cL_repair 11 = .ok (.lastore, 1) := by decide +kernel
theorem dL_repair_12 : decode cL_repair 12 = .ok (.goto 11, 3) := by decide +kernel
theorem dL_repair_15 : decode cL_repair 15 = .ok (.astore 5, 2) := by decide +kernel
theorem dL_repair_17 : decode cL_repair 17 = .ok (.iconst 1, 1) := by decide +kernel
theorem dL_repair_18 : decode cL_repair 18 = .ok (.ireturn, 1) := by decide +kernel
theorem dL_repair_19 : decode cL_repair 19 = .ok (.astore 5, 2) := by decide +kernel
theorem dL_repair_21 : decode cL_repair 21 = .ok (.iconst 2, 1) := by decide +kernel
theorem dL_repair_22 : decode cL_repair 22 = .ok (.ireturn, 1) := by decide +kernel
theorem dL_repair_23 : decode cL_repair 23 = .ok (.iconst 0, 1) := by decide +kernel
theorem dL_repair_24 : decode cL_repair 24 = .ok (.ireturn, 1) := by decide +kernel
theorem dX12_repair_0 : decode cX12_repair 0 = .ok (.aload_n 0, 1) := by decide +kernel
theorem dX12_repair_1 : decode cX12_repair 1 = .ok (.iload_n 1, 1) := by decide +kernel
theorem dX12_repair_2 : decode cX12_repair 2 = .ok (.invokevirtual 219, 3) := by decide +kernel
theorem dX12_repair_5 : decode cX12_repair 5 = .ok (.ifCond .eq 22, 3) := by decide +kernel
theorem dX12_repair_8 : decode cX12_repair 8 = .ok (.iload_n 2, 1) := by decide +kernel
theorem dX12_repair_9 : decode cX12_repair 9 = .ok (.invokestatic 222, 3) := by decide +kernel
theorem dX12_repair_12 : decode cX12_repair 12 = .ok (.ifCond .eq 15, 3) := by decide +kernel
theorem dX12_repair_15 : decode cX12_repair 15 = .ok (.aload_n 0, 1) := by decide +kernel
theorem dX12_repair_16 : decode cX12_repair 16 = .ok (.iload_n 3, 1) := by decide +kernel
theorem dX12_repair_17 : decode cX12_repair 17 = .ok (.invokevirtual 210, 3) := by decide +kernel
theorem dX12_repair_20 : decode cX12_repair 20 = .ok (.ifCond .eq 7, 3) := by decide +kernel
theorem dX12_repair_23 : decode cX12_repair 23 = .ok (.iconst 1, 1) := by decide +kernel
theorem dX12_repair_24 : decode cX12_repair 24 = .ok (.goto 4, 3) := by decide +kernel
theorem dX12_repair_27 : decode cX12_repair 27 = .ok (.iconst 0, 1) := by decide +kernel
theorem dX12_repair_28 : decode cX12_repair 28 = .ok (.istore 4, 2) := by decide +kernel
theorem dX12_repair_30 : decode cX12_repair 30 = .ok (.iload 4, 2) := by decide +kernel
theorem dX12_repair_32 : decode cX12_repair 32 = .ok (.ifCond .eq 12, 3) := by decide +kernel
theorem dX12_repair_35 : decode cX12_repair 35 = .ok (.bipush 8, 2) := by decide +kernel
theorem dX12_repair_37 : decode cX12_repair 37 = .ok (.iload_n 1, 1) := by decide +kernel
theorem dX12_repair_38 : decode cX12_repair 38 = .ok (.imul, 1) := by decide +kernel
theorem dX12_repair_39 : decode cX12_repair 39 = .ok (.iload_n 2, 1) := by decide +kernel
theorem dX12_repair_40 : decode cX12_repair 40 = .ok (.iadd, 1) := by decide +kernel
theorem dX12_repair_41 : decode cX12_repair 41 = .ok (.goto 4, 3) := by decide +kernel
theorem dX12_repair_44 : decode cX12_repair 44 = .ok (.iconst 0, 1) := by decide +kernel
theorem dX12_repair_45 : decode cX12_repair 45 = .ok (.istore 5, 2) := by decide +kernel
theorem dX12_repair_47 : decode cX12_repair 47 = .ok (.iload 4, 2) := by decide +kernel
theorem dX12_repair_49 : decode cX12_repair 49 = .ok (.ifCond .eq 56, 3) := by decide +kernel
theorem dX12_repair_52 : decode cX12_repair 52 = .ok (.aload_n 0, 1) := by decide +kernel
theorem dX12_repair_53 : decode cX12_repair 53 = .ok (.getfield 110, 3) := by decide +kernel
theorem dX12_repair_56 : decode cX12_repair 56 = .ok (.iload 5, 2) := by decide +kernel
theorem dX12_repair_58 : decode cX12_repair 58 = .ok (.baload, 1) := by decide +kernel
theorem dX12_repair_59 : decode cX12_repair 59 = .ok (.ifCond .eq 46, 3) := by decide +kernel
theorem dX12_repair_62 : decode cX12_repair 62 = .ok (.aload_n 0, 1) := by decide +kernel
theorem dX12_repair_63 : decode cX12_repair 63 = .ok (.getfield 113, 3) := by decide +kernel
theorem dX12_repair_66 : decode cX12_repair 66 = .ok (.iload 5, 2) := by decide +kernel
theorem dX12_repair_68 : decode cX12_repair 68 = .ok (.baload, 1) := by decide +kernel
theorem dX12_repair_69 : decode cX12_repair 69 = .ok (.ifCond .ne 36, 3) := by decide +kernel
theorem dX12_repair_72 : decode cX12_repair 72 = .ok (.aload_n 0, 1) := by decide +kernel
theorem dX12_repair_73 : decode cX12_repair 73 = .ok (.getfield 65, 3) := by decide +kernel
theorem dX12_repair_76 : decode cX12_repair 76 = .ok (.iload_n 3, 1) := by decide +kernel
theorem dX12_repair_77 : decode cX12_repair 77 = .ok (.iaload, 1) := by decide +kernel
theorem dX12_repair_78 : decode cX12_repair 78 = .ok (.aload_n 0, 1) := by decide +kernel
theorem dX12_repair_79 : decode cX12_repair 79 = .ok (.getfield 65, 3) := by decide +kernel
theorem dX12_repair_82 : decode cX12_repair 82 = .ok (.aload_n 0, 1) := by decide +kernel
theorem dX12_repair_83 : decode cX12_repair 83 = .ok (.getfield 98, 3) := by decide +kernel
theorem dX12_repair_86 : decode cX12_repair 86 = .ok (.iload 5, 2) := by decide +kernel
theorem dX12_repair_88 : decode cX12_repair 88 = .ok (.iaload, 1) := by decide +kernel
theorem dX12_repair_89 : decode cX12_repair 89 = .ok (.iaload, 1) := by decide +kernel
theorem dX12_repair_90 : decode cX12_repair 90 = .ok (.if_icmp .ne 15, 3) := by decide +kernel
theorem dX12_repair_93 : decode cX12_repair 93 = .ok (.aload_n 0, 1) := by decide +kernel
theorem dX12_repair_94 : decode cX12_repair 94 = .ok (.iload_n 3, 1) := by decide +kernel
theorem dX12_repair_95 : decode cX12_repair 95 = .ok (.invokevirtual 225, 3) := by decide +kernel
theorem dX12_repair_98 : decode cX12_repair 98 = .ok (.ifCond .eq 7, 3) := by decide +kernel
theorem dX12_repair_101 : decode cX12_repair 101 = .ok (.iconst 1, 1) := by decide +kernel
theorem dX12_repair_102 : decode cX12_repair 102 = .ok (.goto 4, 3) := by decide +kernel
theorem dX12_repair_105 : decode cX12_repair 105 = .ok (.iconst 0, 1) := by decide +kernel
theorem dX12_repair_106 : decode cX12_repair 106 = .ok (.istore 6, 2) := by decide +kernel
theorem dX12_repair_108 : decode cX12_repair 108 = .ok (.aload_n 0, 1) := by decide +kernel
theorem dX12_repair_109 : decode cX12_repair 109 = .ok (.iload 4, 2) := by decide +kernel
theorem dX12_repair_111 : decode cX12_repair 111 = .ok (.ifCond .ne 7, 3) := by decide +kernel
theorem dX12_repair_114 : decode cX12_repair 114 = .ok (.iconst 1, 1) := by decide +kernel
theorem dX12_repair_115 : decode cX12_repair 115 = .ok (.goto 13, 3) := by decide +kernel
theorem dX12_repair_118 : decode cX12_repair 118 = .ok (.iload 6, 2) := by decide +kernel
theorem dX12_repair_120 : decode cX12_repair 120 = .ok (.ifCond .eq 7, 3) := by decide +kernel
theorem dX12_repair_123 : decode cX12_repair 123 = .ok (.iconst 0, 1) := by decide +kernel
theorem dX12_repair_124 : decode cX12_repair 124 = .ok (.goto 4, 3) := by decide +kernel
theorem dX12_repair_127 : decode cX12_repair 127 = .ok (.iconst 2, 1) := by decide +kernel
theorem dX12_repair_128 : decode cX12_repair 128 = .ok (.invokevirtual 134, 3) := by decide +kernel
theorem dX12_repair_131 : decode cX12_repair 131 = .ok (.ifCond .eq 5, 3) := by decide +kernel
theorem dX12_repair_134 : decode cX12_repair 134 = .ok (.iconst 0, 1) := by decide +kernel
theorem dX12_repair_135 : decode cX12_repair 135 = .ok (.ireturn, 1) := by decide +kernel
theorem dX12_repair_136 : decode cX12_repair 136 = .ok (.aload_n 0, 1) := by decide +kernel
theorem dX12_repair_137 : decode cX12_repair 137 = .ok (.getfield 98, 3) := by decide +kernel
theorem dX12_repair_140 : decode cX12_repair 140 = .ok (.iload 5, 2) := by decide +kernel
theorem dX12_repair_142 : decode cX12_repair 142 = .ok (.iload_n 3, 1) := by decide +kernel
theorem dX12_repair_143 : decode cX12_repair 143 = .ok (.iastore, 1) := by decide +kernel
theorem dX12_repair_144 : decode cX12_repair 144 = .ok (.aload_n 0, 1) := by decide +kernel
theorem dX12_repair_145 : decode cX12_repair 145 = .ok (.getfield 101, 3) := by decide +kernel
theorem dX12_repair_148 : decode cX12_repair 148 = .ok (.iload 5, 2) := by decide +kernel
theorem dX12_repair_150 : decode cX12_repair 150 = .ok (.aload_n 0, 1) := by decide +kernel
theorem dX12_repair_151 : decode cX12_repair 151 = .ok (.getfield 207, 3) := by decide +kernel
theorem dX12_repair_154 : decode cX12_repair 154 = .ok (.iastore, 1) := by decide +kernel
theorem dX12_repair_155 : decode cX12_repair 155 = .ok (.aload_n 0, 1) := by decide +kernel
theorem dX12_repair_156 : decode cX12_repair 156 = .ok (.getfield 68, 3) := by decide +kernel
theorem dX12_repair_159 : decode cX12_repair 159 = .ok (.iload_n 3, 1) := by decide +kernel
theorem dX12_repair_160 : decode cX12_repair 160 = .ok (.dup2, 1) := by decide +kernel
theorem dX12_repair_161 : decode cX12_repair 161 = .ok (.iaload, 1) := by decide +kernel
theorem dX12_repair_162 : decode cX12_repair 162 = .ok (.iconst 1, 1) := by decide +kernel
theorem dX12_repair_163 : decode cX12_repair 163 = .ok (.isub, 1) := by decide +kernel
theorem dX12_repair_164 : decode cX12_repair 164 = .ok (.iastore, 1) := by decide +kernel
theorem dX12_repair_165 : decode cX12_repair 165 = .ok (.aload_n 0, 1) := by decide +kernel
theorem dX12_repair_166 : decode cX12_repair 166 = .ok (.getfield 107, 3) := by decide +kernel
theorem dX12_repair_169 : decode cX12_repair 169 = .ok (.iload 5, 2) := by decide +kernel
theorem dX12_repair_171 : decode cX12_repair 171 = .ok (.iconst 0, 1) := by decide +kernel
theorem dX12_repair_172 : decode cX12_repair 172 = .ok (.iastore, 1) := by decide +kernel
theorem dX12_repair_173 : decode cX12_repair 173 = .ok (.aload_n 0, 1) := by decide +kernel
theorem dX12_repair_174 : decode cX12_repair 174 = .ok (.getfield 110, 3) := by decide +kernel
theorem dX12_repair_177 : decode cX12_repair 177 = .ok (.iload 5, 2) := by decide +kernel
theorem dX12_repair_179 : decode cX12_repair 179 = .ok (.iconst 0, 1) := by decide +kernel
theorem dX12_repair_180 : decode cX12_repair 180 = .ok (.bastore, 1) := by decide +kernel
theorem dX12_repair_181 : decode cX12_repair 181 = .ok (.aload_n 0, 1) := by decide +kernel
theorem dX12_repair_182 : decode cX12_repair 182 = .ok (.getfield 113, 3) := by decide +kernel
theorem dX12_repair_185 : decode cX12_repair 185 = .ok (.iload 5, 2) := by decide +kernel
theorem dX12_repair_187 : decode cX12_repair 187 = .ok (.iconst 1, 1) := by decide +kernel
theorem dX12_repair_188 : decode cX12_repair 188 = .ok (.bastore, 1) := by decide +kernel
theorem dX12_repair_189 : decode cX12_repair 189 = .ok (.aload_n 0, 1) := by decide +kernel
theorem dX12_repair_190 : decode cX12_repair 190 = .ok (.getfield 92, 3) := by decide +kernel
theorem dX12_repair_193 : decode cX12_repair 193 = .ok (.iload_n 1, 1) := by decide +kernel
theorem dX12_repair_194 : decode cX12_repair 194 = .ok (.iconst 0, 1) := by decide +kernel
theorem dX12_repair_195 : decode cX12_repair 195 = .ok (.bastore, 1) := by decide +kernel
theorem dX12_repair_196 : decode cX12_repair 196 = .ok (.aload_n 0, 1) := by decide +kernel
theorem dX12_repair_197 : decode cX12_repair 197 = .ok (.iload_n 1, 1) := by decide +kernel
theorem dX12_repair_198 : decode cX12_repair 198 = .ok (.iconst 1, 1) := by decide +kernel
theorem dX12_repair_199 : decode cX12_repair 199 = .ok (.invokevirtual 234, 3) := by decide +kernel
theorem dX12_repair_202 : decode cX12_repair 202 = .ok (.ireturn, 1) := by decide +kernel
theorem dX11_ship_0 : decode cX11_ship 0 = .ok (.aload_n 0, 1) := by decide +kernel
theorem dX11_ship_1 : decode cX11_ship 1 = .ok (.iload_n 1, 1) := by decide +kernel
theorem dX11_ship_2 : decode cX11_ship 2 = .ok (.invokevirtual 207, 3) := by decide +kernel
theorem dX11_ship_5 : decode cX11_ship 5 = .ok (.astore_n 2, 1) := by decide +kernel
theorem dX11_ship_6 : decode cX11_ship 6 = .ok (.aload_n 2, 1) := by decide +kernel
theorem dX11_ship_7 : decode cX11_ship 7 = .ok (.getfield 251, 3) := by decide +kernel
theorem dX11_ship_10 : decode cX11_ship 10 = .ok (.ifCond .ne 22, 3) := by decide +kernel
theorem dX11_ship_13 : decode cX11_ship 13 = .ok (.aload_n 2, 1) := by decide +kernel
theorem dX11_ship_14 : decode cX11_ship 14 = .ok (.getfield 279, 3) := by decide +kernel
theorem dX11_ship_17 : decode cX11_ship 17 = .ok (.ifCond .eq 15, 3) := by decide +kernel
theorem dX11_ship_20 : decode cX11_ship 20 = .ok (.aload_n 2, 1) := by decide +kernel
theorem dX11_ship_21 : decode cX11_ship 21 = .ok (.iconst 1, 1) := by decide +kernel
theorem dX11_ship_22 : decode cX11_ship 22 = .ok (.invokevirtual 268, 3) := by decide +kernel
theorem dX11_ship_25 : decode cX11_ship 25 = .ok (.ifCond .ne 7, 3) := by decide +kernel
theorem dX11_ship_28 : decode cX11_ship 28 = .ok (.iconst 1, 1) := by decide +kernel
theorem dX11_ship_29 : decode cX11_ship 29 = .ok (.goto 4, 3) := by decide +kernel
theorem dX11_ship_32 : decode cX11_ship 32 = .ok (.iconst 0, 1) := by decide +kernel
theorem dX11_ship_33 : decode cX11_ship 33 = .ok (.invokestatic 76, 3) := by decide +kernel
theorem dX11_ship_36 : decode cX11_ship 36 = .ok (.aload_n 2, 1) := by decide +kernel
theorem dX11_ship_37 : decode cX11_ship 37 = .ok (.iconst 1, 1) := by decide +kernel
theorem dX11_ship_38 : decode cX11_ship 38 = .ok (.putfield 251, 3) := by decide +kernel
theorem dX11_ship_41 : decode cX11_ship 41 = .ok (.aload_n 2, 1) := by decide +kernel
theorem dX11_ship_42 : decode cX11_ship 42 = .ok (.iconst 0, 1) := by decide +kernel
theorem dX11_ship_43 : decode cX11_ship 43 = .ok (.invokevirtual 268, 3) := by decide +kernel
theorem dX11_ship_46 : decode cX11_ship 46 = .ok (.ireturn, 1) := by decide +kernel
theorem dL_ship_0 : decode cL_ship 0 = .ok (.aload_n 2, 1) := by decide +kernel
theorem dL_ship_1 : decode cL_ship 1 = .ok (.iconst 0, 1) := by decide +kernel
theorem dL_ship_2 : decode cL_ship 2 = .ok (.aload_n 0, 1) := by decide +kernel
theorem dL_ship_3 : decode cL_ship 3 = .ok (.iload_n 1, 1) := by decide +kernel
theorem dL_ship_4 : decode cL_ship 4 = .ok (.invokevirtual 94, 3) := by decide +kernel
theorem dL_ship_7 : decode cL_ship 7 = .ok (.i2l, 1) := by decide +kernel
theorem dL_ship_8 : decode cL_ship 8 = .ok (.lastore, 1) := by decide +kernel
theorem dL_ship_9 : decode cL_ship 9 = .ok (.goto 9, 3) := by decide +kernel
theorem dL_ship_12 : decode cL_ship 12 = .ok (.astore_n 3, 1) := by decide +kernel
theorem dL_ship_13 : decode cL_ship 13 = .ok (.iconst 1, 1) := by decide +kernel
theorem dL_ship_14 : decode cL_ship 14 = .ok (.ireturn, 1) := by decide +kernel
theorem dL_ship_15 : decode cL_ship 15 = .ok (.astore_n 3, 1) := by decide +kernel
theorem dL_ship_16 : decode cL_ship 16 = .ok (.iconst 2, 1) := by decide +kernel
theorem dL_ship_17 : decode cL_ship 17 = .ok (.ireturn, 1) := by decide +kernel
theorem dL_ship_18 : decode cL_ship 18 = .ok (.iconst 0, 1) := by decide +kernel
theorem dL_ship_19 : decode cL_ship 19 = .ok (.ireturn, 1) := by decide +kernel
theorem dX12_ship_0 : decode cX12_ship 0 = .ok (.aload_n 0, 1) := by decide +kernel
theorem dX12_ship_1 : decode cX12_ship 1 = .ok (.aload_n 0, 1) := by decide +kernel
theorem dX12_ship_2 : decode cX12_ship 2 = .ok (.iload_n 1, 1) := by decide +kernel
theorem dX12_ship_3 : decode cX12_ship 3 = .ok (.invokevirtual 219, 3) := by decide +kernel
theorem dX12_ship_6 : decode cX12_ship 6 = .ok (.ifCond .ne 7, 3) := by decide +kernel
theorem dX12_ship_9 : decode cX12_ship 9 = .ok (.iconst 1, 1) := by decide +kernel
theorem dX12_ship_10 : decode cX12_ship 10 = .ok (.goto 35, 3) := by decide +kernel
theorem dX12_ship_13 : decode cX12_ship 13 = .ok (.aload_n 0, 1) := by decide +kernel
theorem dX12_ship_14 : decode cX12_ship 14 = .ok (.getfield 95, 3) := by decide +kernel
theorem dX12_ship_17 : decode cX12_ship 17 = .ok (.iload_n 1, 1) := by decide +kernel
theorem dX12_ship_18 : decode cX12_ship 18 = .ok (.baload, 1) := by decide +kernel
theorem dX12_ship_19 : decode cX12_ship 19 = .ok (.ifCond .ne 21, 3) := by decide +kernel
theorem dX12_ship_22 : decode cX12_ship 22 = .ok (.aload_n 0, 1) := by decide +kernel
theorem dX12_ship_23 : decode cX12_ship 23 = .ok (.getfield 92, 3) := by decide +kernel
theorem dX12_ship_26 : decode cX12_ship 26 = .ok (.iload_n 1, 1) := by decide +kernel
theorem dX12_ship_27 : decode cX12_ship 27 = .ok (.baload, 1) := by decide +kernel
theorem dX12_ship_28 : decode cX12_ship 28 = .ok (.ifCond .eq 12, 3) := by decide +kernel
theorem dX12_ship_31 : decode cX12_ship 31 = .ok (.aload_n 0, 1) := by decide +kernel
theorem dX12_ship_32 : decode cX12_ship 32 = .ok (.iload_n 1, 1) := by decide +kernel
theorem dX12_ship_33 : decode cX12_ship 33 = .ok (.iconst 1, 1) := by decide +kernel
theorem dX12_ship_34 : decode cX12_ship 34 = .ok (.invokevirtual 234, 3) := by decide +kernel
theorem dX12_ship_37 : decode cX12_ship 37 = .ok (.ifCond .le 7, 3) := by decide +kernel
theorem dX12_ship_40 : decode cX12_ship 40 = .ok (.iconst 2, 1) := by decide +kernel
theorem dX12_ship_41 : decode cX12_ship 41 = .ok (.goto 4, 3) := by decide +kernel
theorem dX12_ship_44 : decode cX12_ship 44 = .ok (.iconst 0, 1) := by decide +kernel
theorem dX12_ship_45 : decode cX12_ship 45 = .ok (.invokevirtual 134, 3) := by decide +kernel
theorem dX12_ship_48 : decode cX12_ship 48 = .ok (.ifCond .eq 5, 3) := by decide +kernel
theorem dX12_ship_51 : decode cX12_ship 51 = .ok (.iconst 0, 1) := by decide +kernel
theorem dX12_ship_52 : decode cX12_ship 52 = .ok (.ireturn, 1) := by decide +kernel
theorem dX12_ship_53 : decode cX12_ship 53 = .ok (.aload_n 0, 1) := by decide +kernel
theorem dX12_ship_54 : decode cX12_ship 54 = .ok (.getfield 95, 3) := by decide +kernel
theorem dX12_ship_57 : decode cX12_ship 57 = .ok (.iload_n 1, 1) := by decide +kernel
theorem dX12_ship_58 : decode cX12_ship 58 = .ok (.iconst 1, 1) := by decide +kernel
theorem dX12_ship_59 : decode cX12_ship 59 = .ok (.bastore, 1) := by decide +kernel
theorem dX12_ship_60 : decode cX12_ship 60 = .ok (.aload_n 0, 1) := by decide +kernel
theorem dX12_ship_61 : decode cX12_ship 61 = .ok (.iload_n 1, 1) := by decide +kernel
theorem dX12_ship_62 : decode cX12_ship 62 = .ok (.iconst 0, 1) := by decide +kernel
theorem dX12_ship_63 : decode cX12_ship 63 = .ok (.invokevirtual 234, 3) := by decide +kernel
theorem dX12_ship_66 : decode cX12_ship 66 = .ok (.ireturn, 1) := by decide +kernel
theorem dX11_pass_0 : decode cX11_pass 0 = .ok (.iload_n 1, 1) := by decide +kernel
theorem dX11_pass_1 : decode cX11_pass 1 = .ok (.iconst 1, 1) := by decide +kernel
theorem dX11_pass_2 : decode cX11_pass 2 = .ok (.sipush 999, 3) := by decide +kernel
theorem dX11_pass_5 : decode cX11_pass 5 = .ok (.invokestatic 62, 3) := by decide +kernel
theorem dX11_pass_8 : decode cX11_pass 8 = .ok (.invokestatic 66, 3) := by decide +kernel
theorem dX11_pass_11 : decode cX11_pass 11 = .ok (.aload_n 0, 1) := by decide +kernel
theorem dX11_pass_12 : decode cX11_pass 12 = .ok (.getfield 51, 3) := by decide +kernel
theorem dX11_pass_15 : decode cX11_pass 15 = .ok (.iload_n 1, 1) := by decide +kernel
theorem dX11_pass_16 : decode cX11_pass 16 = .ok (.iadd, 1) := by decide +kernel
theorem dX11_pass_17 : decode cX11_pass 17 = .ok (.sipush 9999, 3) := by decide +kernel
theorem dX11_pass_20 : decode cX11_pass 20 = .ok (.if_icmp .gt 7, 3) := by decide +kernel
theorem dX11_pass_23 : decode cX11_pass 23 = .ok (.iconst 1, 1) := by decide +kernel
theorem dX11_pass_24 : decode cX11_pass 24 = .ok (.goto 4, 3) := by decide +kernel
theorem dX11_pass_27 : decode cX11_pass 27 = .ok (.iconst 0, 1) := by decide +kernel
theorem dX11_pass_28 : decode cX11_pass 28 = .ok (.invokestatic 76, 3) := by decide +kernel
theorem dX11_pass_31 : decode cX11_pass 31 = .ok (.aload_n 0, 1) := by decide +kernel
theorem dX11_pass_32 : decode cX11_pass 32 = .ok (.dup, 1) := by decide +kernel
theorem dX11_pass_33 : decode cX11_pass 33 = .ok (.getfield 51, 3) := by decide +kernel
theorem dX11_pass_36 : decode cX11_pass 36 = .ok (.iload_n 1, 1) := by decide +kernel
theorem dX11_pass_37 : decode cX11_pass 37 = .ok (.iadd, 1) := by decide +kernel
theorem dX11_pass_38 : decode cX11_pass 38 = .ok (.putfield 51, 3) := by decide +kernel
theorem dX11_pass_41 : decode cX11_pass 41 = .ok (.aload_n 0, 1) := by decide +kernel
theorem dX11_pass_42 : decode cX11_pass 42 = .ok (.getfield 51, 3) := by decide +kernel
theorem dX11_pass_45 : decode cX11_pass 45 = .ok (.ireturn, 1) := by decide +kernel
theorem dL_pass_0 : decode cL_pass 0 = .ok (.aload_n 2, 1) := by decide +kernel
theorem dL_pass_1 : decode cL_pass 1 = .ok (.iconst 0, 1) := by decide +kernel
theorem dL_pass_2 : decode cL_pass 2 = .ok (.aload_n 0, 1) := by decide +kernel
theorem dL_pass_3 : decode cL_pass 3 = .ok (.iload_n 1, 1) := by decide +kernel
theorem dL_pass_4 : decode cL_pass 4 = .ok (.invokevirtual 97, 3) := by decide +kernel
theorem dL_pass_7 : decode cL_pass 7 = .ok (.i2l, 1) := by decide +kernel
theorem dL_pass_8 : decode cL_pass 8 = .ok (.lastore, 1) := by decide +kernel
theorem dL_pass_9 : decode cL_pass 9 = .ok (.goto 9, 3) := by decide +kernel
theorem dL_pass_12 : decode cL_pass 12 = .ok (.astore_n 3, 1) := by decide +kernel
theorem dL_pass_13 : decode cL_pass 13 = .ok (.iconst 1, 1) := by decide +kernel
theorem dL_pass_14 : decode cL_pass 14 = .ok (.ireturn, 1) := by decide +kernel
theorem dL_pass_15 : decode cL_pass 15 = .ok (.astore_n 3, 1) := by decide +kernel
theorem dL_pass_16 : decode cL_pass 16 = .ok (.iconst 2, 1) := by decide +kernel
theorem dL_pass_17 : decode cL_pass 17 = .ok (.ireturn, 1) := by decide +kernel
theorem dL_pass_18 : decode cL_pass 18 = .ok (.iconst 0, 1) := by decide +kernel
theorem dL_pass_19 : decode cL_pass 19 = .ok (.ireturn, 1) := by decide +kernel
theorem dX12_pass_0 : decode cX12_pass 0 = .ok (.aload_n 0, 1) := by decide +kernel
theorem dX12_pass_1 : decode cX12_pass 1 = .ok (.iload_n 1, 1) := by decide +kernel
theorem dX12_pass_2 : decode cX12_pass 2 = .ok (.iconst 1, 1) := by decide +kernel
theorem dX12_pass_3 : decode cX12_pass 3 = .ok (.sipush 999, 3) := by decide +kernel
theorem dX12_pass_6 : decode cX12_pass 6 = .ok (.invokestatic 120, 3) := by decide +kernel
theorem dX12_pass_9 : decode cX12_pass 9 = .ok (.ifCond .ne 7, 3) := by decide +kernel
theorem dX12_pass_12 : decode cX12_pass 12 = .ok (.iconst 1, 1) := by decide +kernel
theorem dX12_pass_13 : decode cX12_pass 13 = .ok (.goto 20, 3) := by decide +kernel
theorem dX12_pass_16 : decode cX12_pass 16 = .ok (.aload_n 0, 1) := by decide +kernel
theorem dX12_pass_17 : decode cX12_pass 17 = .ok (.getfield 207, 3) := by decide +kernel
theorem dX12_pass_20 : decode cX12_pass 20 = .ok (.iload_n 1, 1) := by decide +kernel
theorem dX12_pass_21 : decode cX12_pass 21 = .ok (.iadd, 1) := by decide +kernel
theorem dX12_pass_22 : decode cX12_pass 22 = .ok (.sipush 9999, 3) := by decide +kernel
theorem dX12_pass_25 : decode cX12_pass 25 = .ok (.if_icmp .le 7, 3) := by decide +kernel
theorem dX12_pass_28 : decode cX12_pass 28 = .ok (.iconst 2, 1) := by decide +kernel
theorem dX12_pass_29 : decode cX12_pass 29 = .ok (.goto 4, 3) := by decide +kernel
theorem dX12_pass_32 : decode cX12_pass 32 = .ok (.iconst 0, 1) := by decide +kernel
theorem dX12_pass_33 : decode cX12_pass 33 = .ok (.invokevirtual 134, 3) := by decide +kernel
theorem dX12_pass_36 : decode cX12_pass 36 = .ok (.ifCond .eq 5, 3) := by decide +kernel
theorem dX12_pass_39 : decode cX12_pass 39 = .ok (.iconst 0, 1) := by decide +kernel
theorem dX12_pass_40 : decode cX12_pass 40 = .ok (.ireturn, 1) := by decide +kernel
theorem dX12_pass_41 : decode cX12_pass 41 = .ok (.aload_n 0, 1) := by decide +kernel
theorem dX12_pass_42 : decode cX12_pass 42 = .ok (.dup, 1) := by decide +kernel
theorem dX12_pass_43 : decode cX12_pass 43 = .ok (.getfield 207, 3) := by decide +kernel
theorem dX12_pass_46 : decode cX12_pass 46 = .ok (.iload_n 1, 1) := by decide +kernel
theorem dX12_pass_47 : decode cX12_pass 47 = .ok (.iadd, 1) := by decide +kernel
theorem dX12_pass_48 : decode cX12_pass 48 = .ok (.putfield 207, 3) := by decide +kernel
theorem dX12_pass_51 : decode cX12_pass 51 = .ok (.aload_n 0, 1) := by decide +kernel
theorem dX12_pass_52 : decode cX12_pass 52 = .ok (.getfield 207, 3) := by decide +kernel
theorem dX12_pass_55 : decode cX12_pass 55 = .ok (.ireturn, 1) := by decide +kernel
theorem dX11_ofSlot_0 : decode cX11_ofSlot 0 = .ok (.aload_n 0, 1) := by decide +kernel
theorem dX11_ofSlot_1 : decode cX11_ofSlot 1 = .ok (.iload_n 1, 1) := by decide +kernel
theorem dX11_ofSlot_2 : decode cX11_ofSlot 2 = .ok (.invokevirtual 207, 3) := by decide +kernel
theorem dX11_ofSlot_5 : decode cX11_ofSlot 5 = .ok (.iload_n 2, 1) := by decide +kernel
theorem dX11_ofSlot_6 : decode cX11_ofSlot 6 = .ok (.invokevirtual 211, 3) := by decide +kernel
theorem dX11_ofSlot_9 : decode cX11_ofSlot 9 = .ok (.astore 4, 2) := by decide +kernel
theorem dX11_ofSlot_11 : decode cX11_ofSlot 11 = .ok (.iload_n 3, 1) := by decide +kernel
theorem dX11_ofSlot_12 : decode cX11_ofSlot 12 = .ok (.iconst 0, 1) := by decide +kernel
theorem dX11_ofSlot_13 : decode cX11_ofSlot 13 = .ok (.iconst 3, 1) := by decide +kernel
theorem dX11_ofSlot_14 : decode cX11_ofSlot 14 = .ok (.invokestatic 62, 3) := by decide +kernel
theorem dX11_ofSlot_17 : decode cX11_ofSlot 17 = .ok (.invokestatic 58, 3) := by decide +kernel
theorem dX11_ofSlot_20 : decode cX11_ofSlot 20 = .ok (.iload_n 3, 1) := by decide +kernel
theorem dX11_ofSlot_21 : decode cX11_ofSlot 21 = .ok (.ifCond .ne 9, 3) := by decide +kernel
theorem dX11_ofSlot_24 : decode cX11_ofSlot 24 = .ok (.aload 4, 2) := by decide +kernel
theorem dX11_ofSlot_26 : decode cX11_ofSlot 26 = .ok (.getfield 282, 3) := by decide +kernel
theorem dX11_ofSlot_29 : decode cX11_ofSlot 29 = .ok (.ireturn, 1) := by decide +kernel
theorem dX11_ofSlot_30 : decode cX11_ofSlot 30 = .ok (.iload_n 3, 1) := by decide +kernel
theorem dX11_ofSlot_31 : decode cX11_ofSlot 31 = .ok (.iconst 1, 1) := by decide +kernel
theorem dX11_ofSlot_32 : decode cX11_ofSlot 32 = .ok (.if_icmp .ne 9, 3) := by decide +kernel
theorem dX11_ofSlot_35 : decode cX11_ofSlot 35 = .ok (.aload 4, 2) := by decide +kernel
theorem dX11_ofSlot_37 : decode cX11_ofSlot 37 = .ok (.getfield 285, 3) := by decide +kernel
theorem dX11_ofSlot_40 : decode cX11_ofSlot 40 = .ok (.ireturn, 1) := by decide +kernel
theorem dX11_ofSlot_41 : decode cX11_ofSlot 41 = .ok (.iload_n 3, 1) := by decide +kernel
theorem dX11_ofSlot_42 : decode cX11_ofSlot 42 = .ok (.iconst 2, 1) := by decide +kernel
theorem dX11_ofSlot_43 : decode cX11_ofSlot 43 = .ok (.if_icmp .ne 21, 3) := by decide +kernel
theorem dX11_ofSlot_46 : decode cX11_ofSlot 46 = .ok (.aload 4, 2) := by decide +kernel
theorem dX11_ofSlot_48 : decode cX11_ofSlot 48 = .ok (.getfield 257, 3) := by decide +kernel
theorem dX11_ofSlot_51 : decode cX11_ofSlot 51 = .ok (.ifCond .eq 11, 3) := by decide +kernel
theorem dX11_ofSlot_54 : decode cX11_ofSlot 54 = .ok (.aload 4, 2) := by decide +kernel
theorem dX11_ofSlot_56 : decode cX11_ofSlot 56 = .ok (.getfield 254, 3) := by decide +kernel
theorem dX11_ofSlot_59 : decode cX11_ofSlot 59 = .ok (.goto 4, 3) := by decide +kernel
theorem dX11_ofSlot_62 : decode cX11_ofSlot 62 = .ok (.iconst 0, 1) := by decide +kernel
theorem dX11_ofSlot_63 : decode cX11_ofSlot 63 = .ok (.ireturn, 1) := by decide +kernel
theorem dX11_ofSlot_64 : decode cX11_ofSlot 64 = .ok (.aload 4, 2) := by decide +kernel
theorem dX11_ofSlot_66 : decode cX11_ofSlot 66 = .ok (.getfield 272, 3) := by decide +kernel
theorem dX11_ofSlot_69 : decode cX11_ofSlot 69 = .ok (.ifCond .eq 7, 3) := by decide +kernel
theorem dX11_ofSlot_72 : decode cX11_ofSlot 72 = .ok (.iconst 1, 1) := by decide +kernel
theorem dX11_ofSlot_73 : decode cX11_ofSlot 73 = .ok (.goto 4, 3) := by decide +kernel
theorem dX11_ofSlot_76 : decode cX11_ofSlot 76 = .ok (.iconst 0, 1) := by decide +kernel
theorem dX11_ofSlot_77 : decode cX11_ofSlot 77 = .ok (.ireturn, 1) := by decide +kernel
theorem dL_ofSlot_0 : decode cL_ofSlot 0 = .ok (.aload 4, 2) := by decide +kernel
theorem dL_ofSlot_2 : decode cL_ofSlot 2 = .ok (.iconst 0, 1) := by decide +kernel
theorem dL_ofSlot_3 : decode cL_ofSlot 3 = .ok (.aload_n 0, 1) := by decide +kernel
theorem dL_ofSlot_4 : decode cL_ofSlot 4 = .ok (.iload_n 1, 1) := by decide +kernel
theorem dL_ofSlot_5 : decode cL_ofSlot 5 = .ok (.iload_n 2, 1) := by decide +kernel
theorem dL_ofSlot_6 : decode cL_ofSlot 6 = .ok (.iload_n 3, 1) := by decide +kernel
theorem dL_ofSlot_7 : decode cL_ofSlot 7 = .ok (.invokevirtual 100, 3) := by decide +kernel
theorem dL_ofSlot_10 : decode cL_ofSlot 10 = .ok (.i2l, 1) := by decide +kernel
theorem dL_ofSlot_11 : decode cL_ofSlot 11 = .ok (.lastore, 1) := by decide +kernel
theorem dL_ofSlot_12 : decode cL_ofSlot 12 = .ok (.goto 7, 3) := by decide +kernel
theorem dL_ofSlot_15 : decode cL_ofSlot 15 = .ok (.astore 5, 2) := by decide +kernel
theorem dL_ofSlot_17 : decode cL_ofSlot 17 = .ok (.iconst 1, 1) := by decide +kernel
theorem dL_ofSlot_18 : decode cL_ofSlot 18 = .ok (.ireturn, 1) := by decide +kernel
theorem dL_ofSlot_19 : decode cL_ofSlot 19 = .ok (.iconst 0, 1) := by decide +kernel
theorem dL_ofSlot_20 : decode cL_ofSlot 20 = .ok (.ireturn, 1) := by decide +kernel
theorem dX12_ofSlot_0 : decode cX12_ofSlot 0 = .ok (.aload_n 0, 1) := by decide +kernel
theorem dX12_ofSlot_1 : decode cX12_ofSlot 1 = .ok (.aload_n 0, 1) := by decide +kernel
theorem dX12_ofSlot_2 : decode cX12_ofSlot 2 = .ok (.iload_n 1, 1) := by decide +kernel
theorem dX12_ofSlot_3 : decode cX12_ofSlot 3 = .ok (.invokevirtual 219, 3) := by decide +kernel
theorem dX12_ofSlot_6 : decode cX12_ofSlot 6 = .ok (.ifCond .eq 23, 3) := by decide +kernel
theorem dX12_ofSlot_9 : decode cX12_ofSlot 9 = .ok (.iload_n 2, 1) := by decide +kernel
theorem dX12_ofSlot_10 : decode cX12_ofSlot 10 = .ok (.invokestatic 222, 3) := by decide +kernel
theorem dX12_ofSlot_13 : decode cX12_ofSlot 13 = .ok (.ifCond .eq 16, 3) := by decide +kernel
theorem dX12_ofSlot_16 : decode cX12_ofSlot 16 = .ok (.iload_n 3, 1) := by decide +kernel
theorem dX12_ofSlot_17 : decode cX12_ofSlot 17 = .ok (.iconst 0, 1) := by decide +kernel
theorem dX12_ofSlot_18 : decode cX12_ofSlot 18 = .ok (.iconst 3, 1) := by decide +kernel
theorem dX12_ofSlot_19 : decode cX12_ofSlot 19 = .ok (.invokestatic 120, 3) := by decide +kernel
theorem dX12_ofSlot_22 : decode cX12_ofSlot 22 = .ok (.ifCond .eq 7, 3) := by decide +kernel
theorem dX12_ofSlot_25 : decode cX12_ofSlot 25 = .ok (.iconst 0, 1) := by decide +kernel
theorem dX12_ofSlot_26 : decode cX12_ofSlot 26 = .ok (.goto 4, 3) := by decide +kernel
theorem dX12_ofSlot_29 : decode cX12_ofSlot 29 = .ok (.iconst 1, 1) := by decide +kernel
theorem dX12_ofSlot_30 : decode cX12_ofSlot 30 = .ok (.invokevirtual 134, 3) := by decide +kernel
theorem dX12_ofSlot_33 : decode cX12_ofSlot 33 = .ok (.ifCond .eq 5, 3) := by decide +kernel
theorem dX12_ofSlot_36 : decode cX12_ofSlot 36 = .ok (.iconst 0, 1) := by decide +kernel
theorem dX12_ofSlot_37 : decode cX12_ofSlot 37 = .ok (.ireturn, 1) := by decide +kernel
theorem dX12_ofSlot_38 : decode cX12_ofSlot 38 = .ok (.bipush 8, 2) := by decide +kernel
theorem dX12_ofSlot_40 : decode cX12_ofSlot 40 = .ok (.iload_n 1, 1) := by decide +kernel
theorem dX12_ofSlot_41 : decode cX12_ofSlot 41 = .ok (.imul, 1) := by decide +kernel
theorem dX12_ofSlot_42 : decode cX12_ofSlot 42 = .ok (.iload_n 2, 1) := by decide +kernel
theorem dX12_ofSlot_43 : decode cX12_ofSlot 43 = .ok (.iadd, 1) := by decide +kernel
theorem dX12_ofSlot_44 : decode cX12_ofSlot 44 = .ok (.istore 4, 2) := by decide +kernel
theorem dX12_ofSlot_46 : decode cX12_ofSlot 46 = .ok (.iload_n 3, 1) := by decide +kernel
theorem dX12_ofSlot_47 : decode cX12_ofSlot 47 = .ok (.ifCond .ne 13, 3) := by decide +kernel
theorem dX12_ofSlot_50 : decode cX12_ofSlot 50 = .ok (.aload_n 0, 1) := by decide +kernel
theorem dX12_ofSlot_51 : decode cX12_ofSlot 51 = .ok (.getfield 98, 3) := by decide +kernel
theorem dX12_ofSlot_54 : decode cX12_ofSlot 54 = .ok (.iload 4, 2) := by decide +kernel
theorem dX12_ofSlot_56 : decode cX12_ofSlot 56 = .ok (.iaload, 1) := by decide +kernel
theorem dX12_ofSlot_57 : decode cX12_ofSlot 57 = .ok (.goto 62, 3) := by decide +kernel
theorem dX12_ofSlot_60 : decode cX12_ofSlot 60 = .ok (.iload_n 3, 1) := by decide +kernel
theorem dX12_ofSlot_61 : decode cX12_ofSlot 61 = .ok (.iconst 1, 1) := by decide +kernel
theorem dX12_ofSlot_62 : decode cX12_ofSlot 62 = .ok (.if_icmp .ne 13, 3) := by decide +kernel
theorem dX12_ofSlot_65 : decode cX12_ofSlot 65 = .ok (.aload_n 0, 1) := by decide +kernel
theorem dX12_ofSlot_66 : decode cX12_ofSlot 66 = .ok (.getfield 101, 3) := by decide +kernel
theorem dX12_ofSlot_69 : decode cX12_ofSlot 69 = .ok (.iload 4, 2) := by decide +kernel
theorem dX12_ofSlot_71 : decode cX12_ofSlot 71 = .ok (.iaload, 1) := by decide +kernel
theorem dX12_ofSlot_72 : decode cX12_ofSlot 72 = .ok (.goto 47, 3) := by decide +kernel
theorem dX12_ofSlot_75 : decode cX12_ofSlot 75 = .ok (.iload_n 3, 1) := by decide +kernel
theorem dX12_ofSlot_76 : decode cX12_ofSlot 76 = .ok (.iconst 2, 1) := by decide +kernel
theorem dX12_ofSlot_77 : decode cX12_ofSlot 77 = .ok (.if_icmp .ne 27, 3) := by decide +kernel
theorem dX12_ofSlot_80 : decode cX12_ofSlot 80 = .ok (.aload_n 0, 1) := by decide +kernel
theorem dX12_ofSlot_81 : decode cX12_ofSlot 81 = .ok (.getfield 110, 3) := by decide +kernel
theorem dX12_ofSlot_84 : decode cX12_ofSlot 84 = .ok (.iload 4, 2) := by decide +kernel
theorem dX12_ofSlot_86 : decode cX12_ofSlot 86 = .ok (.baload, 1) := by decide +kernel
theorem dX12_ofSlot_87 : decode cX12_ofSlot 87 = .ok (.ifCond .eq 13, 3) := by decide +kernel
theorem dX12_ofSlot_90 : decode cX12_ofSlot 90 = .ok (.aload_n 0, 1) := by decide +kernel
theorem dX12_ofSlot_91 : decode cX12_ofSlot 91 = .ok (.getfield 107, 3) := by decide +kernel
theorem dX12_ofSlot_94 : decode cX12_ofSlot 94 = .ok (.iload 4, 2) := by decide +kernel
theorem dX12_ofSlot_96 : decode cX12_ofSlot 96 = .ok (.iaload, 1) := by decide +kernel
theorem dX12_ofSlot_97 : decode cX12_ofSlot 97 = .ok (.goto 22, 3) := by decide +kernel
theorem dX12_ofSlot_100 : decode cX12_ofSlot 100 = .ok (.iconst 0, 1) := by decide +kernel
theorem dX12_ofSlot_101 : decode cX12_ofSlot 101 = .ok (.goto 18, 3) := by decide +kernel
theorem dX12_ofSlot_104 : decode cX12_ofSlot 104 = .ok (.aload_n 0, 1) := by decide +kernel
theorem dX12_ofSlot_105 : decode cX12_ofSlot 105 = .ok (.getfield 113, 3) := by decide +kernel
theorem dX12_ofSlot_108 : decode cX12_ofSlot 108 = .ok (.iload 4, 2) := by decide +kernel
theorem dX12_ofSlot_110 : decode cX12_ofSlot 110 = .ok (.baload, 1) := by decide +kernel
theorem dX12_ofSlot_111 : decode cX12_ofSlot 111 = .ok (.ifCond .eq 7, 3) := by decide +kernel
theorem dX12_ofSlot_114 : decode cX12_ofSlot 114 = .ok (.iconst 1, 1) := by decide +kernel
theorem dX12_ofSlot_115 : decode cX12_ofSlot 115 = .ok (.goto 4, 3) := by decide +kernel
theorem dX12_ofSlot_118 : decode cX12_ofSlot 118 = .ok (.iconst 0, 1) := by decide +kernel
theorem dX12_ofSlot_119 : decode cX12_ofSlot 119 = .ok (.ireturn, 1) := by decide +kernel
theorem dX11_jointAnew_0 : decode cX11_jointAnew 0 = .ok (.aload_n 0, 1) := by decide +kernel
theorem dX11_jointAnew_1 : decode cX11_jointAnew 1 = .ok (.iload_n 1, 1) := by decide +kernel
theorem dX11_jointAnew_2 : decode cX11_jointAnew 2 = .ok (.invokevirtual 207, 3) := by decide +kernel
theorem dX11_jointAnew_5 : decode cX11_jointAnew 5 = .ok (.astore_n 3, 1) := by decide +kernel
theorem dX11_jointAnew_6 : decode cX11_jointAnew 6 = .ok (.aload_n 3, 1) := by decide +kernel
theorem dX11_jointAnew_7 : decode cX11_jointAnew 7 = .ok (.iload_n 2, 1) := by decide +kernel
theorem dX11_jointAnew_8 : decode cX11_jointAnew 8 = .ok (.invokevirtual 211, 3) := by decide +kernel
theorem dX11_jointAnew_11 : decode cX11_jointAnew 11 = .ok (.astore 4, 2) := by decide +kernel
theorem dX11_jointAnew_13 : decode cX11_jointAnew 13 = .ok (.aload_n 3, 1) := by decide +kernel
theorem dX11_jointAnew_14 : decode cX11_jointAnew 14 = .ok (.getfield 215, 3) := by decide +kernel
theorem dX11_jointAnew_17 : decode cX11_jointAnew 17 = .ok (.ifCond .eq 23, 3) := by decide +kernel
theorem dX11_jointAnew_20 : decode cX11_jointAnew 20 = .ok (.aload 4, 2) := by decide +kernel
theorem dX11_jointAnew_22 : decode cX11_jointAnew 22 = .ok (.invokevirtual 218, 3) := by decide +kernel
theorem dX11_jointAnew_25 : decode cX11_jointAnew 25 = .ok (.ifCond .eq 15, 3) := by decide +kernel
theorem dX11_jointAnew_28 : decode cX11_jointAnew 28 = .ok (.aload 4, 2) := by decide +kernel
theorem dX11_jointAnew_30 : decode cX11_jointAnew 30 = .ok (.aload_n 3, 1) := by decide +kernel
theorem dX11_jointAnew_31 : decode cX11_jointAnew 31 = .ok (.invokevirtual 286, 3) := by decide +kernel
theorem dX11_jointAnew_34 : decode cX11_jointAnew 34 = .ok (.invokevirtual 289, 3) := by decide +kernel
theorem dX11_jointAnew_37 : decode cX11_jointAnew 37 = .ok (.goto 4, 3) := by decide +kernel
theorem dX11_jointAnew_40 : decode cX11_jointAnew 40 = .ok (.iconst (-1), 1) := by decide +kernel
theorem dX11_jointAnew_41 : decode cX11_jointAnew 41 = .ok (.ireturn, 1) := by decide +kernel
theorem dL_jointAnew_0 : decode cL_jointAnew 0 = .ok (.aload_n 3, 1) := by decide +kernel
theorem dL_jointAnew_1 : decode cL_jointAnew 1 = .ok (.iconst 0, 1) := by decide +kernel
theorem dL_jointAnew_2 : decode cL_jointAnew 2 = .ok (.aload_n 0, 1) := by decide +kernel
theorem dL_jointAnew_3 : decode cL_jointAnew 3 = .ok (.iload_n 1, 1) := by decide +kernel
theorem dL_jointAnew_4 : decode cL_jointAnew 4 = .ok (.iload_n 2, 1) := by decide +kernel
theorem dL_jointAnew_5 : decode cL_jointAnew 5 = .ok (.invokevirtual 103, 3) := by decide +kernel
theorem dL_jointAnew_8 : decode cL_jointAnew 8 = .ok (.i2l, 1) := by decide +kernel
theorem dL_jointAnew_9 : decode cL_jointAnew 9 = .ok (.lastore, 1) := by decide +kernel
theorem dL_jointAnew_10 : decode cL_jointAnew 10 = .ok (.goto 7, 3) := by decide +kernel
theorem dL_jointAnew_13 : decode cL_jointAnew 13 = .ok (.astore 4, 2) := by decide +kernel
theorem dL_jointAnew_15 : decode cL_jointAnew 15 = .ok (.iconst 1, 1) := by decide +kernel
theorem dL_jointAnew_16 : decode cL_jointAnew 16 = .ok (.ireturn, 1) := by decide +kernel
theorem dL_jointAnew_17 : decode cL_jointAnew 17 = .ok (.iconst 0, 1) := by decide +kernel
theorem dL_jointAnew_18 : decode cL_jointAnew 18 = .ok (.ireturn, 1) := by decide +kernel
theorem dX12_jointAnew_0 : decode cX12_jointAnew 0 = .ok (.aload_n 0, 1) := by decide +kernel
theorem dX12_jointAnew_1 : decode cX12_jointAnew 1 = .ok (.aload_n 0, 1) := by decide +kernel
theorem dX12_jointAnew_2 : decode cX12_jointAnew 2 = .ok (.iload_n 1, 1) := by decide +kernel
theorem dX12_jointAnew_3 : decode cX12_jointAnew 3 = .ok (.invokevirtual 219, 3) := by decide +kernel
theorem dX12_jointAnew_6 : decode cX12_jointAnew 6 = .ok (.ifCond .eq 14, 3) := by decide +kernel
theorem dX12_jointAnew_9 : decode cX12_jointAnew 9 = .ok (.iload_n 2, 1) := by decide +kernel
theorem dX12_jointAnew_10 : decode cX12_jointAnew 10 = .ok (.invokestatic 222, 3) := by decide +kernel
theorem dX12_jointAnew_13 : decode cX12_jointAnew 13 = .ok (.ifCond .eq 7, 3) := by decide +kernel
theorem dX12_jointAnew_16 : decode cX12_jointAnew 16 = .ok (.iconst 0, 1) := by decide +kernel
theorem dX12_jointAnew_17 : decode cX12_jointAnew 17 = .ok (.goto 4, 3) := by decide +kernel
theorem dX12_jointAnew_20 : decode cX12_jointAnew 20 = .ok (.iconst 1, 1) := by decide +kernel
theorem dX12_jointAnew_21 : decode cX12_jointAnew 21 = .ok (.invokevirtual 134, 3) := by decide +kernel
theorem dX12_jointAnew_24 : decode cX12_jointAnew 24 = .ok (.ifCond .eq 7, 3) := by decide +kernel
theorem dX12_jointAnew_27 : decode cX12_jointAnew 27 = .ok (.iconst 0, 1) := by decide +kernel
theorem dX12_jointAnew_28 : decode cX12_jointAnew 28 = .ok (.goto 14, 3) := by decide +kernel
theorem dX12_jointAnew_31 : decode cX12_jointAnew 31 = .ok (.aload_n 0, 1) := by decide +kernel
theorem dX12_jointAnew_32 : decode cX12_jointAnew 32 = .ok (.getfield 104, 3) := by decide +kernel
theorem dX12_jointAnew_35 : decode cX12_jointAnew 35 = .ok (.bipush 8, 2) := by decide +kernel
theorem dX12_jointAnew_37 : decode cX12_jointAnew 37 = .ok (.iload_n 1, 1) := by decide +kernel
theorem dX12_jointAnew_38 : decode cX12_jointAnew 38 = .ok (.imul, 1) := by decide +kernel
theorem dX12_jointAnew_39 : decode cX12_jointAnew 39 = .ok (.iload_n 2, 1) := by decide +kernel
theorem dX12_jointAnew_40 : decode cX12_jointAnew 40 = .ok (.iadd, 1) := by decide +kernel
theorem dX12_jointAnew_41 : decode cX12_jointAnew 41 = .ok (.iaload, 1) := by decide +kernel
theorem dX12_jointAnew_42 : decode cX12_jointAnew 42 = .ok (.ireturn, 1) := by decide +kernel
theorem dX0_hasPartOf_0 : decode cX0_hasPartOf 0 = .ok (.iconst 0, 1) := by decide +kernel
theorem dX0_hasPartOf_1 : decode cX0_hasPartOf 1 = .ok (.istore_n 2, 1) := by decide +kernel
theorem dX0_hasPartOf_2 : decode cX0_hasPartOf 2 = .ok (.iload_n 2, 1) := by decide +kernel
theorem dX0_hasPartOf_3 : decode cX0_hasPartOf 3 = .ok (.aload_n 0, 1) := by decide +kernel
theorem dX0_hasPartOf_4 : decode cX0_hasPartOf 4 = .ok (.getfield 12, 3) := by decide +kernel
theorem dX0_hasPartOf_7 : decode cX0_hasPartOf 7 = .ok (.invokevirtual 34, 3) := by decide +kernel
theorem dX0_hasPartOf_10 : decode cX0_hasPartOf 10 = .ok (.if_icmp .ge 29, 3) := by decide +kernel
theorem dX0_hasPartOf_13 : decode cX0_hasPartOf 13 = .ok (.aload_n 0, 1) := by decide +kernel
theorem dX0_hasPartOf_14 : decode cX0_hasPartOf 14 = .ok (.getfield 12, 3) := by decide +kernel
theorem dX0_hasPartOf_17 : decode cX0_hasPartOf 17 = .ok (.iload_n 2, 1) := by decide +kernel
theorem dX0_hasPartOf_18 : decode cX0_hasPartOf 18 = .ok (.invokevirtual 45, 3) := by decide +kernel
theorem dX0_hasPartOf_21 : decode cX0_hasPartOf 21 = .ok (.checkcast 27, 3) := by decide +kernel
theorem dX0_hasPartOf_24 : decode cX0_hasPartOf 24 = .ok (.getfield 88, 3) := by decide +kernel
theorem dX0_hasPartOf_27 : decode cX0_hasPartOf 27 = .ok (.iload_n 1, 1) := by decide +kernel
theorem dX0_hasPartOf_28 : decode cX0_hasPartOf 28 = .ok (.if_icmp .ne 5, 3) := by decide +kernel
theorem dX0_hasPartOf_31 : decode cX0_hasPartOf 31 = .ok (.iconst 1, 1) := by decide +kernel
theorem dX0_hasPartOf_32 : decode cX0_hasPartOf 32 = .ok (.ireturn, 1) := by decide +kernel
theorem dX0_hasPartOf_33 : decode cX0_hasPartOf 33 = .ok (.iinc 2 1, 3) := by decide +kernel
theorem dX0_hasPartOf_36 : decode cX0_hasPartOf 36 = .ok (.goto (-34), 3) := by decide +kernel
theorem dX0_hasPartOf_39 : decode cX0_hasPartOf 39 = .ok (.iconst 0, 1) := by decide +kernel
theorem dX0_hasPartOf_40 : decode cX0_hasPartOf 40 = .ok (.ireturn, 1) := by decide +kernel
theorem dX11_recall_0 : decode cX11_recall 0 = .ok (.iload_n 1, 1) := by decide +kernel
theorem dX11_recall_1 : decode cX11_recall 1 = .ok (.aload_n 0, 1) := by decide +kernel
theorem dX11_recall_2 : decode cX11_recall 2 = .ok (.getfield 40, 3) := by decide +kernel
theorem dX11_recall_5 : decode cX11_recall 5 = .ok (.invokevirtual 72, 3) := by decide +kernel
theorem dX11_recall_8 : decode cX11_recall 8 = .ok (.invokestatic 54, 3) := by decide +kernel
theorem dX11_recall_11 : decode cX11_recall 11 = .ok (.invokestatic 58, 3) := by decide +kernel
theorem dX11_recall_14 : decode cX11_recall 14 = .ok (.iconst 0, 1) := by decide +kernel
theorem dX11_recall_15 : decode cX11_recall 15 = .ok (.istore_n 2, 1) := by decide +kernel
theorem dX11_recall_16 : decode cX11_recall 16 = .ok (.iconst 0, 1) := by decide +kernel
theorem dX11_recall_17 : decode cX11_recall 17 = .ok (.istore_n 3, 1) := by decide +kernel
theorem dX11_recall_18 : decode cX11_recall 18 = .ok (.iload_n 3, 1) := by decide +kernel
theorem dX11_recall_19 : decode cX11_recall 19 = .ok (.aload_n 0, 1) := by decide +kernel
theorem dX11_recall_20 : decode cX11_recall 20 = .ok (.getfield 44, 3) := by decide +kernel
theorem dX11_recall_23 : decode cX11_recall 23 = .ok (.invokevirtual 72, 3) := by decide +kernel
theorem dX11_recall_26 : decode cX11_recall 26 = .ok (.if_icmp .ge 42, 3) := by decide +kernel
theorem dX11_recall_29 : decode cX11_recall 29 = .ok (.aload_n 0, 1) := by decide +kernel
theorem dX11_recall_30 : decode cX11_recall 30 = .ok (.getfield 44, 3) := by decide +kernel
theorem dX11_recall_33 : decode cX11_recall 33 = .ok (.iload_n 3, 1) := by decide +kernel
theorem dX11_recall_34 : decode cX11_recall 34 = .ok (.invokevirtual 292, 3) := by decide +kernel
theorem dX11_recall_37 : decode cX11_recall 37 = .ok (.checkcast 204, 3) := by decide +kernel
theorem dX11_recall_40 : decode cX11_recall 40 = .ok (.astore 4, 2) := by decide +kernel
theorem dX11_recall_42 : decode cX11_recall 42 = .ok (.aload 4, 2) := by decide +kernel
theorem dX11_recall_44 : decode cX11_recall 44 = .ok (.getfield 251, 3) := by decide +kernel
theorem dX11_recall_47 : decode cX11_recall 47 = .ok (.ifCond .eq 15, 3) := by decide +kernel
theorem dX11_recall_50 : decode cX11_recall 50 = .ok (.aload 4, 2) := by decide +kernel
theorem dX11_recall_52 : decode cX11_recall 52 = .ok (.iload_n 1, 1) := by decide +kernel
theorem dX11_recall_53 : decode cX11_recall 53 = .ok (.invokevirtual 296, 3) := by decide +kernel
theorem dX11_recall_56 : decode cX11_recall 56 = .ok (.ifCond .eq 6, 3) := by decide +kernel
theorem dX11_recall_59 : decode cX11_recall 59 = .ok (.iinc 2 1, 3) := by decide +kernel
theorem dX11_recall_62 : decode cX11_recall 62 = .ok (.iinc 3 1, 3) := by decide +kernel
theorem dX11_recall_65 : decode cX11_recall 65 = .ok (.goto (-47), 3) := by decide +kernel
theorem dX11_recall_68 : decode cX11_recall 68 = .ok (.iload_n 2, 1) := by decide +kernel
theorem dX11_recall_69 : decode cX11_recall 69 = .ok (.ireturn, 1) := by decide +kernel
theorem dL_recall_0 : decode cL_recall 0 = .ok (.aload_n 2, 1) := by decide +kernel
theorem dL_recall_1 : decode cL_recall 1 = .ok (.iconst 0, 1) := by decide +kernel
theorem dL_recall_2 : decode cL_recall 2 = .ok (.aload_n 0, 1) := by decide +kernel
theorem dL_recall_3 : decode cL_recall 3 = .ok (.iload_n 1, 1) := by decide +kernel
theorem dL_recall_4 : decode cL_recall 4 = .ok (.invokevirtual 106, 3) := by decide +kernel
theorem dL_recall_7 : decode cL_recall 7 = .ok (.i2l, 1) := by decide +kernel
theorem dL_recall_8 : decode cL_recall 8 = .ok (.lastore, 1) := by decide +kernel
theorem dL_recall_9 : decode cL_recall 9 = .ok (.goto 6, 3) := by decide +kernel
theorem dL_recall_12 : decode cL_recall 12 = .ok (.astore_n 3, 1) := by decide +kernel
theorem dL_recall_13 : decode cL_recall 13 = .ok (.iconst 1, 1) := by decide +kernel
theorem dL_recall_14 : decode cL_recall 14 = .ok (.ireturn, 1) := by decide +kernel
theorem dL_recall_15 : decode cL_recall 15 = .ok (.iconst 0, 1) := by decide +kernel
theorem dL_recall_16 : decode cL_recall 16 = .ok (.ireturn, 1) := by decide +kernel
theorem dX12_recall_0 : decode cX12_recall 0 = .ok (.aload_n 0, 1) := by decide +kernel
theorem dX12_recall_1 : decode cX12_recall 1 = .ok (.aload_n 0, 1) := by decide +kernel
theorem dX12_recall_2 : decode cX12_recall 2 = .ok (.iload_n 1, 1) := by decide +kernel
theorem dX12_recall_3 : decode cX12_recall 3 = .ok (.invokevirtual 210, 3) := by decide +kernel
theorem dX12_recall_6 : decode cX12_recall 6 = .ok (.ifCond .eq 7, 3) := by decide +kernel
theorem dX12_recall_9 : decode cX12_recall 9 = .ok (.iconst 0, 1) := by decide +kernel
theorem dX12_recall_10 : decode cX12_recall 10 = .ok (.goto 4, 3) := by decide +kernel
theorem dX12_recall_13 : decode cX12_recall 13 = .ok (.iconst 1, 1) := by decide +kernel
theorem dX12_recall_14 : decode cX12_recall 14 = .ok (.invokevirtual 134, 3) := by decide +kernel
theorem dX12_recall_17 : decode cX12_recall 17 = .ok (.ifCond .eq 5, 3) := by decide +kernel
theorem dX12_recall_20 : decode cX12_recall 20 = .ok (.iconst 0, 1) := by decide +kernel
theorem dX12_recall_21 : decode cX12_recall 21 = .ok (.ireturn, 1) := by decide +kernel
theorem dX12_recall_22 : decode cX12_recall 22 = .ok (.iconst 0, 1) := by decide +kernel
theorem dX12_recall_23 : decode cX12_recall 23 = .ok (.istore_n 2, 1) := by decide +kernel
theorem dX12_recall_24 : decode cX12_recall 24 = .ok (.iconst 0, 1) := by decide +kernel
theorem dX12_recall_25 : decode cX12_recall 25 = .ok (.istore_n 3, 1) := by decide +kernel
theorem dX12_recall_26 : decode cX12_recall 26 = .ok (.iload_n 3, 1) := by decide +kernel
theorem dX12_recall_27 : decode cX12_recall 27 = .ok (.aload_n 0, 1) := by decide +kernel
theorem dX12_recall_28 : decode cX12_recall 28 = .ok (.getfield 216, 3) := by decide +kernel
theorem dX12_recall_31 : decode cX12_recall 31 = .ok (.if_icmp .ge 81, 3) := by decide +kernel
theorem dX12_recall_34 : decode cX12_recall 34 = .ok (.iconst 0, 1) := by decide +kernel
theorem dX12_recall_35 : decode cX12_recall 35 = .ok (.istore 4, 2) := by decide +kernel
theorem dX12_recall_37 : decode cX12_recall 37 = .ok (.bipush 8, 2) := by decide +kernel
theorem dX12_recall_39 : decode cX12_recall 39 = .ok (.iload_n 3, 1) := by decide +kernel
theorem dX12_recall_40 : decode cX12_recall 40 = .ok (.imul, 1) := by decide +kernel
theorem dX12_recall_41 : decode cX12_recall 41 = .ok (.istore 5, 2) := by decide +kernel
theorem dX12_recall_43 : decode cX12_recall 43 = .ok (.iload 5, 2) := by decide +kernel
theorem dX12_recall_45 : decode cX12_recall 45 = .ok (.bipush 8, 2) := by decide +kernel
theorem dX12_recall_47 : decode cX12_recall 47 = .ok (.iload_n 3, 1) := by decide +kernel
theorem dX12_recall_48 : decode cX12_recall 48 = .ok (.imul, 1) := by decide +kernel
theorem dX12_recall_49 : decode cX12_recall 49 = .ok (.bipush 8, 2) := by decide +kernel
theorem dX12_recall_51 : decode cX12_recall 51 = .ok (.iadd, 1) := by decide +kernel
theorem dX12_recall_52 : decode cX12_recall 52 = .ok (.if_icmp .ge 32, 3) := by decide +kernel
theorem dX12_recall_55 : decode cX12_recall 55 = .ok (.iload 4, 2) := by decide +kernel
theorem dX12_recall_57 : decode cX12_recall 57 = .ok (.ifCond .ne 14, 3) := by decide +kernel
theorem dX12_recall_60 : decode cX12_recall 60 = .ok (.aload_n 0, 1) := by decide +kernel
theorem dX12_recall_61 : decode cX12_recall 61 = .ok (.getfield 98, 3) := by decide +kernel
theorem dX12_recall_64 : decode cX12_recall 64 = .ok (.iload 5, 2) := by decide +kernel
theorem dX12_recall_66 : decode cX12_recall 66 = .ok (.iaload, 1) := by decide +kernel
theorem dX12_recall_67 : decode cX12_recall 67 = .ok (.iload_n 1, 1) := by decide +kernel
theorem dX12_recall_68 : decode cX12_recall 68 = .ok (.if_icmp .ne 7, 3) := by decide +kernel
theorem dX12_recall_71 : decode cX12_recall 71 = .ok (.iconst 1, 1) := by decide +kernel
theorem dX12_recall_72 : decode cX12_recall 72 = .ok (.goto 4, 3) := by decide +kernel
theorem dX12_recall_75 : decode cX12_recall 75 = .ok (.iconst 0, 1) := by decide +kernel
theorem dX12_recall_76 : decode cX12_recall 76 = .ok (.istore 4, 2) := by decide +kernel
theorem dX12_recall_78 : decode cX12_recall 78 = .ok (.iinc 5 1, 3) := by decide +kernel
theorem dX12_recall_81 : decode cX12_recall 81 = .ok (.goto (-38), 3) := by decide +kernel
theorem dX12_recall_84 : decode cX12_recall 84 = .ok (.iload_n 2, 1) := by decide +kernel
theorem dX12_recall_85 : decode cX12_recall 85 = .ok (.iload 4, 2) := by decide +kernel
theorem dX12_recall_87 : decode cX12_recall 87 = .ok (.ifCond .eq 16, 3) := by decide +kernel
theorem dX12_recall_90 : decode cX12_recall 90 = .ok (.aload_n 0, 1) := by decide +kernel
theorem dX12_recall_91 : decode cX12_recall 91 = .ok (.getfield 95, 3) := by decide +kernel
theorem dX12_recall_94 : decode cX12_recall 94 = .ok (.iload_n 3, 1) := by decide +kernel
theorem dX12_recall_95 : decode cX12_recall 95 = .ok (.baload, 1) := by decide +kernel
theorem dX12_recall_96 : decode cX12_recall 96 = .ok (.ifCond .eq 7, 3) := by decide +kernel
theorem dX12_recall_99 : decode cX12_recall 99 = .ok (.iconst 1, 1) := by decide +kernel
theorem dX12_recall_100 : decode cX12_recall 100 = .ok (.goto 4, 3) := by decide +kernel
theorem dX12_recall_103 : decode cX12_recall 103 = .ok (.iconst 0, 1) := by decide +kernel
theorem dX12_recall_104 : decode cX12_recall 104 = .ok (.iadd, 1) := by decide +kernel
theorem dX12_recall_105 : decode cX12_recall 105 = .ok (.istore_n 2, 1) := by decide +kernel
theorem dX12_recall_106 : decode cX12_recall 106 = .ok (.iinc 3 1, 3) := by decide +kernel
theorem dX12_recall_109 : decode cX12_recall 109 = .ok (.goto (-83), 3) := by decide +kernel
theorem dX12_recall_112 : decode cX12_recall 112 = .ok (.iload_n 2, 1) := by decide +kernel
theorem dX12_recall_113 : decode cX12_recall 113 = .ok (.ireturn, 1) := by decide +kernel
theorem dL_law_0 : decode cL_law 0 = .ok (.new 8, 3) := by decide +kernel
theorem dL_law_3 : decode cL_law 3 = .ok (.dup, 1) := by decide +kernel
theorem dL_law_4 : decode cL_law 4 = .ok (.invokespecial 109, 3) := by decide +kernel
theorem dL_law_7 : decode cL_law 7 = .ok (.astore_n 1, 1) := by decide +kernel
theorem dL_law_8 : decode cL_law 8 = .ok (.new 110, 3) := by decide +kernel
theorem dL_law_11 : decode cL_law 11 = .ok (.dup, 1) := by decide +kernel
theorem dL_law_12 : decode cL_law 12 = .ok (.invokespecial 112, 3) := by decide +kernel
theorem dL_law_15 : decode cL_law 15 = .ok (.astore_n 2, 1) := by decide +kernel
theorem dL_law_16 : decode cL_law 16 = .ok (.iconst 1, 1) := by decide +kernel
theorem dL_law_17 : decode cL_law 17 = .ok (.newarray .long, 2) := by decide +kernel
theorem dL_law_19 : decode cL_law 19 = .ok (.astore_n 3, 1) := by decide +kernel
theorem dL_law_20 : decode cL_law 20 = .ok (.iconst 0, 1) := by decide +kernel
theorem dL_law_21 : decode cL_law 21 = .ok (.istore 4, 2) := by decide +kernel
theorem dL_law_23 : decode cL_law 23 = .ok (.iload 4, 2) := by decide +kernel
theorem dL_law_25 : decode cL_law 25 = .ok (.aload_n 0, 1) := by decide +kernel
theorem dL_law_26 : decode cL_law 26 = .ok (.arraylength, 1) := by decide +kernel
theorem dL_law_27 : decode cL_law 27 = .ok (.bipush 6, 2) := by decide +kernel
theorem dL_law_29 : decode cL_law 29 = .ok (.isub, 1) := by decide +kernel
theorem dL_law_30 : decode cL_law 30 = .ok (.if_icmp .gt 2051, 3) := by decide +kernel
theorem dL_law_33 : decode cL_law 33 = .ok (.aload_n 0, 1) := by decide +kernel
theorem dL_law_34 : decode cL_law 34 = .ok (.iload 4, 2) := by decide +kernel
theorem dL_law_36 : decode cL_law 36 = .ok (.iaload, 1) := by decide +kernel
theorem dL_law_37 : decode cL_law 37 = .ok (.bipush 31, 2) := by decide +kernel
theorem dL_law_39 : decode cL_law 39 = .ok (.iand, 1) := by decide +kernel
theorem dL_law_40 : decode cL_law 40 = .ok (.tableswitch 2035 0 27 #[128, 220, 300, 368, 472, 528, 596, 652, 720, 776, 832, 895, 951, 1031, 1115, 1183, 1227, 1307, 1395, 1451, 1499, 1583, 1639, 1719, 1775, 1831, 1911, 1979], 128) := by decide +kernel
theorem dL_law_168 : decode cL_law 168 = .ok (.aload_n 1, 1) := by decide +kernel
theorem dL_law_169 : decode cL_law 169 = .ok (.aload_n 0, 1) := by decide +kernel
theorem dL_law_170 : decode cL_law 170 = .ok (.iload 4, 2) := by decide +kernel
theorem dL_law_172 : decode cL_law 172 = .ok (.iconst 1, 1) := by decide +kernel
theorem dL_law_173 : decode cL_law 173 = .ok (.iadd, 1) := by decide +kernel
theorem dL_law_174 : decode cL_law 174 = .ok (.iaload, 1) := by decide +kernel
theorem dL_law_175 : decode cL_law 175 = .ok (.aload_n 0, 1) := by decide +kernel
theorem dL_law_176 : decode cL_law 176 = .ok (.iload 4, 2) := by decide +kernel
theorem dL_law_178 : decode cL_law 178 = .ok (.iconst 2, 1) := by decide +kernel
theorem dL_law_179 : decode cL_law 179 = .ok (.iadd, 1) := by decide +kernel
theorem dL_law_180 : decode cL_law 180 = .ok (.iaload, 1) := by decide +kernel
theorem dL_law_181 : decode cL_law 181 = .ok (.aload_n 0, 1) := by decide +kernel
theorem dL_law_182 : decode cL_law 182 = .ok (.iload 4, 2) := by decide +kernel
theorem dL_law_184 : decode cL_law 184 = .ok (.iconst 3, 1) := by decide +kernel
theorem dL_law_185 : decode cL_law 185 = .ok (.iadd, 1) := by decide +kernel
theorem dL_law_186 : decode cL_law 186 = .ok (.iaload, 1) := by decide +kernel
theorem dL_law_187 : decode cL_law 187 = .ok (.aload_n 0, 1) := by decide +kernel
theorem dL_law_188 : decode cL_law 188 = .ok (.iload 4, 2) := by decide +kernel
theorem dL_law_190 : decode cL_law 190 = .ok (.iconst 4, 1) := by decide +kernel
theorem dL_law_191 : decode cL_law 191 = .ok (.iadd, 1) := by decide +kernel
theorem dL_law_192 : decode cL_law 192 = .ok (.iaload, 1) := by decide +kernel
theorem dL_law_193 : decode cL_law 193 = .ok (.aload_n 3, 1) := by decide +kernel
theorem dL_law_194 : decode cL_law 194 = .ok (.invokestatic 113, 3) := by decide +kernel
theorem dL_law_197 : decode cL_law 197 = .ok (.istore 5, 2) := by decide +kernel
theorem dL_law_199 : decode cL_law 199 = .ok (.aload_n 2, 1) := by decide +kernel
theorem dL_law_200 : decode cL_law 200 = .ok (.aload_n 0, 1) := by decide +kernel
theorem dL_law_201 : decode cL_law 201 = .ok (.iload 4, 2) := by decide +kernel
theorem dL_law_203 : decode cL_law 203 = .ok (.iconst 1, 1) := by decide +kernel
theorem dL_law_204 : decode cL_law 204 = .ok (.iadd, 1) := by decide +kernel
theorem dL_law_205 : decode cL_law 205 = .ok (.iaload, 1) := by decide +kernel
theorem dL_law_206 : decode cL_law 206 = .ok (.aload_n 0, 1) := by decide +kernel
theorem dL_law_207 : decode cL_law 207 = .ok (.iload 4, 2) := by decide +kernel
theorem dL_law_209 : decode cL_law 209 = .ok (.iconst 2, 1) := by decide +kernel
theorem dL_law_210 : decode cL_law 210 = .ok (.iadd, 1) := by decide +kernel
theorem dL_law_211 : decode cL_law 211 = .ok (.iaload, 1) := by decide +kernel
theorem dL_law_212 : decode cL_law 212 = .ok (.aload_n 0, 1) := by decide +kernel
theorem dL_law_213 : decode cL_law 213 = .ok (.iload 4, 2) := by decide +kernel
theorem dL_law_215 : decode cL_law 215 = .ok (.iconst 3, 1) := by decide +kernel
theorem dL_law_216 : decode cL_law 216 = .ok (.iadd, 1) := by decide +kernel
theorem dL_law_217 : decode cL_law 217 = .ok (.iaload, 1) := by decide +kernel
theorem dL_law_218 : decode cL_law 218 = .ok (.aload_n 0, 1) := by decide +kernel
theorem dL_law_219 : decode cL_law 219 = .ok (.iload 4, 2) := by decide +kernel
theorem dL_law_221 : decode cL_law 221 = .ok (.iconst 4, 1) := by decide +kernel
theorem dL_law_222 : decode cL_law 222 = .ok (.iadd, 1) := by decide +kernel
theorem dL_law_223 : decode cL_law 223 = .ok (.iaload, 1) := by decide +kernel
theorem dL_law_224 : decode cL_law 224 = .ok (.invokevirtual 118, 3) := by decide +kernel
theorem dL_law_227 : decode cL_law 227 = .ok (.istore 6, 2) := by decide +kernel
theorem dL_law_229 : decode cL_law 229 = .ok (.aload_n 2, 1) := by decide +kernel
theorem dL_law_230 : decode cL_law 230 = .ok (.invokevirtual 119, 3) := by decide +kernel
theorem dL_law_233 : decode cL_law 233 = .ok (.iload 5, 2) := by decide +kernel
theorem dL_law_235 : decode cL_law 235 = .ok (.if_icmp .eq 5, 3) := by decide +kernel
theorem dL_law_238 : decode cL_law 238 = .ok (.iconst 0, 1) := by decide +kernel
theorem dL_law_239 : decode cL_law 239 = .ok (.ireturn, 1) := by decide +kernel
theorem dL_law_240 : decode cL_law 240 = .ok (.iload 5, 2) := by decide +kernel
theorem dL_law_242 : decode cL_law 242 = .ok (.ifCond .ne 15, 3) := by decide +kernel
theorem dL_law_245 : decode cL_law 245 = .ok (.aload_n 3, 1) := by decide +kernel
theorem dL_law_246 : decode cL_law 246 = .ok (.iconst 0, 1) := by decide +kernel
theorem dL_law_247 : decode cL_law 247 = .ok (.laload, 1) := by decide +kernel
theorem dL_law_248 : decode cL_law 248 = .ok (.iload 6, 2) := by decide +kernel
theorem dL_law_250 : decode cL_law 250 = .ok (.i2l, 1) := by decide +kernel
theorem dL_law_251 : decode cL_law 251 = .ok (.lcmp, 1) := by decide +kernel
theorem dL_law_252 : decode cL_law 252 = .ok (.ifCond .eq 5, 3) := by decide +kernel
theorem dL_law_255 : decode cL_law 255 = .ok (.iconst 0, 1) := by decide +kernel
theorem dL_law_256 : decode cL_law 256 = .ok (.ireturn, 1) := by decide +kernel
theorem dL_law_257 : decode cL_law 257 = .ok (.goto 1818, 3) := by decide +kernel
theorem dL_law_260 : decode cL_law 260 = .ok (.aload_n 1, 1) := by decide +kernel
theorem dL_law_261 : decode cL_law 261 = .ok (.aload_n 0, 1) := by decide +kernel
theorem dL_law_262 : decode cL_law 262 = .ok (.iload 4, 2) := by decide +kernel
theorem dL_law_264 : decode cL_law 264 = .ok (.iconst 1, 1) := by decide +kernel
theorem dL_law_265 : decode cL_law 265 = .ok (.iadd, 1) := by decide +kernel
theorem dL_law_266 : decode cL_law 266 = .ok (.iaload, 1) := by decide +kernel
theorem dL_law_267 : decode cL_law 267 = .ok (.aload_n 0, 1) := by decide +kernel
theorem dL_law_268 : decode cL_law 268 = .ok (.iload 4, 2) := by decide +kernel
theorem dL_law_270 : decode cL_law 270 = .ok (.iconst 2, 1) := by decide +kernel
theorem dL_law_271 : decode cL_law 271 = .ok (.iadd, 1) := by decide +kernel
theorem dL_law_272 : decode cL_law 272 = .ok (.iaload, 1) := by decide +kernel
theorem dL_law_273 : decode cL_law 273 = .ok (.aload_n 0, 1) := by decide +kernel
theorem dL_law_274 : decode cL_law 274 = .ok (.iload 4, 2) := by decide +kernel
theorem dL_law_276 : decode cL_law 276 = .ok (.iconst 3, 1) := by decide +kernel
theorem dL_law_277 : decode cL_law 277 = .ok (.iadd, 1) := by decide +kernel
theorem dL_law_278 : decode cL_law 278 = .ok (.iaload, 1) := by decide +kernel
theorem dL_law_279 : decode cL_law 279 = .ok (.aload_n 3, 1) := by decide +kernel
theorem dL_law_280 : decode cL_law 280 = .ok (.invokestatic 122, 3) := by decide +kernel
theorem dL_law_283 : decode cL_law 283 = .ok (.istore 5, 2) := by decide +kernel
theorem dL_law_285 : decode cL_law 285 = .ok (.aload_n 2, 1) := by decide +kernel
theorem dL_law_286 : decode cL_law 286 = .ok (.aload_n 0, 1) := by decide +kernel
theorem dL_law_287 : decode cL_law 287 = .ok (.iload 4, 2) := by decide +kernel
theorem dL_law_289 : decode cL_law 289 = .ok (.iconst 1, 1) := by decide +kernel
theorem dL_law_290 : decode cL_law 290 = .ok (.iadd, 1) := by decide +kernel
theorem dL_law_291 : decode cL_law 291 = .ok (.iaload, 1) := by decide +kernel
theorem dL_law_292 : decode cL_law 292 = .ok (.aload_n 0, 1) := by decide +kernel
theorem dL_law_293 : decode cL_law 293 = .ok (.iload 4, 2) := by decide +kernel
theorem dL_law_295 : decode cL_law 295 = .ok (.iconst 2, 1) := by decide +kernel
theorem dL_law_296 : decode cL_law 296 = .ok (.iadd, 1) := by decide +kernel
theorem dL_law_297 : decode cL_law 297 = .ok (.iaload, 1) := by decide +kernel
theorem dL_law_298 : decode cL_law 298 = .ok (.aload_n 0, 1) := by decide +kernel
theorem dL_law_299 : decode cL_law 299 = .ok (.iload 4, 2) := by decide +kernel
theorem dL_law_301 : decode cL_law 301 = .ok (.iconst 3, 1) := by decide +kernel
theorem dL_law_302 : decode cL_law 302 = .ok (.iadd, 1) := by decide +kernel
theorem dL_law_303 : decode cL_law 303 = .ok (.iaload, 1) := by decide +kernel
theorem dL_law_304 : decode cL_law 304 = .ok (.invokevirtual 125, 3) := by decide +kernel
theorem dL_law_307 : decode cL_law 307 = .ok (.istore 6, 2) := by decide +kernel
theorem dL_law_309 : decode cL_law 309 = .ok (.aload_n 2, 1) := by decide +kernel
theorem dL_law_310 : decode cL_law 310 = .ok (.invokevirtual 119, 3) := by decide +kernel
theorem dL_law_313 : decode cL_law 313 = .ok (.iload 5, 2) := by decide +kernel
theorem dL_law_315 : decode cL_law 315 = .ok (.if_icmp .eq 5, 3) := by decide +kernel
theorem dL_law_318 : decode cL_law 318 = .ok (.iconst 0, 1) := by decide +kernel
theorem dL_law_319 : decode cL_law 319 = .ok (.ireturn, 1) := by decide +kernel
theorem dL_law_320 : decode cL_law 320 = .ok (.iload 5, 2) := by decide +kernel
theorem dL_law_322 : decode cL_law 322 = .ok (.ifCond .ne 15, 3) := by decide +kernel
theorem dL_law_325 : decode cL_law 325 = .ok (.aload_n 3, 1) := by decide +kernel
theorem dL_law_326 : decode cL_law 326 = .ok (.iconst 0, 1) := by decide +kernel
theorem dL_law_327 : decode cL_law 327 = .ok (.laload, 1) := by decide +kernel
theorem dL_law_328 : decode cL_law 328 = .ok (.iload 6, 2) := by decide +kernel
theorem dL_law_330 : decode cL_law 330 = .ok (.i2l, 1) := by decide +kernel
theorem dL_law_331 : decode cL_law 331 = .ok (.lcmp, 1) := by decide +kernel
theorem dL_law_332 : decode cL_law 332 = .ok (.ifCond .eq 5, 3) := by decide +kernel
theorem dL_law_335 : decode cL_law 335 = .ok (.iconst 0, 1) := by decide +kernel
theorem dL_law_336 : decode cL_law 336 = .ok (.ireturn, 1) := by decide +kernel
theorem dL_law_337 : decode cL_law 337 = .ok (.goto 1738, 3) := by decide +kernel
theorem dL_law_340 : decode cL_law 340 = .ok (.aload_n 1, 1) := by decide +kernel
theorem dL_law_341 : decode cL_law 341 = .ok (.aload_n 0, 1) := by decide +kernel
theorem dL_law_342 : decode cL_law 342 = .ok (.iload 4, 2) := by decide +kernel
theorem dL_law_344 : decode cL_law 344 = .ok (.iconst 1, 1) := by decide +kernel
theorem dL_law_345 : decode cL_law 345 = .ok (.iadd, 1) := by decide +kernel
theorem dL_law_346 : decode cL_law 346 = .ok (.iaload, 1) := by decide +kernel
theorem dL_law_347 : decode cL_law 347 = .ok (.aload_n 0, 1) := by decide +kernel
theorem dL_law_348 : decode cL_law 348 = .ok (.iload 4, 2) := by decide +kernel
theorem dL_law_350 : decode cL_law 350 = .ok (.iconst 2, 1) := by decide +kernel
theorem dL_law_351 : decode cL_law 351 = .ok (.iadd, 1) := by decide +kernel
theorem dL_law_352 : decode cL_law 352 = .ok (.iaload, 1) := by decide +kernel
theorem dL_law_353 : decode cL_law 353 = .ok (.aload_n 3, 1) := by decide +kernel
theorem dL_law_354 : decode cL_law 354 = .ok (.invokestatic 126, 3) := by decide +kernel
theorem dL_law_357 : decode cL_law 357 = .ok (.istore 5, 2) := by decide +kernel
theorem dL_law_359 : decode cL_law 359 = .ok (.aload_n 2, 1) := by decide +kernel
theorem dL_law_360 : decode cL_law 360 = .ok (.aload_n 0, 1) := by decide +kernel
theorem dL_law_361 : decode cL_law 361 = .ok (.iload 4, 2) := by decide +kernel
theorem dL_law_363 : decode cL_law 363 = .ok (.iconst 1, 1) := by decide +kernel
theorem dL_law_364 : decode cL_law 364 = .ok (.iadd, 1) := by decide +kernel
theorem dL_law_365 : decode cL_law 365 = .ok (.iaload, 1) := by decide +kernel
theorem dL_law_366 : decode cL_law 366 = .ok (.aload_n 0, 1) := by decide +kernel
theorem dL_law_367 : decode cL_law 367 = .ok (.iload 4, 2) := by decide +kernel
theorem dL_law_369 : decode cL_law 369 = .ok (.iconst 2, 1) := by decide +kernel
theorem dL_law_370 : decode cL_law 370 = .ok (.iadd, 1) := by decide +kernel
theorem dL_law_371 : decode cL_law 371 = .ok (.iaload, 1) := by decide +kernel
theorem dL_law_372 : decode cL_law 372 = .ok (.invokevirtual 129, 3) := by decide +kernel
theorem dL_law_375 : decode cL_law 375 = .ok (.istore 6, 2) := by decide +kernel
theorem dL_law_377 : decode cL_law 377 = .ok (.aload_n 2, 1) := by decide +kernel
theorem dL_law_378 : decode cL_law 378 = .ok (.invokevirtual 119, 3) := by decide +kernel
theorem dL_law_381 : decode cL_law 381 = .ok (.iload 5, 2) := by decide +kernel
theorem dL_law_383 : decode cL_law 383 = .ok (.if_icmp .eq 5, 3) := by decide +kernel
theorem dL_law_386 : decode cL_law 386 = .ok (.iconst 0, 1) := by decide +kernel
theorem dL_law_387 : decode cL_law 387 = .ok (.ireturn, 1) := by decide +kernel
theorem dL_law_388 : decode cL_law 388 = .ok (.iload 5, 2) := by decide +kernel
theorem dL_law_390 : decode cL_law 390 = .ok (.ifCond .ne 15, 3) := by decide +kernel
theorem dL_law_393 : decode cL_law 393 = .ok (.aload_n 3, 1) := by decide +kernel
theorem dL_law_394 : decode cL_law 394 = .ok (.iconst 0, 1) := by decide +kernel
theorem dL_law_395 : decode cL_law 395 = .ok (.laload, 1) := by decide +kernel
theorem dL_law_396 : decode cL_law 396 = .ok (.iload 6, 2) := by decide +kernel
theorem dL_law_398 : decode cL_law 398 = .ok (.i2l, 1) := by decide +kernel
theorem dL_law_399 : decode cL_law 399 = .ok (.lcmp, 1) := by decide +kernel
theorem dL_law_400 : decode cL_law 400 = .ok (.ifCond .eq 5, 3) := by decide +kernel
theorem dL_law_403 : decode cL_law 403 = .ok (.iconst 0, 1) := by decide +kernel
theorem dL_law_404 : decode cL_law 404 = .ok (.ireturn, 1) := by decide +kernel
theorem dL_law_405 : decode cL_law 405 = .ok (.goto 1670, 3) := by decide +kernel
theorem dL_law_408 : decode cL_law 408 = .ok (.aload_n 1, 1) := by decide +kernel
theorem dL_law_409 : decode cL_law 409 = .ok (.aload_n 0, 1) := by decide +kernel
theorem dL_law_410 : decode cL_law 410 = .ok (.iload 4, 2) := by decide +kernel
theorem dL_law_412 : decode cL_law 412 = .ok (.iconst 1, 1) := by decide +kernel
theorem dL_law_413 : decode cL_law 413 = .ok (.iadd, 1) := by decide +kernel
theorem dL_law_414 : decode cL_law 414 = .ok (.iaload, 1) := by decide +kernel
theorem dL_law_415 : decode cL_law 415 = .ok (.aload_n 0, 1) := by decide +kernel
theorem dL_law_416 : decode cL_law 416 = .ok (.iload 4, 2) := by decide +kernel
theorem dL_law_418 : decode cL_law 418 = .ok (.iconst 2, 1) := by decide +kernel
theorem dL_law_419 : decode cL_law 419 = .ok (.iadd, 1) := by decide +kernel
theorem dL_law_420 : decode cL_law 420 = .ok (.iaload, 1) := by decide +kernel
theorem dL_law_421 : decode cL_law 421 = .ok (.aload_n 0, 1) := by decide +kernel
theorem dL_law_422 : decode cL_law 422 = .ok (.iload 4, 2) := by decide +kernel
theorem dL_law_424 : decode cL_law 424 = .ok (.iconst 3, 1) := by decide +kernel
theorem dL_law_425 : decode cL_law 425 = .ok (.iadd, 1) := by decide +kernel
theorem dL_law_426 : decode cL_law 426 = .ok (.iaload, 1) := by decide +kernel
theorem dL_law_427 : decode cL_law 427 = .ok (.aload_n 0, 1) := by decide +kernel
theorem dL_law_428 : decode cL_law 428 = .ok (.iload 4, 2) := by decide +kernel
theorem dL_law_430 : decode cL_law 430 = .ok (.iconst 4, 1) := by decide +kernel
theorem dL_law_431 : decode cL_law 431 = .ok (.iadd, 1) := by decide +kernel
theorem dL_law_432 : decode cL_law 432 = .ok (.iaload, 1) := by decide +kernel
theorem dL_law_433 : decode cL_law 433 = .ok (.aload_n 0, 1) := by decide +kernel
theorem dL_law_434 : decode cL_law 434 = .ok (.iload 4, 2) := by decide +kernel
theorem dL_law_436 : decode cL_law 436 = .ok (.iconst 5, 1) := by decide +kernel
theorem dL_law_437 : decode cL_law 437 = .ok (.iadd, 1) := by decide +kernel
theorem dL_law_438 : decode cL_law 438 = .ok (.iaload, 1) := by decide +kernel
theorem dL_law_439 : decode cL_law 439 = .ok (.aload_n 3, 1) := by decide +kernel
theorem dL_law_440 : decode cL_law 440 = .ok (.invokestatic 130, 3) := by decide +kernel
theorem dL_law_443 : decode cL_law 443 = .ok (.istore 5, 2) := by decide +kernel
theorem dL_law_445 : decode cL_law 445 = .ok (.aload_n 2, 1) := by decide +kernel
theorem dL_law_446 : decode cL_law 446 = .ok (.aload_n 0, 1) := by decide +kernel
theorem dL_law_447 : decode cL_law 447 = .ok (.iload 4, 2) := by decide +kernel
theorem dL_law_449 : decode cL_law 449 = .ok (.iconst 1, 1) := by decide +kernel
theorem dL_law_450 : decode cL_law 450 = .ok (.iadd, 1) := by decide +kernel
theorem dL_law_451 : decode cL_law 451 = .ok (.iaload, 1) := by decide +kernel
theorem dL_law_452 : decode cL_law 452 = .ok (.aload_n 0, 1) := by decide +kernel
theorem dL_law_453 : decode cL_law 453 = .ok (.iload 4, 2) := by decide +kernel
theorem dL_law_455 : decode cL_law 455 = .ok (.iconst 2, 1) := by decide +kernel
theorem dL_law_456 : decode cL_law 456 = .ok (.iadd, 1) := by decide +kernel
theorem dL_law_457 : decode cL_law 457 = .ok (.iaload, 1) := by decide +kernel
theorem dL_law_458 : decode cL_law 458 = .ok (.aload_n 0, 1) := by decide +kernel
theorem dL_law_459 : decode cL_law 459 = .ok (.iload 4, 2) := by decide +kernel
theorem dL_law_461 : decode cL_law 461 = .ok (.iconst 3, 1) := by decide +kernel
theorem dL_law_462 : decode cL_law 462 = .ok (.iadd, 1) := by decide +kernel
theorem dL_law_463 : decode cL_law 463 = .ok (.iaload, 1) := by decide +kernel
theorem dL_law_464 : decode cL_law 464 = .ok (.aload_n 0, 1) := by decide +kernel
theorem dL_law_465 : decode cL_law 465 = .ok (.iload 4, 2) := by decide +kernel
theorem dL_law_467 : decode cL_law 467 = .ok (.iconst 4, 1) := by decide +kernel
theorem dL_law_468 : decode cL_law 468 = .ok (.iadd, 1) := by decide +kernel
theorem dL_law_469 : decode cL_law 469 = .ok (.iaload, 1) := by decide +kernel
theorem dL_law_470 : decode cL_law 470 = .ok (.aload_n 0, 1) := by decide +kernel
theorem dL_law_471 : decode cL_law 471 = .ok (.iload 4, 2) := by decide +kernel
theorem dL_law_473 : decode cL_law 473 = .ok (.iconst 5, 1) := by decide +kernel
theorem dL_law_474 : decode cL_law 474 = .ok (.iadd, 1) := by decide +kernel
theorem dL_law_475 : decode cL_law 475 = .ok (.iaload, 1) := by decide +kernel
theorem dL_law_476 : decode cL_law 476 = .ok (.invokevirtual 133, 3) := by decide +kernel
theorem dL_law_479 : decode cL_law 479 = .ok (.istore 6, 2) := by decide +kernel
theorem dL_law_481 : decode cL_law 481 = .ok (.aload_n 2, 1) := by decide +kernel
theorem dL_law_482 : decode cL_law 482 = .ok (.invokevirtual 119, 3) := by decide +kernel
theorem dL_law_485 : decode cL_law 485 = .ok (.iload 5, 2) := by decide +kernel
theorem dL_law_487 : decode cL_law 487 = .ok (.if_icmp .eq 5, 3) := by decide +kernel
theorem dL_law_490 : decode cL_law 490 = .ok (.iconst 0, 1) := by decide +kernel
theorem dL_law_491 : decode cL_law 491 = .ok (.ireturn, 1) := by decide +kernel
theorem dL_law_492 : decode cL_law 492 = .ok (.iload 5, 2) := by decide +kernel
theorem dL_law_494 : decode cL_law 494 = .ok (.ifCond .ne 15, 3) := by decide +kernel
theorem dL_law_497 : decode cL_law 497 = .ok (.aload_n 3, 1) := by decide +kernel
theorem dL_law_498 : decode cL_law 498 = .ok (.iconst 0, 1) := by decide +kernel
theorem dL_law_499 : decode cL_law 499 = .ok (.laload, 1) := by decide +kernel
theorem dL_law_500 : decode cL_law 500 = .ok (.iload 6, 2) := by decide +kernel
theorem dL_law_502 : decode cL_law 502 = .ok (.i2l, 1) := by decide +kernel
theorem dL_law_503 : decode cL_law 503 = .ok (.lcmp, 1) := by decide +kernel
theorem dL_law_504 : decode cL_law 504 = .ok (.ifCond .eq 5, 3) := by decide +kernel
theorem dL_law_507 : decode cL_law 507 = .ok (.iconst 0, 1) := by decide +kernel
theorem dL_law_508 : decode cL_law 508 = .ok (.ireturn, 1) := by decide +kernel
theorem dL_law_509 : decode cL_law 509 = .ok (.goto 1566, 3) := by decide +kernel
theorem dL_law_512 : decode cL_law 512 = .ok (.aload_n 1, 1) := by decide +kernel
theorem dL_law_513 : decode cL_law 513 = .ok (.aload_n 0, 1) := by decide +kernel
theorem dL_law_514 : decode cL_law 514 = .ok (.iload 4, 2) := by decide +kernel
theorem dL_law_516 : decode cL_law 516 = .ok (.iconst 1, 1) := by decide +kernel
theorem dL_law_517 : decode cL_law 517 = .ok (.iadd, 1) := by decide +kernel
theorem dL_law_518 : decode cL_law 518 = .ok (.iaload, 1) := by decide +kernel
theorem dL_law_519 : decode cL_law 519 = .ok (.aload_n 3, 1) := by decide +kernel
theorem dL_law_520 : decode cL_law 520 = .ok (.invokestatic 134, 3) := by decide +kernel
theorem dL_law_523 : decode cL_law 523 = .ok (.istore 5, 2) := by decide +kernel
theorem dL_law_525 : decode cL_law 525 = .ok (.aload_n 2, 1) := by decide +kernel
theorem dL_law_526 : decode cL_law 526 = .ok (.aload_n 0, 1) := by decide +kernel
theorem dL_law_527 : decode cL_law 527 = .ok (.iload 4, 2) := by decide +kernel
theorem dL_law_529 : decode cL_law 529 = .ok (.iconst 1, 1) := by decide +kernel
theorem dL_law_530 : decode cL_law 530 = .ok (.iadd, 1) := by decide +kernel
theorem dL_law_531 : decode cL_law 531 = .ok (.iaload, 1) := by decide +kernel
theorem dL_law_532 : decode cL_law 532 = .ok (.invokevirtual 137, 3) := by decide +kernel
theorem dL_law_535 : decode cL_law 535 = .ok (.istore 6, 2) := by decide +kernel
theorem dL_law_537 : decode cL_law 537 = .ok (.aload_n 2, 1) := by decide +kernel
theorem dL_law_538 : decode cL_law 538 = .ok (.invokevirtual 119, 3) := by decide +kernel
theorem dL_law_541 : decode cL_law 541 = .ok (.iload 5, 2) := by decide +kernel
theorem dL_law_543 : decode cL_law 543 = .ok (.if_icmp .eq 5, 3) := by decide +kernel
theorem dL_law_546 : decode cL_law 546 = .ok (.iconst 0, 1) := by decide +kernel
theorem dL_law_547 : decode cL_law 547 = .ok (.ireturn, 1) := by decide +kernel
theorem dL_law_548 : decode cL_law 548 = .ok (.iload 5, 2) := by decide +kernel
theorem dL_law_550 : decode cL_law 550 = .ok (.ifCond .ne 15, 3) := by decide +kernel
theorem dL_law_553 : decode cL_law 553 = .ok (.aload_n 3, 1) := by decide +kernel
theorem dL_law_554 : decode cL_law 554 = .ok (.iconst 0, 1) := by decide +kernel
theorem dL_law_555 : decode cL_law 555 = .ok (.laload, 1) := by decide +kernel
theorem dL_law_556 : decode cL_law 556 = .ok (.iload 6, 2) := by decide +kernel
theorem dL_law_558 : decode cL_law 558 = .ok (.i2l, 1) := by decide +kernel
theorem dL_law_559 : decode cL_law 559 = .ok (.lcmp, 1) := by decide +kernel
theorem dL_law_560 : decode cL_law 560 = .ok (.ifCond .eq 5, 3) := by decide +kernel
theorem dL_law_563 : decode cL_law 563 = .ok (.iconst 0, 1) := by decide +kernel
theorem dL_law_564 : decode cL_law 564 = .ok (.ireturn, 1) := by decide +kernel
theorem dL_law_565 : decode cL_law 565 = .ok (.goto 1510, 3) := by decide +kernel
theorem dL_law_568 : decode cL_law 568 = .ok (.aload_n 1, 1) := by decide +kernel
theorem dL_law_569 : decode cL_law 569 = .ok (.aload_n 0, 1) := by decide +kernel
theorem dL_law_570 : decode cL_law 570 = .ok (.iload 4, 2) := by decide +kernel
theorem dL_law_572 : decode cL_law 572 = .ok (.iconst 1, 1) := by decide +kernel
theorem dL_law_573 : decode cL_law 573 = .ok (.iadd, 1) := by decide +kernel
theorem dL_law_574 : decode cL_law 574 = .ok (.iaload, 1) := by decide +kernel
theorem dL_law_575 : decode cL_law 575 = .ok (.aload_n 0, 1) := by decide +kernel
theorem dL_law_576 : decode cL_law 576 = .ok (.iload 4, 2) := by decide +kernel
theorem dL_law_578 : decode cL_law 578 = .ok (.iconst 2, 1) := by decide +kernel
theorem dL_law_579 : decode cL_law 579 = .ok (.iadd, 1) := by decide +kernel
theorem dL_law_580 : decode cL_law 580 = .ok (.iaload, 1) := by decide +kernel
theorem dL_law_581 : decode cL_law 581 = .ok (.aload_n 3, 1) := by decide +kernel
theorem dL_law_582 : decode cL_law 582 = .ok (.invokestatic 138, 3) := by decide +kernel
theorem dL_law_585 : decode cL_law 585 = .ok (.istore 5, 2) := by decide +kernel
theorem dL_law_587 : decode cL_law 587 = .ok (.aload_n 2, 1) := by decide +kernel
theorem dL_law_588 : decode cL_law 588 = .ok (.aload_n 0, 1) := by decide +kernel
theorem dL_law_589 : decode cL_law 589 = .ok (.iload 4, 2) := by decide +kernel
theorem dL_law_591 : decode cL_law 591 = .ok (.iconst 1, 1) := by decide +kernel
theorem dL_law_592 : decode cL_law 592 = .ok (.iadd, 1) := by decide +kernel
theorem dL_law_593 : decode cL_law 593 = .ok (.iaload, 1) := by decide +kernel
theorem dL_law_594 : decode cL_law 594 = .ok (.aload_n 0, 1) := by decide +kernel
theorem dL_law_595 : decode cL_law 595 = .ok (.iload 4, 2) := by decide +kernel
theorem dL_law_597 : decode cL_law 597 = .ok (.iconst 2, 1) := by decide +kernel
theorem dL_law_598 : decode cL_law 598 = .ok (.iadd, 1) := by decide +kernel
theorem dL_law_599 : decode cL_law 599 = .ok (.iaload, 1) := by decide +kernel
theorem dL_law_600 : decode cL_law 600 = .ok (.invokevirtual 140, 3) := by decide +kernel
theorem dL_law_603 : decode cL_law 603 = .ok (.istore 6, 2) := by decide +kernel
theorem dL_law_605 : decode cL_law 605 = .ok (.aload_n 2, 1) := by decide +kernel
theorem dL_law_606 : decode cL_law 606 = .ok (.invokevirtual 119, 3) := by decide +kernel
theorem dL_law_609 : decode cL_law 609 = .ok (.iload 5, 2) := by decide +kernel
theorem dL_law_611 : decode cL_law 611 = .ok (.if_icmp .eq 5, 3) := by decide +kernel
theorem dL_law_614 : decode cL_law 614 = .ok (.iconst 0, 1) := by decide +kernel
theorem dL_law_615 : decode cL_law 615 = .ok (.ireturn, 1) := by decide +kernel
theorem dL_law_616 : decode cL_law 616 = .ok (.iload 5, 2) := by decide +kernel
theorem dL_law_618 : decode cL_law 618 = .ok (.ifCond .ne 15, 3) := by decide +kernel
theorem dL_law_621 : decode cL_law 621 = .ok (.aload_n 3, 1) := by decide +kernel
theorem dL_law_622 : decode cL_law 622 = .ok (.iconst 0, 1) := by decide +kernel
theorem dL_law_623 : decode cL_law 623 = .ok (.laload, 1) := by decide +kernel
theorem dL_law_624 : decode cL_law 624 = .ok (.iload 6, 2) := by decide +kernel
theorem dL_law_626 : decode cL_law 626 = .ok (.i2l, 1) := by decide +kernel
theorem dL_law_627 : decode cL_law 627 = .ok (.lcmp, 1) := by decide +kernel
theorem dL_law_628 : decode cL_law 628 = .ok (.ifCond .eq 5, 3) := by decide +kernel
theorem dL_law_631 : decode cL_law 631 = .ok (.iconst 0, 1) := by decide +kernel
theorem dL_law_632 : decode cL_law 632 = .ok (.ireturn, 1) := by decide +kernel
theorem dL_law_633 : decode cL_law 633 = .ok (.goto 1442, 3) := by decide +kernel
theorem dL_law_636 : decode cL_law 636 = .ok (.aload_n 1, 1) := by decide +kernel
theorem dL_law_637 : decode cL_law 637 = .ok (.aload_n 0, 1) := by decide +kernel
theorem dL_law_638 : decode cL_law 638 = .ok (.iload 4, 2) := by decide +kernel
theorem dL_law_640 : decode cL_law 640 = .ok (.iconst 1, 1) := by decide +kernel
theorem dL_law_641 : decode cL_law 641 = .ok (.iadd, 1) := by decide +kernel
theorem dL_law_642 : decode cL_law 642 = .ok (.iaload, 1) := by decide +kernel
theorem dL_law_643 : decode cL_law 643 = .ok (.aload_n 3, 1) := by decide +kernel
theorem dL_law_644 : decode cL_law 644 = .ok (.invokestatic 141, 3) := by decide +kernel
theorem dL_law_647 : decode cL_law 647 = .ok (.istore 5, 2) := by decide +kernel
theorem dL_law_649 : decode cL_law 649 = .ok (.aload_n 2, 1) := by decide +kernel
theorem dL_law_650 : decode cL_law 650 = .ok (.aload_n 0, 1) := by decide +kernel
theorem dL_law_651 : decode cL_law 651 = .ok (.iload 4, 2) := by decide +kernel
theorem dL_law_653 : decode cL_law 653 = .ok (.iconst 1, 1) := by decide +kernel
theorem dL_law_654 : decode cL_law 654 = .ok (.iadd, 1) := by decide +kernel
theorem dL_law_655 : decode cL_law 655 = .ok (.iaload, 1) := by decide +kernel
theorem dL_law_656 : decode cL_law 656 = .ok (.invokevirtual 143, 3) := by decide +kernel
theorem dL_law_659 : decode cL_law 659 = .ok (.istore 6, 2) := by decide +kernel
theorem dL_law_661 : decode cL_law 661 = .ok (.aload_n 2, 1) := by decide +kernel
theorem dL_law_662 : decode cL_law 662 = .ok (.invokevirtual 119, 3) := by decide +kernel
theorem dL_law_665 : decode cL_law 665 = .ok (.iload 5, 2) := by decide +kernel
theorem dL_law_667 : decode cL_law 667 = .ok (.if_icmp .eq 5, 3) := by decide +kernel
theorem dL_law_670 : decode cL_law 670 = .ok (.iconst 0, 1) := by decide +kernel
theorem dL_law_671 : decode cL_law 671 = .ok (.ireturn, 1) := by decide +kernel
theorem dL_law_672 : decode cL_law 672 = .ok (.iload 5, 2) := by decide +kernel
theorem dL_law_674 : decode cL_law 674 = .ok (.ifCond .ne 15, 3) := by decide +kernel
theorem dL_law_677 : decode cL_law 677 = .ok (.aload_n 3, 1) := by decide +kernel
theorem dL_law_678 : decode cL_law 678 = .ok (.iconst 0, 1) := by decide +kernel
theorem dL_law_679 : decode cL_law 679 = .ok (.laload, 1) := by decide +kernel
theorem dL_law_680 : decode cL_law 680 = .ok (.iload 6, 2) := by decide +kernel
theorem dL_law_682 : decode cL_law 682 = .ok (.i2l, 1) := by decide +kernel
theorem dL_law_683 : decode cL_law 683 = .ok (.lcmp, 1) := by decide +kernel
theorem dL_law_684 : decode cL_law 684 = .ok (.ifCond .eq 5, 3) := by decide +kernel
theorem dL_law_687 : decode cL_law 687 = .ok (.iconst 0, 1) := by decide +kernel
theorem dL_law_688 : decode cL_law 688 = .ok (.ireturn, 1) := by decide +kernel
theorem dL_law_689 : decode cL_law 689 = .ok (.goto 1386, 3) := by decide +kernel
theorem dL_law_692 : decode cL_law 692 = .ok (.aload_n 1, 1) := by decide +kernel
theorem dL_law_693 : decode cL_law 693 = .ok (.aload_n 0, 1) := by decide +kernel
theorem dL_law_694 : decode cL_law 694 = .ok (.iload 4, 2) := by decide +kernel
theorem dL_law_696 : decode cL_law 696 = .ok (.iconst 1, 1) := by decide +kernel
theorem dL_law_697 : decode cL_law 697 = .ok (.iadd, 1) := by decide +kernel
theorem dL_law_698 : decode cL_law 698 = .ok (.iaload, 1) := by decide +kernel
theorem dL_law_699 : decode cL_law 699 = .ok (.aload_n 0, 1) := by decide +kernel
theorem dL_law_700 : decode cL_law 700 = .ok (.iload 4, 2) := by decide +kernel
theorem dL_law_702 : decode cL_law 702 = .ok (.iconst 2, 1) := by decide +kernel
theorem dL_law_703 : decode cL_law 703 = .ok (.iadd, 1) := by decide +kernel
theorem dL_law_704 : decode cL_law 704 = .ok (.iaload, 1) := by decide +kernel
theorem dL_law_705 : decode cL_law 705 = .ok (.aload_n 3, 1) := by decide +kernel
theorem dL_law_706 : decode cL_law 706 = .ok (.invokestatic 144, 3) := by decide +kernel
theorem dL_law_709 : decode cL_law 709 = .ok (.istore 5, 2) := by decide +kernel
theorem dL_law_711 : decode cL_law 711 = .ok (.aload_n 2, 1) := by decide +kernel
theorem dL_law_712 : decode cL_law 712 = .ok (.aload_n 0, 1) := by decide +kernel
theorem dL_law_713 : decode cL_law 713 = .ok (.iload 4, 2) := by decide +kernel
theorem dL_law_715 : decode cL_law 715 = .ok (.iconst 1, 1) := by decide +kernel
theorem dL_law_716 : decode cL_law 716 = .ok (.iadd, 1) := by decide +kernel
theorem dL_law_717 : decode cL_law 717 = .ok (.iaload, 1) := by decide +kernel
theorem dL_law_718 : decode cL_law 718 = .ok (.aload_n 0, 1) := by decide +kernel
theorem dL_law_719 : decode cL_law 719 = .ok (.iload 4, 2) := by decide +kernel
theorem dL_law_721 : decode cL_law 721 = .ok (.iconst 2, 1) := by decide +kernel
theorem dL_law_722 : decode cL_law 722 = .ok (.iadd, 1) := by decide +kernel
theorem dL_law_723 : decode cL_law 723 = .ok (.iaload, 1) := by decide +kernel
theorem dL_law_724 : decode cL_law 724 = .ok (.invokevirtual 146, 3) := by decide +kernel
theorem dL_law_727 : decode cL_law 727 = .ok (.istore 6, 2) := by decide +kernel
theorem dL_law_729 : decode cL_law 729 = .ok (.aload_n 2, 1) := by decide +kernel
theorem dL_law_730 : decode cL_law 730 = .ok (.invokevirtual 119, 3) := by decide +kernel
theorem dL_law_733 : decode cL_law 733 = .ok (.iload 5, 2) := by decide +kernel
theorem dL_law_735 : decode cL_law 735 = .ok (.if_icmp .eq 5, 3) := by decide +kernel
theorem dL_law_738 : decode cL_law 738 = .ok (.iconst 0, 1) := by decide +kernel
theorem dL_law_739 : decode cL_law 739 = .ok (.ireturn, 1) := by decide +kernel
theorem dL_law_740 : decode cL_law 740 = .ok (.iload 5, 2) := by decide +kernel
theorem dL_law_742 : decode cL_law 742 = .ok (.ifCond .ne 15, 3) := by decide +kernel
theorem dL_law_745 : decode cL_law 745 = .ok (.aload_n 3, 1) := by decide +kernel
theorem dL_law_746 : decode cL_law 746 = .ok (.iconst 0, 1) := by decide +kernel
theorem dL_law_747 : decode cL_law 747 = .ok (.laload, 1) := by decide +kernel
theorem dL_law_748 : decode cL_law 748 = .ok (.iload 6, 2) := by decide +kernel
theorem dL_law_750 : decode cL_law 750 = .ok (.i2l, 1) := by decide +kernel
theorem dL_law_751 : decode cL_law 751 = .ok (.lcmp, 1) := by decide +kernel
theorem dL_law_752 : decode cL_law 752 = .ok (.ifCond .eq 5, 3) := by decide +kernel
theorem dL_law_755 : decode cL_law 755 = .ok (.iconst 0, 1) := by decide +kernel
theorem dL_law_756 : decode cL_law 756 = .ok (.ireturn, 1) := by decide +kernel
theorem dL_law_757 : decode cL_law 757 = .ok (.goto 1318, 3) := by decide +kernel
theorem dL_law_760 : decode cL_law 760 = .ok (.aload_n 1, 1) := by decide +kernel
theorem dL_law_761 : decode cL_law 761 = .ok (.aload_n 0, 1) := by decide +kernel
theorem dL_law_762 : decode cL_law 762 = .ok (.iload 4, 2) := by decide +kernel
theorem dL_law_764 : decode cL_law 764 = .ok (.iconst 1, 1) := by decide +kernel
theorem dL_law_765 : decode cL_law 765 = .ok (.iadd, 1) := by decide +kernel
theorem dL_law_766 : decode cL_law 766 = .ok (.iaload, 1) := by decide +kernel
theorem dL_law_767 : decode cL_law 767 = .ok (.aload_n 3, 1) := by decide +kernel
theorem dL_law_768 : decode cL_law 768 = .ok (.invokestatic 147, 3) := by decide +kernel
theorem dL_law_771 : decode cL_law 771 = .ok (.istore 5, 2) := by decide +kernel
theorem dL_law_773 : decode cL_law 773 = .ok (.aload_n 2, 1) := by decide +kernel
theorem dL_law_774 : decode cL_law 774 = .ok (.aload_n 0, 1) := by decide +kernel
theorem dL_law_775 : decode cL_law 775 = .ok (.iload 4, 2) := by decide +kernel
theorem dL_law_777 : decode cL_law 777 = .ok (.iconst 1, 1) := by decide +kernel
theorem dL_law_778 : decode cL_law 778 = .ok (.iadd, 1) := by decide +kernel
theorem dL_law_779 : decode cL_law 779 = .ok (.iaload, 1) := by decide +kernel
theorem dL_law_780 : decode cL_law 780 = .ok (.invokevirtual 149, 3) := by decide +kernel
theorem dL_law_783 : decode cL_law 783 = .ok (.istore 6, 2) := by decide +kernel
theorem dL_law_785 : decode cL_law 785 = .ok (.aload_n 2, 1) := by decide +kernel
theorem dL_law_786 : decode cL_law 786 = .ok (.invokevirtual 119, 3) := by decide +kernel
theorem dL_law_789 : decode cL_law 789 = .ok (.iload 5, 2) := by decide +kernel
theorem dL_law_791 : decode cL_law 791 = .ok (.if_icmp .eq 5, 3) := by decide +kernel
theorem dL_law_794 : decode cL_law 794 = .ok (.iconst 0, 1) := by decide +kernel
theorem dL_law_795 : decode cL_law 795 = .ok (.ireturn, 1) := by decide +kernel
theorem dL_law_796 : decode cL_law 796 = .ok (.iload 5, 2) := by decide +kernel
theorem dL_law_798 : decode cL_law 798 = .ok (.ifCond .ne 15, 3) := by decide +kernel
theorem dL_law_801 : decode cL_law 801 = .ok (.aload_n 3, 1) := by decide +kernel
theorem dL_law_802 : decode cL_law 802 = .ok (.iconst 0, 1) := by decide +kernel
theorem dL_law_803 : decode cL_law 803 = .ok (.laload, 1) := by decide +kernel
theorem dL_law_804 : decode cL_law 804 = .ok (.iload 6, 2) := by decide +kernel
theorem dL_law_806 : decode cL_law 806 = .ok (.i2l, 1) := by decide +kernel
theorem dL_law_807 : decode cL_law 807 = .ok (.lcmp, 1) := by decide +kernel
theorem dL_law_808 : decode cL_law 808 = .ok (.ifCond .eq 5, 3) := by decide +kernel
theorem dL_law_811 : decode cL_law 811 = .ok (.iconst 0, 1) := by decide +kernel
theorem dL_law_812 : decode cL_law 812 = .ok (.ireturn, 1) := by decide +kernel
theorem dL_law_813 : decode cL_law 813 = .ok (.goto 1262, 3) := by decide +kernel
theorem dL_law_816 : decode cL_law 816 = .ok (.aload_n 1, 1) := by decide +kernel
theorem dL_law_817 : decode cL_law 817 = .ok (.aload_n 0, 1) := by decide +kernel
theorem dL_law_818 : decode cL_law 818 = .ok (.iload 4, 2) := by decide +kernel
theorem dL_law_820 : decode cL_law 820 = .ok (.iconst 1, 1) := by decide +kernel
theorem dL_law_821 : decode cL_law 821 = .ok (.iadd, 1) := by decide +kernel
theorem dL_law_822 : decode cL_law 822 = .ok (.iaload, 1) := by decide +kernel
theorem dL_law_823 : decode cL_law 823 = .ok (.aload_n 3, 1) := by decide +kernel
theorem dL_law_824 : decode cL_law 824 = .ok (.invokestatic 150, 3) := by decide +kernel
theorem dL_law_827 : decode cL_law 827 = .ok (.istore 5, 2) := by decide +kernel
theorem dL_law_829 : decode cL_law 829 = .ok (.aload_n 2, 1) := by decide +kernel
theorem dL_law_830 : decode cL_law 830 = .ok (.aload_n 0, 1) := by decide +kernel
theorem dL_law_831 : decode cL_law 831 = .ok (.iload 4, 2) := by decide +kernel
theorem dL_law_833 : decode cL_law 833 = .ok (.iconst 1, 1) := by decide +kernel
theorem dL_law_834 : decode cL_law 834 = .ok (.iadd, 1) := by decide +kernel
theorem dL_law_835 : decode cL_law 835 = .ok (.iaload, 1) := by decide +kernel
theorem dL_law_836 : decode cL_law 836 = .ok (.invokevirtual 152, 3) := by decide +kernel
theorem dL_law_839 : decode cL_law 839 = .ok (.istore 6, 2) := by decide +kernel
theorem dL_law_841 : decode cL_law 841 = .ok (.aload_n 2, 1) := by decide +kernel
theorem dL_law_842 : decode cL_law 842 = .ok (.invokevirtual 119, 3) := by decide +kernel
theorem dL_law_845 : decode cL_law 845 = .ok (.iload 5, 2) := by decide +kernel
theorem dL_law_847 : decode cL_law 847 = .ok (.if_icmp .eq 5, 3) := by decide +kernel
theorem dL_law_850 : decode cL_law 850 = .ok (.iconst 0, 1) := by decide +kernel
theorem dL_law_851 : decode cL_law 851 = .ok (.ireturn, 1) := by decide +kernel
theorem dL_law_852 : decode cL_law 852 = .ok (.iload 5, 2) := by decide +kernel
theorem dL_law_854 : decode cL_law 854 = .ok (.ifCond .ne 15, 3) := by decide +kernel
theorem dL_law_857 : decode cL_law 857 = .ok (.aload_n 3, 1) := by decide +kernel
theorem dL_law_858 : decode cL_law 858 = .ok (.iconst 0, 1) := by decide +kernel
theorem dL_law_859 : decode cL_law 859 = .ok (.laload, 1) := by decide +kernel
theorem dL_law_860 : decode cL_law 860 = .ok (.iload 6, 2) := by decide +kernel
theorem dL_law_862 : decode cL_law 862 = .ok (.i2l, 1) := by decide +kernel
theorem dL_law_863 : decode cL_law 863 = .ok (.lcmp, 1) := by decide +kernel
theorem dL_law_864 : decode cL_law 864 = .ok (.ifCond .eq 5, 3) := by decide +kernel
theorem dL_law_867 : decode cL_law 867 = .ok (.iconst 0, 1) := by decide +kernel
theorem dL_law_868 : decode cL_law 868 = .ok (.ireturn, 1) := by decide +kernel
theorem dL_law_869 : decode cL_law 869 = .ok (.goto 1206, 3) := by decide +kernel
theorem dL_law_872 : decode cL_law 872 = .ok (.aload_n 1, 1) := by decide +kernel
theorem dL_law_873 : decode cL_law 873 = .ok (.aload_n 0, 1) := by decide +kernel
theorem dL_law_874 : decode cL_law 874 = .ok (.iload 4, 2) := by decide +kernel
theorem dL_law_876 : decode cL_law 876 = .ok (.iconst 1, 1) := by decide +kernel
theorem dL_law_877 : decode cL_law 877 = .ok (.iadd, 1) := by decide +kernel
theorem dL_law_878 : decode cL_law 878 = .ok (.iaload, 1) := by decide +kernel
theorem dL_law_879 : decode cL_law 879 = .ok (.aload_n 3, 1) := by decide +kernel
theorem dL_law_880 : decode cL_law 880 = .ok (.invokestatic 153, 3) := by decide +kernel
theorem dL_law_883 : decode cL_law 883 = .ok (.istore 5, 2) := by decide +kernel
theorem dL_law_885 : decode cL_law 885 = .ok (.aload_n 2, 1) := by decide +kernel
theorem dL_law_886 : decode cL_law 886 = .ok (.aload_n 0, 1) := by decide +kernel
theorem dL_law_887 : decode cL_law 887 = .ok (.iload 4, 2) := by decide +kernel
theorem dL_law_889 : decode cL_law 889 = .ok (.iconst 1, 1) := by decide +kernel
theorem dL_law_890 : decode cL_law 890 = .ok (.iadd, 1) := by decide +kernel
theorem dL_law_891 : decode cL_law 891 = .ok (.iaload, 1) := by decide +kernel
theorem dL_law_892 : decode cL_law 892 = .ok (.invokevirtual 155, 3) := by decide +kernel
theorem dL_law_895 : decode cL_law 895 = .ok (.istore 6, 2) := by decide +kernel
theorem dL_law_897 : decode cL_law 897 = .ok (.aload_n 2, 1) := by decide +kernel
theorem dL_law_898 : decode cL_law 898 = .ok (.invokevirtual 119, 3) := by decide +kernel
theorem dL_law_901 : decode cL_law 901 = .ok (.iload 5, 2) := by decide +kernel
theorem dL_law_903 : decode cL_law 903 = .ok (.if_icmp .eq 5, 3) := by decide +kernel
theorem dL_law_906 : decode cL_law 906 = .ok (.iconst 0, 1) := by decide +kernel
theorem dL_law_907 : decode cL_law 907 = .ok (.ireturn, 1) := by decide +kernel
theorem dL_law_908 : decode cL_law 908 = .ok (.iload 5, 2) := by decide +kernel
theorem dL_law_910 : decode cL_law 910 = .ok (.ifCond .ne 22, 3) := by decide +kernel
theorem dL_law_913 : decode cL_law 913 = .ok (.aload_n 3, 1) := by decide +kernel
theorem dL_law_914 : decode cL_law 914 = .ok (.iconst 0, 1) := by decide +kernel
theorem dL_law_915 : decode cL_law 915 = .ok (.laload, 1) := by decide +kernel
theorem dL_law_916 : decode cL_law 916 = .ok (.iload 6, 2) := by decide +kernel
theorem dL_law_918 : decode cL_law 918 = .ok (.ifCond .eq 7, 3) := by decide +kernel
theorem dL_law_921 : decode cL_law 921 = .ok (.lconst 1, 1) := by decide +kernel
theorem dL_law_922 : decode cL_law 922 = .ok (.goto 4, 3) := by decide +kernel
theorem dL_law_925 : decode cL_law 925 = .ok (.lconst 0, 1) := by decide +kernel
theorem dL_law_926 : decode cL_law 926 = .ok (.lcmp, 1) := by decide +kernel
theorem dL_law_927 : decode cL_law 927 = .ok (.ifCond .eq 5, 3) := by decide +kernel
theorem dL_law_930 : decode cL_law 930 = .ok (.iconst 0, 1) := by decide +kernel
theorem dL_law_931 : decode cL_law 931 = .ok (.ireturn, 1) := by decide +kernel
theorem dL_law_932 : decode cL_law 932 = .ok (.goto 1143, 3) := by decide +kernel
theorem dL_law_935 : decode cL_law 935 = .ok (.aload_n 1, 1) := by decide +kernel
theorem dL_law_936 : decode cL_law 936 = .ok (.aload_n 0, 1) := by decide +kernel
theorem dL_law_937 : decode cL_law 937 = .ok (.iload 4, 2) := by decide +kernel
theorem dL_law_939 : decode cL_law 939 = .ok (.iconst 1, 1) := by decide +kernel
theorem dL_law_940 : decode cL_law 940 = .ok (.iadd, 1) := by decide +kernel
theorem dL_law_941 : decode cL_law 941 = .ok (.iaload, 1) := by decide +kernel
theorem dL_law_942 : decode cL_law 942 = .ok (.aload_n 3, 1) := by decide +kernel
theorem dL_law_943 : decode cL_law 943 = .ok (.invokestatic 156, 3) := by decide +kernel
theorem dL_law_946 : decode cL_law 946 = .ok (.istore 5, 2) := by decide +kernel
theorem dL_law_948 : decode cL_law 948 = .ok (.aload_n 2, 1) := by decide +kernel
theorem dL_law_949 : decode cL_law 949 = .ok (.aload_n 0, 1) := by decide +kernel
theorem dL_law_950 : decode cL_law 950 = .ok (.iload 4, 2) := by decide +kernel
theorem dL_law_952 : decode cL_law 952 = .ok (.iconst 1, 1) := by decide +kernel
theorem dL_law_953 : decode cL_law 953 = .ok (.iadd, 1) := by decide +kernel
theorem dL_law_954 : decode cL_law 954 = .ok (.iaload, 1) := by decide +kernel
theorem dL_law_955 : decode cL_law 955 = .ok (.invokevirtual 158, 3) := by decide +kernel
theorem dL_law_958 : decode cL_law 958 = .ok (.istore 6, 2) := by decide +kernel
theorem dL_law_960 : decode cL_law 960 = .ok (.aload_n 2, 1) := by decide +kernel
theorem dL_law_961 : decode cL_law 961 = .ok (.invokevirtual 119, 3) := by decide +kernel
theorem dL_law_964 : decode cL_law 964 = .ok (.iload 5, 2) := by decide +kernel
theorem dL_law_966 : decode cL_law 966 = .ok (.if_icmp .eq 5, 3) := by decide +kernel
theorem dL_law_969 : decode cL_law 969 = .ok (.iconst 0, 1) := by decide +kernel
theorem dL_law_970 : decode cL_law 970 = .ok (.ireturn, 1) := by decide +kernel
theorem dL_law_971 : decode cL_law 971 = .ok (.iload 5, 2) := by decide +kernel
theorem dL_law_973 : decode cL_law 973 = .ok (.ifCond .ne 15, 3) := by decide +kernel
theorem dL_law_976 : decode cL_law 976 = .ok (.aload_n 3, 1) := by decide +kernel
theorem dL_law_977 : decode cL_law 977 = .ok (.iconst 0, 1) := by decide +kernel
theorem dL_law_978 : decode cL_law 978 = .ok (.laload, 1) := by decide +kernel
theorem dL_law_979 : decode cL_law 979 = .ok (.iload 6, 2) := by decide +kernel
theorem dL_law_981 : decode cL_law 981 = .ok (.i2l, 1) := by decide +kernel
theorem dL_law_982 : decode cL_law 982 = .ok (.lcmp, 1) := by decide +kernel
theorem dL_law_983 : decode cL_law 983 = .ok (.ifCond .eq 5, 3) := by decide +kernel
theorem dL_law_986 : decode cL_law 986 = .ok (.iconst 0, 1) := by decide +kernel
theorem dL_law_987 : decode cL_law 987 = .ok (.ireturn, 1) := by decide +kernel
theorem dL_law_988 : decode cL_law 988 = .ok (.goto 1087, 3) := by decide +kernel
theorem dL_law_991 : decode cL_law 991 = .ok (.aload_n 1, 1) := by decide +kernel
theorem dL_law_992 : decode cL_law 992 = .ok (.aload_n 0, 1) := by decide +kernel
theorem dL_law_993 : decode cL_law 993 = .ok (.iload 4, 2) := by decide +kernel
theorem dL_law_995 : decode cL_law 995 = .ok (.iconst 1, 1) := by decide +kernel
theorem dL_law_996 : decode cL_law 996 = .ok (.iadd, 1) := by decide +kernel
theorem dL_law_997 : decode cL_law 997 = .ok (.iaload, 1) := by decide +kernel
theorem dL_law_998 : decode cL_law 998 = .ok (.aload_n 0, 1) := by decide +kernel
theorem dL_law_999 : decode cL_law 999 = .ok (.iload 4, 2) := by decide +kernel
theorem dL_law_1001 : decode cL_law 1001 = .ok (.iconst 2, 1) := by decide +kernel
theorem dL_law_1002 : decode cL_law 1002 = .ok (.iadd, 1) := by decide +kernel
theorem dL_law_1003 : decode cL_law 1003 = .ok (.iaload, 1) := by decide +kernel
theorem dL_law_1004 : decode cL_law 1004 = .ok (.aload_n 0, 1) := by decide +kernel
theorem dL_law_1005 : decode cL_law 1005 = .ok (.iload 4, 2) := by decide +kernel
theorem dL_law_1007 : decode cL_law 1007 = .ok (.iconst 3, 1) := by decide +kernel
theorem dL_law_1008 : decode cL_law 1008 = .ok (.iadd, 1) := by decide +kernel
theorem dL_law_1009 : decode cL_law 1009 = .ok (.iaload, 1) := by decide +kernel
theorem dL_law_1010 : decode cL_law 1010 = .ok (.aload_n 3, 1) := by decide +kernel
theorem dL_law_1011 : decode cL_law 1011 = .ok (.invokestatic 159, 3) := by decide +kernel
theorem dL_law_1014 : decode cL_law 1014 = .ok (.istore 5, 2) := by decide +kernel
theorem dL_law_1016 : decode cL_law 1016 = .ok (.aload_n 2, 1) := by decide +kernel
theorem dL_law_1017 : decode cL_law 1017 = .ok (.aload_n 0, 1) := by decide +kernel
theorem dL_law_1018 : decode cL_law 1018 = .ok (.iload 4, 2) := by decide +kernel
theorem dL_law_1020 : decode cL_law 1020 = .ok (.iconst 1, 1) := by decide +kernel
theorem dL_law_1021 : decode cL_law 1021 = .ok (.iadd, 1) := by decide +kernel
theorem dL_law_1022 : decode cL_law 1022 = .ok (.iaload, 1) := by decide +kernel
theorem dL_law_1023 : decode cL_law 1023 = .ok (.aload_n 0, 1) := by decide +kernel
theorem dL_law_1024 : decode cL_law 1024 = .ok (.iload 4, 2) := by decide +kernel
theorem dL_law_1026 : decode cL_law 1026 = .ok (.iconst 2, 1) := by decide +kernel
theorem dL_law_1027 : decode cL_law 1027 = .ok (.iadd, 1) := by decide +kernel
theorem dL_law_1028 : decode cL_law 1028 = .ok (.iaload, 1) := by decide +kernel
theorem dL_law_1029 : decode cL_law 1029 = .ok (.aload_n 0, 1) := by decide +kernel
theorem dL_law_1030 : decode cL_law 1030 = .ok (.iload 4, 2) := by decide +kernel
theorem dL_law_1032 : decode cL_law 1032 = .ok (.iconst 3, 1) := by decide +kernel
theorem dL_law_1033 : decode cL_law 1033 = .ok (.iadd, 1) := by decide +kernel
theorem dL_law_1034 : decode cL_law 1034 = .ok (.iaload, 1) := by decide +kernel
theorem dL_law_1035 : decode cL_law 1035 = .ok (.invokevirtual 161, 3) := by decide +kernel
theorem dL_law_1038 : decode cL_law 1038 = .ok (.istore 6, 2) := by decide +kernel
theorem dL_law_1040 : decode cL_law 1040 = .ok (.aload_n 2, 1) := by decide +kernel
theorem dL_law_1041 : decode cL_law 1041 = .ok (.invokevirtual 119, 3) := by decide +kernel
theorem dL_law_1044 : decode cL_law 1044 = .ok (.iload 5, 2) := by decide +kernel
theorem dL_law_1046 : decode cL_law 1046 = .ok (.if_icmp .eq 5, 3) := by decide +kernel
theorem dL_law_1049 : decode cL_law 1049 = .ok (.iconst 0, 1) := by decide +kernel
theorem dL_law_1050 : decode cL_law 1050 = .ok (.ireturn, 1) := by decide +kernel
theorem dL_law_1051 : decode cL_law 1051 = .ok (.iload 5, 2) := by decide +kernel
theorem dL_law_1053 : decode cL_law 1053 = .ok (.ifCond .ne 15, 3) := by decide +kernel
theorem dL_law_1056 : decode cL_law 1056 = .ok (.aload_n 3, 1) := by decide +kernel
theorem dL_law_1057 : decode cL_law 1057 = .ok (.iconst 0, 1) := by decide +kernel
theorem dL_law_1058 : decode cL_law 1058 = .ok (.laload, 1) := by decide +kernel
theorem dL_law_1059 : decode cL_law 1059 = .ok (.iload 6, 2) := by decide +kernel
theorem dL_law_1061 : decode cL_law 1061 = .ok (.i2l, 1) := by decide +kernel
theorem dL_law_1062 : decode cL_law 1062 = .ok (.lcmp, 1) := by decide +kernel
theorem dL_law_1063 : decode cL_law 1063 = .ok (.ifCond .eq 5, 3) := by decide +kernel
theorem dL_law_1066 : decode cL_law 1066 = .ok (.iconst 0, 1) := by decide +kernel
theorem dL_law_1067 : decode cL_law 1067 = .ok (.ireturn, 1) := by decide +kernel
theorem dL_law_1068 : decode cL_law 1068 = .ok (.goto 1007, 3) := by decide +kernel
theorem dL_law_1071 : decode cL_law 1071 = .ok (.aload_n 1, 1) := by decide +kernel
theorem dL_law_1072 : decode cL_law 1072 = .ok (.aload_n 0, 1) := by decide +kernel
theorem dL_law_1073 : decode cL_law 1073 = .ok (.iload 4, 2) := by decide +kernel
theorem dL_law_1075 : decode cL_law 1075 = .ok (.iconst 1, 1) := by decide +kernel
theorem dL_law_1076 : decode cL_law 1076 = .ok (.iadd, 1) := by decide +kernel
theorem dL_law_1077 : decode cL_law 1077 = .ok (.iaload, 1) := by decide +kernel
theorem dL_law_1078 : decode cL_law 1078 = .ok (.aload_n 0, 1) := by decide +kernel
theorem dL_law_1079 : decode cL_law 1079 = .ok (.iload 4, 2) := by decide +kernel
theorem dL_law_1081 : decode cL_law 1081 = .ok (.iconst 2, 1) := by decide +kernel
theorem dL_law_1082 : decode cL_law 1082 = .ok (.iadd, 1) := by decide +kernel
theorem dL_law_1083 : decode cL_law 1083 = .ok (.iaload, 1) := by decide +kernel
theorem dL_law_1084 : decode cL_law 1084 = .ok (.ifCond .eq 7, 3) := by decide +kernel
theorem dL_law_1087 : decode cL_law 1087 = .ok (.iconst 1, 1) := by decide +kernel
theorem dL_law_1088 : decode cL_law 1088 = .ok (.goto 4, 3) := by decide +kernel
theorem dL_law_1091 : decode cL_law 1091 = .ok (.iconst 0, 1) := by decide +kernel
theorem dL_law_1092 : decode cL_law 1092 = .ok (.aload_n 3, 1) := by decide +kernel
theorem dL_law_1093 : decode cL_law 1093 = .ok (.invokestatic 162, 3) := by decide +kernel
theorem dL_law_1096 : decode cL_law 1096 = .ok (.istore 5, 2) := by decide +kernel
theorem dL_law_1098 : decode cL_law 1098 = .ok (.aload_n 2, 1) := by decide +kernel
theorem dL_law_1099 : decode cL_law 1099 = .ok (.aload_n 0, 1) := by decide +kernel
theorem dL_law_1100 : decode cL_law 1100 = .ok (.iload 4, 2) := by decide +kernel
theorem dL_law_1102 : decode cL_law 1102 = .ok (.iconst 1, 1) := by decide +kernel
theorem dL_law_1103 : decode cL_law 1103 = .ok (.iadd, 1) := by decide +kernel
theorem dL_law_1104 : decode cL_law 1104 = .ok (.iaload, 1) := by decide +kernel
theorem dL_law_1105 : decode cL_law 1105 = .ok (.aload_n 0, 1) := by decide +kernel
theorem dL_law_1106 : decode cL_law 1106 = .ok (.iload 4, 2) := by decide +kernel
theorem dL_law_1108 : decode cL_law 1108 = .ok (.iconst 2, 1) := by decide +kernel
theorem dL_law_1109 : decode cL_law 1109 = .ok (.iadd, 1) := by decide +kernel
theorem dL_law_1110 : decode cL_law 1110 = .ok (.iaload, 1) := by decide +kernel
theorem dL_law_1111 : decode cL_law 1111 = .ok (.ifCond .eq 7, 3) := by decide +kernel
theorem dL_law_1114 : decode cL_law 1114 = .ok (.iconst 1, 1) := by decide +kernel
theorem dL_law_1115 : decode cL_law 1115 = .ok (.goto 4, 3) := by decide +kernel
theorem dL_law_1118 : decode cL_law 1118 = .ok (.iconst 0, 1) := by decide +kernel
theorem dL_law_1119 : decode cL_law 1119 = .ok (.invokevirtual 165, 3) := by decide +kernel
theorem dL_law_1122 : decode cL_law 1122 = .ok (.istore 6, 2) := by decide +kernel
theorem dL_law_1124 : decode cL_law 1124 = .ok (.aload_n 2, 1) := by decide +kernel
theorem dL_law_1125 : decode cL_law 1125 = .ok (.invokevirtual 119, 3) := by decide +kernel
theorem dL_law_1128 : decode cL_law 1128 = .ok (.iload 5, 2) := by decide +kernel
theorem dL_law_1130 : decode cL_law 1130 = .ok (.if_icmp .eq 5, 3) := by decide +kernel
theorem dL_law_1133 : decode cL_law 1133 = .ok (.iconst 0, 1) := by decide +kernel
theorem dL_law_1134 : decode cL_law 1134 = .ok (.ireturn, 1) := by decide +kernel
theorem dL_law_1135 : decode cL_law 1135 = .ok (.iload 5, 2) := by decide +kernel
theorem dL_law_1137 : decode cL_law 1137 = .ok (.ifCond .ne 15, 3) := by decide +kernel
theorem dL_law_1140 : decode cL_law 1140 = .ok (.aload_n 3, 1) := by decide +kernel
theorem dL_law_1141 : decode cL_law 1141 = .ok (.iconst 0, 1) := by decide +kernel
theorem dL_law_1142 : decode cL_law 1142 = .ok (.laload, 1) := by decide +kernel
theorem dL_law_1143 : decode cL_law 1143 = .ok (.iload 6, 2) := by decide +kernel
theorem dL_law_1145 : decode cL_law 1145 = .ok (.i2l, 1) := by decide +kernel
theorem dL_law_1146 : decode cL_law 1146 = .ok (.lcmp, 1) := by decide +kernel
theorem dL_law_1147 : decode cL_law 1147 = .ok (.ifCond .eq 5, 3) := by decide +kernel
theorem dL_law_1150 : decode cL_law 1150 = .ok (.iconst 0, 1) := by decide +kernel
theorem dL_law_1151 : decode cL_law 1151 = .ok (.ireturn, 1) := by decide +kernel
theorem dL_law_1152 : decode cL_law 1152 = .ok (.goto 923, 3) := by decide +kernel
theorem dL_law_1155 : decode cL_law 1155 = .ok (.aload_n 1, 1) := by decide +kernel
theorem dL_law_1156 : decode cL_law 1156 = .ok (.aload_n 0, 1) := by decide +kernel
theorem dL_law_1157 : decode cL_law 1157 = .ok (.iload 4, 2) := by decide +kernel
theorem dL_law_1159 : decode cL_law 1159 = .ok (.iconst 1, 1) := by decide +kernel
theorem dL_law_1160 : decode cL_law 1160 = .ok (.iadd, 1) := by decide +kernel
theorem dL_law_1161 : decode cL_law 1161 = .ok (.iaload, 1) := by decide +kernel
theorem dL_law_1162 : decode cL_law 1162 = .ok (.aload_n 0, 1) := by decide +kernel
theorem dL_law_1163 : decode cL_law 1163 = .ok (.iload 4, 2) := by decide +kernel
theorem dL_law_1165 : decode cL_law 1165 = .ok (.iconst 2, 1) := by decide +kernel
theorem dL_law_1166 : decode cL_law 1166 = .ok (.iadd, 1) := by decide +kernel
theorem dL_law_1167 : decode cL_law 1167 = .ok (.iaload, 1) := by decide +kernel
theorem dL_law_1168 : decode cL_law 1168 = .ok (.aload_n 3, 1) := by decide +kernel
theorem dL_law_1169 : decode cL_law 1169 = .ok (.invokestatic 166, 3) := by decide +kernel
theorem dL_law_1172 : decode cL_law 1172 = .ok (.istore 5, 2) := by decide +kernel
theorem dL_law_1174 : decode cL_law 1174 = .ok (.aload_n 2, 1) := by decide +kernel
theorem dL_law_1175 : decode cL_law 1175 = .ok (.aload_n 0, 1) := by decide +kernel
theorem dL_law_1176 : decode cL_law 1176 = .ok (.iload 4, 2) := by decide +kernel
theorem dL_law_1178 : decode cL_law 1178 = .ok (.iconst 1, 1) := by decide +kernel
theorem dL_law_1179 : decode cL_law 1179 = .ok (.iadd, 1) := by decide +kernel
theorem dL_law_1180 : decode cL_law 1180 = .ok (.iaload, 1) := by decide +kernel
theorem dL_law_1181 : decode cL_law 1181 = .ok (.aload_n 0, 1) := by decide +kernel
theorem dL_law_1182 : decode cL_law 1182 = .ok (.iload 4, 2) := by decide +kernel
theorem dL_law_1184 : decode cL_law 1184 = .ok (.iconst 2, 1) := by decide +kernel
theorem dL_law_1185 : decode cL_law 1185 = .ok (.iadd, 1) := by decide +kernel
theorem dL_law_1186 : decode cL_law 1186 = .ok (.iaload, 1) := by decide +kernel
theorem dL_law_1187 : decode cL_law 1187 = .ok (.invokevirtual 168, 3) := by decide +kernel
theorem dL_law_1190 : decode cL_law 1190 = .ok (.istore 6, 2) := by decide +kernel
theorem dL_law_1192 : decode cL_law 1192 = .ok (.aload_n 2, 1) := by decide +kernel
theorem dL_law_1193 : decode cL_law 1193 = .ok (.invokevirtual 119, 3) := by decide +kernel
theorem dL_law_1196 : decode cL_law 1196 = .ok (.iload 5, 2) := by decide +kernel
theorem dL_law_1198 : decode cL_law 1198 = .ok (.if_icmp .eq 5, 3) := by decide +kernel
theorem dL_law_1201 : decode cL_law 1201 = .ok (.iconst 0, 1) := by decide +kernel
theorem dL_law_1202 : decode cL_law 1202 = .ok (.ireturn, 1) := by decide +kernel
theorem dL_law_1203 : decode cL_law 1203 = .ok (.iload 5, 2) := by decide +kernel
theorem dL_law_1205 : decode cL_law 1205 = .ok (.ifCond .ne 15, 3) := by decide +kernel
theorem dL_law_1208 : decode cL_law 1208 = .ok (.aload_n 3, 1) := by decide +kernel
theorem dL_law_1209 : decode cL_law 1209 = .ok (.iconst 0, 1) := by decide +kernel
theorem dL_law_1210 : decode cL_law 1210 = .ok (.laload, 1) := by decide +kernel
theorem dL_law_1211 : decode cL_law 1211 = .ok (.iload 6, 2) := by decide +kernel
theorem dL_law_1213 : decode cL_law 1213 = .ok (.i2l, 1) := by decide +kernel
theorem dL_law_1214 : decode cL_law 1214 = .ok (.lcmp, 1) := by decide +kernel
theorem dL_law_1215 : decode cL_law 1215 = .ok (.ifCond .eq 5, 3) := by decide +kernel
theorem dL_law_1218 : decode cL_law 1218 = .ok (.iconst 0, 1) := by decide +kernel
theorem dL_law_1219 : decode cL_law 1219 = .ok (.ireturn, 1) := by decide +kernel
theorem dL_law_1220 : decode cL_law 1220 = .ok (.goto 855, 3) := by decide +kernel
theorem dL_law_1223 : decode cL_law 1223 = .ok (.aload_n 1, 1) := by decide +kernel
theorem dL_law_1224 : decode cL_law 1224 = .ok (.aload_n 3, 1) := by decide +kernel
theorem dL_law_1225 : decode cL_law 1225 = .ok (.invokestatic 169, 3) := by decide +kernel
theorem dL_law_1228 : decode cL_law 1228 = .ok (.istore 5, 2) := by decide +kernel
theorem dL_law_1230 : decode cL_law 1230 = .ok (.aload_n 2, 1) := by decide +kernel
theorem dL_law_1231 : decode cL_law 1231 = .ok (.invokevirtual 172, 3) := by decide +kernel
theorem dL_law_1234 : decode cL_law 1234 = .ok (.istore 6, 2) := by decide +kernel
theorem dL_law_1236 : decode cL_law 1236 = .ok (.aload_n 2, 1) := by decide +kernel
theorem dL_law_1237 : decode cL_law 1237 = .ok (.invokevirtual 119, 3) := by decide +kernel
theorem dL_law_1240 : decode cL_law 1240 = .ok (.iload 5, 2) := by decide +kernel
theorem dL_law_1242 : decode cL_law 1242 = .ok (.if_icmp .eq 5, 3) := by decide +kernel
theorem dL_law_1245 : decode cL_law 1245 = .ok (.iconst 0, 1) := by decide +kernel
theorem dL_law_1246 : decode cL_law 1246 = .ok (.ireturn, 1) := by decide +kernel
theorem dL_law_1247 : decode cL_law 1247 = .ok (.iload 5, 2) := by decide +kernel
theorem dL_law_1249 : decode cL_law 1249 = .ok (.ifCond .ne 15, 3) := by decide +kernel
theorem dL_law_1252 : decode cL_law 1252 = .ok (.aload_n 3, 1) := by decide +kernel
theorem dL_law_1253 : decode cL_law 1253 = .ok (.iconst 0, 1) := by decide +kernel
theorem dL_law_1254 : decode cL_law 1254 = .ok (.laload, 1) := by decide +kernel
theorem dL_law_1255 : decode cL_law 1255 = .ok (.iload 6, 2) := by decide +kernel
theorem dL_law_1257 : decode cL_law 1257 = .ok (.i2l, 1) := by decide +kernel
theorem dL_law_1258 : decode cL_law 1258 = .ok (.lcmp, 1) := by decide +kernel
theorem dL_law_1259 : decode cL_law 1259 = .ok (.ifCond .eq 5, 3) := by decide +kernel
theorem dL_law_1262 : decode cL_law 1262 = .ok (.iconst 0, 1) := by decide +kernel
theorem dL_law_1263 : decode cL_law 1263 = .ok (.ireturn, 1) := by decide +kernel
theorem dL_law_1264 : decode cL_law 1264 = .ok (.goto 811, 3) := by decide +kernel
theorem dL_law_1267 : decode cL_law 1267 = .ok (.aload_n 1, 1) := by decide +kernel
theorem dL_law_1268 : decode cL_law 1268 = .ok (.aload_n 0, 1) := by decide +kernel
theorem dL_law_1269 : decode cL_law 1269 = .ok (.iload 4, 2) := by decide +kernel
theorem dL_law_1271 : decode cL_law 1271 = .ok (.iconst 1, 1) := by decide +kernel
theorem dL_law_1272 : decode cL_law 1272 = .ok (.iadd, 1) := by decide +kernel
theorem dL_law_1273 : decode cL_law 1273 = .ok (.iaload, 1) := by decide +kernel
theorem dL_law_1274 : decode cL_law 1274 = .ok (.aload_n 0, 1) := by decide +kernel
theorem dL_law_1275 : decode cL_law 1275 = .ok (.iload 4, 2) := by decide +kernel
theorem dL_law_1277 : decode cL_law 1277 = .ok (.iconst 2, 1) := by decide +kernel
theorem dL_law_1278 : decode cL_law 1278 = .ok (.iadd, 1) := by decide +kernel
theorem dL_law_1279 : decode cL_law 1279 = .ok (.iaload, 1) := by decide +kernel
theorem dL_law_1280 : decode cL_law 1280 = .ok (.aload_n 0, 1) := by decide +kernel
theorem dL_law_1281 : decode cL_law 1281 = .ok (.iload 4, 2) := by decide +kernel
theorem dL_law_1283 : decode cL_law 1283 = .ok (.iconst 3, 1) := by decide +kernel
theorem dL_law_1284 : decode cL_law 1284 = .ok (.iadd, 1) := by decide +kernel
theorem dL_law_1285 : decode cL_law 1285 = .ok (.iaload, 1) := by decide +kernel
theorem dL_law_1286 : decode cL_law 1286 = .ok (.aload_n 3, 1) := by decide +kernel
theorem dL_law_1287 : decode cL_law 1287 = .ok (.invokestatic 173, 3) := by decide +kernel
theorem dL_law_1290 : decode cL_law 1290 = .ok (.istore 5, 2) := by decide +kernel
theorem dL_law_1292 : decode cL_law 1292 = .ok (.aload_n 2, 1) := by decide +kernel
theorem dL_law_1293 : decode cL_law 1293 = .ok (.aload_n 0, 1) := by decide +kernel
theorem dL_law_1294 : decode cL_law 1294 = .ok (.iload 4, 2) := by decide +kernel
theorem dL_law_1296 : decode cL_law 1296 = .ok (.iconst 1, 1) := by decide +kernel
theorem dL_law_1297 : decode cL_law 1297 = .ok (.iadd, 1) := by decide +kernel
theorem dL_law_1298 : decode cL_law 1298 = .ok (.iaload, 1) := by decide +kernel
theorem dL_law_1299 : decode cL_law 1299 = .ok (.aload_n 0, 1) := by decide +kernel
theorem dL_law_1300 : decode cL_law 1300 = .ok (.iload 4, 2) := by decide +kernel
theorem dL_law_1302 : decode cL_law 1302 = .ok (.iconst 2, 1) := by decide +kernel
theorem dL_law_1303 : decode cL_law 1303 = .ok (.iadd, 1) := by decide +kernel
theorem dL_law_1304 : decode cL_law 1304 = .ok (.iaload, 1) := by decide +kernel
theorem dL_law_1305 : decode cL_law 1305 = .ok (.aload_n 0, 1) := by decide +kernel
theorem dL_law_1306 : decode cL_law 1306 = .ok (.iload 4, 2) := by decide +kernel
theorem dL_law_1308 : decode cL_law 1308 = .ok (.iconst 3, 1) := by decide +kernel
theorem dL_law_1309 : decode cL_law 1309 = .ok (.iadd, 1) := by decide +kernel
theorem dL_law_1310 : decode cL_law 1310 = .ok (.iaload, 1) := by decide +kernel
theorem dL_law_1311 : decode cL_law 1311 = .ok (.invokevirtual 175, 3) := by decide +kernel
theorem dL_law_1314 : decode cL_law 1314 = .ok (.istore 6, 2) := by decide +kernel
theorem dL_law_1316 : decode cL_law 1316 = .ok (.aload_n 2, 1) := by decide +kernel
theorem dL_law_1317 : decode cL_law 1317 = .ok (.invokevirtual 119, 3) := by decide +kernel
theorem dL_law_1320 : decode cL_law 1320 = .ok (.iload 5, 2) := by decide +kernel
theorem dL_law_1322 : decode cL_law 1322 = .ok (.if_icmp .eq 5, 3) := by decide +kernel
theorem dL_law_1325 : decode cL_law 1325 = .ok (.iconst 0, 1) := by decide +kernel
theorem dL_law_1326 : decode cL_law 1326 = .ok (.ireturn, 1) := by decide +kernel
theorem dL_law_1327 : decode cL_law 1327 = .ok (.iload 5, 2) := by decide +kernel
theorem dL_law_1329 : decode cL_law 1329 = .ok (.ifCond .ne 15, 3) := by decide +kernel
theorem dL_law_1332 : decode cL_law 1332 = .ok (.aload_n 3, 1) := by decide +kernel
theorem dL_law_1333 : decode cL_law 1333 = .ok (.iconst 0, 1) := by decide +kernel
theorem dL_law_1334 : decode cL_law 1334 = .ok (.laload, 1) := by decide +kernel
theorem dL_law_1335 : decode cL_law 1335 = .ok (.iload 6, 2) := by decide +kernel
theorem dL_law_1337 : decode cL_law 1337 = .ok (.i2l, 1) := by decide +kernel
theorem dL_law_1338 : decode cL_law 1338 = .ok (.lcmp, 1) := by decide +kernel
theorem dL_law_1339 : decode cL_law 1339 = .ok (.ifCond .eq 5, 3) := by decide +kernel
theorem dL_law_1342 : decode cL_law 1342 = .ok (.iconst 0, 1) := by decide +kernel
theorem dL_law_1343 : decode cL_law 1343 = .ok (.ireturn, 1) := by decide +kernel
theorem dL_law_1344 : decode cL_law 1344 = .ok (.goto 731, 3) := by decide +kernel
theorem dL_law_1347 : decode cL_law 1347 = .ok (.aload_n 1, 1) := by decide +kernel
theorem dL_law_1348 : decode cL_law 1348 = .ok (.aload_n 0, 1) := by decide +kernel
theorem dL_law_1349 : decode cL_law 1349 = .ok (.iload 4, 2) := by decide +kernel
theorem dL_law_1351 : decode cL_law 1351 = .ok (.iconst 1, 1) := by decide +kernel
theorem dL_law_1352 : decode cL_law 1352 = .ok (.iadd, 1) := by decide +kernel
theorem dL_law_1353 : decode cL_law 1353 = .ok (.iaload, 1) := by decide +kernel
theorem dL_law_1354 : decode cL_law 1354 = .ok (.ifCond .eq 7, 3) := by decide +kernel
theorem dL_law_1357 : decode cL_law 1357 = .ok (.iconst 1, 1) := by decide +kernel
theorem dL_law_1358 : decode cL_law 1358 = .ok (.goto 4, 3) := by decide +kernel
theorem dL_law_1361 : decode cL_law 1361 = .ok (.iconst 0, 1) := by decide +kernel
theorem dL_law_1362 : decode cL_law 1362 = .ok (.aload_n 0, 1) := by decide +kernel
theorem dL_law_1363 : decode cL_law 1363 = .ok (.iload 4, 2) := by decide +kernel
theorem dL_law_1365 : decode cL_law 1365 = .ok (.iconst 2, 1) := by decide +kernel
theorem dL_law_1366 : decode cL_law 1366 = .ok (.iadd, 1) := by decide +kernel
theorem dL_law_1367 : decode cL_law 1367 = .ok (.iaload, 1) := by decide +kernel
theorem dL_law_1368 : decode cL_law 1368 = .ok (.aload_n 0, 1) := by decide +kernel
theorem dL_law_1369 : decode cL_law 1369 = .ok (.iload 4, 2) := by decide +kernel
theorem dL_law_1371 : decode cL_law 1371 = .ok (.iconst 3, 1) := by decide +kernel
theorem dL_law_1372 : decode cL_law 1372 = .ok (.iadd, 1) := by decide +kernel
theorem dL_law_1373 : decode cL_law 1373 = .ok (.iaload, 1) := by decide +kernel
theorem dL_law_1374 : decode cL_law 1374 = .ok (.aload_n 0, 1) := by decide +kernel
theorem dL_law_1375 : decode cL_law 1375 = .ok (.iload 4, 2) := by decide +kernel
theorem dL_law_1377 : decode cL_law 1377 = .ok (.iconst 4, 1) := by decide +kernel
theorem dL_law_1378 : decode cL_law 1378 = .ok (.iadd, 1) := by decide +kernel
theorem dL_law_1379 : decode cL_law 1379 = .ok (.iaload, 1) := by decide +kernel
theorem dL_law_1380 : decode cL_law 1380 = .ok (.invokestatic 176, 3) := by decide +kernel
theorem dL_law_1383 : decode cL_law 1383 = .ok (.istore 5, 2) := by decide +kernel
theorem dL_law_1385 : decode cL_law 1385 = .ok (.aload_n 2, 1) := by decide +kernel
theorem dL_law_1386 : decode cL_law 1386 = .ok (.aload_n 0, 1) := by decide +kernel
theorem dL_law_1387 : decode cL_law 1387 = .ok (.iload 4, 2) := by decide +kernel
theorem dL_law_1389 : decode cL_law 1389 = .ok (.iconst 1, 1) := by decide +kernel
theorem dL_law_1390 : decode cL_law 1390 = .ok (.iadd, 1) := by decide +kernel
theorem dL_law_1391 : decode cL_law 1391 = .ok (.iaload, 1) := by decide +kernel
theorem dL_law_1392 : decode cL_law 1392 = .ok (.ifCond .eq 7, 3) := by decide +kernel
theorem dL_law_1395 : decode cL_law 1395 = .ok (.iconst 1, 1) := by decide +kernel
theorem dL_law_1396 : decode cL_law 1396 = .ok (.goto 4, 3) := by decide +kernel
theorem dL_law_1399 : decode cL_law 1399 = .ok (.iconst 0, 1) := by decide +kernel
theorem dL_law_1400 : decode cL_law 1400 = .ok (.aload_n 0, 1) := by decide +kernel
theorem dL_law_1401 : decode cL_law 1401 = .ok (.iload 4, 2) := by decide +kernel
theorem dL_law_1403 : decode cL_law 1403 = .ok (.iconst 2, 1) := by decide +kernel
theorem dL_law_1404 : decode cL_law 1404 = .ok (.iadd, 1) := by decide +kernel
theorem dL_law_1405 : decode cL_law 1405 = .ok (.iaload, 1) := by decide +kernel
theorem dL_law_1406 : decode cL_law 1406 = .ok (.aload_n 0, 1) := by decide +kernel
theorem dL_law_1407 : decode cL_law 1407 = .ok (.iload 4, 2) := by decide +kernel
theorem dL_law_1409 : decode cL_law 1409 = .ok (.iconst 3, 1) := by decide +kernel
theorem dL_law_1410 : decode cL_law 1410 = .ok (.iadd, 1) := by decide +kernel
theorem dL_law_1411 : decode cL_law 1411 = .ok (.iaload, 1) := by decide +kernel
theorem dL_law_1412 : decode cL_law 1412 = .ok (.aload_n 0, 1) := by decide +kernel
theorem dL_law_1413 : decode cL_law 1413 = .ok (.iload 4, 2) := by decide +kernel
theorem dL_law_1415 : decode cL_law 1415 = .ok (.iconst 4, 1) := by decide +kernel
theorem dL_law_1416 : decode cL_law 1416 = .ok (.iadd, 1) := by decide +kernel
theorem dL_law_1417 : decode cL_law 1417 = .ok (.iaload, 1) := by decide +kernel
theorem dL_law_1418 : decode cL_law 1418 = .ok (.invokevirtual 179, 3) := by decide +kernel
theorem dL_law_1421 : decode cL_law 1421 = .ok (.aload_n 2, 1) := by decide +kernel
theorem dL_law_1422 : decode cL_law 1422 = .ok (.invokevirtual 119, 3) := by decide +kernel
theorem dL_law_1425 : decode cL_law 1425 = .ok (.iload 5, 2) := by decide +kernel
theorem dL_law_1427 : decode cL_law 1427 = .ok (.if_icmp .eq 5, 3) := by decide +kernel
theorem dL_law_1430 : decode cL_law 1430 = .ok (.iconst 0, 1) := by decide +kernel
theorem dL_law_1431 : decode cL_law 1431 = .ok (.ireturn, 1) := by decide +kernel
theorem dL_law_1432 : decode cL_law 1432 = .ok (.goto 643, 3) := by decide +kernel
theorem dL_law_1435 : decode cL_law 1435 = .ok (.aload_n 1, 1) := by decide +kernel
theorem dL_law_1436 : decode cL_law 1436 = .ok (.aload_n 0, 1) := by decide +kernel
theorem dL_law_1437 : decode cL_law 1437 = .ok (.iload 4, 2) := by decide +kernel
theorem dL_law_1439 : decode cL_law 1439 = .ok (.iconst 1, 1) := by decide +kernel
theorem dL_law_1440 : decode cL_law 1440 = .ok (.iadd, 1) := by decide +kernel
theorem dL_law_1441 : decode cL_law 1441 = .ok (.iaload, 1) := by decide +kernel
theorem dL_law_1442 : decode cL_law 1442 = .ok (.aload_n 3, 1) := by decide +kernel
theorem dL_law_1443 : decode cL_law 1443 = .ok (.invokestatic 180, 3) := by decide +kernel
theorem dL_law_1446 : decode cL_law 1446 = .ok (.istore 5, 2) := by decide +kernel
theorem dL_law_1448 : decode cL_law 1448 = .ok (.aload_n 2, 1) := by decide +kernel
theorem dL_law_1449 : decode cL_law 1449 = .ok (.aload_n 0, 1) := by decide +kernel
theorem dL_law_1450 : decode cL_law 1450 = .ok (.iload 4, 2) := by decide +kernel
theorem dL_law_1452 : decode cL_law 1452 = .ok (.iconst 1, 1) := by decide +kernel
theorem dL_law_1453 : decode cL_law 1453 = .ok (.iadd, 1) := by decide +kernel
theorem dL_law_1454 : decode cL_law 1454 = .ok (.iaload, 1) := by decide +kernel
theorem dL_law_1455 : decode cL_law 1455 = .ok (.invokevirtual 182, 3) := by decide +kernel
theorem dL_law_1458 : decode cL_law 1458 = .ok (.istore 6, 2) := by decide +kernel
theorem dL_law_1460 : decode cL_law 1460 = .ok (.aload_n 2, 1) := by decide +kernel
theorem dL_law_1461 : decode cL_law 1461 = .ok (.invokevirtual 119, 3) := by decide +kernel
theorem dL_law_1464 : decode cL_law 1464 = .ok (.iload 5, 2) := by decide +kernel
theorem dL_law_1466 : decode cL_law 1466 = .ok (.if_icmp .eq 5, 3) := by decide +kernel
theorem dL_law_1469 : decode cL_law 1469 = .ok (.iconst 0, 1) := by decide +kernel
theorem dL_law_1470 : decode cL_law 1470 = .ok (.ireturn, 1) := by decide +kernel
theorem dL_law_1471 : decode cL_law 1471 = .ok (.iload 5, 2) := by decide +kernel
theorem dL_law_1473 : decode cL_law 1473 = .ok (.ifCond .ne 15, 3) := by decide +kernel
theorem dL_law_1476 : decode cL_law 1476 = .ok (.aload_n 3, 1) := by decide +kernel
theorem dL_law_1477 : decode cL_law 1477 = .ok (.iconst 0, 1) := by decide +kernel
theorem dL_law_1478 : decode cL_law 1478 = .ok (.laload, 1) := by decide +kernel
theorem dL_law_1479 : decode cL_law 1479 = .ok (.iload 6, 2) := by decide +kernel
theorem dL_law_1481 : decode cL_law 1481 = .ok (.i2l, 1) := by decide +kernel
theorem dL_law_1482 : decode cL_law 1482 = .ok (.lcmp, 1) := by decide +kernel
theorem dL_law_1483 : decode cL_law 1483 = .ok (.ifCond .eq 5, 3) := by decide +kernel
theorem dL_law_1486 : decode cL_law 1486 = .ok (.iconst 0, 1) := by decide +kernel
theorem dL_law_1487 : decode cL_law 1487 = .ok (.ireturn, 1) := by decide +kernel
theorem dL_law_1488 : decode cL_law 1488 = .ok (.goto 587, 3) := by decide +kernel
theorem dL_law_1491 : decode cL_law 1491 = .ok (.aload_n 1, 1) := by decide +kernel
theorem dL_law_1492 : decode cL_law 1492 = .ok (.aload_n 0, 1) := by decide +kernel
theorem dL_law_1493 : decode cL_law 1493 = .ok (.iload 4, 2) := by decide +kernel
theorem dL_law_1495 : decode cL_law 1495 = .ok (.iconst 1, 1) := by decide +kernel
theorem dL_law_1496 : decode cL_law 1496 = .ok (.iadd, 1) := by decide +kernel
theorem dL_law_1497 : decode cL_law 1497 = .ok (.iaload, 1) := by decide +kernel
theorem dL_law_1498 : decode cL_law 1498 = .ok (.aload_n 0, 1) := by decide +kernel
theorem dL_law_1499 : decode cL_law 1499 = .ok (.iload 4, 2) := by decide +kernel
theorem dL_law_1501 : decode cL_law 1501 = .ok (.iconst 2, 1) := by decide +kernel
theorem dL_law_1502 : decode cL_law 1502 = .ok (.iadd, 1) := by decide +kernel
theorem dL_law_1503 : decode cL_law 1503 = .ok (.iaload, 1) := by decide +kernel
theorem dL_law_1504 : decode cL_law 1504 = .ok (.invokestatic 183, 3) := by decide +kernel
theorem dL_law_1507 : decode cL_law 1507 = .ok (.istore 5, 2) := by decide +kernel
theorem dL_law_1509 : decode cL_law 1509 = .ok (.aload_n 2, 1) := by decide +kernel
theorem dL_law_1510 : decode cL_law 1510 = .ok (.aload_n 0, 1) := by decide +kernel
theorem dL_law_1511 : decode cL_law 1511 = .ok (.iload 4, 2) := by decide +kernel
theorem dL_law_1513 : decode cL_law 1513 = .ok (.iconst 1, 1) := by decide +kernel
theorem dL_law_1514 : decode cL_law 1514 = .ok (.iadd, 1) := by decide +kernel
theorem dL_law_1515 : decode cL_law 1515 = .ok (.iaload, 1) := by decide +kernel
theorem dL_law_1516 : decode cL_law 1516 = .ok (.aload_n 0, 1) := by decide +kernel
theorem dL_law_1517 : decode cL_law 1517 = .ok (.iload 4, 2) := by decide +kernel
theorem dL_law_1519 : decode cL_law 1519 = .ok (.iconst 2, 1) := by decide +kernel
theorem dL_law_1520 : decode cL_law 1520 = .ok (.iadd, 1) := by decide +kernel
theorem dL_law_1521 : decode cL_law 1521 = .ok (.iaload, 1) := by decide +kernel
theorem dL_law_1522 : decode cL_law 1522 = .ok (.invokevirtual 186, 3) := by decide +kernel
theorem dL_law_1525 : decode cL_law 1525 = .ok (.aload_n 2, 1) := by decide +kernel
theorem dL_law_1526 : decode cL_law 1526 = .ok (.invokevirtual 119, 3) := by decide +kernel
theorem dL_law_1529 : decode cL_law 1529 = .ok (.iload 5, 2) := by decide +kernel
theorem dL_law_1531 : decode cL_law 1531 = .ok (.if_icmp .eq 5, 3) := by decide +kernel
theorem dL_law_1534 : decode cL_law 1534 = .ok (.iconst 0, 1) := by decide +kernel
theorem dL_law_1535 : decode cL_law 1535 = .ok (.ireturn, 1) := by decide +kernel
theorem dL_law_1536 : decode cL_law 1536 = .ok (.goto 539, 3) := by decide +kernel
theorem dL_law_1539 : decode cL_law 1539 = .ok (.aload_n 1, 1) := by decide +kernel
theorem dL_law_1540 : decode cL_law 1540 = .ok (.aload_n 0, 1) := by decide +kernel
theorem dL_law_1541 : decode cL_law 1541 = .ok (.iload 4, 2) := by decide +kernel
theorem dL_law_1543 : decode cL_law 1543 = .ok (.iconst 1, 1) := by decide +kernel
theorem dL_law_1544 : decode cL_law 1544 = .ok (.iadd, 1) := by decide +kernel
theorem dL_law_1545 : decode cL_law 1545 = .ok (.iaload, 1) := by decide +kernel
theorem dL_law_1546 : decode cL_law 1546 = .ok (.aload_n 0, 1) := by decide +kernel
theorem dL_law_1547 : decode cL_law 1547 = .ok (.iload 4, 2) := by decide +kernel
theorem dL_law_1549 : decode cL_law 1549 = .ok (.iconst 2, 1) := by decide +kernel
theorem dL_law_1550 : decode cL_law 1550 = .ok (.iadd, 1) := by decide +kernel
theorem dL_law_1551 : decode cL_law 1551 = .ok (.iaload, 1) := by decide +kernel
theorem dL_law_1552 : decode cL_law 1552 = .ok (.ifCond .eq 7, 3) := by decide +kernel
theorem dL_law_1555 : decode cL_law 1555 = .ok (.iconst 1, 1) := by decide +kernel
theorem dL_law_1556 : decode cL_law 1556 = .ok (.goto 4, 3) := by decide +kernel
theorem dL_law_1559 : decode cL_law 1559 = .ok (.iconst 0, 1) := by decide +kernel
theorem dL_law_1560 : decode cL_law 1560 = .ok (.aload_n 3, 1) := by decide +kernel
theorem dL_law_1561 : decode cL_law 1561 = .ok (.invokestatic 187, 3) := by decide +kernel
theorem dL_law_1564 : decode cL_law 1564 = .ok (.istore 5, 2) := by decide +kernel
theorem dL_law_1566 : decode cL_law 1566 = .ok (.aload_n 2, 1) := by decide +kernel
theorem dL_law_1567 : decode cL_law 1567 = .ok (.aload_n 0, 1) := by decide +kernel
theorem dL_law_1568 : decode cL_law 1568 = .ok (.iload 4, 2) := by decide +kernel
theorem dL_law_1570 : decode cL_law 1570 = .ok (.iconst 1, 1) := by decide +kernel
theorem dL_law_1571 : decode cL_law 1571 = .ok (.iadd, 1) := by decide +kernel
theorem dL_law_1572 : decode cL_law 1572 = .ok (.iaload, 1) := by decide +kernel
theorem dL_law_1573 : decode cL_law 1573 = .ok (.aload_n 0, 1) := by decide +kernel
theorem dL_law_1574 : decode cL_law 1574 = .ok (.iload 4, 2) := by decide +kernel
theorem dL_law_1576 : decode cL_law 1576 = .ok (.iconst 2, 1) := by decide +kernel
theorem dL_law_1577 : decode cL_law 1577 = .ok (.iadd, 1) := by decide +kernel
theorem dL_law_1578 : decode cL_law 1578 = .ok (.iaload, 1) := by decide +kernel
theorem dL_law_1579 : decode cL_law 1579 = .ok (.ifCond .eq 7, 3) := by decide +kernel
theorem dL_law_1582 : decode cL_law 1582 = .ok (.iconst 1, 1) := by decide +kernel
theorem dL_law_1583 : decode cL_law 1583 = .ok (.goto 4, 3) := by decide +kernel
theorem dL_law_1586 : decode cL_law 1586 = .ok (.iconst 0, 1) := by decide +kernel
theorem dL_law_1587 : decode cL_law 1587 = .ok (.invokevirtual 189, 3) := by decide +kernel
theorem dL_law_1590 : decode cL_law 1590 = .ok (.istore 6, 2) := by decide +kernel
theorem dL_law_1592 : decode cL_law 1592 = .ok (.aload_n 2, 1) := by decide +kernel
theorem dL_law_1593 : decode cL_law 1593 = .ok (.invokevirtual 119, 3) := by decide +kernel
theorem dL_law_1596 : decode cL_law 1596 = .ok (.iload 5, 2) := by decide +kernel
theorem dL_law_1598 : decode cL_law 1598 = .ok (.if_icmp .eq 5, 3) := by decide +kernel
theorem dL_law_1601 : decode cL_law 1601 = .ok (.iconst 0, 1) := by decide +kernel
theorem dL_law_1602 : decode cL_law 1602 = .ok (.ireturn, 1) := by decide +kernel
theorem dL_law_1603 : decode cL_law 1603 = .ok (.iload 5, 2) := by decide +kernel
theorem dL_law_1605 : decode cL_law 1605 = .ok (.ifCond .ne 15, 3) := by decide +kernel
theorem dL_law_1608 : decode cL_law 1608 = .ok (.aload_n 3, 1) := by decide +kernel
theorem dL_law_1609 : decode cL_law 1609 = .ok (.iconst 0, 1) := by decide +kernel
theorem dL_law_1610 : decode cL_law 1610 = .ok (.laload, 1) := by decide +kernel
theorem dL_law_1611 : decode cL_law 1611 = .ok (.iload 6, 2) := by decide +kernel
theorem dL_law_1613 : decode cL_law 1613 = .ok (.i2l, 1) := by decide +kernel
theorem dL_law_1614 : decode cL_law 1614 = .ok (.lcmp, 1) := by decide +kernel
theorem dL_law_1615 : decode cL_law 1615 = .ok (.ifCond .eq 5, 3) := by decide +kernel
theorem dL_law_1618 : decode cL_law 1618 = .ok (.iconst 0, 1) := by decide +kernel
theorem dL_law_1619 : decode cL_law 1619 = .ok (.ireturn, 1) := by decide +kernel
theorem dL_law_1620 : decode cL_law 1620 = .ok (.goto 455, 3) := by decide +kernel
theorem dL_law_1623 : decode cL_law 1623 = .ok (.aload_n 1, 1) := by decide +kernel
theorem dL_law_1624 : decode cL_law 1624 = .ok (.aload_n 0, 1) := by decide +kernel
theorem dL_law_1625 : decode cL_law 1625 = .ok (.iload 4, 2) := by decide +kernel
theorem dL_law_1627 : decode cL_law 1627 = .ok (.iconst 1, 1) := by decide +kernel
theorem dL_law_1628 : decode cL_law 1628 = .ok (.iadd, 1) := by decide +kernel
theorem dL_law_1629 : decode cL_law 1629 = .ok (.iaload, 1) := by decide +kernel
theorem dL_law_1630 : decode cL_law 1630 = .ok (.aload_n 3, 1) := by decide +kernel
theorem dL_law_1631 : decode cL_law 1631 = .ok (.invokestatic 190, 3) := by decide +kernel
theorem dL_law_1634 : decode cL_law 1634 = .ok (.istore 5, 2) := by decide +kernel
theorem dL_law_1636 : decode cL_law 1636 = .ok (.aload_n 2, 1) := by decide +kernel
theorem dL_law_1637 : decode cL_law 1637 = .ok (.aload_n 0, 1) := by decide +kernel
theorem dL_law_1638 : decode cL_law 1638 = .ok (.iload 4, 2) := by decide +kernel
theorem dL_law_1640 : decode cL_law 1640 = .ok (.iconst 1, 1) := by decide +kernel
theorem dL_law_1641 : decode cL_law 1641 = .ok (.iadd, 1) := by decide +kernel
theorem dL_law_1642 : decode cL_law 1642 = .ok (.iaload, 1) := by decide +kernel
theorem dL_law_1643 : decode cL_law 1643 = .ok (.invokevirtual 192, 3) := by decide +kernel
theorem dL_law_1646 : decode cL_law 1646 = .ok (.istore 6, 2) := by decide +kernel
theorem dL_law_1648 : decode cL_law 1648 = .ok (.aload_n 2, 1) := by decide +kernel
theorem dL_law_1649 : decode cL_law 1649 = .ok (.invokevirtual 119, 3) := by decide +kernel
theorem dL_law_1652 : decode cL_law 1652 = .ok (.iload 5, 2) := by decide +kernel
theorem dL_law_1654 : decode cL_law 1654 = .ok (.if_icmp .eq 5, 3) := by decide +kernel
theorem dL_law_1657 : decode cL_law 1657 = .ok (.iconst 0, 1) := by decide +kernel
theorem dL_law_1658 : decode cL_law 1658 = .ok (.ireturn, 1) := by decide +kernel
theorem dL_law_1659 : decode cL_law 1659 = .ok (.iload 5, 2) := by decide +kernel
theorem dL_law_1661 : decode cL_law 1661 = .ok (.ifCond .ne 15, 3) := by decide +kernel
theorem dL_law_1664 : decode cL_law 1664 = .ok (.aload_n 3, 1) := by decide +kernel
theorem dL_law_1665 : decode cL_law 1665 = .ok (.iconst 0, 1) := by decide +kernel
theorem dL_law_1666 : decode cL_law 1666 = .ok (.laload, 1) := by decide +kernel
theorem dL_law_1667 : decode cL_law 1667 = .ok (.iload 6, 2) := by decide +kernel
theorem dL_law_1669 : decode cL_law 1669 = .ok (.i2l, 1) := by decide +kernel
theorem dL_law_1670 : decode cL_law 1670 = .ok (.lcmp, 1) := by decide +kernel
theorem dL_law_1671 : decode cL_law 1671 = .ok (.ifCond .eq 5, 3) := by decide +kernel
theorem dL_law_1674 : decode cL_law 1674 = .ok (.iconst 0, 1) := by decide +kernel
theorem dL_law_1675 : decode cL_law 1675 = .ok (.ireturn, 1) := by decide +kernel
theorem dL_law_1676 : decode cL_law 1676 = .ok (.goto 399, 3) := by decide +kernel
theorem dL_law_1679 : decode cL_law 1679 = .ok (.aload_n 1, 1) := by decide +kernel
theorem dL_law_1680 : decode cL_law 1680 = .ok (.aload_n 0, 1) := by decide +kernel
theorem dL_law_1681 : decode cL_law 1681 = .ok (.iload 4, 2) := by decide +kernel
theorem dL_law_1683 : decode cL_law 1683 = .ok (.iconst 1, 1) := by decide +kernel
theorem dL_law_1684 : decode cL_law 1684 = .ok (.iadd, 1) := by decide +kernel
theorem dL_law_1685 : decode cL_law 1685 = .ok (.iaload, 1) := by decide +kernel
theorem dL_law_1686 : decode cL_law 1686 = .ok (.aload_n 0, 1) := by decide +kernel
theorem dL_law_1687 : decode cL_law 1687 = .ok (.iload 4, 2) := by decide +kernel
theorem dL_law_1689 : decode cL_law 1689 = .ok (.iconst 2, 1) := by decide +kernel
theorem dL_law_1690 : decode cL_law 1690 = .ok (.iadd, 1) := by decide +kernel
theorem dL_law_1691 : decode cL_law 1691 = .ok (.iaload, 1) := by decide +kernel
theorem dL_law_1692 : decode cL_law 1692 = .ok (.aload_n 0, 1) := by decide +kernel
theorem dL_law_1693 : decode cL_law 1693 = .ok (.iload 4, 2) := by decide +kernel
theorem dL_law_1695 : decode cL_law 1695 = .ok (.iconst 3, 1) := by decide +kernel
theorem dL_law_1696 : decode cL_law 1696 = .ok (.iadd, 1) := by decide +kernel
theorem dL_law_1697 : decode cL_law 1697 = .ok (.iaload, 1) := by decide +kernel
theorem dL_law_1698 : decode cL_law 1698 = .ok (.aload_n 3, 1) := by decide +kernel
theorem dL_law_1699 : decode cL_law 1699 = .ok (.invokestatic 193, 3) := by decide +kernel
theorem dL_law_1702 : decode cL_law 1702 = .ok (.istore 5, 2) := by decide +kernel
theorem dL_law_1704 : decode cL_law 1704 = .ok (.aload_n 2, 1) := by decide +kernel
theorem dL_law_1705 : decode cL_law 1705 = .ok (.aload_n 0, 1) := by decide +kernel
theorem dL_law_1706 : decode cL_law 1706 = .ok (.iload 4, 2) := by decide +kernel
theorem dL_law_1708 : decode cL_law 1708 = .ok (.iconst 1, 1) := by decide +kernel
theorem dL_law_1709 : decode cL_law 1709 = .ok (.iadd, 1) := by decide +kernel
theorem dL_law_1710 : decode cL_law 1710 = .ok (.iaload, 1) := by decide +kernel
theorem dL_law_1711 : decode cL_law 1711 = .ok (.aload_n 0, 1) := by decide +kernel
theorem dL_law_1712 : decode cL_law 1712 = .ok (.iload 4, 2) := by decide +kernel
theorem dL_law_1714 : decode cL_law 1714 = .ok (.iconst 2, 1) := by decide +kernel
theorem dL_law_1715 : decode cL_law 1715 = .ok (.iadd, 1) := by decide +kernel
theorem dL_law_1716 : decode cL_law 1716 = .ok (.iaload, 1) := by decide +kernel
theorem dL_law_1717 : decode cL_law 1717 = .ok (.aload_n 0, 1) := by decide +kernel
theorem dL_law_1718 : decode cL_law 1718 = .ok (.iload 4, 2) := by decide +kernel
theorem dL_law_1720 : decode cL_law 1720 = .ok (.iconst 3, 1) := by decide +kernel
theorem dL_law_1721 : decode cL_law 1721 = .ok (.iadd, 1) := by decide +kernel
theorem dL_law_1722 : decode cL_law 1722 = .ok (.iaload, 1) := by decide +kernel
theorem dL_law_1723 : decode cL_law 1723 = .ok (.invokevirtual 195, 3) := by decide +kernel
theorem dL_law_1726 : decode cL_law 1726 = .ok (.istore 6, 2) := by decide +kernel
theorem dL_law_1728 : decode cL_law 1728 = .ok (.aload_n 2, 1) := by decide +kernel
theorem dL_law_1729 : decode cL_law 1729 = .ok (.invokevirtual 119, 3) := by decide +kernel
theorem dL_law_1732 : decode cL_law 1732 = .ok (.iload 5, 2) := by decide +kernel
theorem dL_law_1734 : decode cL_law 1734 = .ok (.if_icmp .eq 5, 3) := by decide +kernel
theorem dL_law_1737 : decode cL_law 1737 = .ok (.iconst 0, 1) := by decide +kernel
theorem dL_law_1738 : decode cL_law 1738 = .ok (.ireturn, 1) := by decide +kernel
theorem dL_law_1739 : decode cL_law 1739 = .ok (.iload 5, 2) := by decide +kernel
theorem dL_law_1741 : decode cL_law 1741 = .ok (.ifCond .ne 15, 3) := by decide +kernel
theorem dL_law_1744 : decode cL_law 1744 = .ok (.aload_n 3, 1) := by decide +kernel
theorem dL_law_1745 : decode cL_law 1745 = .ok (.iconst 0, 1) := by decide +kernel
theorem dL_law_1746 : decode cL_law 1746 = .ok (.laload, 1) := by decide +kernel
theorem dL_law_1747 : decode cL_law 1747 = .ok (.iload 6, 2) := by decide +kernel
theorem dL_law_1749 : decode cL_law 1749 = .ok (.i2l, 1) := by decide +kernel
theorem dL_law_1750 : decode cL_law 1750 = .ok (.lcmp, 1) := by decide +kernel
theorem dL_law_1751 : decode cL_law 1751 = .ok (.ifCond .eq 5, 3) := by decide +kernel
theorem dL_law_1754 : decode cL_law 1754 = .ok (.iconst 0, 1) := by decide +kernel
theorem dL_law_1755 : decode cL_law 1755 = .ok (.ireturn, 1) := by decide +kernel
theorem dL_law_1756 : decode cL_law 1756 = .ok (.goto 319, 3) := by decide +kernel
theorem dL_law_1759 : decode cL_law 1759 = .ok (.aload_n 1, 1) := by decide +kernel
theorem dL_law_1760 : decode cL_law 1760 = .ok (.aload_n 0, 1) := by decide +kernel
theorem dL_law_1761 : decode cL_law 1761 = .ok (.iload 4, 2) := by decide +kernel
theorem dL_law_1763 : decode cL_law 1763 = .ok (.iconst 1, 1) := by decide +kernel
theorem dL_law_1764 : decode cL_law 1764 = .ok (.iadd, 1) := by decide +kernel
theorem dL_law_1765 : decode cL_law 1765 = .ok (.iaload, 1) := by decide +kernel
theorem dL_law_1766 : decode cL_law 1766 = .ok (.aload_n 3, 1) := by decide +kernel
theorem dL_law_1767 : decode cL_law 1767 = .ok (.invokestatic 196, 3) := by decide +kernel
theorem dL_law_1770 : decode cL_law 1770 = .ok (.istore 5, 2) := by decide +kernel
theorem dL_law_1772 : decode cL_law 1772 = .ok (.aload_n 2, 1) := by decide +kernel
theorem dL_law_1773 : decode cL_law 1773 = .ok (.aload_n 0, 1) := by decide +kernel
theorem dL_law_1774 : decode cL_law 1774 = .ok (.iload 4, 2) := by decide +kernel
theorem dL_law_1776 : decode cL_law 1776 = .ok (.iconst 1, 1) := by decide +kernel
theorem dL_law_1777 : decode cL_law 1777 = .ok (.iadd, 1) := by decide +kernel
theorem dL_law_1778 : decode cL_law 1778 = .ok (.iaload, 1) := by decide +kernel
theorem dL_law_1779 : decode cL_law 1779 = .ok (.invokevirtual 198, 3) := by decide +kernel
theorem dL_law_1782 : decode cL_law 1782 = .ok (.istore 6, 2) := by decide +kernel
theorem dL_law_1784 : decode cL_law 1784 = .ok (.aload_n 2, 1) := by decide +kernel
theorem dL_law_1785 : decode cL_law 1785 = .ok (.invokevirtual 119, 3) := by decide +kernel
theorem dL_law_1788 : decode cL_law 1788 = .ok (.iload 5, 2) := by decide +kernel
theorem dL_law_1790 : decode cL_law 1790 = .ok (.if_icmp .eq 5, 3) := by decide +kernel
theorem dL_law_1793 : decode cL_law 1793 = .ok (.iconst 0, 1) := by decide +kernel
theorem dL_law_1794 : decode cL_law 1794 = .ok (.ireturn, 1) := by decide +kernel
theorem dL_law_1795 : decode cL_law 1795 = .ok (.iload 5, 2) := by decide +kernel
theorem dL_law_1797 : decode cL_law 1797 = .ok (.ifCond .ne 15, 3) := by decide +kernel
theorem dL_law_1800 : decode cL_law 1800 = .ok (.aload_n 3, 1) := by decide +kernel
theorem dL_law_1801 : decode cL_law 1801 = .ok (.iconst 0, 1) := by decide +kernel
theorem dL_law_1802 : decode cL_law 1802 = .ok (.laload, 1) := by decide +kernel
theorem dL_law_1803 : decode cL_law 1803 = .ok (.iload 6, 2) := by decide +kernel
theorem dL_law_1805 : decode cL_law 1805 = .ok (.i2l, 1) := by decide +kernel
theorem dL_law_1806 : decode cL_law 1806 = .ok (.lcmp, 1) := by decide +kernel
theorem dL_law_1807 : decode cL_law 1807 = .ok (.ifCond .eq 5, 3) := by decide +kernel
theorem dL_law_1810 : decode cL_law 1810 = .ok (.iconst 0, 1) := by decide +kernel
theorem dL_law_1811 : decode cL_law 1811 = .ok (.ireturn, 1) := by decide +kernel
theorem dL_law_1812 : decode cL_law 1812 = .ok (.goto 263, 3) := by decide +kernel
theorem dL_law_1815 : decode cL_law 1815 = .ok (.aload_n 1, 1) := by decide +kernel
theorem dL_law_1816 : decode cL_law 1816 = .ok (.aload_n 0, 1) := by decide +kernel
theorem dL_law_1817 : decode cL_law 1817 = .ok (.iload 4, 2) := by decide +kernel
theorem dL_law_1819 : decode cL_law 1819 = .ok (.iconst 1, 1) := by decide +kernel
theorem dL_law_1820 : decode cL_law 1820 = .ok (.iadd, 1) := by decide +kernel
theorem dL_law_1821 : decode cL_law 1821 = .ok (.iaload, 1) := by decide +kernel
theorem dL_law_1822 : decode cL_law 1822 = .ok (.aload_n 3, 1) := by decide +kernel
theorem dL_law_1823 : decode cL_law 1823 = .ok (.invokestatic 199, 3) := by decide +kernel
theorem dL_law_1826 : decode cL_law 1826 = .ok (.istore 5, 2) := by decide +kernel
theorem dL_law_1828 : decode cL_law 1828 = .ok (.aload_n 2, 1) := by decide +kernel
theorem dL_law_1829 : decode cL_law 1829 = .ok (.aload_n 0, 1) := by decide +kernel
theorem dL_law_1830 : decode cL_law 1830 = .ok (.iload 4, 2) := by decide +kernel
theorem dL_law_1832 : decode cL_law 1832 = .ok (.iconst 1, 1) := by decide +kernel
theorem dL_law_1833 : decode cL_law 1833 = .ok (.iadd, 1) := by decide +kernel
theorem dL_law_1834 : decode cL_law 1834 = .ok (.iaload, 1) := by decide +kernel
theorem dL_law_1835 : decode cL_law 1835 = .ok (.invokevirtual 201, 3) := by decide +kernel
theorem dL_law_1838 : decode cL_law 1838 = .ok (.istore 6, 2) := by decide +kernel
theorem dL_law_1840 : decode cL_law 1840 = .ok (.aload_n 2, 1) := by decide +kernel
theorem dL_law_1841 : decode cL_law 1841 = .ok (.invokevirtual 119, 3) := by decide +kernel
theorem dL_law_1844 : decode cL_law 1844 = .ok (.iload 5, 2) := by decide +kernel
theorem dL_law_1846 : decode cL_law 1846 = .ok (.if_icmp .eq 5, 3) := by decide +kernel
theorem dL_law_1849 : decode cL_law 1849 = .ok (.iconst 0, 1) := by decide +kernel
theorem dL_law_1850 : decode cL_law 1850 = .ok (.ireturn, 1) := by decide +kernel
theorem dL_law_1851 : decode cL_law 1851 = .ok (.iload 5, 2) := by decide +kernel
theorem dL_law_1853 : decode cL_law 1853 = .ok (.ifCond .ne 15, 3) := by decide +kernel
theorem dL_law_1856 : decode cL_law 1856 = .ok (.aload_n 3, 1) := by decide +kernel
theorem dL_law_1857 : decode cL_law 1857 = .ok (.iconst 0, 1) := by decide +kernel
theorem dL_law_1858 : decode cL_law 1858 = .ok (.laload, 1) := by decide +kernel
theorem dL_law_1859 : decode cL_law 1859 = .ok (.iload 6, 2) := by decide +kernel
theorem dL_law_1861 : decode cL_law 1861 = .ok (.i2l, 1) := by decide +kernel
theorem dL_law_1862 : decode cL_law 1862 = .ok (.lcmp, 1) := by decide +kernel
theorem dL_law_1863 : decode cL_law 1863 = .ok (.ifCond .eq 5, 3) := by decide +kernel
theorem dL_law_1866 : decode cL_law 1866 = .ok (.iconst 0, 1) := by decide +kernel
theorem dL_law_1867 : decode cL_law 1867 = .ok (.ireturn, 1) := by decide +kernel
theorem dL_law_1868 : decode cL_law 1868 = .ok (.goto 207, 3) := by decide +kernel
theorem dL_law_1871 : decode cL_law 1871 = .ok (.aload_n 1, 1) := by decide +kernel
theorem dL_law_1872 : decode cL_law 1872 = .ok (.aload_n 0, 1) := by decide +kernel
theorem dL_law_1873 : decode cL_law 1873 = .ok (.iload 4, 2) := by decide +kernel
theorem dL_law_1875 : decode cL_law 1875 = .ok (.iconst 1, 1) := by decide +kernel
theorem dL_law_1876 : decode cL_law 1876 = .ok (.iadd, 1) := by decide +kernel
theorem dL_law_1877 : decode cL_law 1877 = .ok (.iaload, 1) := by decide +kernel
theorem dL_law_1878 : decode cL_law 1878 = .ok (.aload_n 0, 1) := by decide +kernel
theorem dL_law_1879 : decode cL_law 1879 = .ok (.iload 4, 2) := by decide +kernel
theorem dL_law_1881 : decode cL_law 1881 = .ok (.iconst 2, 1) := by decide +kernel
theorem dL_law_1882 : decode cL_law 1882 = .ok (.iadd, 1) := by decide +kernel
theorem dL_law_1883 : decode cL_law 1883 = .ok (.iaload, 1) := by decide +kernel
theorem dL_law_1884 : decode cL_law 1884 = .ok (.aload_n 0, 1) := by decide +kernel
theorem dL_law_1885 : decode cL_law 1885 = .ok (.iload 4, 2) := by decide +kernel
theorem dL_law_1887 : decode cL_law 1887 = .ok (.iconst 3, 1) := by decide +kernel
theorem dL_law_1888 : decode cL_law 1888 = .ok (.iadd, 1) := by decide +kernel
theorem dL_law_1889 : decode cL_law 1889 = .ok (.iaload, 1) := by decide +kernel
theorem dL_law_1890 : decode cL_law 1890 = .ok (.aload_n 3, 1) := by decide +kernel
theorem dL_law_1891 : decode cL_law 1891 = .ok (.invokestatic 202, 3) := by decide +kernel
theorem dL_law_1894 : decode cL_law 1894 = .ok (.istore 5, 2) := by decide +kernel
theorem dL_law_1896 : decode cL_law 1896 = .ok (.aload_n 2, 1) := by decide +kernel
theorem dL_law_1897 : decode cL_law 1897 = .ok (.aload_n 0, 1) := by decide +kernel
theorem dL_law_1898 : decode cL_law 1898 = .ok (.iload 4, 2) := by decide +kernel
theorem dL_law_1900 : decode cL_law 1900 = .ok (.iconst 1, 1) := by decide +kernel
theorem dL_law_1901 : decode cL_law 1901 = .ok (.iadd, 1) := by decide +kernel
theorem dL_law_1902 : decode cL_law 1902 = .ok (.iaload, 1) := by decide +kernel
theorem dL_law_1903 : decode cL_law 1903 = .ok (.aload_n 0, 1) := by decide +kernel
theorem dL_law_1904 : decode cL_law 1904 = .ok (.iload 4, 2) := by decide +kernel
theorem dL_law_1906 : decode cL_law 1906 = .ok (.iconst 2, 1) := by decide +kernel
theorem dL_law_1907 : decode cL_law 1907 = .ok (.iadd, 1) := by decide +kernel
theorem dL_law_1908 : decode cL_law 1908 = .ok (.iaload, 1) := by decide +kernel
theorem dL_law_1909 : decode cL_law 1909 = .ok (.aload_n 0, 1) := by decide +kernel
theorem dL_law_1910 : decode cL_law 1910 = .ok (.iload 4, 2) := by decide +kernel
theorem dL_law_1912 : decode cL_law 1912 = .ok (.iconst 3, 1) := by decide +kernel
theorem dL_law_1913 : decode cL_law 1913 = .ok (.iadd, 1) := by decide +kernel
theorem dL_law_1914 : decode cL_law 1914 = .ok (.iaload, 1) := by decide +kernel
theorem dL_law_1915 : decode cL_law 1915 = .ok (.invokevirtual 204, 3) := by decide +kernel
theorem dL_law_1918 : decode cL_law 1918 = .ok (.istore 6, 2) := by decide +kernel
theorem dL_law_1920 : decode cL_law 1920 = .ok (.aload_n 2, 1) := by decide +kernel
theorem dL_law_1921 : decode cL_law 1921 = .ok (.invokevirtual 119, 3) := by decide +kernel
theorem dL_law_1924 : decode cL_law 1924 = .ok (.iload 5, 2) := by decide +kernel
theorem dL_law_1926 : decode cL_law 1926 = .ok (.if_icmp .eq 5, 3) := by decide +kernel
theorem dL_law_1929 : decode cL_law 1929 = .ok (.iconst 0, 1) := by decide +kernel
theorem dL_law_1930 : decode cL_law 1930 = .ok (.ireturn, 1) := by decide +kernel
theorem dL_law_1931 : decode cL_law 1931 = .ok (.iload 5, 2) := by decide +kernel
theorem dL_law_1933 : decode cL_law 1933 = .ok (.ifCond .ne 15, 3) := by decide +kernel
theorem dL_law_1936 : decode cL_law 1936 = .ok (.aload_n 3, 1) := by decide +kernel
theorem dL_law_1937 : decode cL_law 1937 = .ok (.iconst 0, 1) := by decide +kernel
theorem dL_law_1938 : decode cL_law 1938 = .ok (.laload, 1) := by decide +kernel
theorem dL_law_1939 : decode cL_law 1939 = .ok (.iload 6, 2) := by decide +kernel
theorem dL_law_1941 : decode cL_law 1941 = .ok (.i2l, 1) := by decide +kernel
theorem dL_law_1942 : decode cL_law 1942 = .ok (.lcmp, 1) := by decide +kernel
theorem dL_law_1943 : decode cL_law 1943 = .ok (.ifCond .eq 5, 3) := by decide +kernel
theorem dL_law_1946 : decode cL_law 1946 = .ok (.iconst 0, 1) := by decide +kernel
theorem dL_law_1947 : decode cL_law 1947 = .ok (.ireturn, 1) := by decide +kernel
theorem dL_law_1948 : decode cL_law 1948 = .ok (.goto 127, 3) := by decide +kernel
theorem dL_law_1951 : decode cL_law 1951 = .ok (.aload_n 1, 1) := by decide +kernel
theorem dL_law_1952 : decode cL_law 1952 = .ok (.aload_n 0, 1) := by decide +kernel
theorem dL_law_1953 : decode cL_law 1953 = .ok (.iload 4, 2) := by decide +kernel
theorem dL_law_1955 : decode cL_law 1955 = .ok (.iconst 1, 1) := by decide +kernel
theorem dL_law_1956 : decode cL_law 1956 = .ok (.iadd, 1) := by decide +kernel
theorem dL_law_1957 : decode cL_law 1957 = .ok (.iaload, 1) := by decide +kernel
theorem dL_law_1958 : decode cL_law 1958 = .ok (.aload_n 0, 1) := by decide +kernel
theorem dL_law_1959 : decode cL_law 1959 = .ok (.iload 4, 2) := by decide +kernel
theorem dL_law_1961 : decode cL_law 1961 = .ok (.iconst 2, 1) := by decide +kernel
theorem dL_law_1962 : decode cL_law 1962 = .ok (.iadd, 1) := by decide +kernel
theorem dL_law_1963 : decode cL_law 1963 = .ok (.iaload, 1) := by decide +kernel
theorem dL_law_1964 : decode cL_law 1964 = .ok (.aload_n 3, 1) := by decide +kernel
theorem dL_law_1965 : decode cL_law 1965 = .ok (.invokestatic 205, 3) := by decide +kernel
theorem dL_law_1968 : decode cL_law 1968 = .ok (.istore 5, 2) := by decide +kernel
theorem dL_law_1970 : decode cL_law 1970 = .ok (.aload_n 2, 1) := by decide +kernel
theorem dL_law_1971 : decode cL_law 1971 = .ok (.aload_n 0, 1) := by decide +kernel
theorem dL_law_1972 : decode cL_law 1972 = .ok (.iload 4, 2) := by decide +kernel
theorem dL_law_1974 : decode cL_law 1974 = .ok (.iconst 1, 1) := by decide +kernel
theorem dL_law_1975 : decode cL_law 1975 = .ok (.iadd, 1) := by decide +kernel
theorem dL_law_1976 : decode cL_law 1976 = .ok (.iaload, 1) := by decide +kernel
theorem dL_law_1977 : decode cL_law 1977 = .ok (.aload_n 0, 1) := by decide +kernel
theorem dL_law_1978 : decode cL_law 1978 = .ok (.iload 4, 2) := by decide +kernel
theorem dL_law_1980 : decode cL_law 1980 = .ok (.iconst 2, 1) := by decide +kernel
theorem dL_law_1981 : decode cL_law 1981 = .ok (.iadd, 1) := by decide +kernel
theorem dL_law_1982 : decode cL_law 1982 = .ok (.iaload, 1) := by decide +kernel
theorem dL_law_1983 : decode cL_law 1983 = .ok (.invokevirtual 207, 3) := by decide +kernel
theorem dL_law_1986 : decode cL_law 1986 = .ok (.istore 6, 2) := by decide +kernel
theorem dL_law_1988 : decode cL_law 1988 = .ok (.aload_n 2, 1) := by decide +kernel
theorem dL_law_1989 : decode cL_law 1989 = .ok (.invokevirtual 119, 3) := by decide +kernel
theorem dL_law_1992 : decode cL_law 1992 = .ok (.iload 5, 2) := by decide +kernel
theorem dL_law_1994 : decode cL_law 1994 = .ok (.if_icmp .eq 5, 3) := by decide +kernel
theorem dL_law_1997 : decode cL_law 1997 = .ok (.iconst 0, 1) := by decide +kernel
theorem dL_law_1998 : decode cL_law 1998 = .ok (.ireturn, 1) := by decide +kernel
theorem dL_law_1999 : decode cL_law 1999 = .ok (.iload 5, 2) := by decide +kernel
theorem dL_law_2001 : decode cL_law 2001 = .ok (.ifCond .ne 15, 3) := by decide +kernel
theorem dL_law_2004 : decode cL_law 2004 = .ok (.aload_n 3, 1) := by decide +kernel
theorem dL_law_2005 : decode cL_law 2005 = .ok (.iconst 0, 1) := by decide +kernel
theorem dL_law_2006 : decode cL_law 2006 = .ok (.laload, 1) := by decide +kernel
theorem dL_law_2007 : decode cL_law 2007 = .ok (.iload 6, 2) := by decide +kernel
theorem dL_law_2009 : decode cL_law 2009 = .ok (.i2l, 1) := by decide +kernel
theorem dL_law_2010 : decode cL_law 2010 = .ok (.lcmp, 1) := by decide +kernel
theorem dL_law_2011 : decode cL_law 2011 = .ok (.ifCond .eq 5, 3) := by decide +kernel
theorem dL_law_2014 : decode cL_law 2014 = .ok (.iconst 0, 1) := by decide +kernel
theorem dL_law_2015 : decode cL_law 2015 = .ok (.ireturn, 1) := by decide +kernel
theorem dL_law_2016 : decode cL_law 2016 = .ok (.goto 59, 3) := by decide +kernel
theorem dL_law_2019 : decode cL_law 2019 = .ok (.aload_n 1, 1) := by decide +kernel
theorem dL_law_2020 : decode cL_law 2020 = .ok (.aload_n 0, 1) := by decide +kernel
theorem dL_law_2021 : decode cL_law 2021 = .ok (.iload 4, 2) := by decide +kernel
theorem dL_law_2023 : decode cL_law 2023 = .ok (.iconst 1, 1) := by decide +kernel
theorem dL_law_2024 : decode cL_law 2024 = .ok (.iadd, 1) := by decide +kernel
theorem dL_law_2025 : decode cL_law 2025 = .ok (.iaload, 1) := by decide +kernel
theorem dL_law_2026 : decode cL_law 2026 = .ok (.aload_n 3, 1) := by decide +kernel
theorem dL_law_2027 : decode cL_law 2027 = .ok (.invokestatic 208, 3) := by decide +kernel
theorem dL_law_2030 : decode cL_law 2030 = .ok (.istore 5, 2) := by decide +kernel
theorem dL_law_2032 : decode cL_law 2032 = .ok (.aload_n 2, 1) := by decide +kernel
theorem dL_law_2033 : decode cL_law 2033 = .ok (.aload_n 0, 1) := by decide +kernel
theorem dL_law_2034 : decode cL_law 2034 = .ok (.iload 4, 2) := by decide +kernel
theorem dL_law_2036 : decode cL_law 2036 = .ok (.iconst 1, 1) := by decide +kernel
theorem dL_law_2037 : decode cL_law 2037 = .ok (.iadd, 1) := by decide +kernel
theorem dL_law_2038 : decode cL_law 2038 = .ok (.iaload, 1) := by decide +kernel
theorem dL_law_2039 : decode cL_law 2039 = .ok (.invokevirtual 210, 3) := by decide +kernel
theorem dL_law_2042 : decode cL_law 2042 = .ok (.istore 6, 2) := by decide +kernel
theorem dL_law_2044 : decode cL_law 2044 = .ok (.aload_n 2, 1) := by decide +kernel
theorem dL_law_2045 : decode cL_law 2045 = .ok (.invokevirtual 119, 3) := by decide +kernel
theorem dL_law_2048 : decode cL_law 2048 = .ok (.iload 5, 2) := by decide +kernel
theorem dL_law_2050 : decode cL_law 2050 = .ok (.if_icmp .eq 5, 3) := by decide +kernel
theorem dL_law_2053 : decode cL_law 2053 = .ok (.iconst 0, 1) := by decide +kernel
theorem dL_law_2054 : decode cL_law 2054 = .ok (.ireturn, 1) := by decide +kernel
theorem dL_law_2055 : decode cL_law 2055 = .ok (.iload 5, 2) := by decide +kernel
theorem dL_law_2057 : decode cL_law 2057 = .ok (.ifCond .ne 15, 3) := by decide +kernel
theorem dL_law_2060 : decode cL_law 2060 = .ok (.aload_n 3, 1) := by decide +kernel
theorem dL_law_2061 : decode cL_law 2061 = .ok (.iconst 0, 1) := by decide +kernel
theorem dL_law_2062 : decode cL_law 2062 = .ok (.laload, 1) := by decide +kernel
theorem dL_law_2063 : decode cL_law 2063 = .ok (.iload 6, 2) := by decide +kernel
theorem dL_law_2065 : decode cL_law 2065 = .ok (.i2l, 1) := by decide +kernel
theorem dL_law_2066 : decode cL_law 2066 = .ok (.lcmp, 1) := by decide +kernel
theorem dL_law_2067 : decode cL_law 2067 = .ok (.ifCond .eq 5, 3) := by decide +kernel
theorem dL_law_2070 : decode cL_law 2070 = .ok (.iconst 0, 1) := by decide +kernel
theorem dL_law_2071 : decode cL_law 2071 = .ok (.ireturn, 1) := by decide +kernel
theorem dL_law_2072 : decode cL_law 2072 = .ok (.goto 3, 3) := by decide +kernel
theorem dL_law_2075 : decode cL_law 2075 = .ok (.iinc 4 6, 3) := by decide +kernel
theorem dL_law_2078 : decode cL_law 2078 = .ok (.goto (-2055), 3) := by decide +kernel
theorem dL_law_2081 : decode cL_law 2081 = .ok (.iconst 1, 1) := by decide +kernel
theorem dL_law_2082 : decode cL_law 2082 = .ok (.ireturn, 1) := by decide +kernel
