/-! names out of the claim's printed names: classes, methods, decode rows -/
def RJ15 : String := "java/util/Objects"
def RJ3 : String := "jdk/internal/util/Preconditions"
def RJ6 : String := "java/lang/Integer"
def RJ7 : String := "java/util/Arrays"
def RJ8 : String := "jdk/internal/util/ArraysSupport"
def RJ9 : String := "java/lang/Math"
def RJx4a65c : String := "java/util/ArrayList"
def TJx4a65c : u_T := fun k => match k with
  | 0 => ("java/util/AbstractList", "modCount", "I", false)
  | 1 => ("java/util/ArrayList", "elementData", "[Ljava/lang/Object;", false)
  | _ => ("java/util/ArrayList", "size", "I", false)
def tyJx4a65c : Nat → FieldType := fun k => match k with
  | 0 => .int
  | 1 => .array (.object "java/lang/Object")
  | _ => .int
theorem nmJx4a65c : ∀ a, a < 3 → ∀ b, b < 3 → a ≠ b → (TJx4a65c a).2.1 ≠ (TJx4a65c b).2.1 := by decide +kernel
theorem tyJx4a65c_ok : ∀ k, k < 3 → parseFieldDescriptor (TJx4a65c k).2.2.1 = some (tyJx4a65c k) := by decide +kernel
def RJxa1e45 : String := "java/util/AbstractCollection"
def RJxc12de : String := "java/util/AbstractList"
def RL : String := "SparklineLaw"
def RX0 : String := "Sparkline$Board"
def TX0 : u_T := fun k => match k with
  | 0 => ("Sparkline$Board", "isSoldered", "Z", false)
  | 1 => ("Sparkline$Board", "isTested", "Z", false)
  | 2 => ("Sparkline$Board", "isShipped", "Z", false)
  | 3 => ("Sparkline$Board", "slots", "Ljava/util/ArrayList;", true)
  | _ => ("Sparkline$Board", "heats", "LSparkline$Row;", true)
def tyX0 : Nat → FieldType := fun k => match k with
  | 0 => .boolean
  | 1 => .boolean
  | 2 => .boolean
  | 3 => .object "java/util/ArrayList"
  | _ => .object "Sparkline$Row"
theorem nmX0 : ∀ a, a < 5 → ∀ b, b < 5 → a ≠ b → (TX0 a).2.1 ≠ (TX0 b).2.1 := by decide +kernel
theorem tyX0_ok : ∀ k, k < 5 → parseFieldDescriptor (TX0 k).2.2.1 = some (tyX0 k) := by decide +kernel
def RX1 : String := "Sparkline$Bundle"
def TX1 : u_T := fun k => match k with
  | 0 => ("Sparkline$Bundle", "number", "I", true)
  | 1 => ("Sparkline$Bundle", "node", "I", true)
  | 2 => ("Sparkline$Bundle", "other", "I", true)
  | 3 => ("Sparkline$Bundle", "length", "I", true)
  | _ => ("Sparkline$Bundle", "room", "I", false)
def tyX1 : Nat → FieldType := fun k => match k with
  | 0 => .int
  | 1 => .int
  | 2 => .int
  | 3 => .int
  | _ => .int
theorem nmX1 : ∀ a, a < 5 → ∀ b, b < 5 → a ≠ b → (TX1 a).2.1 ≠ (TX1 b).2.1 := by decide +kernel
theorem tyX1_ok : ∀ k, k < 5 → parseFieldDescriptor (TX1 k).2.2.1 = some (tyX1 k) := by decide +kernel
def RX10 : String := "Sparkline$Wire"
def TX10 : u_T := fun k => match k with
  | 0 => ("Sparkline$Wire", "one", "LSparkline$Connector;", true)
  | 1 => ("Sparkline$Wire", "cavity", "I", true)
  | 2 => ("Sparkline$Wire", "two", "LSparkline$Connector;", true)
  | 3 => ("Sparkline$Wire", "others", "I", true)
  | 4 => ("Sparkline$Wire", "option", "I", true)
  | 5 => ("Sparkline$Wire", "length", "I", false)
  | 6 => ("Sparkline$Wire", "isPulled", "Z", false)
  | _ => ("Sparkline$Wire", "way", "Ljava/util/ArrayList;", true)
def tyX10 : Nat → FieldType := fun k => match k with
  | 0 => .object "Sparkline$Connector"
  | 1 => .int
  | 2 => .object "Sparkline$Connector"
  | 3 => .int
  | 4 => .int
  | 5 => .int
  | 6 => .boolean
  | _ => .object "java/util/ArrayList"
theorem nmX10 : ∀ a, a < 8 → ∀ b, b < 8 → a ≠ b → (TX10 a).2.1 ≠ (TX10 b).2.1 := by decide +kernel
theorem tyX10_ok : ∀ k, k < 8 → parseFieldDescriptor (TX10 k).2.2.1 = some (tyX10 k) := by decide +kernel
def RX11 : String := "Sparkline"
def TX11 : u_T := fun k => match k with
  | 0 => ("Sparkline", "harness", "LSparkline$Harness;", true)
  | 1 => ("Sparkline", "orders", "LSparkline$Orders;", true)
  | 2 => ("Sparkline", "crimper", "LSparkline$Crimper;", true)
  | 3 => ("Sparkline", "oven", "LSparkline$Oven;", true)
  | 4 => ("Sparkline", "reels", "Ljava/util/ArrayList;", true)
  | 5 => ("Sparkline", "boards", "Ljava/util/ArrayList;", true)
  | 6 => ("Sparkline", "covered", "I", false)
  | _ => ("Sparkline", "minute", "I", false)
def tyX11 : Nat → FieldType := fun k => match k with
  | 0 => .object "Sparkline$Harness"
  | 1 => .object "Sparkline$Orders"
  | 2 => .object "Sparkline$Crimper"
  | 3 => .object "Sparkline$Oven"
  | 4 => .object "java/util/ArrayList"
  | 5 => .object "java/util/ArrayList"
  | 6 => .int
  | _ => .int
theorem nmX11 : ∀ a, a < 8 → ∀ b, b < 8 → a ≠ b → (TX11 a).2.1 ≠ (TX11 b).2.1 := by decide +kernel
theorem tyX11_ok : ∀ k, k < 8 → parseFieldDescriptor (TX11 k).2.2.1 = some (tyX11 k) := by decide +kernel
def RX2 : String := "Sparkline$Connector"
def TX2 : u_T := fun k => match k with
  | 0 => ("Sparkline$Connector", "node", "I", true)
  | 1 => ("Sparkline$Connector", "cavities", "I", true)
  | 2 => ("Sparkline$Connector", "key", "I", true)
  | 3 => ("Sparkline$Connector", "mate", "I", false)
  | _ => ("Sparkline$Connector", "taken", "I", false)
def tyX2 : Nat → FieldType := fun k => match k with
  | 0 => .int
  | 1 => .int
  | 2 => .int
  | 3 => .int
  | _ => .int
theorem nmX2 : ∀ a, a < 5 → ∀ b, b < 5 → a ≠ b → (TX2 a).2.1 ≠ (TX2 b).2.1 := by decide +kernel
theorem tyX2_ok : ∀ k, k < 5 → parseFieldDescriptor (TX2 k).2.2.1 = some (tyX2 k) := by decide +kernel
def RX3 : String := "Sparkline$Crimper"
def TX3 : u_T := fun k => match k with
  | 0 => ("Sparkline$Crimper", "count", "I", false)
  | 1 => ("Sparkline$Crimper", "good", "I", false)
  | 2 => ("Sparkline$Crimper", "latest", "LSparkline$Row;", true)
  | _ => ("Sparkline$Crimper", "next", "I", false)
def tyX3 : Nat → FieldType := fun k => match k with
  | 0 => .int
  | 1 => .int
  | 2 => .object "Sparkline$Row"
  | _ => .int
theorem nmX3 : ∀ a, a < 4 → ∀ b, b < 4 → a ≠ b → (TX3 a).2.1 ≠ (TX3 b).2.1 := by decide +kernel
theorem tyX3_ok : ∀ k, k < 4 → parseFieldDescriptor (TX3 k).2.2.1 = some (tyX3 k) := by decide +kernel
def RX4 : String := "Sparkline$Harness"
def TX4 : u_T := fun k => match k with
  | 0 => ("Sparkline$Harness", "bundles", "Ljava/util/ArrayList;", true)
  | 1 => ("Sparkline$Harness", "connectors", "Ljava/util/ArrayList;", true)
  | 2 => ("Sparkline$Harness", "wires", "Ljava/util/ArrayList;", true)
  | _ => ("Sparkline$Harness", "costs", "LSparkline$Row;", true)
def tyX4 : Nat → FieldType := fun k => match k with
  | 0 => .object "java/util/ArrayList"
  | 1 => .object "java/util/ArrayList"
  | 2 => .object "java/util/ArrayList"
  | _ => .object "Sparkline$Row"
theorem nmX4 : ∀ a, a < 4 → ∀ b, b < 4 → a ≠ b → (TX4 a).2.1 ≠ (TX4 b).2.1 := by decide +kernel
theorem tyX4_ok : ∀ k, k < 4 → parseFieldDescriptor (TX4 k).2.2.1 = some (tyX4 k) := by decide +kernel
def RX5 : String := "Sparkline$Orders"
def TX5 : u_T := fun k => match k with
  | 0 => ("Sparkline$Orders", "options", "LSparkline$Row;", true)
  | 1 => ("Sparkline$Orders", "many", "LSparkline$Row;", true)
  | 2 => ("Sparkline$Orders", "weights", "LSparkline$Row;", true)
  | 3 => ("Sparkline$Orders", "leasts", "LSparkline$Row;", true)
  | _ => ("Sparkline$Orders", "count", "I", false)
def tyX5 : Nat → FieldType := fun k => match k with
  | 0 => .object "Sparkline$Row"
  | 1 => .object "Sparkline$Row"
  | 2 => .object "Sparkline$Row"
  | 3 => .object "Sparkline$Row"
  | _ => .int
theorem nmX5 : ∀ a, a < 5 → ∀ b, b < 5 → a ≠ b → (TX5 a).2.1 ≠ (TX5 b).2.1 := by decide +kernel
theorem tyX5_ok : ∀ k, k < 5 → parseFieldDescriptor (TX5 k).2.2.1 = some (tyX5 k) := by decide +kernel
def RX6 : String := "Sparkline$Oven"
def TX6 : u_T := fun k => match k with
  | 0 => ("Sparkline$Oven", "heats", "LSparkline$Row;", true)
  | 1 => ("Sparkline$Oven", "lows", "LSparkline$Row;", true)
  | _ => ("Sparkline$Oven", "highs", "LSparkline$Row;", true)
def tyX6 : Nat → FieldType := fun k => match k with
  | 0 => .object "Sparkline$Row"
  | 1 => .object "Sparkline$Row"
  | _ => .object "Sparkline$Row"
theorem nmX6 : ∀ a, a < 3 → ∀ b, b < 3 → a ≠ b → (TX6 a).2.1 ≠ (TX6 b).2.1 := by decide +kernel
theorem tyX6_ok : ∀ k, k < 3 → parseFieldDescriptor (TX6 k).2.2.1 = some (tyX6 k) := by decide +kernel
def RX7 : String := "Sparkline$Reel"
def TX7 : u_T := fun k => match k with
  | 0 => ("Sparkline$Reel", "part", "I", true)
  | 1 => ("Sparkline$Reel", "life", "I", true)
  | 2 => ("Sparkline$Reel", "left", "I", false)
  | 3 => ("Sparkline$Reel", "isOpen", "Z", false)
  | _ => ("Sparkline$Reel", "begun", "I", false)
def tyX7 : Nat → FieldType := fun k => match k with
  | 0 => .int
  | 1 => .int
  | 2 => .int
  | 3 => .boolean
  | _ => .int
theorem nmX7 : ∀ a, a < 5 → ∀ b, b < 5 → a ≠ b → (TX7 a).2.1 ≠ (TX7 b).2.1 := by decide +kernel
theorem tyX7_ok : ∀ k, k < 5 → parseFieldDescriptor (TX7 k).2.2.1 = some (tyX7 k) := by decide +kernel
def RX8 : String := "Sparkline$Row"
def TX8 : u_T := fun k => match k with
  | _ => ("Sparkline$Row", "cells", "[I", true)
def tyX8 : Nat → FieldType := fun k => match k with
  | _ => .array .int
theorem nmX8 : ∀ a, a < 1 → ∀ b, b < 1 → a ≠ b → (TX8 a).2.1 ≠ (TX8 b).2.1 := by decide +kernel
theorem tyX8_ok : ∀ k, k < 1 → parseFieldDescriptor (TX8 k).2.2.1 = some (tyX8 k) := by decide +kernel
def RX9 : String := "Sparkline$Slot"
def TX9 : u_T := fun k => match k with
  | 0 => ("Sparkline$Slot", "part", "I", false)
  | 1 => ("Sparkline$Slot", "reel", "I", false)
  | 2 => ("Sparkline$Slot", "minute", "I", false)
  | 3 => ("Sparkline$Slot", "fault", "I", false)
  | 4 => ("Sparkline$Slot", "isFound", "Z", false)
  | 5 => ("Sparkline$Slot", "isRepaired", "Z", false)
  | 6 => ("Sparkline$Slot", "low", "I", false)
  | _ => ("Sparkline$Slot", "high", "I", false)
def tyX9 : Nat → FieldType := fun k => match k with
  | 0 => .int
  | 1 => .int
  | 2 => .int
  | 3 => .int
  | 4 => .boolean
  | 5 => .boolean
  | 6 => .int
  | _ => .int
theorem nmX9 : ∀ a, a < 8 → ∀ b, b < 8 → a ≠ b → (TX9 a).2.1 ≠ (TX9 b).2.1 := by decide +kernel
theorem tyX9_ok : ∀ k, k < 8 → parseFieldDescriptor (TX9 k).2.2.1 = some (tyX9 k) := by decide +kernel
abbrev vwCl : List vw_C := [(RJx4a65c, TJx4a65c, 3), (RX0, TX0, 5), (RX1, TX1, 5), (RX2, TX2, 5), (RX3, TX3, 4), (RX4, TX4, 4), (RX5, TX5, 5), (RX6, TX6, 3), (RX7, TX7, 5), (RX8, TX8, 1), (RX9, TX9, 8), (RX10, TX10, 8), (RX11, TX11, 8)]
abbrev cJxa1e45_init_da8c8 : ByteArray := prog_27_method_1_code
def yJxa1e45_init_da8c8 : MethodName := ⟨RJxa1e45, "<init>", "()V"⟩
abbrev cJxc12de_init_da8c8 : ByteArray := prog_28_method_1_code
def yJxc12de_init_da8c8 : MethodName := ⟨RJxc12de, "<init>", "()V"⟩
abbrev cJx4a65c_init_da8c8 : ByteArray := prog_29_method_2_code
def yJx4a65c_init_da8c8 : MethodName := ⟨RJx4a65c, "<init>", "()V"⟩
abbrev cX8_init : ByteArray := prog_10_method_1_code
def yX8_init : MethodName := ⟨RX8, "<init>", "(I)V"⟩
abbrev cX4_init : ByteArray := prog_6_method_1_code
def yX4_init : MethodName := ⟨RX4, "<init>", "()V"⟩
abbrev cX5_init : ByteArray := prog_7_method_1_code
def yX5_init : MethodName := ⟨RX5, "<init>", "()V"⟩
abbrev cX3_init : ByteArray := prog_5_method_1_code
def yX3_init : MethodName := ⟨RX3, "<init>", "()V"⟩
abbrev cX8_put : ByteArray := prog_10_method_3_code
def yX8_put : MethodName := ⟨RX8, "put", "(II)V"⟩
abbrev cX8_fill : ByteArray := prog_10_method_4_code
def yX8_fill : MethodName := ⟨RX8, "fill", "(I)V"⟩
abbrev cX6_init : ByteArray := prog_8_method_1_code
def yX6_init : MethodName := ⟨RX6, "<init>", "()V"⟩
abbrev cX11_init : ByteArray := prog_1_method_1_code
def yX11_init : MethodName := ⟨RX11, "<init>", "()V"⟩
abbrev cX11_isIndex : ByteArray := prog_1_method_34_code
def yX11_isIndex : MethodName := ⟨RX11, "isIndex", "(II)Z"⟩
abbrev cX11_checkIndex : ByteArray := prog_1_method_30_code
def yX11_checkIndex : MethodName := ⟨RX11, "checkIndex", "(Z)V"⟩
abbrev cX11_isWithin : ByteArray := prog_1_method_33_code
def yX11_isWithin : MethodName := ⟨RX11, "isWithin", "(III)Z"⟩
abbrev cX11_checkArgument : ByteArray := prog_1_method_31_code
def yX11_checkArgument : MethodName := ⟨RX11, "checkArgument", "(Z)V"⟩
abbrev cJx4a65c_size_8abf5 : ByteArray := prog_29_method_8_code
def yJx4a65c_size_8abf5 : MethodName := ⟨RJx4a65c, "size", "()I"⟩
abbrev cX11_checkState : ByteArray := prog_1_method_32_code
def yX11_checkState : MethodName := ⟨RX11, "checkState", "(Z)V"⟩
abbrev cX1_init : ByteArray := prog_3_method_1_code
def yX1_init : MethodName := ⟨RX1, "<init>", "(IIIII)V"⟩
abbrev cJ9_max_7cf53 : ByteArray := prog_23_method_65_code
def yJ9_max_7cf53 : MethodName := ⟨RJ9, "max", "(II)I"⟩
abbrev cJ8_newLength_cabcc : ByteArray := prog_36_method_27_code
def yJ8_newLength_cabcc : MethodName := ⟨RJ8, "newLength", "(III)I"⟩
abbrev cJ9_min_7cf53 : ByteArray := prog_23_method_69_code
def yJ9_min_7cf53 : MethodName := ⟨RJ9, "min", "(II)I"⟩
abbrev cJ7_copyOf_6403c : ByteArray := prog_30_method_120_code
def yJ7_copyOf_6403c : MethodName := ⟨RJ7, "copyOf", "([Ljava/lang/Object;ILjava/lang/Class;)[Ljava/lang/Object;"⟩
abbrev cJ7_copyOf_1904c : ByteArray := prog_30_method_119_code
def yJ7_copyOf_1904c : MethodName := ⟨RJ7, "copyOf", "([Ljava/lang/Object;I)[Ljava/lang/Object;"⟩
abbrev cJx4a65c_grow_92f84 : ByteArray := prog_29_method_6_code
def yJx4a65c_grow_92f84 : MethodName := ⟨RJx4a65c, "grow", "(I)[Ljava/lang/Object;"⟩
abbrev cJx4a65c_grow_d5877 : ByteArray := prog_29_method_7_code
def yJx4a65c_grow_d5877 : MethodName := ⟨RJx4a65c, "grow", "()[Ljava/lang/Object;"⟩
abbrev cJx4a65c_add_72be8 : ByteArray := prog_29_method_24_code
def yJx4a65c_add_72be8 : MethodName := ⟨RJx4a65c, "add", "(Ljava/lang/Object;[Ljava/lang/Object;I)V"⟩
abbrev cJx4a65c_add_9ea2d : ByteArray := prog_29_method_25_code
def yJx4a65c_add_9ea2d : MethodName := ⟨RJx4a65c, "add", "(Ljava/lang/Object;)Z"⟩
abbrev cX4_addBundle : ByteArray := prog_6_method_2_code
def yX4_addBundle : MethodName := ⟨RX4, "addBundle", "(IIII)I"⟩
abbrev cX11_bundle : ByteArray := prog_1_method_2_code
def yX11_bundle : MethodName := ⟨RX11, "bundle", "(IIII)I"⟩
abbrev cX2_init : ByteArray := prog_4_method_1_code
def yX2_init : MethodName := ⟨RX2, "<init>", "(III)V"⟩
abbrev cX4_addConnector : ByteArray := prog_6_method_3_code
def yX4_addConnector : MethodName := ⟨RX4, "addConnector", "(III)I"⟩
abbrev cX11_connector : ByteArray := prog_1_method_3_code
def yX11_connector : MethodName := ⟨RX11, "connector", "(III)I"⟩
abbrev cJ3_checkIndex_8e157 : ByteArray := prog_37_method_11_code
def yJ3_checkIndex_8e157 : MethodName := ⟨RJ3, "checkIndex", "(IILjava/util/function/BiFunction;)I"⟩
abbrev cJ15_checkIndex_7cf53 : ByteArray := prog_33_method_17_code
def yJ15_checkIndex_7cf53 : MethodName := ⟨RJ15, "checkIndex", "(II)I"⟩
abbrev cJx4a65c_elementData_915e3 : ByteArray := prog_29_method_18_code
def yJx4a65c_elementData_915e3 : MethodName := ⟨RJx4a65c, "elementData", "(I)Ljava/lang/Object;"⟩
abbrev cJx4a65c_get_915e3 : ByteArray := prog_29_method_20_code
def yJx4a65c_get_915e3 : MethodName := ⟨RJx4a65c, "get", "(I)Ljava/lang/Object;"⟩
abbrev cX11_connectorAt : ByteArray := prog_1_method_36_code
def yX11_connectorAt : MethodName := ⟨RX11, "connectorAt", "(I)LSparkline$Connector;"⟩
abbrev cX2_fits : ByteArray := prog_4_method_2_code
def yX2_fits : MethodName := ⟨RX2, "fits", "(LSparkline$Connector;)Z"⟩
abbrev cX4_pairsThatFitWrong : ByteArray := prog_6_method_4_code
def yX4_pairsThatFitWrong : MethodName := ⟨RX4, "pairsThatFitWrong", "()I"⟩
abbrev cX11_mates : ByteArray := prog_1_method_4_code
def yX11_mates : MethodName := ⟨RX11, "mates", "(II)I"⟩
abbrev cX2_isFree : ByteArray := prog_4_method_3_code
def yX2_isFree : MethodName := ⟨RX2, "isFree", "(I)Z"⟩
abbrev cX8_at : ByteArray := prog_10_method_2_code
def yX8_at : MethodName := ⟨RX8, "at", "(I)I"⟩
abbrev cX1_cost : ByteArray := prog_3_method_2_code
def yX1_cost : MethodName := ⟨RX1, "cost", "()I"⟩
abbrev cX1_across : ByteArray := prog_3_method_3_code
def yX1_across : MethodName := ⟨RX1, "across", "(I)I"⟩
abbrev cX4_lowerCost : ByteArray := prog_6_method_7_code
def yX4_lowerCost : MethodName := ⟨RX4, "lowerCost", "(ILSparkline$Bundle;)V"⟩
abbrev cX4_findCosts : ByteArray := prog_6_method_6_code
def yX4_findCosts : MethodName := ⟨RX4, "findCosts", "(I)V"⟩
abbrev cX4_hasWay : ByteArray := prog_6_method_5_code
def yX4_hasWay : MethodName := ⟨RX4, "hasWay", "(II)Z"⟩
abbrev cX10_init : ByteArray := prog_12_method_1_code
def yX10_init : MethodName := ⟨RX10, "<init>", "(LSparkline$Connector;ILSparkline$Connector;II)V"⟩
abbrev cX2_take : ByteArray := prog_4_method_4_code
def yX2_take : MethodName := ⟨RX2, "take", "(I)V"⟩
abbrev cX10_putIn : ByteArray := prog_12_method_2_code
def yX10_putIn : MethodName := ⟨RX10, "putIn", "()V"⟩
abbrev cX4_lowestOnward : ByteArray := prog_6_method_10_code
def yX4_lowestOnward : MethodName := ⟨RX4, "lowestOnward", "(I)LSparkline$Bundle;"⟩
abbrev cX10_goBy : ByteArray := prog_12_method_3_code
def yX10_goBy : MethodName := ⟨RX10, "goBy", "(LSparkline$Bundle;)V"⟩
abbrev cX4_layAlong : ByteArray := prog_6_method_9_code
def yX4_layAlong : MethodName := ⟨RX4, "layAlong", "(LSparkline$Wire;)V"⟩
abbrev cX4_addWire : ByteArray := prog_6_method_8_code
def yX4_addWire : MethodName := ⟨RX4, "addWire", "(LSparkline$Wire;)I"⟩
abbrev cX11_wire : ByteArray := prog_1_method_5_code
def yX11_wire : MethodName := ⟨RX11, "wire", "(IIIII)I"⟩
abbrev cX11_wireAt : ByteArray := prog_1_method_37_code
def yX11_wireAt : MethodName := ⟨RX11, "wireAt", "(I)LSparkline$Wire;"⟩
abbrev cX2_release : ByteArray := prog_4_method_5_code
def yX2_release : MethodName := ⟨RX2, "release", "(I)V"⟩
abbrev cX10_takeOut : ByteArray := prog_12_method_4_code
def yX10_takeOut : MethodName := ⟨RX10, "takeOut", "()V"⟩
abbrev cX11_pull : ByteArray := prog_1_method_6_code
def yX11_pull : MethodName := ⟨RX11, "pull", "(I)I"⟩
abbrev cX10_bundleAt : ByteArray := prog_12_method_5_code
def yX10_bundleAt : MethodName := ⟨RX10, "bundleAt", "(I)I"⟩
abbrev cX11_ofWire : ByteArray := prog_1_method_7_code
def yX11_ofWire : MethodName := ⟨RX11, "ofWire", "(II)I"⟩
abbrev cX5_add : ByteArray := prog_7_method_2_code
def yX5_add : MethodName := ⟨RX5, "add", "(II)I"⟩
abbrev cX11_order : ByteArray := prog_1_method_9_code
def yX11_order : MethodName := ⟨RX11, "order", "(II)I"⟩
abbrev cJ9_floorDiv_7cf53 : ByteArray := prog_23_method_47_code
def yJ9_floorDiv_7cf53 : MethodName := ⟨RJ9, "floorDiv", "(II)I"⟩
abbrev cX11_divideDown : ByteArray := prog_1_method_35_code
def yX11_divideDown : MethodName := ⟨RX11, "divideDown", "(II)I"⟩
abbrev cX3_window : ByteArray := prog_5_method_3_code
def yX3_window : MethodName := ⟨RX3, "window", "()I"⟩
abbrev cJ9_abs_0f7a4 : ByteArray := prog_23_method_59_code
def yJ9_abs_0f7a4 : MethodName := ⟨RJ9, "abs", "(I)I"⟩
abbrev cX3_judge : ByteArray := prog_5_method_2_code
def yX3_judge : MethodName := ⟨RX3, "judge", "(I)Z"⟩
abbrev cX11_crimp : ByteArray := prog_1_method_12_code
def yX11_crimp : MethodName := ⟨RX11, "crimp", "(I)Z"⟩
abbrev cX7_init : ByteArray := prog_9_method_1_code
def yX7_init : MethodName := ⟨RX7, "<init>", "(III)V"⟩
abbrev cX11_reel : ByteArray := prog_1_method_14_code
def yX11_reel : MethodName := ⟨RX11, "reel", "(III)I"⟩
abbrev cX11_reelAt : ByteArray := prog_1_method_38_code
def yX11_reelAt : MethodName := ⟨RX11, "reelAt", "(I)LSparkline$Reel;"⟩
abbrev cX7_beginClock : ByteArray := prog_9_method_2_code
def yX7_beginClock : MethodName := ⟨RX7, "beginClock", "(I)V"⟩
abbrev cX7_clockAt : ByteArray := prog_9_method_3_code
def yX7_clockAt : MethodName := ⟨RX7, "clockAt", "(I)I"⟩
abbrev cX11_open : ByteArray := prog_1_method_15_code
def yX11_open : MethodName := ⟨RX11, "open", "(IZ)I"⟩
abbrev cX11_ofReel : ByteArray := prog_1_method_16_code
def yX11_ofReel : MethodName := ⟨RX11, "ofReel", "(II)I"⟩
abbrev cX9_init : ByteArray := prog_11_method_1_code
def yX9_init : MethodName := ⟨RX9, "<init>", "()V"⟩
abbrev cX0_init : ByteArray := prog_2_method_1_code
def yX0_init : MethodName := ⟨RX0, "<init>", "()V"⟩
abbrev cX11_board : ByteArray := prog_1_method_17_code
def yX11_board : MethodName := ⟨RX11, "board", "()I"⟩
abbrev cX11_boardAt : ByteArray := prog_1_method_39_code
def yX11_boardAt : MethodName := ⟨RX11, "boardAt", "(I)LSparkline$Board;"⟩
abbrev cX0_slotAt : ByteArray := prog_2_method_2_code
def yX0_slotAt : MethodName := ⟨RX0, "slotAt", "(I)LSparkline$Slot;"⟩
abbrev cX9_hasPart : ByteArray := prog_11_method_2_code
def yX9_hasPart : MethodName := ⟨RX9, "hasPart", "()Z"⟩
abbrev cX7_gives : ByteArray := prog_9_method_4_code
def yX7_gives : MethodName := ⟨RX7, "gives", "(I)Z"⟩
abbrev cX9_fill : ByteArray := prog_11_method_3_code
def yX9_fill : MethodName := ⟨RX9, "fill", "(ILSparkline$Reel;I)V"⟩
abbrev cX11_place : ByteArray := prog_1_method_18_code
def yX11_place : MethodName := ⟨RX11, "place", "(III)I"⟩
abbrev cX11_limits : ByteArray := prog_1_method_19_code
def yX11_limits : MethodName := ⟨RX11, "limits", "(ZIII)V"⟩
abbrev cL_limited : ByteArray := method_4_code
def yL_limited : MethodName := ⟨RL, "limited", "(LSparkline;IIII)I"⟩
abbrev cX8_copyFrom : ByteArray := prog_10_method_5_code
def yX8_copyFrom : MethodName := ⟨RX8, "copyFrom", "(LSparkline$Row;)V"⟩
abbrev cX0_mass : ByteArray := prog_2_method_3_code
def yX0_mass : MethodName := ⟨RX0, "mass", "()I"⟩
abbrev cX6_peakOf : ByteArray := prog_8_method_2_code
def yX6_peakOf : MethodName := ⟨RX6, "peakOf", "(LSparkline$Row;I)I"⟩
abbrev cX0_peak : ByteArray := prog_2_method_4_code
def yX0_peak : MethodName := ⟨RX0, "peak", "()I"⟩
abbrev cX9_jointFor : ByteArray := prog_11_method_5_code
def yX9_jointFor : MethodName := ⟨RX9, "jointFor", "(I)I"⟩
abbrev cX9_join : ByteArray := prog_11_method_4_code
def yX9_join : MethodName := ⟨RX9, "join", "(LSparkline$Oven;I)V"⟩
abbrev cX0_goThrough : ByteArray := prog_2_method_5_code
def yX0_goThrough : MethodName := ⟨RX0, "goThrough", "(LSparkline$Oven;)I"⟩
abbrev cX11_solder : ByteArray := prog_1_method_20_code
def yX11_solder : MethodName := ⟨RX11, "solder", "(I)I"⟩
abbrev cX11_flaw : ByteArray := prog_1_method_21_code
def yX11_flaw : MethodName := ⟨RX11, "flaw", "(II)V"⟩
abbrev cL_flawed : ByteArray := method_5_code
def yL_flawed : MethodName := ⟨RL, "flawed", "(LSparkline;II)I"⟩
abbrev cJ6_bitCount_0f7a4 : ByteArray := prog_21_method_49_code
def yJ6_bitCount_0f7a4 : MethodName := ⟨RJ6, "bitCount", "(I)I"⟩
abbrev cX11_cover : ByteArray := prog_1_method_22_code
def yX11_cover : MethodName := ⟨RX11, "cover", "(IZ)I"⟩
abbrev cX0_findFaults : ByteArray := prog_2_method_6_code
def yX0_findFaults : MethodName := ⟨RX0, "findFaults", "(I)V"⟩
abbrev cX0_faultsFound : ByteArray := prog_2_method_7_code
def yX0_faultsFound : MethodName := ⟨RX0, "faultsFound", "(Z)I"⟩
abbrev cX11_test : ByteArray := prog_1_method_23_code
def yX11_test : MethodName := ⟨RX11, "test", "(I)I"⟩
abbrev cX9_mend : ByteArray := prog_11_method_6_code
def yX9_mend : MethodName := ⟨RX9, "mend", "()V"⟩
abbrev cX11_repair : ByteArray := prog_1_method_24_code
def yX11_repair : MethodName := ⟨RX11, "repair", "(III)I"⟩
abbrev cX11_ship : ByteArray := prog_1_method_25_code
def yX11_ship : MethodName := ⟨RX11, "ship", "(I)I"⟩
abbrev cX11_pass : ByteArray := prog_1_method_26_code
def yX11_pass : MethodName := ⟨RX11, "pass", "(I)I"⟩
abbrev cX11_ofSlot : ByteArray := prog_1_method_27_code
def yX11_ofSlot : MethodName := ⟨RX11, "ofSlot", "(III)I"⟩
abbrev cX0_hasPartOf : ByteArray := prog_2_method_8_code
def yX0_hasPartOf : MethodName := ⟨RX0, "hasPartOf", "(I)Z"⟩
abbrev cX11_recall : ByteArray := prog_1_method_29_code
def yX11_recall : MethodName := ⟨RX11, "recall", "(I)I"⟩
abbrev cL_does : ByteArray := method_3_code
def yL_does : MethodName := ⟨RL, "does", "(LSparkline;IIIIII)I"⟩
abbrev cX5_allOrders : ByteArray := prog_7_method_3_code
def yX5_allOrders : MethodName := ⟨RX5, "allOrders", "()I"⟩
abbrev cX4_weightOf : ByteArray := prog_6_method_11_code
def yX4_weightOf : MethodName := ⟨RX4, "weightOf", "(I)I"⟩
abbrev cX5_weightAsOne : ByteArray := prog_7_method_5_code
def yX5_weightAsOne : MethodName := ⟨RX5, "weightAsOne", "(LSparkline$Harness;I)I"⟩
abbrev cX5_weighSets : ByteArray := prog_7_method_4_code
def yX5_weighSets : MethodName := ⟨RX5, "weighSets", "(LSparkline$Harness;)V"⟩
abbrev cX5_leastOfRest : ByteArray := prog_7_method_7_code
def yX5_leastOfRest : MethodName := ⟨RX5, "leastOfRest", "(LSparkline$Row;II)I"⟩
abbrev cX5_leastByChoice : ByteArray := prog_7_method_6_code
def yX5_leastByChoice : MethodName := ⟨RX5, "leastByChoice", "(LSparkline$Harness;I)I"⟩
abbrev cX11_least : ByteArray := prog_1_method_10_code
def yX11_least : MethodName := ⟨RX11, "least", "(I)I"⟩
abbrev cX5_leastWithOneMore : ByteArray := prog_7_method_10_code
def yX5_leastWithOneMore : MethodName := ⟨RX5, "leastWithOneMore", "(I)I"⟩
abbrev cX5_addFamily : ByteArray := prog_7_method_9_code
def yX5_addFamily : MethodName := ⟨RX5, "addFamily", "()V"⟩
abbrev cX5_leastByTable : ByteArray := prog_7_method_8_code
def yX5_leastByTable : MethodName := ⟨RX5, "leastByTable", "(LSparkline$Harness;I)I"⟩
abbrev cX11_leastAnew : ByteArray := prog_1_method_11_code
def yX11_leastAnew : MethodName := ⟨RX11, "leastAnew", "(I)I"⟩
abbrev cL_part : ByteArray := method_2_code
def yL_part : MethodName := ⟨RL, "part", "([III)I"⟩
abbrev cL_wrong : ByteArray := method_8_code
def yL_wrong : MethodName := ⟨RL, "wrong", "([I[I)I"⟩
abbrev cL_way : ByteArray := method_6_code
def yL_way : MethodName := ⟨RL, "way", "([I[I[III[I)I"⟩
abbrev cL_isHarness : ByteArray := method_14_code
def yL_isHarness : MethodName := ⟨RL, "isHarness", "(LSparkline;[I[I[I[I[I[IIII)Z"⟩
abbrev cL_window : ByteArray := method_11_code
def yL_window : MethodName := ⟨RL, "window", "([I[I)I"⟩
abbrev cL_isReel : ByteArray := method_15_code
def yL_isReel : MethodName := ⟨RL, "isReel", "(LSparkline;[I[I[I[I[I[IIII)Z"⟩
abbrev cL_runs : ByteArray := method_9_code
def yL_runs : MethodName := ⟨RL, "runs", "([I[I[II)I"⟩
abbrev cL_gives : ByteArray := method_10_code
def yL_gives : MethodName := ⟨RL, "gives", "([I[I[I[II)Z"⟩
abbrev cL_soldered : ByteArray := method_16_code
def yL_soldered : MethodName := ⟨RL, "soldered", "([I[I[II)I"⟩
abbrev cL_faults : ByteArray := method_12_code
def yL_faults : MethodName := ⟨RL, "faults", "([III)I"⟩
abbrev cL_isBoard : ByteArray := method_17_code
def yL_isBoard : MethodName := ⟨RL, "isBoard", "(LSparkline;[I[I[I[I[I[I[I[IIII)Z"⟩
abbrev cL_isTold : ByteArray := method_18_code
def yL_isTold : MethodName := ⟨RL, "isTold", "(LSparkline;[I[IIII)Z"⟩
abbrev cX11_crimps : ByteArray := prog_1_method_13_code
def yX11_crimps : MethodName := ⟨RX11, "crimps", "(I)I"⟩
abbrev cX11_weight : ByteArray := prog_1_method_8_code
def yX11_weight : MethodName := ⟨RX11, "weight", "(I)I"⟩
abbrev cL_weight : ByteArray := method_7_code
def yL_weight : MethodName := ⟨RL, "weight", "([I[I[II)I"⟩
abbrev cX11_jointAnew : ByteArray := prog_1_method_28_code
def yX11_jointAnew : MethodName := ⟨RX11, "jointAnew", "(II)I"⟩
abbrev cL_isSo : ByteArray := method_13_code
def yL_isSo : MethodName := ⟨RL, "isSo", "(LSparkline;[I[I[I[I[I[I[I[I[I[I[II)Z"⟩
abbrev cL_law : ByteArray := code
def yL_law : MethodName := ⟨RL, "law", "([I)Z"⟩
theorem dJxa1e45_init_da8c8_0 : decode cJxa1e45_init_da8c8 0 = .ok (.aload_n 0, 1) := by decide +kernel
theorem dJxa1e45_init_da8c8_1 : decode cJxa1e45_init_da8c8 1 = .ok (.invokespecial 1, 3) := by decide +kernel
theorem dJxa1e45_init_da8c8_4 : decode cJxa1e45_init_da8c8 4 = .ok (.return_, 1) := by decide +kernel
theorem dJxc12de_init_da8c8_0 : decode cJxc12de_init_da8c8 0 = .ok (.aload_n 0, 1) := by decide +kernel
theorem dJxc12de_init_da8c8_1 : decode cJxc12de_init_da8c8 1 = .ok (.invokespecial 1, 3) := by decide +kernel
theorem dJxc12de_init_da8c8_4 : decode cJxc12de_init_da8c8 4 = .ok (.aload_n 0, 1) := by decide +kernel
theorem dJxc12de_init_da8c8_5 : decode cJxc12de_init_da8c8 5 = .ok (.iconst 0, 1) := by decide +kernel
theorem dJxc12de_init_da8c8_6 : decode cJxc12de_init_da8c8 6 = .ok (.putfield 7, 3) := by decide +kernel
theorem dJxc12de_init_da8c8_9 : decode cJxc12de_init_da8c8 9 = .ok (.return_, 1) := by decide +kernel
theorem dJx4a65c_init_da8c8_0 : decode cJx4a65c_init_da8c8 0 = .ok (.aload_n 0, 1) := by decide +kernel
theorem dJx4a65c_init_da8c8_1 : decode cJx4a65c_init_da8c8 1 = .ok (.invokespecial 1, 3) := by decide +kernel
theorem dJx4a65c_init_da8c8_4 : decode cJx4a65c_init_da8c8 4 = .ok (.aload_n 0, 1) := by decide +kernel
theorem dJx4a65c_init_da8c8_5 : decode cJx4a65c_init_da8c8 5 = .ok (.getstatic 39, 3) := by decide +kernel
theorem dJx4a65c_init_da8c8_8 : decode cJx4a65c_init_da8c8 8 = .ok (.putfield 9, 3) := by decide +kernel
theorem dJx4a65c_init_da8c8_11 : decode cJx4a65c_init_da8c8 11 = .ok (.return_, 1) := by decide +kernel
theorem dX8_init_0 : decode cX8_init 0 = .ok (.aload_n 0, 1) := by decide +kernel
theorem dX8_init_1 : decode cX8_init 1 = .ok (.invokespecial 1, 3) := by decide +kernel
theorem dX8_init_4 : decode cX8_init 4 = .ok (.aload_n 0, 1) := by decide +kernel
theorem dX8_init_5 : decode cX8_init 5 = .ok (.iload_n 1, 1) := by decide +kernel
theorem dX8_init_6 : decode cX8_init 6 = .ok (.ifCond .ge 7, 3) := by decide +kernel
theorem dX8_init_9 : decode cX8_init 9 = .ok (.iconst 0, 1) := by decide +kernel
theorem dX8_init_10 : decode cX8_init 10 = .ok (.goto 4, 3) := by decide +kernel
theorem dX8_init_13 : decode cX8_init 13 = .ok (.iload_n 1, 1) := by decide +kernel
theorem dX8_init_14 : decode cX8_init 14 = .ok (.newarray .int, 2) := by decide +kernel
theorem dX8_init_16 : decode cX8_init 16 = .ok (.putfield 7, 3) := by decide +kernel
theorem dX8_init_19 : decode cX8_init 19 = .ok (.return_, 1) := by decide +kernel
theorem dX4_init_0 : decode cX4_init 0 = .ok (.aload_n 0, 1) := by decide +kernel
theorem dX4_init_1 : decode cX4_init 1 = .ok (.invokespecial 3, 3) := by decide +kernel
theorem dX4_init_4 : decode cX4_init 4 = .ok (.aload_n 0, 1) := by decide +kernel
theorem dX4_init_5 : decode cX4_init 5 = .ok (.new 9, 3) := by decide +kernel
theorem dX4_init_8 : decode cX4_init 8 = .ok (.dup, 1) := by decide +kernel
theorem dX4_init_9 : decode cX4_init 9 = .ok (.invokespecial 11, 3) := by decide +kernel
theorem dX4_init_12 : decode cX4_init 12 = .ok (.putfield 12, 3) := by decide +kernel
theorem dX4_init_15 : decode cX4_init 15 = .ok (.aload_n 0, 1) := by decide +kernel
theorem dX4_init_16 : decode cX4_init 16 = .ok (.new 9, 3) := by decide +kernel
theorem dX4_init_19 : decode cX4_init 19 = .ok (.dup, 1) := by decide +kernel
theorem dX4_init_20 : decode cX4_init 20 = .ok (.invokespecial 11, 3) := by decide +kernel
theorem dX4_init_23 : decode cX4_init 23 = .ok (.putfield 18, 3) := by decide +kernel
theorem dX4_init_26 : decode cX4_init 26 = .ok (.aload_n 0, 1) := by decide +kernel
theorem dX4_init_27 : decode cX4_init 27 = .ok (.new 9, 3) := by decide +kernel
theorem dX4_init_30 : decode cX4_init 30 = .ok (.dup, 1) := by decide +kernel
theorem dX4_init_31 : decode cX4_init 31 = .ok (.invokespecial 11, 3) := by decide +kernel
theorem dX4_init_34 : decode cX4_init 34 = .ok (.putfield 21, 3) := by decide +kernel
theorem dX4_init_37 : decode cX4_init 37 = .ok (.aload_n 0, 1) := by decide +kernel
theorem dX4_init_38 : decode cX4_init 38 = .ok (.new 24, 3) := by decide +kernel
theorem dX4_init_41 : decode cX4_init 41 = .ok (.dup, 1) := by decide +kernel
theorem dX4_init_42 : decode cX4_init 42 = .ok (.bipush 8, 2) := by decide +kernel
theorem dX4_init_44 : decode cX4_init 44 = .ok (.invokespecial 26, 3) := by decide +kernel
theorem dX4_init_47 : decode cX4_init 47 = .ok (.putfield 29, 3) := by decide +kernel
theorem dX4_init_50 : decode cX4_init 50 = .ok (.return_, 1) := by decide +kernel
theorem dX5_init_0 : decode cX5_init 0 = .ok (.aload_n 0, 1) := by decide +kernel
theorem dX5_init_1 : decode cX5_init 1 = .ok (.invokespecial 3, 3) := by decide +kernel
theorem dX5_init_4 : decode cX5_init 4 = .ok (.aload_n 0, 1) := by decide +kernel
theorem dX5_init_5 : decode cX5_init 5 = .ok (.new 9, 3) := by decide +kernel
theorem dX5_init_8 : decode cX5_init 8 = .ok (.dup, 1) := by decide +kernel
theorem dX5_init_9 : decode cX5_init 9 = .ok (.iconst 5, 1) := by decide +kernel
theorem dX5_init_10 : decode cX5_init 10 = .ok (.invokespecial 11, 3) := by decide +kernel
theorem dX5_init_13 : decode cX5_init 13 = .ok (.putfield 14, 3) := by decide +kernel
theorem dX5_init_16 : decode cX5_init 16 = .ok (.aload_n 0, 1) := by decide +kernel
theorem dX5_init_17 : decode cX5_init 17 = .ok (.new 9, 3) := by decide +kernel
theorem dX5_init_20 : decode cX5_init 20 = .ok (.dup, 1) := by decide +kernel
theorem dX5_init_21 : decode cX5_init 21 = .ok (.iconst 5, 1) := by decide +kernel
theorem dX5_init_22 : decode cX5_init 22 = .ok (.invokespecial 11, 3) := by decide +kernel
theorem dX5_init_25 : decode cX5_init 25 = .ok (.putfield 20, 3) := by decide +kernel
theorem dX5_init_28 : decode cX5_init 28 = .ok (.aload_n 0, 1) := by decide +kernel
theorem dX5_init_29 : decode cX5_init 29 = .ok (.new 9, 3) := by decide +kernel
theorem dX5_init_32 : decode cX5_init 32 = .ok (.dup, 1) := by decide +kernel
theorem dX5_init_33 : decode cX5_init 33 = .ok (.bipush 32, 2) := by decide +kernel
theorem dX5_init_35 : decode cX5_init 35 = .ok (.invokespecial 11, 3) := by decide +kernel
theorem dX5_init_38 : decode cX5_init 38 = .ok (.putfield 23, 3) := by decide +kernel
theorem dX5_init_41 : decode cX5_init 41 = .ok (.aload_n 0, 1) := by decide +kernel
theorem dX5_init_42 : decode cX5_init 42 = .ok (.new 9, 3) := by decide +kernel
theorem dX5_init_45 : decode cX5_init 45 = .ok (.dup, 1) := by decide +kernel
theorem dX5_init_46 : decode cX5_init 46 = .ok (.bipush 32, 2) := by decide +kernel
theorem dX5_init_48 : decode cX5_init 48 = .ok (.invokespecial 11, 3) := by decide +kernel
theorem dX5_init_51 : decode cX5_init 51 = .ok (.putfield 26, 3) := by decide +kernel
theorem dX5_init_54 : decode cX5_init 54 = .ok (.return_, 1) := by decide +kernel
theorem dX3_init_0 : decode cX3_init 0 = .ok (.aload_n 0, 1) := by decide +kernel
theorem dX3_init_1 : decode cX3_init 1 = .ok (.invokespecial 1, 3) := by decide +kernel
theorem dX3_init_4 : decode cX3_init 4 = .ok (.aload_n 0, 1) := by decide +kernel
theorem dX3_init_5 : decode cX3_init 5 = .ok (.new 7, 3) := by decide +kernel
theorem dX3_init_8 : decode cX3_init 8 = .ok (.dup, 1) := by decide +kernel
theorem dX3_init_9 : decode cX3_init 9 = .ok (.bipush 8, 2) := by decide +kernel
theorem dX3_init_11 : decode cX3_init 11 = .ok (.invokespecial 11, 3) := by decide +kernel
theorem dX3_init_14 : decode cX3_init 14 = .ok (.putfield 14, 3) := by decide +kernel
theorem dX3_init_17 : decode cX3_init 17 = .ok (.return_, 1) := by decide +kernel
theorem dX8_put_0 : decode cX8_put 0 = .ok (.iload_n 1, 1) := by decide +kernel
theorem dX8_put_1 : decode cX8_put 1 = .ok (.ifCond .lt 19, 3) := by decide +kernel
theorem dX8_put_4 : decode cX8_put 4 = .ok (.iload_n 1, 1) := by decide +kernel
theorem dX8_put_5 : decode cX8_put 5 = .ok (.aload_n 0, 1) := by decide +kernel
theorem dX8_put_6 : decode cX8_put 6 = .ok (.getfield 7, 3) := by decide +kernel
theorem dX8_put_9 : decode cX8_put 9 = .ok (.arraylength, 1) := by decide +kernel
theorem dX8_put_10 : decode cX8_put 10 = .ok (.if_icmp .ge 10, 3) := by decide +kernel
theorem dX8_put_13 : decode cX8_put 13 = .ok (.aload_n 0, 1) := by decide +kernel
theorem dX8_put_14 : decode cX8_put 14 = .ok (.getfield 7, 3) := by decide +kernel
theorem dX8_put_17 : decode cX8_put 17 = .ok (.iload_n 1, 1) := by decide +kernel
theorem dX8_put_18 : decode cX8_put 18 = .ok (.iload_n 2, 1) := by decide +kernel
theorem dX8_put_19 : decode cX8_put 19 = .ok (.iastore, 1) := by decide +kernel
theorem dX8_put_20 : decode cX8_put 20 = .ok (.return_, 1) := by decide +kernel
theorem dX8_fill_0 : decode cX8_fill 0 = .ok (.iconst 0, 1) := by decide +kernel
theorem dX8_fill_1 : decode cX8_fill 1 = .ok (.istore_n 2, 1) := by decide +kernel
theorem dX8_fill_2 : decode cX8_fill 2 = .ok (.iload_n 2, 1) := by decide +kernel
theorem dX8_fill_3 : decode cX8_fill 3 = .ok (.aload_n 0, 1) := by decide +kernel
theorem dX8_fill_4 : decode cX8_fill 4 = .ok (.getfield 7, 3) := by decide +kernel
theorem dX8_fill_7 : decode cX8_fill 7 = .ok (.arraylength, 1) := by decide +kernel
theorem dX8_fill_8 : decode cX8_fill 8 = .ok (.if_icmp .ge 16, 3) := by decide +kernel
theorem dX8_fill_11 : decode cX8_fill 11 = .ok (.aload_n 0, 1) := by decide +kernel
theorem dX8_fill_12 : decode cX8_fill 12 = .ok (.getfield 7, 3) := by decide +kernel
theorem dX8_fill_15 : decode cX8_fill 15 = .ok (.iload_n 2, 1) := by decide +kernel
theorem dX8_fill_16 : decode cX8_fill 16 = .ok (.iload_n 1, 1) := by decide +kernel
theorem dX8_fill_17 : decode cX8_fill 17 = .ok (.iastore, 1) := by decide +kernel
theorem dX8_fill_18 : decode cX8_fill 18 = .ok (.iinc 2 1, 3) := by decide +kernel
theorem dX8_fill_21 : decode cX8_fill 21 = .ok (.goto (-19), 3) := by decide +kernel
theorem dX8_fill_24 : decode cX8_fill 24 = .ok (.return_, 1) := by decide +kernel
theorem dX6_init_0 : decode cX6_init 0 = .ok (.aload_n 0, 1) := by decide +kernel
theorem dX6_init_1 : decode cX6_init 1 = .ok (.invokespecial 3, 3) := by decide +kernel
theorem dX6_init_4 : decode cX6_init 4 = .ok (.aload_n 0, 1) := by decide +kernel
theorem dX6_init_5 : decode cX6_init 5 = .ok (.new 9, 3) := by decide +kernel
theorem dX6_init_8 : decode cX6_init 8 = .ok (.dup, 1) := by decide +kernel
theorem dX6_init_9 : decode cX6_init 9 = .ok (.iconst 4, 1) := by decide +kernel
theorem dX6_init_10 : decode cX6_init 10 = .ok (.invokespecial 11, 3) := by decide +kernel
theorem dX6_init_13 : decode cX6_init 13 = .ok (.putfield 14, 3) := by decide +kernel
theorem dX6_init_16 : decode cX6_init 16 = .ok (.aload_n 0, 1) := by decide +kernel
theorem dX6_init_17 : decode cX6_init 17 = .ok (.new 9, 3) := by decide +kernel
theorem dX6_init_20 : decode cX6_init 20 = .ok (.dup, 1) := by decide +kernel
theorem dX6_init_21 : decode cX6_init 21 = .ok (.bipush 6, 2) := by decide +kernel
theorem dX6_init_23 : decode cX6_init 23 = .ok (.invokespecial 11, 3) := by decide +kernel
theorem dX6_init_26 : decode cX6_init 26 = .ok (.putfield 20, 3) := by decide +kernel
theorem dX6_init_29 : decode cX6_init 29 = .ok (.aload_n 0, 1) := by decide +kernel
theorem dX6_init_30 : decode cX6_init 30 = .ok (.new 9, 3) := by decide +kernel
theorem dX6_init_33 : decode cX6_init 33 = .ok (.dup, 1) := by decide +kernel
theorem dX6_init_34 : decode cX6_init 34 = .ok (.bipush 6, 2) := by decide +kernel
theorem dX6_init_36 : decode cX6_init 36 = .ok (.invokespecial 11, 3) := by decide +kernel
theorem dX6_init_39 : decode cX6_init 39 = .ok (.putfield 23, 3) := by decide +kernel
theorem dX6_init_42 : decode cX6_init 42 = .ok (.aload_n 0, 1) := by decide +kernel
theorem dX6_init_43 : decode cX6_init 43 = .ok (.getfield 14, 3) := by decide +kernel
theorem dX6_init_46 : decode cX6_init 46 = .ok (.iconst 0, 1) := by decide +kernel
theorem dX6_init_47 : decode cX6_init 47 = .ok (.sipush 150, 3) := by decide +kernel
theorem dX6_init_50 : decode cX6_init 50 = .ok (.invokevirtual 26, 3) := by decide +kernel
theorem dX6_init_53 : decode cX6_init 53 = .ok (.aload_n 0, 1) := by decide +kernel
theorem dX6_init_54 : decode cX6_init 54 = .ok (.getfield 14, 3) := by decide +kernel
theorem dX6_init_57 : decode cX6_init 57 = .ok (.iconst 1, 1) := by decide +kernel
theorem dX6_init_58 : decode cX6_init 58 = .ok (.sipush 200, 3) := by decide +kernel
theorem dX6_init_61 : decode cX6_init 61 = .ok (.invokevirtual 26, 3) := by decide +kernel
theorem dX6_init_64 : decode cX6_init 64 = .ok (.aload_n 0, 1) := by decide +kernel
theorem dX6_init_65 : decode cX6_init 65 = .ok (.getfield 14, 3) := by decide +kernel
theorem dX6_init_68 : decode cX6_init 68 = .ok (.iconst 2, 1) := by decide +kernel
theorem dX6_init_69 : decode cX6_init 69 = .ok (.sipush 240, 3) := by decide +kernel
theorem dX6_init_72 : decode cX6_init 72 = .ok (.invokevirtual 26, 3) := by decide +kernel
theorem dX6_init_75 : decode cX6_init 75 = .ok (.aload_n 0, 1) := by decide +kernel
theorem dX6_init_76 : decode cX6_init 76 = .ok (.getfield 14, 3) := by decide +kernel
theorem dX6_init_79 : decode cX6_init 79 = .ok (.iconst 3, 1) := by decide +kernel
theorem dX6_init_80 : decode cX6_init 80 = .ok (.bipush 100, 2) := by decide +kernel
theorem dX6_init_82 : decode cX6_init 82 = .ok (.invokevirtual 26, 3) := by decide +kernel
theorem dX6_init_85 : decode cX6_init 85 = .ok (.aload_n 0, 1) := by decide +kernel
theorem dX6_init_86 : decode cX6_init 86 = .ok (.getfield 20, 3) := by decide +kernel
theorem dX6_init_89 : decode cX6_init 89 = .ok (.sipush 180, 3) := by decide +kernel
theorem dX6_init_92 : decode cX6_init 92 = .ok (.invokevirtual 30, 3) := by decide +kernel
theorem dX6_init_95 : decode cX6_init 95 = .ok (.aload_n 0, 1) := by decide +kernel
theorem dX6_init_96 : decode cX6_init 96 = .ok (.getfield 23, 3) := by decide +kernel
theorem dX6_init_99 : decode cX6_init 99 = .ok (.sipush 260, 3) := by decide +kernel
theorem dX6_init_102 : decode cX6_init 102 = .ok (.invokevirtual 30, 3) := by decide +kernel
theorem dX6_init_105 : decode cX6_init 105 = .ok (.return_, 1) := by decide +kernel
theorem dX11_init_0 : decode cX11_init 0 = .ok (.aload_n 0, 1) := by decide +kernel
theorem dX11_init_1 : decode cX11_init 1 = .ok (.invokespecial 1, 3) := by decide +kernel
theorem dX11_init_4 : decode cX11_init 4 = .ok (.aload_n 0, 1) := by decide +kernel
theorem dX11_init_5 : decode cX11_init 5 = .ok (.new 7, 3) := by decide +kernel
theorem dX11_init_8 : decode cX11_init 8 = .ok (.dup, 1) := by decide +kernel
theorem dX11_init_9 : decode cX11_init 9 = .ok (.invokespecial 9, 3) := by decide +kernel
theorem dX11_init_12 : decode cX11_init 12 = .ok (.putfield 10, 3) := by decide +kernel
theorem dX11_init_15 : decode cX11_init 15 = .ok (.aload_n 0, 1) := by decide +kernel
theorem dX11_init_16 : decode cX11_init 16 = .ok (.new 16, 3) := by decide +kernel
theorem dX11_init_19 : decode cX11_init 19 = .ok (.dup, 1) := by decide +kernel
theorem dX11_init_20 : decode cX11_init 20 = .ok (.invokespecial 18, 3) := by decide +kernel
theorem dX11_init_23 : decode cX11_init 23 = .ok (.putfield 19, 3) := by decide +kernel
theorem dX11_init_26 : decode cX11_init 26 = .ok (.aload_n 0, 1) := by decide +kernel
theorem dX11_init_27 : decode cX11_init 27 = .ok (.new 23, 3) := by decide +kernel
theorem dX11_init_30 : decode cX11_init 30 = .ok (.dup, 1) := by decide +kernel
theorem dX11_init_31 : decode cX11_init 31 = .ok (.invokespecial 25, 3) := by decide +kernel
theorem dX11_init_34 : decode cX11_init 34 = .ok (.putfield 26, 3) := by decide +kernel
theorem dX11_init_37 : decode cX11_init 37 = .ok (.aload_n 0, 1) := by decide +kernel
theorem dX11_init_38 : decode cX11_init 38 = .ok (.new 30, 3) := by decide +kernel
theorem dX11_init_41 : decode cX11_init 41 = .ok (.dup, 1) := by decide +kernel
theorem dX11_init_42 : decode cX11_init 42 = .ok (.invokespecial 32, 3) := by decide +kernel
theorem dX11_init_45 : decode cX11_init 45 = .ok (.putfield 33, 3) := by decide +kernel
theorem dX11_init_48 : decode cX11_init 48 = .ok (.aload_n 0, 1) := by decide +kernel
theorem dX11_init_49 : decode cX11_init 49 = .ok (.new 37, 3) := by decide +kernel
theorem dX11_init_52 : decode cX11_init 52 = .ok (.dup, 1) := by decide +kernel
theorem dX11_init_53 : decode cX11_init 53 = .ok (.invokespecial 39, 3) := by decide +kernel
theorem dX11_init_56 : decode cX11_init 56 = .ok (.putfield 40, 3) := by decide +kernel
theorem dX11_init_59 : decode cX11_init 59 = .ok (.aload_n 0, 1) := by decide +kernel
theorem dX11_init_60 : decode cX11_init 60 = .ok (.new 37, 3) := by decide +kernel
theorem dX11_init_63 : decode cX11_init 63 = .ok (.dup, 1) := by decide +kernel
theorem dX11_init_64 : decode cX11_init 64 = .ok (.invokespecial 39, 3) := by decide +kernel
theorem dX11_init_67 : decode cX11_init 67 = .ok (.putfield 44, 3) := by decide +kernel
theorem dX11_init_70 : decode cX11_init 70 = .ok (.aload_n 0, 1) := by decide +kernel
theorem dX11_init_71 : decode cX11_init 71 = .ok (.sipush 255, 3) := by decide +kernel
theorem dX11_init_74 : decode cX11_init 74 = .ok (.putfield 47, 3) := by decide +kernel
theorem dX11_init_77 : decode cX11_init 77 = .ok (.aload_n 0, 1) := by decide +kernel
theorem dX11_init_78 : decode cX11_init 78 = .ok (.iconst 0, 1) := by decide +kernel
theorem dX11_init_79 : decode cX11_init 79 = .ok (.putfield 51, 3) := by decide +kernel
theorem dX11_init_82 : decode cX11_init 82 = .ok (.return_, 1) := by decide +kernel
theorem dX11_isIndex_0 : decode cX11_isIndex 0 = .ok (.iload_n 0, 1) := by decide +kernel
theorem dX11_isIndex_1 : decode cX11_isIndex 1 = .ok (.ifCond .lt 12, 3) := by decide +kernel
theorem dX11_isIndex_4 : decode cX11_isIndex 4 = .ok (.iload_n 0, 1) := by decide +kernel
theorem dX11_isIndex_5 : decode cX11_isIndex 5 = .ok (.iload_n 1, 1) := by decide +kernel
theorem dX11_isIndex_6 : decode cX11_isIndex 6 = .ok (.if_icmp .ge 7, 3) := by decide +kernel
theorem dX11_isIndex_9 : decode cX11_isIndex 9 = .ok (.iconst 1, 1) := by decide +kernel
theorem dX11_isIndex_10 : decode cX11_isIndex 10 = .ok (.goto 4, 3) := by decide +kernel
theorem dX11_isIndex_13 : decode cX11_isIndex 13 = .ok (.iconst 0, 1) := by decide +kernel
theorem dX11_isIndex_14 : decode cX11_isIndex 14 = .ok (.ireturn, 1) := by decide +kernel
theorem dX11_checkIndex_0 : decode cX11_checkIndex 0 = .ok (.iload_n 0, 1) := by decide +kernel
theorem dX11_checkIndex_1 : decode cX11_checkIndex 1 = .ok (.ifCond .ne 11, 3) := by decide +kernel
theorem dX11_checkIndex_4 : decode cX11_checkIndex 4 = .ok (.new 299, 3) := by decide +kernel
theorem dX11_checkIndex_7 : decode cX11_checkIndex 7 = .ok (.dup, 1) := by decide +kernel
theorem dX11_checkIndex_8 : decode cX11_checkIndex 8 = .ok (.invokespecial 301, 3) := by decide +kernel
theorem dX11_checkIndex_11 : decode cX11_checkIndex 11 = .ok (.athrow, 1) := by decide +kernel
theorem dX11_checkIndex_12 : decode cX11_checkIndex 12 = .ok (.return_, 1) := by decide +kernel
theorem dX11_isWithin_0 : decode cX11_isWithin 0 = .ok (.iload_n 0, 1) := by decide +kernel
theorem dX11_isWithin_1 : decode cX11_isWithin 1 = .ok (.iload_n 1, 1) := by decide +kernel
theorem dX11_isWithin_2 : decode cX11_isWithin 2 = .ok (.if_icmp .lt 12, 3) := by decide +kernel
theorem dX11_isWithin_5 : decode cX11_isWithin 5 = .ok (.iload_n 0, 1) := by decide +kernel
theorem dX11_isWithin_6 : decode cX11_isWithin 6 = .ok (.iload_n 2, 1) := by decide +kernel
theorem dX11_isWithin_7 : decode cX11_isWithin 7 = .ok (.if_icmp .gt 7, 3) := by decide +kernel
theorem dX11_isWithin_10 : decode cX11_isWithin 10 = .ok (.iconst 1, 1) := by decide +kernel
theorem dX11_isWithin_11 : decode cX11_isWithin 11 = .ok (.goto 4, 3) := by decide +kernel
theorem dX11_isWithin_14 : decode cX11_isWithin 14 = .ok (.iconst 0, 1) := by decide +kernel
theorem dX11_isWithin_15 : decode cX11_isWithin 15 = .ok (.ireturn, 1) := by decide +kernel
theorem dX11_checkArgument_0 : decode cX11_checkArgument 0 = .ok (.iload_n 0, 1) := by decide +kernel
theorem dX11_checkArgument_1 : decode cX11_checkArgument 1 = .ok (.ifCond .ne 11, 3) := by decide +kernel
theorem dX11_checkArgument_4 : decode cX11_checkArgument 4 = .ok (.new 302, 3) := by decide +kernel
theorem dX11_checkArgument_7 : decode cX11_checkArgument 7 = .ok (.dup, 1) := by decide +kernel
theorem dX11_checkArgument_8 : decode cX11_checkArgument 8 = .ok (.invokespecial 304, 3) := by decide +kernel
theorem dX11_checkArgument_11 : decode cX11_checkArgument 11 = .ok (.athrow, 1) := by decide +kernel
theorem dX11_checkArgument_12 : decode cX11_checkArgument 12 = .ok (.return_, 1) := by decide +kernel
theorem dJx4a65c_size_8abf5_0 : decode cJx4a65c_size_8abf5 0 = .ok (.aload_n 0, 1) := by decide +kernel
theorem dJx4a65c_size_8abf5_1 : decode cJx4a65c_size_8abf5 1 = .ok (.getfield 48, 3) := by decide +kernel
theorem dJx4a65c_size_8abf5_4 : decode cJx4a65c_size_8abf5 4 = .ok (.ireturn, 1) := by decide +kernel
theorem dX11_checkState_0 : decode cX11_checkState 0 = .ok (.iload_n 0, 1) := by decide +kernel
theorem dX11_checkState_1 : decode cX11_checkState 1 = .ok (.ifCond .ne 11, 3) := by decide +kernel
theorem dX11_checkState_4 : decode cX11_checkState 4 = .ok (.new 305, 3) := by decide +kernel
theorem dX11_checkState_7 : decode cX11_checkState 7 = .ok (.dup, 1) := by decide +kernel
theorem dX11_checkState_8 : decode cX11_checkState 8 = .ok (.invokespecial 307, 3) := by decide +kernel
theorem dX11_checkState_11 : decode cX11_checkState 11 = .ok (.athrow, 1) := by decide +kernel
theorem dX11_checkState_12 : decode cX11_checkState 12 = .ok (.return_, 1) := by decide +kernel
theorem dX1_init_0 : decode cX1_init 0 = .ok (.aload_n 0, 1) := by decide +kernel
theorem dX1_init_1 : decode cX1_init 1 = .ok (.invokespecial 3, 3) := by decide +kernel
theorem dX1_init_4 : decode cX1_init 4 = .ok (.aload_n 0, 1) := by decide +kernel
theorem dX1_init_5 : decode cX1_init 5 = .ok (.iload_n 1, 1) := by decide +kernel
theorem dX1_init_6 : decode cX1_init 6 = .ok (.putfield 9, 3) := by decide +kernel
theorem dX1_init_9 : decode cX1_init 9 = .ok (.aload_n 0, 1) := by decide +kernel
theorem dX1_init_10 : decode cX1_init 10 = .ok (.iload_n 2, 1) := by decide +kernel
theorem dX1_init_11 : decode cX1_init 11 = .ok (.putfield 15, 3) := by decide +kernel
theorem dX1_init_14 : decode cX1_init 14 = .ok (.aload_n 0, 1) := by decide +kernel
theorem dX1_init_15 : decode cX1_init 15 = .ok (.iload_n 3, 1) := by decide +kernel
theorem dX1_init_16 : decode cX1_init 16 = .ok (.putfield 18, 3) := by decide +kernel
theorem dX1_init_19 : decode cX1_init 19 = .ok (.aload_n 0, 1) := by decide +kernel
theorem dX1_init_20 : decode cX1_init 20 = .ok (.iload 4, 2) := by decide +kernel
theorem dX1_init_22 : decode cX1_init 22 = .ok (.putfield 21, 3) := by decide +kernel
theorem dX1_init_25 : decode cX1_init 25 = .ok (.aload_n 0, 1) := by decide +kernel
theorem dX1_init_26 : decode cX1_init 26 = .ok (.iload 5, 2) := by decide +kernel
theorem dX1_init_28 : decode cX1_init 28 = .ok (.putfield 24, 3) := by decide +kernel
theorem dX1_init_31 : decode cX1_init 31 = .ok (.return_, 1) := by decide +kernel
theorem dJ9_max_7cf53_0 : decode cJ9_max_7cf53 0 = .ok (.iload_n 0, 1) := by decide +kernel
theorem dJ9_max_7cf53_1 : decode cJ9_max_7cf53 1 = .ok (.iload_n 1, 1) := by decide +kernel
theorem dJ9_max_7cf53_2 : decode cJ9_max_7cf53 2 = .ok (.if_icmp .lt 7, 3) := by decide +kernel
theorem dJ9_max_7cf53_5 : decode cJ9_max_7cf53 5 = .ok (.iload_n 0, 1) := by decide +kernel
theorem dJ9_max_7cf53_6 : decode cJ9_max_7cf53 6 = .ok (.goto 4, 3) := by decide +kernel
theorem dJ9_max_7cf53_9 : decode cJ9_max_7cf53 9 = .ok (.iload_n 1, 1) := by decide +kernel
theorem dJ9_max_7cf53_10 : decode cJ9_max_7cf53 10 = .ok (.ireturn, 1) := by decide +kernel
theorem dJ8_newLength_cabcc_0 : decode cJ8_newLength_cabcc 0 = .ok (.iload_n 0, 1) := by decide +kernel
theorem dJ8_newLength_cabcc_1 : decode cJ8_newLength_cabcc 1 = .ok (.iload_n 1, 1) := by decide +kernel
theorem dJ8_newLength_cabcc_2 : decode cJ8_newLength_cabcc 2 = .ok (.iload_n 2, 1) := by decide +kernel
theorem dJ8_newLength_cabcc_3 : decode cJ8_newLength_cabcc 3 = .ok (.invokestatic 194, 3) := by decide +kernel
theorem dJ8_newLength_cabcc_6 : decode cJ8_newLength_cabcc 6 = .ok (.iadd, 1) := by decide +kernel
theorem dJ8_newLength_cabcc_7 : decode cJ8_newLength_cabcc 7 = .ok (.istore_n 3, 1) := by decide +kernel
theorem dJ8_newLength_cabcc_8 : decode cJ8_newLength_cabcc 8 = .ok (.iconst 0, 1) := by decide +kernel
theorem dJ8_newLength_cabcc_9 : decode cJ8_newLength_cabcc 9 = .ok (.iload_n 3, 1) := by decide +kernel
theorem dJ8_newLength_cabcc_10 : decode cJ8_newLength_cabcc 10 = .ok (.if_icmp .ge 11, 3) := by decide +kernel
theorem dJ8_newLength_cabcc_13 : decode cJ8_newLength_cabcc 13 = .ok (.iload_n 3, 1) := by decide +kernel
theorem dJ8_newLength_cabcc_14 : decode cJ8_newLength_cabcc 14 = .ok (.ldc 200, 2) := by decide +kernel
theorem dJ8_newLength_cabcc_16 : decode cJ8_newLength_cabcc 16 = .ok (.if_icmp .gt 5, 3) := by decide +kernel
theorem dJ8_newLength_cabcc_19 : decode cJ8_newLength_cabcc 19 = .ok (.iload_n 3, 1) := by decide +kernel
theorem dJ8_newLength_cabcc_20 : decode cJ8_newLength_cabcc 20 = .ok (.ireturn, 1) := by decide +kernel
theorem dJ8_newLength_cabcc_21 : decode cJ8_newLength_cabcc 21 = .ok (.iload_n 0, 1) := by decide +kernel
theorem dJ8_newLength_cabcc_22 : decode cJ8_newLength_cabcc 22 = .ok (.iload_n 1, 1) := by decide +kernel
theorem dJ9_min_7cf53_0 : decode cJ9_min_7cf53 0 = .ok (.iload_n 0, 1) := by decide +kernel
theorem dJ9_min_7cf53_1 : decode cJ9_min_7cf53 1 = .ok (.iload_n 1, 1) := by decide +kernel
theorem dJ9_min_7cf53_2 : decode cJ9_min_7cf53 2 = .ok (.if_icmp .gt 7, 3) := by decide +kernel
theorem dJ9_min_7cf53_5 : decode cJ9_min_7cf53 5 = .ok (.iload_n 0, 1) := by decide +kernel
theorem dJ9_min_7cf53_6 : decode cJ9_min_7cf53 6 = .ok (.goto 4, 3) := by decide +kernel
theorem dJ9_min_7cf53_9 : decode cJ9_min_7cf53 9 = .ok (.iload_n 1, 1) := by decide +kernel
theorem dJ9_min_7cf53_10 : decode cJ9_min_7cf53 10 = .ok (.ireturn, 1) := by decide +kernel
theorem dJ7_copyOf_6403c_0 : decode cJ7_copyOf_6403c 0 = .ok (.aload_n 2, 1) := by decide +kernel
theorem dJ7_copyOf_6403c_1 : decode cJ7_copyOf_6403c 1 = .ok (.ldc 110, 2) := by decide +kernel
theorem dJ7_copyOf_6403c_3 : decode cJ7_copyOf_6403c 3 = .ok (.if_acmp .ne 10, 3) := by decide +kernel
theorem dJ7_copyOf_6403c_6 : decode cJ7_copyOf_6403c 6 = .ok (.iload_n 1, 1) := by decide +kernel
theorem dJ7_copyOf_6403c_7 : decode cJ7_copyOf_6403c 7 = .ok (.anewarray 2, 3) := by decide +kernel
theorem dJ7_copyOf_6403c_10 : decode cJ7_copyOf_6403c 10 = .ok (.goto 14, 3) := by decide +kernel
theorem dJ7_copyOf_6403c_13 : decode cJ7_copyOf_6403c 13 = .ok (.aload_n 2, 1) := by decide +kernel
theorem dJ7_copyOf_6403c_24 : decode cJ7_copyOf_6403c 24 = .ok (.astore_n 3, 1) := by decide +kernel
theorem dJ7_copyOf_6403c_25 : decode cJ7_copyOf_6403c 25 = .ok (.aload_n 0, 1) := by decide +kernel
theorem dJ7_copyOf_6403c_26 : decode cJ7_copyOf_6403c 26 = .ok (.iconst 0, 1) := by decide +kernel
theorem dJ7_copyOf_6403c_27 : decode cJ7_copyOf_6403c 27 = .ok (.aload_n 3, 1) := by decide +kernel
theorem dJ7_copyOf_6403c_28 : decode cJ7_copyOf_6403c 28 = .ok (.iconst 0, 1) := by decide +kernel
theorem dJ7_copyOf_6403c_29 : decode cJ7_copyOf_6403c 29 = .ok (.aload_n 0, 1) := by decide +kernel
theorem dJ7_copyOf_6403c_30 : decode cJ7_copyOf_6403c 30 = .ok (.arraylength, 1) := by decide +kernel
theorem dJ7_copyOf_6403c_31 : decode cJ7_copyOf_6403c 31 = .ok (.iload_n 1, 1) := by decide +kernel
theorem dJ7_copyOf_6403c_32 : decode cJ7_copyOf_6403c 32 = .ok (.invokestatic 304, 3) := by decide +kernel
theorem dJ7_copyOf_6403c_35 : decode cJ7_copyOf_6403c 35 = .ok (.invokestatic 150, 3) := by decide +kernel
theorem dJ7_copyOf_6403c_38 : decode cJ7_copyOf_6403c 38 = .ok (.aload_n 3, 1) := by decide +kernel
theorem dJ7_copyOf_6403c_39 : decode cJ7_copyOf_6403c 39 = .ok (.areturn, 1) := by decide +kernel
theorem dJ7_copyOf_1904c_0 : decode cJ7_copyOf_1904c 0 = .ok (.aload_n 0, 1) := by decide +kernel
theorem dJ7_copyOf_1904c_1 : decode cJ7_copyOf_1904c 1 = .ok (.iload_n 1, 1) := by decide +kernel
theorem dJ7_copyOf_1904c_2 : decode cJ7_copyOf_1904c 2 = .ok (.aload_n 0, 1) := by decide +kernel
theorem dJ7_copyOf_1904c_3 : decode cJ7_copyOf_1904c 3 = .ok (.invokevirtual 86, 3) := by decide +kernel
theorem dJ7_copyOf_1904c_6 : decode cJ7_copyOf_1904c 6 = .ok (.invokestatic 300, 3) := by decide +kernel
theorem dJ7_copyOf_1904c_9 : decode cJ7_copyOf_1904c 9 = .ok (.areturn, 1) := by decide +kernel
theorem dJx4a65c_grow_92f84_0 : decode cJx4a65c_grow_92f84 0 = .ok (.aload_n 0, 1) := by decide +kernel
theorem dJx4a65c_grow_92f84_1 : decode cJx4a65c_grow_92f84 1 = .ok (.getfield 9, 3) := by decide +kernel
theorem dJx4a65c_grow_92f84_4 : decode cJx4a65c_grow_92f84 4 = .ok (.arraylength, 1) := by decide +kernel
theorem dJx4a65c_grow_92f84_5 : decode cJx4a65c_grow_92f84 5 = .ok (.istore_n 2, 1) := by decide +kernel
theorem dJx4a65c_grow_92f84_6 : decode cJx4a65c_grow_92f84 6 = .ok (.iload_n 2, 1) := by decide +kernel
theorem dJx4a65c_grow_92f84_7 : decode cJx4a65c_grow_92f84 7 = .ok (.ifCond .gt 13, 3) := by decide +kernel
theorem dJx4a65c_grow_92f84_10 : decode cJx4a65c_grow_92f84 10 = .ok (.aload_n 0, 1) := by decide +kernel
theorem dJx4a65c_grow_92f84_11 : decode cJx4a65c_grow_92f84 11 = .ok (.getfield 9, 3) := by decide +kernel
theorem dJx4a65c_grow_92f84_14 : decode cJx4a65c_grow_92f84 14 = .ok (.getstatic 39, 3) := by decide +kernel
theorem dJx4a65c_grow_92f84_17 : decode cJx4a65c_grow_92f84 17 = .ok (.if_acmp .eq 28, 3) := by decide +kernel
theorem dJx4a65c_grow_92f84_20 : decode cJx4a65c_grow_92f84 20 = .ok (.iload_n 2, 1) := by decide +kernel
theorem dJx4a65c_grow_92f84_21 : decode cJx4a65c_grow_92f84 21 = .ok (.iload_n 1, 1) := by decide +kernel
theorem dJx4a65c_grow_92f84_22 : decode cJx4a65c_grow_92f84 22 = .ok (.iload_n 2, 1) := by decide +kernel
theorem dJx4a65c_grow_92f84_23 : decode cJx4a65c_grow_92f84 23 = .ok (.isub, 1) := by decide +kernel
theorem dJx4a65c_grow_92f84_24 : decode cJx4a65c_grow_92f84 24 = .ok (.iload_n 2, 1) := by decide +kernel
theorem dJx4a65c_grow_92f84_25 : decode cJx4a65c_grow_92f84 25 = .ok (.iconst 1, 1) := by decide +kernel
theorem dJx4a65c_grow_92f84_26 : decode cJx4a65c_grow_92f84 26 = .ok (.ishr, 1) := by decide +kernel
theorem dJx4a65c_grow_92f84_27 : decode cJx4a65c_grow_92f84 27 = .ok (.invokestatic 73, 3) := by decide +kernel
theorem dJx4a65c_grow_92f84_30 : decode cJx4a65c_grow_92f84 30 = .ok (.istore_n 3, 1) := by decide +kernel
theorem dJx4a65c_grow_92f84_31 : decode cJx4a65c_grow_92f84 31 = .ok (.aload_n 0, 1) := by decide +kernel
theorem dJx4a65c_grow_92f84_32 : decode cJx4a65c_grow_92f84 32 = .ok (.aload_n 0, 1) := by decide +kernel
theorem dJx4a65c_grow_92f84_33 : decode cJx4a65c_grow_92f84 33 = .ok (.getfield 9, 3) := by decide +kernel
theorem dJx4a65c_grow_92f84_36 : decode cJx4a65c_grow_92f84 36 = .ok (.iload_n 3, 1) := by decide +kernel
theorem dJx4a65c_grow_92f84_37 : decode cJx4a65c_grow_92f84 37 = .ok (.invokestatic 66, 3) := by decide +kernel
theorem dJx4a65c_grow_92f84_40 : decode cJx4a65c_grow_92f84 40 = .ok (.dup_x1, 1) := by decide +kernel
theorem dJx4a65c_grow_92f84_41 : decode cJx4a65c_grow_92f84 41 = .ok (.putfield 9, 3) := by decide +kernel
theorem dJx4a65c_grow_92f84_44 : decode cJx4a65c_grow_92f84 44 = .ok (.areturn, 1) := by decide +kernel
theorem dJx4a65c_grow_92f84_45 : decode cJx4a65c_grow_92f84 45 = .ok (.aload_n 0, 1) := by decide +kernel
theorem dJx4a65c_grow_92f84_46 : decode cJx4a65c_grow_92f84 46 = .ok (.bipush 10, 2) := by decide +kernel
theorem dJx4a65c_grow_92f84_48 : decode cJx4a65c_grow_92f84 48 = .ok (.iload_n 1, 1) := by decide +kernel
theorem dJx4a65c_grow_92f84_49 : decode cJx4a65c_grow_92f84 49 = .ok (.invokestatic 79, 3) := by decide +kernel
theorem dJx4a65c_grow_92f84_52 : decode cJx4a65c_grow_92f84 52 = .ok (.anewarray 7, 3) := by decide +kernel
theorem dJx4a65c_grow_92f84_55 : decode cJx4a65c_grow_92f84 55 = .ok (.dup_x1, 1) := by decide +kernel
theorem dJx4a65c_grow_92f84_56 : decode cJx4a65c_grow_92f84 56 = .ok (.putfield 9, 3) := by decide +kernel
theorem dJx4a65c_grow_92f84_59 : decode cJx4a65c_grow_92f84 59 = .ok (.areturn, 1) := by decide +kernel
theorem dJx4a65c_grow_d5877_0 : decode cJx4a65c_grow_d5877 0 = .ok (.aload_n 0, 1) := by decide +kernel
theorem dJx4a65c_grow_d5877_1 : decode cJx4a65c_grow_d5877 1 = .ok (.aload_n 0, 1) := by decide +kernel
theorem dJx4a65c_grow_d5877_2 : decode cJx4a65c_grow_d5877 2 = .ok (.getfield 48, 3) := by decide +kernel
theorem dJx4a65c_grow_d5877_5 : decode cJx4a65c_grow_d5877 5 = .ok (.iconst 1, 1) := by decide +kernel
theorem dJx4a65c_grow_d5877_6 : decode cJx4a65c_grow_d5877 6 = .ok (.iadd, 1) := by decide +kernel
theorem dJx4a65c_grow_d5877_7 : decode cJx4a65c_grow_d5877 7 = .ok (.invokevirtual 69, 3) := by decide +kernel
theorem dJx4a65c_grow_d5877_10 : decode cJx4a65c_grow_d5877 10 = .ok (.areturn, 1) := by decide +kernel
theorem dJx4a65c_add_72be8_0 : decode cJx4a65c_add_72be8 0 = .ok (.iload_n 3, 1) := by decide +kernel
theorem dJx4a65c_add_72be8_1 : decode cJx4a65c_add_72be8 1 = .ok (.aload_n 2, 1) := by decide +kernel
theorem dJx4a65c_add_72be8_2 : decode cJx4a65c_add_72be8 2 = .ok (.arraylength, 1) := by decide +kernel
theorem dJx4a65c_add_72be8_3 : decode cJx4a65c_add_72be8 3 = .ok (.if_icmp .ne 8, 3) := by decide +kernel
theorem dJx4a65c_add_72be8_6 : decode cJx4a65c_add_72be8 6 = .ok (.aload_n 0, 1) := by decide +kernel
theorem dJx4a65c_add_72be8_7 : decode cJx4a65c_add_72be8 7 = .ok (.invokevirtual 129, 3) := by decide +kernel
theorem dJx4a65c_add_72be8_10 : decode cJx4a65c_add_72be8 10 = .ok (.astore_n 2, 1) := by decide +kernel
theorem dJx4a65c_add_72be8_11 : decode cJx4a65c_add_72be8 11 = .ok (.aload_n 2, 1) := by decide +kernel
theorem dJx4a65c_add_72be8_12 : decode cJx4a65c_add_72be8 12 = .ok (.iload_n 3, 1) := by decide +kernel
theorem dJx4a65c_add_72be8_13 : decode cJx4a65c_add_72be8 13 = .ok (.aload_n 1, 1) := by decide +kernel
theorem dJx4a65c_add_72be8_14 : decode cJx4a65c_add_72be8 14 = .ok (.aastore, 1) := by decide +kernel
theorem dJx4a65c_add_72be8_15 : decode cJx4a65c_add_72be8 15 = .ok (.aload_n 0, 1) := by decide +kernel
theorem dJx4a65c_add_72be8_16 : decode cJx4a65c_add_72be8 16 = .ok (.iload_n 3, 1) := by decide +kernel
theorem dJx4a65c_add_72be8_17 : decode cJx4a65c_add_72be8 17 = .ok (.iconst 1, 1) := by decide +kernel
theorem dJx4a65c_add_72be8_18 : decode cJx4a65c_add_72be8 18 = .ok (.iadd, 1) := by decide +kernel
theorem dJx4a65c_add_72be8_19 : decode cJx4a65c_add_72be8 19 = .ok (.putfield 48, 3) := by decide +kernel
theorem dJx4a65c_add_72be8_22 : decode cJx4a65c_add_72be8 22 = .ok (.return_, 1) := by decide +kernel
theorem dJx4a65c_add_9ea2d_0 : decode cJx4a65c_add_9ea2d 0 = .ok (.aload_n 0, 1) := by decide +kernel
theorem dJx4a65c_add_9ea2d_1 : decode cJx4a65c_add_9ea2d 1 = .ok (.dup, 1) := by decide +kernel
theorem dJx4a65c_add_9ea2d_2 : decode cJx4a65c_add_9ea2d 2 = .ok (.getfield 63, 3) := by decide +kernel
theorem dJx4a65c_add_9ea2d_5 : decode cJx4a65c_add_9ea2d 5 = .ok (.iconst 1, 1) := by decide +kernel
theorem dJx4a65c_add_9ea2d_6 : decode cJx4a65c_add_9ea2d 6 = .ok (.iadd, 1) := by decide +kernel
theorem dJx4a65c_add_9ea2d_7 : decode cJx4a65c_add_9ea2d 7 = .ok (.putfield 63, 3) := by decide +kernel
theorem dJx4a65c_add_9ea2d_10 : decode cJx4a65c_add_9ea2d 10 = .ok (.aload_n 0, 1) := by decide +kernel
theorem dJx4a65c_add_9ea2d_11 : decode cJx4a65c_add_9ea2d 11 = .ok (.aload_n 1, 1) := by decide +kernel
theorem dJx4a65c_add_9ea2d_12 : decode cJx4a65c_add_9ea2d 12 = .ok (.aload_n 0, 1) := by decide +kernel
theorem dJx4a65c_add_9ea2d_13 : decode cJx4a65c_add_9ea2d 13 = .ok (.getfield 9, 3) := by decide +kernel
theorem dJx4a65c_add_9ea2d_16 : decode cJx4a65c_add_9ea2d 16 = .ok (.aload_n 0, 1) := by decide +kernel
theorem dJx4a65c_add_9ea2d_17 : decode cJx4a65c_add_9ea2d 17 = .ok (.getfield 48, 3) := by decide +kernel
theorem dJx4a65c_add_9ea2d_20 : decode cJx4a65c_add_9ea2d 20 = .ok (.invokevirtual 131, 3) := by decide +kernel
theorem dJx4a65c_add_9ea2d_23 : decode cJx4a65c_add_9ea2d 23 = .ok (.iconst 1, 1) := by decide +kernel
theorem dJx4a65c_add_9ea2d_24 : decode cJx4a65c_add_9ea2d 24 = .ok (.ireturn, 1) := by decide +kernel
theorem dX4_addBundle_0 : decode cX4_addBundle 0 = .ok (.aload_n 0, 1) := by decide +kernel
theorem dX4_addBundle_1 : decode cX4_addBundle 1 = .ok (.getfield 12, 3) := by decide +kernel
theorem dX4_addBundle_4 : decode cX4_addBundle 4 = .ok (.new 33, 3) := by decide +kernel
theorem dX4_addBundle_7 : decode cX4_addBundle 7 = .ok (.dup, 1) := by decide +kernel
theorem dX4_addBundle_8 : decode cX4_addBundle 8 = .ok (.aload_n 0, 1) := by decide +kernel
theorem dX4_addBundle_9 : decode cX4_addBundle 9 = .ok (.getfield 12, 3) := by decide +kernel
theorem dX4_addBundle_12 : decode cX4_addBundle 12 = .ok (.invokevirtual 35, 3) := by decide +kernel
theorem dX4_addBundle_15 : decode cX4_addBundle 15 = .ok (.iload_n 1, 1) := by decide +kernel
theorem dX4_addBundle_16 : decode cX4_addBundle 16 = .ok (.iload_n 2, 1) := by decide +kernel
theorem dX4_addBundle_17 : decode cX4_addBundle 17 = .ok (.iload_n 3, 1) := by decide +kernel
theorem dX4_addBundle_18 : decode cX4_addBundle 18 = .ok (.iload 4, 2) := by decide +kernel
theorem dX4_addBundle_20 : decode cX4_addBundle 20 = .ok (.invokespecial 39, 3) := by decide +kernel
theorem dX4_addBundle_23 : decode cX4_addBundle 23 = .ok (.invokevirtual 42, 3) := by decide +kernel
theorem dX4_addBundle_26 : decode cX4_addBundle 26 = .ok (.pop, 1) := by decide +kernel
theorem dX4_addBundle_27 : decode cX4_addBundle 27 = .ok (.aload_n 0, 1) := by decide +kernel
theorem dX4_addBundle_28 : decode cX4_addBundle 28 = .ok (.getfield 12, 3) := by decide +kernel
theorem dX4_addBundle_31 : decode cX4_addBundle 31 = .ok (.invokevirtual 35, 3) := by decide +kernel
theorem dX4_addBundle_34 : decode cX4_addBundle 34 = .ok (.iconst 1, 1) := by decide +kernel
theorem dX4_addBundle_35 : decode cX4_addBundle 35 = .ok (.isub, 1) := by decide +kernel
theorem dX4_addBundle_36 : decode cX4_addBundle 36 = .ok (.ireturn, 1) := by decide +kernel
theorem dX11_bundle_0 : decode cX11_bundle 0 = .ok (.iload_n 1, 1) := by decide +kernel
theorem dX11_bundle_1 : decode cX11_bundle 1 = .ok (.bipush 8, 2) := by decide +kernel
theorem dX11_bundle_3 : decode cX11_bundle 3 = .ok (.invokestatic 54, 3) := by decide +kernel
theorem dX11_bundle_6 : decode cX11_bundle 6 = .ok (.ifCond .eq 16, 3) := by decide +kernel
theorem dX11_bundle_9 : decode cX11_bundle 9 = .ok (.iload_n 2, 1) := by decide +kernel
theorem dX11_bundle_10 : decode cX11_bundle 10 = .ok (.bipush 8, 2) := by decide +kernel
theorem dX11_bundle_12 : decode cX11_bundle 12 = .ok (.invokestatic 54, 3) := by decide +kernel
theorem dX11_bundle_15 : decode cX11_bundle 15 = .ok (.ifCond .eq 7, 3) := by decide +kernel
theorem dX11_bundle_18 : decode cX11_bundle 18 = .ok (.iconst 1, 1) := by decide +kernel
theorem dX11_bundle_19 : decode cX11_bundle 19 = .ok (.goto 4, 3) := by decide +kernel
theorem dX11_bundle_22 : decode cX11_bundle 22 = .ok (.iconst 0, 1) := by decide +kernel
theorem dX11_bundle_23 : decode cX11_bundle 23 = .ok (.invokestatic 58, 3) := by decide +kernel
theorem dX11_bundle_26 : decode cX11_bundle 26 = .ok (.iload_n 1, 1) := by decide +kernel
theorem dX11_bundle_27 : decode cX11_bundle 27 = .ok (.iload_n 2, 1) := by decide +kernel
theorem dX11_bundle_28 : decode cX11_bundle 28 = .ok (.if_icmp .eq 29, 3) := by decide +kernel
theorem dX11_bundle_31 : decode cX11_bundle 31 = .ok (.iload_n 3, 1) := by decide +kernel
theorem dX11_bundle_32 : decode cX11_bundle 32 = .ok (.iconst 1, 1) := by decide +kernel
theorem dX11_bundle_33 : decode cX11_bundle 33 = .ok (.sipush 999, 3) := by decide +kernel
theorem dX11_bundle_36 : decode cX11_bundle 36 = .ok (.invokestatic 62, 3) := by decide +kernel
theorem dX11_bundle_39 : decode cX11_bundle 39 = .ok (.ifCond .eq 18, 3) := by decide +kernel
theorem dX11_bundle_42 : decode cX11_bundle 42 = .ok (.iload 4, 2) := by decide +kernel
theorem dX11_bundle_44 : decode cX11_bundle 44 = .ok (.iconst 1, 1) := by decide +kernel
theorem dX11_bundle_45 : decode cX11_bundle 45 = .ok (.bipush 24, 2) := by decide +kernel
theorem dX11_bundle_47 : decode cX11_bundle 47 = .ok (.invokestatic 62, 3) := by decide +kernel
theorem dX11_bundle_50 : decode cX11_bundle 50 = .ok (.ifCond .eq 7, 3) := by decide +kernel
theorem dX11_bundle_53 : decode cX11_bundle 53 = .ok (.iconst 1, 1) := by decide +kernel
theorem dX11_bundle_54 : decode cX11_bundle 54 = .ok (.goto 4, 3) := by decide +kernel
theorem dX11_bundle_57 : decode cX11_bundle 57 = .ok (.iconst 0, 1) := by decide +kernel
theorem dX11_bundle_58 : decode cX11_bundle 58 = .ok (.invokestatic 66, 3) := by decide +kernel
theorem dX11_bundle_61 : decode cX11_bundle 61 = .ok (.aload_n 0, 1) := by decide +kernel
theorem dX11_bundle_62 : decode cX11_bundle 62 = .ok (.getfield 10, 3) := by decide +kernel
theorem dX11_bundle_65 : decode cX11_bundle 65 = .ok (.getfield 69, 3) := by decide +kernel
theorem dX11_bundle_68 : decode cX11_bundle 68 = .ok (.invokevirtual 72, 3) := by decide +kernel
theorem dX11_bundle_71 : decode cX11_bundle 71 = .ok (.bipush 16, 2) := by decide +kernel
theorem dX11_bundle_73 : decode cX11_bundle 73 = .ok (.if_icmp .ge 7, 3) := by decide +kernel
theorem dX11_bundle_76 : decode cX11_bundle 76 = .ok (.iconst 1, 1) := by decide +kernel
theorem dX11_bundle_77 : decode cX11_bundle 77 = .ok (.goto 4, 3) := by decide +kernel
theorem dX11_bundle_80 : decode cX11_bundle 80 = .ok (.iconst 0, 1) := by decide +kernel
theorem dX11_bundle_81 : decode cX11_bundle 81 = .ok (.invokestatic 76, 3) := by decide +kernel
theorem dX11_bundle_84 : decode cX11_bundle 84 = .ok (.aload_n 0, 1) := by decide +kernel
theorem dX11_bundle_85 : decode cX11_bundle 85 = .ok (.getfield 10, 3) := by decide +kernel
theorem dX11_bundle_88 : decode cX11_bundle 88 = .ok (.iload_n 1, 1) := by decide +kernel
theorem dX11_bundle_89 : decode cX11_bundle 89 = .ok (.iload_n 2, 1) := by decide +kernel
theorem dX11_bundle_90 : decode cX11_bundle 90 = .ok (.iload_n 3, 1) := by decide +kernel
theorem dX11_bundle_91 : decode cX11_bundle 91 = .ok (.iload 4, 2) := by decide +kernel
theorem dX11_bundle_93 : decode cX11_bundle 93 = .ok (.invokevirtual 79, 3) := by decide +kernel
theorem dX11_bundle_96 : decode cX11_bundle 96 = .ok (.ireturn, 1) := by decide +kernel
theorem dX2_init_0 : decode cX2_init 0 = .ok (.aload_n 0, 1) := by decide +kernel
theorem dX2_init_1 : decode cX2_init 1 = .ok (.invokespecial 3, 3) := by decide +kernel
theorem dX2_init_4 : decode cX2_init 4 = .ok (.aload_n 0, 1) := by decide +kernel
theorem dX2_init_5 : decode cX2_init 5 = .ok (.iconst (-1), 1) := by decide +kernel
theorem dX2_init_6 : decode cX2_init 6 = .ok (.putfield 9, 3) := by decide +kernel
theorem dX2_init_9 : decode cX2_init 9 = .ok (.aload_n 0, 1) := by decide +kernel
theorem dX2_init_10 : decode cX2_init 10 = .ok (.iload_n 1, 1) := by decide +kernel
theorem dX2_init_11 : decode cX2_init 11 = .ok (.putfield 15, 3) := by decide +kernel
theorem dX2_init_14 : decode cX2_init 14 = .ok (.aload_n 0, 1) := by decide +kernel
theorem dX2_init_15 : decode cX2_init 15 = .ok (.iload_n 2, 1) := by decide +kernel
theorem dX2_init_16 : decode cX2_init 16 = .ok (.putfield 18, 3) := by decide +kernel
theorem dX2_init_19 : decode cX2_init 19 = .ok (.aload_n 0, 1) := by decide +kernel
theorem dX2_init_20 : decode cX2_init 20 = .ok (.iload_n 3, 1) := by decide +kernel
theorem dX2_init_21 : decode cX2_init 21 = .ok (.putfield 21, 3) := by decide +kernel
theorem dX2_init_24 : decode cX2_init 24 = .ok (.return_, 1) := by decide +kernel
theorem dX4_addConnector_0 : decode cX4_addConnector 0 = .ok (.aload_n 0, 1) := by decide +kernel
theorem dX4_addConnector_1 : decode cX4_addConnector 1 = .ok (.getfield 18, 3) := by decide +kernel
theorem dX4_addConnector_4 : decode cX4_addConnector 4 = .ok (.new 46, 3) := by decide +kernel
theorem dX4_addConnector_7 : decode cX4_addConnector 7 = .ok (.dup, 1) := by decide +kernel
theorem dX4_addConnector_8 : decode cX4_addConnector 8 = .ok (.iload_n 1, 1) := by decide +kernel
theorem dX4_addConnector_9 : decode cX4_addConnector 9 = .ok (.iload_n 2, 1) := by decide +kernel
theorem dX4_addConnector_10 : decode cX4_addConnector 10 = .ok (.iload_n 3, 1) := by decide +kernel
theorem dX4_addConnector_11 : decode cX4_addConnector 11 = .ok (.invokespecial 48, 3) := by decide +kernel
theorem dX4_addConnector_14 : decode cX4_addConnector 14 = .ok (.invokevirtual 42, 3) := by decide +kernel
theorem dX4_addConnector_17 : decode cX4_addConnector 17 = .ok (.pop, 1) := by decide +kernel
theorem dX4_addConnector_18 : decode cX4_addConnector 18 = .ok (.aload_n 0, 1) := by decide +kernel
theorem dX4_addConnector_19 : decode cX4_addConnector 19 = .ok (.getfield 18, 3) := by decide +kernel
theorem dX4_addConnector_22 : decode cX4_addConnector 22 = .ok (.invokevirtual 35, 3) := by decide +kernel
theorem dX4_addConnector_25 : decode cX4_addConnector 25 = .ok (.iconst 1, 1) := by decide +kernel
theorem dX4_addConnector_26 : decode cX4_addConnector 26 = .ok (.isub, 1) := by decide +kernel
theorem dX4_addConnector_27 : decode cX4_addConnector 27 = .ok (.ireturn, 1) := by decide +kernel
theorem dX11_connector_0 : decode cX11_connector 0 = .ok (.iload_n 1, 1) := by decide +kernel
theorem dX11_connector_1 : decode cX11_connector 1 = .ok (.bipush 8, 2) := by decide +kernel
theorem dX11_connector_3 : decode cX11_connector 3 = .ok (.invokestatic 54, 3) := by decide +kernel
theorem dX11_connector_6 : decode cX11_connector 6 = .ok (.invokestatic 58, 3) := by decide +kernel
theorem dX11_connector_9 : decode cX11_connector 9 = .ok (.iload_n 2, 1) := by decide +kernel
theorem dX11_connector_10 : decode cX11_connector 10 = .ok (.iconst 1, 1) := by decide +kernel
theorem dX11_connector_11 : decode cX11_connector 11 = .ok (.bipush 8, 2) := by decide +kernel
theorem dX11_connector_13 : decode cX11_connector 13 = .ok (.invokestatic 62, 3) := by decide +kernel
theorem dX11_connector_16 : decode cX11_connector 16 = .ok (.ifCond .eq 17, 3) := by decide +kernel
theorem dX11_connector_19 : decode cX11_connector 19 = .ok (.iload_n 3, 1) := by decide +kernel
theorem dX11_connector_20 : decode cX11_connector 20 = .ok (.iconst 0, 1) := by decide +kernel
theorem dX11_connector_21 : decode cX11_connector 21 = .ok (.bipush 9, 2) := by decide +kernel
theorem dX11_connector_23 : decode cX11_connector 23 = .ok (.invokestatic 62, 3) := by decide +kernel
theorem dX11_connector_26 : decode cX11_connector 26 = .ok (.ifCond .eq 7, 3) := by decide +kernel
theorem dX11_connector_29 : decode cX11_connector 29 = .ok (.iconst 1, 1) := by decide +kernel
theorem dX11_connector_30 : decode cX11_connector 30 = .ok (.goto 4, 3) := by decide +kernel
theorem dX11_connector_33 : decode cX11_connector 33 = .ok (.iconst 0, 1) := by decide +kernel
theorem dX11_connector_34 : decode cX11_connector 34 = .ok (.invokestatic 66, 3) := by decide +kernel
theorem dX11_connector_37 : decode cX11_connector 37 = .ok (.aload_n 0, 1) := by decide +kernel
theorem dX11_connector_38 : decode cX11_connector 38 = .ok (.getfield 10, 3) := by decide +kernel
theorem dX11_connector_41 : decode cX11_connector 41 = .ok (.getfield 83, 3) := by decide +kernel
theorem dX11_connector_44 : decode cX11_connector 44 = .ok (.invokevirtual 72, 3) := by decide +kernel
theorem dX11_connector_47 : decode cX11_connector 47 = .ok (.bipush 8, 2) := by decide +kernel
theorem dX11_connector_49 : decode cX11_connector 49 = .ok (.if_icmp .ge 7, 3) := by decide +kernel
theorem dX11_connector_52 : decode cX11_connector 52 = .ok (.iconst 1, 1) := by decide +kernel
theorem dX11_connector_53 : decode cX11_connector 53 = .ok (.goto 4, 3) := by decide +kernel
theorem dX11_connector_56 : decode cX11_connector 56 = .ok (.iconst 0, 1) := by decide +kernel
theorem dX11_connector_57 : decode cX11_connector 57 = .ok (.invokestatic 76, 3) := by decide +kernel
theorem dX11_connector_60 : decode cX11_connector 60 = .ok (.aload_n 0, 1) := by decide +kernel
theorem dX11_connector_61 : decode cX11_connector 61 = .ok (.getfield 10, 3) := by decide +kernel
theorem dX11_connector_64 : decode cX11_connector 64 = .ok (.iload_n 1, 1) := by decide +kernel
theorem dX11_connector_65 : decode cX11_connector 65 = .ok (.iload_n 2, 1) := by decide +kernel
theorem dX11_connector_66 : decode cX11_connector 66 = .ok (.iload_n 3, 1) := by decide +kernel
theorem dX11_connector_67 : decode cX11_connector 67 = .ok (.invokevirtual 86, 3) := by decide +kernel
theorem dX11_connector_70 : decode cX11_connector 70 = .ok (.ireturn, 1) := by decide +kernel
theorem dJ3_checkIndex_8e157_0 : decode cJ3_checkIndex_8e157 0 = .ok (.iload_n 0, 1) := by decide +kernel
theorem dJ3_checkIndex_8e157_1 : decode cJ3_checkIndex_8e157 1 = .ok (.ifCond .lt 8, 3) := by decide +kernel
theorem dJ3_checkIndex_8e157_4 : decode cJ3_checkIndex_8e157 4 = .ok (.iload_n 0, 1) := by decide +kernel
theorem dJ3_checkIndex_8e157_5 : decode cJ3_checkIndex_8e157 5 = .ok (.iload_n 1, 1) := by decide +kernel
theorem dJ3_checkIndex_8e157_6 : decode cJ3_checkIndex_8e157 6 = .ok (.if_icmp .lt 10, 3) := by decide +kernel
theorem dJ3_checkIndex_8e157_9 : decode cJ3_checkIndex_8e157 9 = .ok (.aload_n 2, 1) := by decide +kernel
theorem dJ3_checkIndex_8e157_10 : decode cJ3_checkIndex_8e157 10 = .ok (.iload_n 0, 1) := by decide +kernel
theorem dJ3_checkIndex_8e157_11 : decode cJ3_checkIndex_8e157 11 = .ok (.iload_n 1, 1) := by decide +kernel
theorem dJ3_checkIndex_8e157_16 : decode cJ3_checkIndex_8e157 16 = .ok (.iload_n 0, 1) := by decide +kernel
theorem dJ3_checkIndex_8e157_17 : decode cJ3_checkIndex_8e157 17 = .ok (.ireturn, 1) := by decide +kernel
theorem dJ15_checkIndex_7cf53_0 : decode cJ15_checkIndex_7cf53 0 = .ok (.iload_n 0, 1) := by decide +kernel
theorem dJ15_checkIndex_7cf53_1 : decode cJ15_checkIndex_7cf53 1 = .ok (.iload_n 1, 1) := by decide +kernel
theorem dJ15_checkIndex_7cf53_2 : decode cJ15_checkIndex_7cf53 2 = .ok (.aconst_null, 1) := by decide +kernel
theorem dJ15_checkIndex_7cf53_3 : decode cJ15_checkIndex_7cf53 3 = .ok (.invokestatic 105, 3) := by decide +kernel
theorem dJ15_checkIndex_7cf53_6 : decode cJ15_checkIndex_7cf53 6 = .ok (.ireturn, 1) := by decide +kernel
theorem dJx4a65c_elementData_915e3_0 : decode cJx4a65c_elementData_915e3 0 = .ok (.aload_n 0, 1) := by decide +kernel
theorem dJx4a65c_elementData_915e3_1 : decode cJx4a65c_elementData_915e3 1 = .ok (.getfield 9, 3) := by decide +kernel
theorem dJx4a65c_elementData_915e3_4 : decode cJx4a65c_elementData_915e3 4 = .ok (.iload_n 1, 1) := by decide +kernel
theorem dJx4a65c_elementData_915e3_5 : decode cJx4a65c_elementData_915e3 5 = .ok (.aaload, 1) := by decide +kernel
theorem dJx4a65c_elementData_915e3_6 : decode cJx4a65c_elementData_915e3 6 = .ok (.areturn, 1) := by decide +kernel
theorem dJx4a65c_get_915e3_0 : decode cJx4a65c_get_915e3 0 = .ok (.iload_n 1, 1) := by decide +kernel
theorem dJx4a65c_get_915e3_1 : decode cJx4a65c_get_915e3 1 = .ok (.aload_n 0, 1) := by decide +kernel
theorem dJx4a65c_get_915e3_2 : decode cJx4a65c_get_915e3 2 = .ok (.getfield 48, 3) := by decide +kernel
theorem dJx4a65c_get_915e3_5 : decode cJx4a65c_get_915e3 5 = .ok (.invokestatic 118, 3) := by decide +kernel
theorem dJx4a65c_get_915e3_8 : decode cJx4a65c_get_915e3 8 = .ok (.pop, 1) := by decide +kernel
theorem dJx4a65c_get_915e3_9 : decode cJx4a65c_get_915e3 9 = .ok (.aload_n 0, 1) := by decide +kernel
theorem dJx4a65c_get_915e3_10 : decode cJx4a65c_get_915e3 10 = .ok (.iload_n 1, 1) := by decide +kernel
theorem dJx4a65c_get_915e3_11 : decode cJx4a65c_get_915e3 11 = .ok (.invokevirtual 123, 3) := by decide +kernel
theorem dJx4a65c_get_915e3_14 : decode cJx4a65c_get_915e3 14 = .ok (.areturn, 1) := by decide +kernel
theorem dX11_connectorAt_0 : decode cX11_connectorAt 0 = .ok (.iload_n 1, 1) := by decide +kernel
theorem dX11_connectorAt_1 : decode cX11_connectorAt 1 = .ok (.aload_n 0, 1) := by decide +kernel
theorem dX11_connectorAt_2 : decode cX11_connectorAt 2 = .ok (.getfield 10, 3) := by decide +kernel
theorem dX11_connectorAt_5 : decode cX11_connectorAt 5 = .ok (.getfield 83, 3) := by decide +kernel
theorem dX11_connectorAt_8 : decode cX11_connectorAt 8 = .ok (.invokevirtual 72, 3) := by decide +kernel
theorem dX11_connectorAt_11 : decode cX11_connectorAt 11 = .ok (.invokestatic 54, 3) := by decide +kernel
theorem dX11_connectorAt_14 : decode cX11_connectorAt 14 = .ok (.ifCond .ne 11, 3) := by decide +kernel
theorem dX11_connectorAt_17 : decode cX11_connectorAt 17 = .ok (.new 299, 3) := by decide +kernel
theorem dX11_connectorAt_20 : decode cX11_connectorAt 20 = .ok (.dup, 1) := by decide +kernel
theorem dX11_connectorAt_21 : decode cX11_connectorAt 21 = .ok (.invokespecial 301, 3) := by decide +kernel
theorem dX11_connectorAt_24 : decode cX11_connectorAt 24 = .ok (.athrow, 1) := by decide +kernel
theorem dX11_connectorAt_25 : decode cX11_connectorAt 25 = .ok (.aload_n 0, 1) := by decide +kernel
theorem dX11_connectorAt_26 : decode cX11_connectorAt 26 = .ok (.getfield 10, 3) := by decide +kernel
theorem dX11_connectorAt_29 : decode cX11_connectorAt 29 = .ok (.getfield 83, 3) := by decide +kernel
theorem dX11_connectorAt_32 : decode cX11_connectorAt 32 = .ok (.iload_n 1, 1) := by decide +kernel
theorem dX11_connectorAt_33 : decode cX11_connectorAt 33 = .ok (.invokevirtual 292, 3) := by decide +kernel
theorem dX11_connectorAt_36 : decode cX11_connectorAt 36 = .ok (.checkcast 95, 3) := by decide +kernel
theorem dX11_connectorAt_39 : decode cX11_connectorAt 39 = .ok (.areturn, 1) := by decide +kernel
theorem dX2_fits_0 : decode cX2_fits 0 = .ok (.aload_n 0, 1) := by decide +kernel
theorem dX2_fits_1 : decode cX2_fits 1 = .ok (.getfield 18, 3) := by decide +kernel
theorem dX2_fits_4 : decode cX2_fits 4 = .ok (.aload_n 1, 1) := by decide +kernel
theorem dX2_fits_5 : decode cX2_fits 5 = .ok (.getfield 18, 3) := by decide +kernel
theorem dX2_fits_8 : decode cX2_fits 8 = .ok (.if_icmp .ne 18, 3) := by decide +kernel
theorem dX2_fits_11 : decode cX2_fits 11 = .ok (.aload_n 0, 1) := by decide +kernel
theorem dX2_fits_12 : decode cX2_fits 12 = .ok (.getfield 21, 3) := by decide +kernel
theorem dX2_fits_15 : decode cX2_fits 15 = .ok (.aload_n 1, 1) := by decide +kernel
theorem dX2_fits_16 : decode cX2_fits 16 = .ok (.getfield 21, 3) := by decide +kernel
theorem dX2_fits_19 : decode cX2_fits 19 = .ok (.if_icmp .ne 7, 3) := by decide +kernel
theorem dX2_fits_22 : decode cX2_fits 22 = .ok (.iconst 1, 1) := by decide +kernel
theorem dX2_fits_23 : decode cX2_fits 23 = .ok (.goto 4, 3) := by decide +kernel
theorem dX2_fits_26 : decode cX2_fits 26 = .ok (.iconst 0, 1) := by decide +kernel
theorem dX2_fits_27 : decode cX2_fits 27 = .ok (.ireturn, 1) := by decide +kernel
theorem dX4_pairsThatFitWrong_0 : decode cX4_pairsThatFitWrong 0 = .ok (.iconst 0, 1) := by decide +kernel
theorem dX4_pairsThatFitWrong_1 : decode cX4_pairsThatFitWrong 1 = .ok (.istore_n 1, 1) := by decide +kernel
theorem dX4_pairsThatFitWrong_2 : decode cX4_pairsThatFitWrong 2 = .ok (.iconst 0, 1) := by decide +kernel
theorem dX4_pairsThatFitWrong_3 : decode cX4_pairsThatFitWrong 3 = .ok (.istore_n 2, 1) := by decide +kernel
theorem dX4_pairsThatFitWrong_4 : decode cX4_pairsThatFitWrong 4 = .ok (.iload_n 2, 1) := by decide +kernel
theorem dX4_pairsThatFitWrong_5 : decode cX4_pairsThatFitWrong 5 = .ok (.aload_n 0, 1) := by decide +kernel
theorem dX4_pairsThatFitWrong_6 : decode cX4_pairsThatFitWrong 6 = .ok (.getfield 18, 3) := by decide +kernel
theorem dX4_pairsThatFitWrong_9 : decode cX4_pairsThatFitWrong 9 = .ok (.invokevirtual 35, 3) := by decide +kernel
theorem dX4_pairsThatFitWrong_12 : decode cX4_pairsThatFitWrong 12 = .ok (.if_icmp .ge 75, 3) := by decide +kernel
theorem dX4_pairsThatFitWrong_15 : decode cX4_pairsThatFitWrong 15 = .ok (.aload_n 0, 1) := by decide +kernel
theorem dX4_pairsThatFitWrong_16 : decode cX4_pairsThatFitWrong 16 = .ok (.getfield 18, 3) := by decide +kernel
theorem dX4_pairsThatFitWrong_19 : decode cX4_pairsThatFitWrong 19 = .ok (.iload_n 2, 1) := by decide +kernel
theorem dX4_pairsThatFitWrong_20 : decode cX4_pairsThatFitWrong 20 = .ok (.invokevirtual 51, 3) := by decide +kernel
theorem dX4_pairsThatFitWrong_23 : decode cX4_pairsThatFitWrong 23 = .ok (.checkcast 46, 3) := by decide +kernel
theorem dX4_pairsThatFitWrong_26 : decode cX4_pairsThatFitWrong 26 = .ok (.astore_n 3, 1) := by decide +kernel
theorem dX4_pairsThatFitWrong_27 : decode cX4_pairsThatFitWrong 27 = .ok (.iload_n 2, 1) := by decide +kernel
theorem dX4_pairsThatFitWrong_28 : decode cX4_pairsThatFitWrong 28 = .ok (.iconst 1, 1) := by decide +kernel
theorem dX4_pairsThatFitWrong_29 : decode cX4_pairsThatFitWrong 29 = .ok (.iadd, 1) := by decide +kernel
theorem dX4_pairsThatFitWrong_30 : decode cX4_pairsThatFitWrong 30 = .ok (.istore 4, 2) := by decide +kernel
theorem dX4_pairsThatFitWrong_32 : decode cX4_pairsThatFitWrong 32 = .ok (.iload 4, 2) := by decide +kernel
theorem dX4_pairsThatFitWrong_34 : decode cX4_pairsThatFitWrong 34 = .ok (.aload_n 0, 1) := by decide +kernel
theorem dX4_pairsThatFitWrong_35 : decode cX4_pairsThatFitWrong 35 = .ok (.getfield 18, 3) := by decide +kernel
theorem dX4_pairsThatFitWrong_38 : decode cX4_pairsThatFitWrong 38 = .ok (.invokevirtual 35, 3) := by decide +kernel
theorem dX4_pairsThatFitWrong_41 : decode cX4_pairsThatFitWrong 41 = .ok (.if_icmp .ge 40, 3) := by decide +kernel
theorem dX4_pairsThatFitWrong_44 : decode cX4_pairsThatFitWrong 44 = .ok (.aload_n 3, 1) := by decide +kernel
theorem dX4_pairsThatFitWrong_45 : decode cX4_pairsThatFitWrong 45 = .ok (.aload_n 0, 1) := by decide +kernel
theorem dX4_pairsThatFitWrong_46 : decode cX4_pairsThatFitWrong 46 = .ok (.getfield 18, 3) := by decide +kernel
theorem dX4_pairsThatFitWrong_49 : decode cX4_pairsThatFitWrong 49 = .ok (.iload 4, 2) := by decide +kernel
theorem dX4_pairsThatFitWrong_51 : decode cX4_pairsThatFitWrong 51 = .ok (.invokevirtual 51, 3) := by decide +kernel
theorem dX4_pairsThatFitWrong_54 : decode cX4_pairsThatFitWrong 54 = .ok (.checkcast 46, 3) := by decide +kernel
theorem dX4_pairsThatFitWrong_57 : decode cX4_pairsThatFitWrong 57 = .ok (.invokevirtual 55, 3) := by decide +kernel
theorem dX4_pairsThatFitWrong_60 : decode cX4_pairsThatFitWrong 60 = .ok (.ifCond .eq 15, 3) := by decide +kernel
theorem dX4_pairsThatFitWrong_63 : decode cX4_pairsThatFitWrong 63 = .ok (.aload_n 3, 1) := by decide +kernel
theorem dX4_pairsThatFitWrong_64 : decode cX4_pairsThatFitWrong 64 = .ok (.getfield 59, 3) := by decide +kernel
theorem dX4_pairsThatFitWrong_67 : decode cX4_pairsThatFitWrong 67 = .ok (.iload 4, 2) := by decide +kernel
theorem dX4_pairsThatFitWrong_69 : decode cX4_pairsThatFitWrong 69 = .ok (.if_icmp .eq 6, 3) := by decide +kernel
theorem dX4_pairsThatFitWrong_72 : decode cX4_pairsThatFitWrong 72 = .ok (.iinc 1 1, 3) := by decide +kernel
theorem dX4_pairsThatFitWrong_75 : decode cX4_pairsThatFitWrong 75 = .ok (.iinc 4 1, 3) := by decide +kernel
theorem dX4_pairsThatFitWrong_78 : decode cX4_pairsThatFitWrong 78 = .ok (.goto (-46), 3) := by decide +kernel
theorem dX4_pairsThatFitWrong_81 : decode cX4_pairsThatFitWrong 81 = .ok (.iinc 2 1, 3) := by decide +kernel
theorem dX4_pairsThatFitWrong_84 : decode cX4_pairsThatFitWrong 84 = .ok (.goto (-80), 3) := by decide +kernel
theorem dX4_pairsThatFitWrong_87 : decode cX4_pairsThatFitWrong 87 = .ok (.iload_n 1, 1) := by decide +kernel
theorem dX4_pairsThatFitWrong_88 : decode cX4_pairsThatFitWrong 88 = .ok (.ireturn, 1) := by decide +kernel
theorem dX11_mates_0 : decode cX11_mates 0 = .ok (.aload_n 0, 1) := by decide +kernel
theorem dX11_mates_1 : decode cX11_mates 1 = .ok (.iload_n 1, 1) := by decide +kernel
theorem dX11_mates_2 : decode cX11_mates 2 = .ok (.invokevirtual 90, 3) := by decide +kernel
theorem dX11_mates_5 : decode cX11_mates 5 = .ok (.astore_n 3, 1) := by decide +kernel
theorem dX11_mates_6 : decode cX11_mates 6 = .ok (.aload_n 0, 1) := by decide +kernel
theorem dX11_mates_7 : decode cX11_mates 7 = .ok (.iload_n 2, 1) := by decide +kernel
theorem dX11_mates_8 : decode cX11_mates 8 = .ok (.invokevirtual 90, 3) := by decide +kernel
theorem dX11_mates_11 : decode cX11_mates 11 = .ok (.astore 4, 2) := by decide +kernel
theorem dX11_mates_13 : decode cX11_mates 13 = .ok (.iload_n 1, 1) := by decide +kernel
theorem dX11_mates_14 : decode cX11_mates 14 = .ok (.iload_n 2, 1) := by decide +kernel
theorem dX11_mates_15 : decode cX11_mates 15 = .ok (.if_icmp .eq 7, 3) := by decide +kernel
theorem dX11_mates_18 : decode cX11_mates 18 = .ok (.iconst 1, 1) := by decide +kernel
theorem dX11_mates_19 : decode cX11_mates 19 = .ok (.goto 4, 3) := by decide +kernel
theorem dX11_mates_22 : decode cX11_mates 22 = .ok (.iconst 0, 1) := by decide +kernel
theorem dX11_mates_23 : decode cX11_mates 23 = .ok (.invokestatic 66, 3) := by decide +kernel
theorem dX11_mates_26 : decode cX11_mates 26 = .ok (.aload_n 3, 1) := by decide +kernel
theorem dX11_mates_27 : decode cX11_mates 27 = .ok (.aload 4, 2) := by decide +kernel
theorem dX11_mates_29 : decode cX11_mates 29 = .ok (.invokevirtual 94, 3) := by decide +kernel
theorem dX11_mates_32 : decode cX11_mates 32 = .ok (.ifCond .eq 24, 3) := by decide +kernel
theorem dX11_mates_35 : decode cX11_mates 35 = .ok (.aload_n 3, 1) := by decide +kernel
theorem dX11_mates_36 : decode cX11_mates 36 = .ok (.getfield 100, 3) := by decide +kernel
theorem dX11_mates_39 : decode cX11_mates 39 = .ok (.iconst (-1), 1) := by decide +kernel
theorem dX11_mates_40 : decode cX11_mates 40 = .ok (.if_icmp .ne 16, 3) := by decide +kernel
theorem dX11_mates_43 : decode cX11_mates 43 = .ok (.aload 4, 2) := by decide +kernel
theorem dX11_mates_45 : decode cX11_mates 45 = .ok (.getfield 100, 3) := by decide +kernel
theorem dX11_mates_48 : decode cX11_mates 48 = .ok (.iconst (-1), 1) := by decide +kernel
theorem dX11_mates_49 : decode cX11_mates 49 = .ok (.if_icmp .ne 7, 3) := by decide +kernel
theorem dX11_mates_52 : decode cX11_mates 52 = .ok (.iconst 1, 1) := by decide +kernel
theorem dX11_mates_53 : decode cX11_mates 53 = .ok (.goto 4, 3) := by decide +kernel
theorem dX11_mates_56 : decode cX11_mates 56 = .ok (.iconst 0, 1) := by decide +kernel
theorem dX11_mates_57 : decode cX11_mates 57 = .ok (.invokestatic 76, 3) := by decide +kernel
theorem dX11_mates_60 : decode cX11_mates 60 = .ok (.aload_n 3, 1) := by decide +kernel
theorem dX11_mates_61 : decode cX11_mates 61 = .ok (.iload_n 2, 1) := by decide +kernel
theorem dX11_mates_62 : decode cX11_mates 62 = .ok (.putfield 100, 3) := by decide +kernel
theorem dX11_mates_65 : decode cX11_mates 65 = .ok (.aload 4, 2) := by decide +kernel
theorem dX11_mates_67 : decode cX11_mates 67 = .ok (.iload_n 1, 1) := by decide +kernel
theorem dX11_mates_68 : decode cX11_mates 68 = .ok (.putfield 100, 3) := by decide +kernel
theorem dX11_mates_71 : decode cX11_mates 71 = .ok (.aload_n 0, 1) := by decide +kernel
theorem dX11_mates_72 : decode cX11_mates 72 = .ok (.getfield 10, 3) := by decide +kernel
theorem dX11_mates_75 : decode cX11_mates 75 = .ok (.invokevirtual 103, 3) := by decide +kernel
theorem dX11_mates_78 : decode cX11_mates 78 = .ok (.ireturn, 1) := by decide +kernel
theorem dX2_isFree_0 : decode cX2_isFree 0 = .ok (.aload_n 0, 1) := by decide +kernel
theorem dX2_isFree_1 : decode cX2_isFree 1 = .ok (.getfield 24, 3) := by decide +kernel
theorem dX2_isFree_4 : decode cX2_isFree 4 = .ok (.iconst 1, 1) := by decide +kernel
theorem dX2_isFree_5 : decode cX2_isFree 5 = .ok (.iload_n 1, 1) := by decide +kernel
theorem dX2_isFree_6 : decode cX2_isFree 6 = .ok (.ishl, 1) := by decide +kernel
theorem dX2_isFree_7 : decode cX2_isFree 7 = .ok (.iand, 1) := by decide +kernel
theorem dX2_isFree_8 : decode cX2_isFree 8 = .ok (.ifCond .ne 7, 3) := by decide +kernel
theorem dX2_isFree_11 : decode cX2_isFree 11 = .ok (.iconst 1, 1) := by decide +kernel
theorem dX2_isFree_12 : decode cX2_isFree 12 = .ok (.goto 4, 3) := by decide +kernel
theorem dX2_isFree_15 : decode cX2_isFree 15 = .ok (.iconst 0, 1) := by decide +kernel
theorem dX2_isFree_16 : decode cX2_isFree 16 = .ok (.ireturn, 1) := by decide +kernel
theorem dX8_at_0 : decode cX8_at 0 = .ok (.iload_n 1, 1) := by decide +kernel
theorem dX8_at_1 : decode cX8_at 1 = .ok (.ifCond .lt 21, 3) := by decide +kernel
theorem dX8_at_4 : decode cX8_at 4 = .ok (.iload_n 1, 1) := by decide +kernel
theorem dX8_at_5 : decode cX8_at 5 = .ok (.aload_n 0, 1) := by decide +kernel
theorem dX8_at_6 : decode cX8_at 6 = .ok (.getfield 7, 3) := by decide +kernel
theorem dX8_at_9 : decode cX8_at 9 = .ok (.arraylength, 1) := by decide +kernel
theorem dX8_at_10 : decode cX8_at 10 = .ok (.if_icmp .ge 12, 3) := by decide +kernel
theorem dX8_at_13 : decode cX8_at 13 = .ok (.aload_n 0, 1) := by decide +kernel
theorem dX8_at_14 : decode cX8_at 14 = .ok (.getfield 7, 3) := by decide +kernel
theorem dX8_at_17 : decode cX8_at 17 = .ok (.iload_n 1, 1) := by decide +kernel
theorem dX8_at_18 : decode cX8_at 18 = .ok (.iaload, 1) := by decide +kernel
theorem dX8_at_19 : decode cX8_at 19 = .ok (.goto 4, 3) := by decide +kernel
theorem dX8_at_22 : decode cX8_at 22 = .ok (.iconst 0, 1) := by decide +kernel
theorem dX8_at_23 : decode cX8_at 23 = .ok (.ireturn, 1) := by decide +kernel
theorem dX1_cost_0 : decode cX1_cost 0 = .ok (.aload_n 0, 1) := by decide +kernel
theorem dX1_cost_1 : decode cX1_cost 1 = .ok (.getfield 21, 3) := by decide +kernel
theorem dX1_cost_4 : decode cX1_cost 4 = .ok (.bipush 16, 2) := by decide +kernel
theorem dX1_cost_6 : decode cX1_cost 6 = .ok (.imul, 1) := by decide +kernel
theorem dX1_cost_7 : decode cX1_cost 7 = .ok (.iconst 1, 1) := by decide +kernel
theorem dX1_cost_8 : decode cX1_cost 8 = .ok (.iadd, 1) := by decide +kernel
theorem dX1_cost_9 : decode cX1_cost 9 = .ok (.ireturn, 1) := by decide +kernel
theorem dX1_across_0 : decode cX1_across 0 = .ok (.iload_n 1, 1) := by decide +kernel
theorem dX1_across_1 : decode cX1_across 1 = .ok (.aload_n 0, 1) := by decide +kernel
theorem dX1_across_2 : decode cX1_across 2 = .ok (.getfield 15, 3) := by decide +kernel
theorem dX1_across_5 : decode cX1_across 5 = .ok (.if_icmp .ne 8, 3) := by decide +kernel
theorem dX1_across_8 : decode cX1_across 8 = .ok (.aload_n 0, 1) := by decide +kernel
theorem dX1_across_9 : decode cX1_across 9 = .ok (.getfield 18, 3) := by decide +kernel
theorem dX1_across_12 : decode cX1_across 12 = .ok (.ireturn, 1) := by decide +kernel
theorem dX1_across_13 : decode cX1_across 13 = .ok (.iload_n 1, 1) := by decide +kernel
theorem dX1_across_14 : decode cX1_across 14 = .ok (.aload_n 0, 1) := by decide +kernel
theorem dX1_across_15 : decode cX1_across 15 = .ok (.getfield 18, 3) := by decide +kernel
theorem dX1_across_18 : decode cX1_across 18 = .ok (.if_icmp .ne 10, 3) := by decide +kernel
theorem dX1_across_21 : decode cX1_across 21 = .ok (.aload_n 0, 1) := by decide +kernel
theorem dX1_across_22 : decode cX1_across 22 = .ok (.getfield 15, 3) := by decide +kernel
theorem dX1_across_25 : decode cX1_across 25 = .ok (.goto 4, 3) := by decide +kernel
theorem dX1_across_28 : decode cX1_across 28 = .ok (.iconst (-1), 1) := by decide +kernel
theorem dX1_across_29 : decode cX1_across 29 = .ok (.ireturn, 1) := by decide +kernel
theorem dX4_lowerCost_0 : decode cX4_lowerCost 0 = .ok (.aload_n 0, 1) := by decide +kernel
theorem dX4_lowerCost_1 : decode cX4_lowerCost 1 = .ok (.getfield 29, 3) := by decide +kernel
theorem dX4_lowerCost_4 : decode cX4_lowerCost 4 = .ok (.iload_n 1, 1) := by decide +kernel
theorem dX4_lowerCost_5 : decode cX4_lowerCost 5 = .ok (.aload_n 0, 1) := by decide +kernel
theorem dX4_lowerCost_6 : decode cX4_lowerCost 6 = .ok (.getfield 29, 3) := by decide +kernel
theorem dX4_lowerCost_9 : decode cX4_lowerCost 9 = .ok (.iload_n 1, 1) := by decide +kernel
theorem dX4_lowerCost_10 : decode cX4_lowerCost 10 = .ok (.invokevirtual 66, 3) := by decide +kernel
theorem dX4_lowerCost_13 : decode cX4_lowerCost 13 = .ok (.aload_n 2, 1) := by decide +kernel
theorem dX4_lowerCost_14 : decode cX4_lowerCost 14 = .ok (.invokevirtual 91, 3) := by decide +kernel
theorem dX4_lowerCost_17 : decode cX4_lowerCost 17 = .ok (.aload_n 0, 1) := by decide +kernel
theorem dX4_lowerCost_18 : decode cX4_lowerCost 18 = .ok (.getfield 29, 3) := by decide +kernel
theorem dX4_lowerCost_21 : decode cX4_lowerCost 21 = .ok (.aload_n 2, 1) := by decide +kernel
theorem dX4_lowerCost_22 : decode cX4_lowerCost 22 = .ok (.iload_n 1, 1) := by decide +kernel
theorem dX4_lowerCost_23 : decode cX4_lowerCost 23 = .ok (.invokevirtual 94, 3) := by decide +kernel
theorem dX4_lowerCost_26 : decode cX4_lowerCost 26 = .ok (.invokevirtual 66, 3) := by decide +kernel
theorem dX4_lowerCost_29 : decode cX4_lowerCost 29 = .ok (.iadd, 1) := by decide +kernel
theorem dX4_lowerCost_30 : decode cX4_lowerCost 30 = .ok (.invokestatic 97, 3) := by decide +kernel
theorem dX4_lowerCost_33 : decode cX4_lowerCost 33 = .ok (.invokevirtual 74, 3) := by decide +kernel
theorem dX4_lowerCost_36 : decode cX4_lowerCost 36 = .ok (.return_, 1) := by decide +kernel
theorem dX4_findCosts_0 : decode cX4_findCosts 0 = .ok (.aload_n 0, 1) := by decide +kernel
theorem dX4_findCosts_1 : decode cX4_findCosts 1 = .ok (.getfield 29, 3) := by decide +kernel
theorem dX4_findCosts_4 : decode cX4_findCosts 4 = .ok (.ldc 70, 2) := by decide +kernel
theorem dX4_findCosts_6 : decode cX4_findCosts 6 = .ok (.invokevirtual 71, 3) := by decide +kernel
theorem dX4_findCosts_9 : decode cX4_findCosts 9 = .ok (.aload_n 0, 1) := by decide +kernel
theorem dX4_findCosts_10 : decode cX4_findCosts 10 = .ok (.getfield 29, 3) := by decide +kernel
theorem dX4_findCosts_13 : decode cX4_findCosts 13 = .ok (.iload_n 1, 1) := by decide +kernel
theorem dX4_findCosts_14 : decode cX4_findCosts 14 = .ok (.iconst 0, 1) := by decide +kernel
theorem dX4_findCosts_15 : decode cX4_findCosts 15 = .ok (.invokevirtual 74, 3) := by decide +kernel
theorem dX4_findCosts_18 : decode cX4_findCosts 18 = .ok (.iconst 1, 1) := by decide +kernel
theorem dX4_findCosts_19 : decode cX4_findCosts 19 = .ok (.istore_n 2, 1) := by decide +kernel
theorem dX4_findCosts_20 : decode cX4_findCosts 20 = .ok (.iload_n 2, 1) := by decide +kernel
theorem dX4_findCosts_21 : decode cX4_findCosts 21 = .ok (.bipush 8, 2) := by decide +kernel
theorem dX4_findCosts_23 : decode cX4_findCosts 23 = .ok (.if_icmp .ge 71, 3) := by decide +kernel
theorem dX4_findCosts_26 : decode cX4_findCosts 26 = .ok (.iconst 0, 1) := by decide +kernel
theorem dX4_findCosts_27 : decode cX4_findCosts 27 = .ok (.istore_n 3, 1) := by decide +kernel
theorem dX4_findCosts_28 : decode cX4_findCosts 28 = .ok (.iload_n 3, 1) := by decide +kernel
theorem dX4_findCosts_29 : decode cX4_findCosts 29 = .ok (.aload_n 0, 1) := by decide +kernel
theorem dX4_findCosts_30 : decode cX4_findCosts 30 = .ok (.getfield 12, 3) := by decide +kernel
theorem dX4_findCosts_33 : decode cX4_findCosts 33 = .ok (.invokevirtual 35, 3) := by decide +kernel
theorem dX4_findCosts_36 : decode cX4_findCosts 36 = .ok (.if_icmp .ge 52, 3) := by decide +kernel
theorem dX4_findCosts_39 : decode cX4_findCosts 39 = .ok (.aload_n 0, 1) := by decide +kernel
theorem dX4_findCosts_40 : decode cX4_findCosts 40 = .ok (.getfield 12, 3) := by decide +kernel
theorem dX4_findCosts_43 : decode cX4_findCosts 43 = .ok (.iload_n 3, 1) := by decide +kernel
theorem dX4_findCosts_44 : decode cX4_findCosts 44 = .ok (.invokevirtual 51, 3) := by decide +kernel
theorem dX4_findCosts_47 : decode cX4_findCosts 47 = .ok (.checkcast 33, 3) := by decide +kernel
theorem dX4_findCosts_50 : decode cX4_findCosts 50 = .ok (.astore 4, 2) := by decide +kernel
theorem dX4_findCosts_52 : decode cX4_findCosts 52 = .ok (.aload 4, 2) := by decide +kernel
theorem dX4_findCosts_54 : decode cX4_findCosts 54 = .ok (.getfield 78, 3) := by decide +kernel
theorem dX4_findCosts_57 : decode cX4_findCosts 57 = .ok (.ifCond .le 25, 3) := by decide +kernel
theorem dX4_findCosts_60 : decode cX4_findCosts 60 = .ok (.aload_n 0, 1) := by decide +kernel
theorem dX4_findCosts_61 : decode cX4_findCosts 61 = .ok (.aload 4, 2) := by decide +kernel
theorem dX4_findCosts_63 : decode cX4_findCosts 63 = .ok (.getfield 81, 3) := by decide +kernel
theorem dX4_findCosts_66 : decode cX4_findCosts 66 = .ok (.aload 4, 2) := by decide +kernel
theorem dX4_findCosts_68 : decode cX4_findCosts 68 = .ok (.invokevirtual 84, 3) := by decide +kernel
theorem dX4_findCosts_71 : decode cX4_findCosts 71 = .ok (.aload_n 0, 1) := by decide +kernel
theorem dX4_findCosts_72 : decode cX4_findCosts 72 = .ok (.aload 4, 2) := by decide +kernel
theorem dX4_findCosts_74 : decode cX4_findCosts 74 = .ok (.getfield 88, 3) := by decide +kernel
theorem dX4_findCosts_77 : decode cX4_findCosts 77 = .ok (.aload 4, 2) := by decide +kernel
theorem dX4_findCosts_79 : decode cX4_findCosts 79 = .ok (.invokevirtual 84, 3) := by decide +kernel
theorem dX4_findCosts_82 : decode cX4_findCosts 82 = .ok (.iinc 3 1, 3) := by decide +kernel
theorem dX4_findCosts_85 : decode cX4_findCosts 85 = .ok (.goto (-57), 3) := by decide +kernel
theorem dX4_findCosts_88 : decode cX4_findCosts 88 = .ok (.iinc 2 1, 3) := by decide +kernel
theorem dX4_findCosts_91 : decode cX4_findCosts 91 = .ok (.goto (-71), 3) := by decide +kernel
theorem dX4_findCosts_94 : decode cX4_findCosts 94 = .ok (.return_, 1) := by decide +kernel
theorem dX4_hasWay_0 : decode cX4_hasWay 0 = .ok (.aload_n 0, 1) := by decide +kernel
theorem dX4_hasWay_1 : decode cX4_hasWay 1 = .ok (.iload_n 2, 1) := by decide +kernel
theorem dX4_hasWay_2 : decode cX4_hasWay 2 = .ok (.invokevirtual 63, 3) := by decide +kernel
theorem dX4_hasWay_5 : decode cX4_hasWay 5 = .ok (.aload_n 0, 1) := by decide +kernel
theorem dX4_hasWay_6 : decode cX4_hasWay 6 = .ok (.getfield 29, 3) := by decide +kernel
theorem dX4_hasWay_9 : decode cX4_hasWay 9 = .ok (.iload_n 1, 1) := by decide +kernel
theorem dX4_hasWay_10 : decode cX4_hasWay 10 = .ok (.invokevirtual 66, 3) := by decide +kernel
theorem dX4_hasWay_13 : decode cX4_hasWay 13 = .ok (.ldc 70, 2) := by decide +kernel
theorem dX4_hasWay_15 : decode cX4_hasWay 15 = .ok (.if_icmp .ge 7, 3) := by decide +kernel
theorem dX4_hasWay_18 : decode cX4_hasWay 18 = .ok (.iconst 1, 1) := by decide +kernel
theorem dX4_hasWay_19 : decode cX4_hasWay 19 = .ok (.goto 4, 3) := by decide +kernel
theorem dX4_hasWay_22 : decode cX4_hasWay 22 = .ok (.iconst 0, 1) := by decide +kernel
theorem dX4_hasWay_23 : decode cX4_hasWay 23 = .ok (.ireturn, 1) := by decide +kernel
theorem dX10_init_0 : decode cX10_init 0 = .ok (.aload_n 0, 1) := by decide +kernel
theorem dX10_init_1 : decode cX10_init 1 = .ok (.invokespecial 3, 3) := by decide +kernel
theorem dX10_init_4 : decode cX10_init 4 = .ok (.aload_n 0, 1) := by decide +kernel
theorem dX10_init_5 : decode cX10_init 5 = .ok (.aload_n 1, 1) := by decide +kernel
theorem dX10_init_6 : decode cX10_init 6 = .ok (.putfield 9, 3) := by decide +kernel
theorem dX10_init_9 : decode cX10_init 9 = .ok (.aload_n 0, 1) := by decide +kernel
theorem dX10_init_10 : decode cX10_init 10 = .ok (.iload_n 2, 1) := by decide +kernel
theorem dX10_init_11 : decode cX10_init 11 = .ok (.putfield 15, 3) := by decide +kernel
theorem dX10_init_14 : decode cX10_init 14 = .ok (.aload_n 0, 1) := by decide +kernel
theorem dX10_init_15 : decode cX10_init 15 = .ok (.aload_n 3, 1) := by decide +kernel
theorem dX10_init_16 : decode cX10_init 16 = .ok (.putfield 19, 3) := by decide +kernel
theorem dX10_init_19 : decode cX10_init 19 = .ok (.aload_n 0, 1) := by decide +kernel
theorem dX10_init_20 : decode cX10_init 20 = .ok (.iload 4, 2) := by decide +kernel
theorem dX10_init_22 : decode cX10_init 22 = .ok (.putfield 22, 3) := by decide +kernel
theorem dX10_init_25 : decode cX10_init 25 = .ok (.aload_n 0, 1) := by decide +kernel
theorem dX10_init_26 : decode cX10_init 26 = .ok (.iload 5, 2) := by decide +kernel
theorem dX10_init_28 : decode cX10_init 28 = .ok (.putfield 25, 3) := by decide +kernel
theorem dX10_init_31 : decode cX10_init 31 = .ok (.aload_n 0, 1) := by decide +kernel
theorem dX10_init_32 : decode cX10_init 32 = .ok (.new 28, 3) := by decide +kernel
theorem dX10_init_35 : decode cX10_init 35 = .ok (.dup, 1) := by decide +kernel
theorem dX10_init_36 : decode cX10_init 36 = .ok (.invokespecial 30, 3) := by decide +kernel
theorem dX10_init_39 : decode cX10_init 39 = .ok (.putfield 31, 3) := by decide +kernel
theorem dX10_init_42 : decode cX10_init 42 = .ok (.return_, 1) := by decide +kernel
theorem dX2_take_0 : decode cX2_take 0 = .ok (.aload_n 0, 1) := by decide +kernel
theorem dX2_take_1 : decode cX2_take 1 = .ok (.dup, 1) := by decide +kernel
theorem dX2_take_2 : decode cX2_take 2 = .ok (.getfield 24, 3) := by decide +kernel
theorem dX2_take_5 : decode cX2_take 5 = .ok (.iconst 1, 1) := by decide +kernel
theorem dX2_take_6 : decode cX2_take 6 = .ok (.iload_n 1, 1) := by decide +kernel
theorem dX2_take_7 : decode cX2_take 7 = .ok (.ishl, 1) := by decide +kernel
theorem dX2_take_8 : decode cX2_take 8 = .ok (.ior, 1) := by decide +kernel
theorem dX2_take_9 : decode cX2_take 9 = .ok (.putfield 24, 3) := by decide +kernel
theorem dX2_take_12 : decode cX2_take 12 = .ok (.return_, 1) := by decide +kernel
theorem dX10_putIn_0 : decode cX10_putIn 0 = .ok (.aload_n 0, 1) := by decide +kernel
theorem dX10_putIn_1 : decode cX10_putIn 1 = .ok (.getfield 9, 3) := by decide +kernel
theorem dX10_putIn_4 : decode cX10_putIn 4 = .ok (.aload_n 0, 1) := by decide +kernel
theorem dX10_putIn_5 : decode cX10_putIn 5 = .ok (.getfield 15, 3) := by decide +kernel
theorem dX10_putIn_8 : decode cX10_putIn 8 = .ok (.invokevirtual 35, 3) := by decide +kernel
theorem dX10_putIn_11 : decode cX10_putIn 11 = .ok (.aload_n 0, 1) := by decide +kernel
theorem dX10_putIn_12 : decode cX10_putIn 12 = .ok (.getfield 19, 3) := by decide +kernel
theorem dX10_putIn_15 : decode cX10_putIn 15 = .ok (.aload_n 0, 1) := by decide +kernel
theorem dX10_putIn_16 : decode cX10_putIn 16 = .ok (.getfield 22, 3) := by decide +kernel
theorem dX10_putIn_19 : decode cX10_putIn 19 = .ok (.invokevirtual 35, 3) := by decide +kernel
theorem dX10_putIn_22 : decode cX10_putIn 22 = .ok (.return_, 1) := by decide +kernel
theorem dX4_lowestOnward_0 : decode cX4_lowestOnward 0 = .ok (.iconst 0, 1) := by decide +kernel
theorem dX4_lowestOnward_1 : decode cX4_lowestOnward 1 = .ok (.istore_n 2, 1) := by decide +kernel
theorem dX4_lowestOnward_2 : decode cX4_lowestOnward 2 = .ok (.iload_n 2, 1) := by decide +kernel
theorem dX4_lowestOnward_3 : decode cX4_lowestOnward 3 = .ok (.aload_n 0, 1) := by decide +kernel
theorem dX4_lowestOnward_4 : decode cX4_lowestOnward 4 = .ok (.getfield 12, 3) := by decide +kernel
theorem dX4_lowestOnward_7 : decode cX4_lowestOnward 7 = .ok (.invokevirtual 35, 3) := by decide +kernel
theorem dX4_lowestOnward_10 : decode cX4_lowestOnward 10 = .ok (.if_icmp .ge 68, 3) := by decide +kernel
theorem dX4_lowestOnward_13 : decode cX4_lowestOnward 13 = .ok (.aload_n 0, 1) := by decide +kernel
theorem dX4_lowestOnward_14 : decode cX4_lowestOnward 14 = .ok (.getfield 12, 3) := by decide +kernel
theorem dX4_lowestOnward_17 : decode cX4_lowestOnward 17 = .ok (.iload_n 2, 1) := by decide +kernel
theorem dX4_lowestOnward_18 : decode cX4_lowestOnward 18 = .ok (.invokevirtual 51, 3) := by decide +kernel
theorem dX4_lowestOnward_21 : decode cX4_lowestOnward 21 = .ok (.checkcast 33, 3) := by decide +kernel
theorem dX4_lowestOnward_24 : decode cX4_lowestOnward 24 = .ok (.astore_n 3, 1) := by decide +kernel
theorem dX4_lowestOnward_25 : decode cX4_lowestOnward 25 = .ok (.aload_n 3, 1) := by decide +kernel
theorem dX4_lowestOnward_26 : decode cX4_lowestOnward 26 = .ok (.iload_n 1, 1) := by decide +kernel
theorem dX4_lowestOnward_27 : decode cX4_lowestOnward 27 = .ok (.invokevirtual 94, 3) := by decide +kernel
theorem dX4_lowestOnward_30 : decode cX4_lowestOnward 30 = .ok (.istore 4, 2) := by decide +kernel
theorem dX4_lowestOnward_32 : decode cX4_lowestOnward 32 = .ok (.aload_n 3, 1) := by decide +kernel
theorem dX4_lowestOnward_33 : decode cX4_lowestOnward 33 = .ok (.getfield 78, 3) := by decide +kernel
theorem dX4_lowestOnward_36 : decode cX4_lowestOnward 36 = .ok (.ifCond .le 36, 3) := by decide +kernel
theorem dX4_lowestOnward_39 : decode cX4_lowestOnward 39 = .ok (.iload 4, 2) := by decide +kernel
theorem dX4_lowestOnward_41 : decode cX4_lowestOnward 41 = .ok (.iconst (-1), 1) := by decide +kernel
theorem dX4_lowestOnward_42 : decode cX4_lowestOnward 42 = .ok (.if_icmp .eq 30, 3) := by decide +kernel
theorem dX4_lowestOnward_45 : decode cX4_lowestOnward 45 = .ok (.aload_n 3, 1) := by decide +kernel
theorem dX4_lowestOnward_46 : decode cX4_lowestOnward 46 = .ok (.invokevirtual 91, 3) := by decide +kernel
theorem dX4_lowestOnward_49 : decode cX4_lowestOnward 49 = .ok (.aload_n 0, 1) := by decide +kernel
theorem dX4_lowestOnward_50 : decode cX4_lowestOnward 50 = .ok (.getfield 29, 3) := by decide +kernel
theorem dX4_lowestOnward_53 : decode cX4_lowestOnward 53 = .ok (.iload 4, 2) := by decide +kernel
theorem dX4_lowestOnward_55 : decode cX4_lowestOnward 55 = .ok (.invokevirtual 66, 3) := by decide +kernel
theorem dX4_lowestOnward_58 : decode cX4_lowestOnward 58 = .ok (.iadd, 1) := by decide +kernel
theorem dX4_lowestOnward_59 : decode cX4_lowestOnward 59 = .ok (.aload_n 0, 1) := by decide +kernel
theorem dX4_lowestOnward_60 : decode cX4_lowestOnward 60 = .ok (.getfield 29, 3) := by decide +kernel
theorem dX4_lowestOnward_63 : decode cX4_lowestOnward 63 = .ok (.iload_n 1, 1) := by decide +kernel
theorem dX4_lowestOnward_64 : decode cX4_lowestOnward 64 = .ok (.invokevirtual 66, 3) := by decide +kernel
theorem dX4_lowestOnward_67 : decode cX4_lowestOnward 67 = .ok (.if_icmp .ne 5, 3) := by decide +kernel
theorem dX4_lowestOnward_70 : decode cX4_lowestOnward 70 = .ok (.aload_n 3, 1) := by decide +kernel
theorem dX4_lowestOnward_71 : decode cX4_lowestOnward 71 = .ok (.areturn, 1) := by decide +kernel
theorem dX4_lowestOnward_72 : decode cX4_lowestOnward 72 = .ok (.iinc 2 1, 3) := by decide +kernel
theorem dX4_lowestOnward_75 : decode cX4_lowestOnward 75 = .ok (.goto (-73), 3) := by decide +kernel
theorem dX4_lowestOnward_78 : decode cX4_lowestOnward 78 = .ok (.aconst_null, 1) := by decide +kernel
theorem dX4_lowestOnward_79 : decode cX4_lowestOnward 79 = .ok (.areturn, 1) := by decide +kernel
theorem dX10_goBy_0 : decode cX10_goBy 0 = .ok (.aload_n 0, 1) := by decide +kernel
theorem dX10_goBy_1 : decode cX10_goBy 1 = .ok (.getfield 31, 3) := by decide +kernel
theorem dX10_goBy_4 : decode cX10_goBy 4 = .ok (.aload_n 1, 1) := by decide +kernel
theorem dX10_goBy_5 : decode cX10_goBy 5 = .ok (.invokevirtual 41, 3) := by decide +kernel
theorem dX10_goBy_8 : decode cX10_goBy 8 = .ok (.pop, 1) := by decide +kernel
theorem dX10_goBy_9 : decode cX10_goBy 9 = .ok (.aload_n 1, 1) := by decide +kernel
theorem dX10_goBy_10 : decode cX10_goBy 10 = .ok (.dup, 1) := by decide +kernel
theorem dX10_goBy_11 : decode cX10_goBy 11 = .ok (.getfield 45, 3) := by decide +kernel
theorem dX10_goBy_14 : decode cX10_goBy 14 = .ok (.iconst 1, 1) := by decide +kernel
theorem dX10_goBy_15 : decode cX10_goBy 15 = .ok (.isub, 1) := by decide +kernel
theorem dX10_goBy_16 : decode cX10_goBy 16 = .ok (.putfield 45, 3) := by decide +kernel
theorem dX10_goBy_19 : decode cX10_goBy 19 = .ok (.aload_n 0, 1) := by decide +kernel
theorem dX10_goBy_20 : decode cX10_goBy 20 = .ok (.dup, 1) := by decide +kernel
theorem dX10_goBy_21 : decode cX10_goBy 21 = .ok (.getfield 50, 3) := by decide +kernel
theorem dX10_goBy_24 : decode cX10_goBy 24 = .ok (.aload_n 1, 1) := by decide +kernel
theorem dX10_goBy_25 : decode cX10_goBy 25 = .ok (.getfield 53, 3) := by decide +kernel
theorem dX10_goBy_28 : decode cX10_goBy 28 = .ok (.iadd, 1) := by decide +kernel
theorem dX10_goBy_29 : decode cX10_goBy 29 = .ok (.putfield 50, 3) := by decide +kernel
theorem dX10_goBy_32 : decode cX10_goBy 32 = .ok (.return_, 1) := by decide +kernel
theorem dX4_layAlong_0 : decode cX4_layAlong 0 = .ok (.aload_n 0, 1) := by decide +kernel
theorem dX4_layAlong_1 : decode cX4_layAlong 1 = .ok (.aload_n 1, 1) := by decide +kernel
theorem dX4_layAlong_2 : decode cX4_layAlong 2 = .ok (.getfield 112, 3) := by decide +kernel
theorem dX4_layAlong_5 : decode cX4_layAlong 5 = .ok (.getfield 116, 3) := by decide +kernel
theorem dX4_layAlong_8 : decode cX4_layAlong 8 = .ok (.invokevirtual 63, 3) := by decide +kernel
theorem dX4_layAlong_11 : decode cX4_layAlong 11 = .ok (.aload_n 1, 1) := by decide +kernel
theorem dX4_layAlong_12 : decode cX4_layAlong 12 = .ok (.getfield 117, 3) := by decide +kernel
theorem dX4_layAlong_15 : decode cX4_layAlong 15 = .ok (.getfield 116, 3) := by decide +kernel
theorem dX4_layAlong_18 : decode cX4_layAlong 18 = .ok (.istore_n 2, 1) := by decide +kernel
theorem dX4_layAlong_19 : decode cX4_layAlong 19 = .ok (.iconst 1, 1) := by decide +kernel
theorem dX4_layAlong_20 : decode cX4_layAlong 20 = .ok (.istore_n 3, 1) := by decide +kernel
theorem dX4_layAlong_21 : decode cX4_layAlong 21 = .ok (.iload_n 3, 1) := by decide +kernel
theorem dX4_layAlong_22 : decode cX4_layAlong 22 = .ok (.bipush 8, 2) := by decide +kernel
theorem dX4_layAlong_24 : decode cX4_layAlong 24 = .ok (.if_icmp .ge 46, 3) := by decide +kernel
theorem dX4_layAlong_27 : decode cX4_layAlong 27 = .ok (.iload_n 2, 1) := by decide +kernel
theorem dX4_layAlong_28 : decode cX4_layAlong 28 = .ok (.aload_n 1, 1) := by decide +kernel
theorem dX4_layAlong_29 : decode cX4_layAlong 29 = .ok (.getfield 112, 3) := by decide +kernel
theorem dX4_layAlong_32 : decode cX4_layAlong 32 = .ok (.getfield 116, 3) := by decide +kernel
theorem dX4_layAlong_35 : decode cX4_layAlong 35 = .ok (.if_icmp .eq 35, 3) := by decide +kernel
theorem dX4_layAlong_38 : decode cX4_layAlong 38 = .ok (.aload_n 0, 1) := by decide +kernel
theorem dX4_layAlong_39 : decode cX4_layAlong 39 = .ok (.iload_n 2, 1) := by decide +kernel
theorem dX4_layAlong_40 : decode cX4_layAlong 40 = .ok (.invokevirtual 120, 3) := by decide +kernel
theorem dX4_layAlong_43 : decode cX4_layAlong 43 = .ok (.astore 4, 2) := by decide +kernel
theorem dX4_layAlong_45 : decode cX4_layAlong 45 = .ok (.aload 4, 2) := by decide +kernel
theorem dX4_layAlong_47 : decode cX4_layAlong 47 = .ok (.ifnonnull 4, 3) := by decide +kernel
theorem dX4_layAlong_50 : decode cX4_layAlong 50 = .ok (.return_, 1) := by decide +kernel
theorem dX4_layAlong_51 : decode cX4_layAlong 51 = .ok (.aload_n 1, 1) := by decide +kernel
theorem dX4_layAlong_52 : decode cX4_layAlong 52 = .ok (.aload 4, 2) := by decide +kernel
theorem dX4_layAlong_54 : decode cX4_layAlong 54 = .ok (.invokevirtual 124, 3) := by decide +kernel
theorem dX4_layAlong_57 : decode cX4_layAlong 57 = .ok (.aload 4, 2) := by decide +kernel
theorem dX4_layAlong_59 : decode cX4_layAlong 59 = .ok (.iload_n 2, 1) := by decide +kernel
theorem dX4_layAlong_60 : decode cX4_layAlong 60 = .ok (.invokevirtual 94, 3) := by decide +kernel
theorem dX4_layAlong_63 : decode cX4_layAlong 63 = .ok (.istore_n 2, 1) := by decide +kernel
theorem dX4_layAlong_64 : decode cX4_layAlong 64 = .ok (.iinc 3 1, 3) := by decide +kernel
theorem dX4_layAlong_67 : decode cX4_layAlong 67 = .ok (.goto (-46), 3) := by decide +kernel
theorem dX4_layAlong_70 : decode cX4_layAlong 70 = .ok (.return_, 1) := by decide +kernel
theorem dX4_addWire_0 : decode cX4_addWire 0 = .ok (.aload_n 1, 1) := by decide +kernel
theorem dX4_addWire_1 : decode cX4_addWire 1 = .ok (.invokevirtual 103, 3) := by decide +kernel
theorem dX4_addWire_4 : decode cX4_addWire 4 = .ok (.aload_n 0, 1) := by decide +kernel
theorem dX4_addWire_5 : decode cX4_addWire 5 = .ok (.aload_n 1, 1) := by decide +kernel
theorem dX4_addWire_6 : decode cX4_addWire 6 = .ok (.invokevirtual 108, 3) := by decide +kernel
theorem dX4_addWire_9 : decode cX4_addWire 9 = .ok (.aload_n 0, 1) := by decide +kernel
theorem dX4_addWire_10 : decode cX4_addWire 10 = .ok (.getfield 21, 3) := by decide +kernel
theorem dX4_addWire_13 : decode cX4_addWire 13 = .ok (.aload_n 1, 1) := by decide +kernel
theorem dX4_addWire_14 : decode cX4_addWire 14 = .ok (.invokevirtual 42, 3) := by decide +kernel
theorem dX4_addWire_17 : decode cX4_addWire 17 = .ok (.pop, 1) := by decide +kernel
theorem dX4_addWire_18 : decode cX4_addWire 18 = .ok (.aload_n 0, 1) := by decide +kernel
theorem dX4_addWire_19 : decode cX4_addWire 19 = .ok (.getfield 21, 3) := by decide +kernel
theorem dX4_addWire_22 : decode cX4_addWire 22 = .ok (.invokevirtual 35, 3) := by decide +kernel
theorem dX4_addWire_25 : decode cX4_addWire 25 = .ok (.iconst 1, 1) := by decide +kernel
theorem dX4_addWire_26 : decode cX4_addWire 26 = .ok (.isub, 1) := by decide +kernel
theorem dX4_addWire_27 : decode cX4_addWire 27 = .ok (.ireturn, 1) := by decide +kernel
theorem dX11_wire_0 : decode cX11_wire 0 = .ok (.aload_n 0, 1) := by decide +kernel
theorem dX11_wire_1 : decode cX11_wire 1 = .ok (.iload_n 1, 1) := by decide +kernel
theorem dX11_wire_2 : decode cX11_wire 2 = .ok (.invokevirtual 90, 3) := by decide +kernel
theorem dX11_wire_5 : decode cX11_wire 5 = .ok (.astore 6, 2) := by decide +kernel
theorem dX11_wire_7 : decode cX11_wire 7 = .ok (.aload_n 0, 1) := by decide +kernel
theorem dX11_wire_8 : decode cX11_wire 8 = .ok (.iload_n 3, 1) := by decide +kernel
theorem dX11_wire_9 : decode cX11_wire 9 = .ok (.invokevirtual 90, 3) := by decide +kernel
theorem dX11_wire_12 : decode cX11_wire 12 = .ok (.astore 7, 2) := by decide +kernel
theorem dX11_wire_14 : decode cX11_wire 14 = .ok (.iload_n 2, 1) := by decide +kernel
theorem dX11_wire_15 : decode cX11_wire 15 = .ok (.aload 6, 2) := by decide +kernel
theorem dX11_wire_17 : decode cX11_wire 17 = .ok (.getfield 106, 3) := by decide +kernel
theorem dX11_wire_20 : decode cX11_wire 20 = .ok (.invokestatic 54, 3) := by decide +kernel
theorem dX11_wire_23 : decode cX11_wire 23 = .ok (.ifCond .eq 20, 3) := by decide +kernel
theorem dX11_wire_26 : decode cX11_wire 26 = .ok (.iload 4, 2) := by decide +kernel
theorem dX11_wire_28 : decode cX11_wire 28 = .ok (.aload 7, 2) := by decide +kernel
theorem dX11_wire_30 : decode cX11_wire 30 = .ok (.getfield 106, 3) := by decide +kernel
theorem dX11_wire_33 : decode cX11_wire 33 = .ok (.invokestatic 54, 3) := by decide +kernel
theorem dX11_wire_36 : decode cX11_wire 36 = .ok (.ifCond .eq 7, 3) := by decide +kernel
theorem dX11_wire_39 : decode cX11_wire 39 = .ok (.iconst 1, 1) := by decide +kernel
theorem dX11_wire_40 : decode cX11_wire 40 = .ok (.goto 4, 3) := by decide +kernel
theorem dX11_wire_43 : decode cX11_wire 43 = .ok (.iconst 0, 1) := by decide +kernel
theorem dX11_wire_44 : decode cX11_wire 44 = .ok (.invokestatic 58, 3) := by decide +kernel
theorem dX11_wire_47 : decode cX11_wire 47 = .ok (.iload_n 1, 1) := by decide +kernel
theorem dX11_wire_48 : decode cX11_wire 48 = .ok (.iload_n 3, 1) := by decide +kernel
theorem dX11_wire_49 : decode cX11_wire 49 = .ok (.if_icmp .eq 17, 3) := by decide +kernel
theorem dX11_wire_52 : decode cX11_wire 52 = .ok (.iload 5, 2) := by decide +kernel
theorem dX11_wire_54 : decode cX11_wire 54 = .ok (.bipush 8, 2) := by decide +kernel
theorem dX11_wire_56 : decode cX11_wire 56 = .ok (.invokestatic 54, 3) := by decide +kernel
theorem dX11_wire_59 : decode cX11_wire 59 = .ok (.ifCond .eq 7, 3) := by decide +kernel
theorem dX11_wire_62 : decode cX11_wire 62 = .ok (.iconst 1, 1) := by decide +kernel
theorem dX11_wire_63 : decode cX11_wire 63 = .ok (.goto 4, 3) := by decide +kernel
theorem dX11_wire_66 : decode cX11_wire 66 = .ok (.iconst 0, 1) := by decide +kernel
theorem dX11_wire_67 : decode cX11_wire 67 = .ok (.invokestatic 66, 3) := by decide +kernel
theorem dX11_wire_70 : decode cX11_wire 70 = .ok (.aload 6, 2) := by decide +kernel
theorem dX11_wire_72 : decode cX11_wire 72 = .ok (.iload_n 2, 1) := by decide +kernel
theorem dX11_wire_73 : decode cX11_wire 73 = .ok (.invokevirtual 109, 3) := by decide +kernel
theorem dX11_wire_76 : decode cX11_wire 76 = .ok (.ifCond .eq 17, 3) := by decide +kernel
theorem dX11_wire_79 : decode cX11_wire 79 = .ok (.aload 7, 2) := by decide +kernel
theorem dX11_wire_81 : decode cX11_wire 81 = .ok (.iload 4, 2) := by decide +kernel
theorem dX11_wire_83 : decode cX11_wire 83 = .ok (.invokevirtual 109, 3) := by decide +kernel
theorem dX11_wire_86 : decode cX11_wire 86 = .ok (.ifCond .eq 7, 3) := by decide +kernel
theorem dX11_wire_89 : decode cX11_wire 89 = .ok (.iconst 1, 1) := by decide +kernel
theorem dX11_wire_90 : decode cX11_wire 90 = .ok (.goto 4, 3) := by decide +kernel
theorem dX11_wire_93 : decode cX11_wire 93 = .ok (.iconst 0, 1) := by decide +kernel
theorem dX11_wire_94 : decode cX11_wire 94 = .ok (.invokestatic 76, 3) := by decide +kernel
theorem dX11_wire_97 : decode cX11_wire 97 = .ok (.aload_n 0, 1) := by decide +kernel
theorem dX11_wire_98 : decode cX11_wire 98 = .ok (.getfield 10, 3) := by decide +kernel
theorem dX11_wire_101 : decode cX11_wire 101 = .ok (.getfield 113, 3) := by decide +kernel
theorem dX11_wire_104 : decode cX11_wire 104 = .ok (.invokevirtual 72, 3) := by decide +kernel
theorem dX11_wire_107 : decode cX11_wire 107 = .ok (.bipush 24, 2) := by decide +kernel
theorem dX11_wire_109 : decode cX11_wire 109 = .ok (.if_icmp .ge 27, 3) := by decide +kernel
theorem dX11_wire_112 : decode cX11_wire 112 = .ok (.aload_n 0, 1) := by decide +kernel
theorem dX11_wire_113 : decode cX11_wire 113 = .ok (.getfield 10, 3) := by decide +kernel
theorem dX11_wire_116 : decode cX11_wire 116 = .ok (.aload 6, 2) := by decide +kernel
theorem dX11_wire_118 : decode cX11_wire 118 = .ok (.getfield 116, 3) := by decide +kernel
theorem dX11_wire_121 : decode cX11_wire 121 = .ok (.aload 7, 2) := by decide +kernel
theorem dX11_wire_123 : decode cX11_wire 123 = .ok (.getfield 116, 3) := by decide +kernel
theorem dX11_wire_126 : decode cX11_wire 126 = .ok (.invokevirtual 119, 3) := by decide +kernel
theorem dX11_wire_129 : decode cX11_wire 129 = .ok (.ifCond .eq 7, 3) := by decide +kernel
theorem dX11_wire_132 : decode cX11_wire 132 = .ok (.iconst 1, 1) := by decide +kernel
theorem dX11_wire_133 : decode cX11_wire 133 = .ok (.goto 4, 3) := by decide +kernel
theorem dX11_wire_136 : decode cX11_wire 136 = .ok (.iconst 0, 1) := by decide +kernel
theorem dX11_wire_137 : decode cX11_wire 137 = .ok (.invokestatic 76, 3) := by decide +kernel
theorem dX11_wire_140 : decode cX11_wire 140 = .ok (.aload_n 0, 1) := by decide +kernel
theorem dX11_wire_141 : decode cX11_wire 141 = .ok (.getfield 10, 3) := by decide +kernel
theorem dX11_wire_144 : decode cX11_wire 144 = .ok (.new 122, 3) := by decide +kernel
theorem dX11_wire_147 : decode cX11_wire 147 = .ok (.dup, 1) := by decide +kernel
theorem dX11_wire_148 : decode cX11_wire 148 = .ok (.aload 6, 2) := by decide +kernel
theorem dX11_wire_150 : decode cX11_wire 150 = .ok (.iload_n 2, 1) := by decide +kernel
theorem dX11_wire_151 : decode cX11_wire 151 = .ok (.aload 7, 2) := by decide +kernel
theorem dX11_wire_153 : decode cX11_wire 153 = .ok (.iload 4, 2) := by decide +kernel
theorem dX11_wire_155 : decode cX11_wire 155 = .ok (.iload 5, 2) := by decide +kernel
theorem dX11_wire_157 : decode cX11_wire 157 = .ok (.invokespecial 124, 3) := by decide +kernel
theorem dX11_wire_160 : decode cX11_wire 160 = .ok (.invokevirtual 127, 3) := by decide +kernel
theorem dX11_wire_163 : decode cX11_wire 163 = .ok (.ireturn, 1) := by decide +kernel
theorem dX11_wireAt_0 : decode cX11_wireAt 0 = .ok (.iload_n 1, 1) := by decide +kernel
theorem dX11_wireAt_1 : decode cX11_wireAt 1 = .ok (.aload_n 0, 1) := by decide +kernel
theorem dX11_wireAt_2 : decode cX11_wireAt 2 = .ok (.getfield 10, 3) := by decide +kernel
theorem dX11_wireAt_5 : decode cX11_wireAt 5 = .ok (.getfield 113, 3) := by decide +kernel
theorem dX11_wireAt_8 : decode cX11_wireAt 8 = .ok (.invokevirtual 72, 3) := by decide +kernel
theorem dX11_wireAt_11 : decode cX11_wireAt 11 = .ok (.invokestatic 54, 3) := by decide +kernel
theorem dX11_wireAt_14 : decode cX11_wireAt 14 = .ok (.ifCond .ne 11, 3) := by decide +kernel
theorem dX11_wireAt_17 : decode cX11_wireAt 17 = .ok (.new 299, 3) := by decide +kernel
theorem dX11_wireAt_20 : decode cX11_wireAt 20 = .ok (.dup, 1) := by decide +kernel
theorem dX11_wireAt_21 : decode cX11_wireAt 21 = .ok (.invokespecial 301, 3) := by decide +kernel
theorem dX11_wireAt_24 : decode cX11_wireAt 24 = .ok (.athrow, 1) := by decide +kernel
theorem dX11_wireAt_25 : decode cX11_wireAt 25 = .ok (.aload_n 0, 1) := by decide +kernel
theorem dX11_wireAt_26 : decode cX11_wireAt 26 = .ok (.getfield 10, 3) := by decide +kernel
theorem dX11_wireAt_29 : decode cX11_wireAt 29 = .ok (.getfield 113, 3) := by decide +kernel
theorem dX11_wireAt_32 : decode cX11_wireAt 32 = .ok (.iload_n 1, 1) := by decide +kernel
theorem dX11_wireAt_33 : decode cX11_wireAt 33 = .ok (.invokevirtual 292, 3) := by decide +kernel
theorem dX11_wireAt_36 : decode cX11_wireAt 36 = .ok (.checkcast 122, 3) := by decide +kernel
theorem dX11_wireAt_39 : decode cX11_wireAt 39 = .ok (.areturn, 1) := by decide +kernel
theorem dX2_release_0 : decode cX2_release 0 = .ok (.aload_n 0, 1) := by decide +kernel
theorem dX2_release_1 : decode cX2_release 1 = .ok (.dup, 1) := by decide +kernel
theorem dX2_release_2 : decode cX2_release 2 = .ok (.getfield 24, 3) := by decide +kernel
theorem dX2_release_5 : decode cX2_release 5 = .ok (.iconst 1, 1) := by decide +kernel
theorem dX2_release_6 : decode cX2_release 6 = .ok (.iload_n 1, 1) := by decide +kernel
theorem dX2_release_7 : decode cX2_release 7 = .ok (.ishl, 1) := by decide +kernel
theorem dX2_release_8 : decode cX2_release 8 = .ok (.iconst (-1), 1) := by decide +kernel
theorem dX2_release_9 : decode cX2_release 9 = .ok (.ixor, 1) := by decide +kernel
theorem dX2_release_10 : decode cX2_release 10 = .ok (.iand, 1) := by decide +kernel
theorem dX2_release_11 : decode cX2_release 11 = .ok (.putfield 24, 3) := by decide +kernel
theorem dX2_release_14 : decode cX2_release 14 = .ok (.return_, 1) := by decide +kernel
theorem dX10_takeOut_0 : decode cX10_takeOut 0 = .ok (.aload_n 0, 1) := by decide +kernel
theorem dX10_takeOut_1 : decode cX10_takeOut 1 = .ok (.iconst 1, 1) := by decide +kernel
theorem dX10_takeOut_2 : decode cX10_takeOut 2 = .ok (.putfield 54, 3) := by decide +kernel
theorem dX10_takeOut_5 : decode cX10_takeOut 5 = .ok (.aload_n 0, 1) := by decide +kernel
theorem dX10_takeOut_6 : decode cX10_takeOut 6 = .ok (.getfield 9, 3) := by decide +kernel
theorem dX10_takeOut_9 : decode cX10_takeOut 9 = .ok (.aload_n 0, 1) := by decide +kernel
theorem dX10_takeOut_10 : decode cX10_takeOut 10 = .ok (.getfield 15, 3) := by decide +kernel
theorem dX10_takeOut_13 : decode cX10_takeOut 13 = .ok (.invokevirtual 58, 3) := by decide +kernel
theorem dX10_takeOut_16 : decode cX10_takeOut 16 = .ok (.aload_n 0, 1) := by decide +kernel
theorem dX10_takeOut_17 : decode cX10_takeOut 17 = .ok (.getfield 19, 3) := by decide +kernel
theorem dX10_takeOut_20 : decode cX10_takeOut 20 = .ok (.aload_n 0, 1) := by decide +kernel
theorem dX10_takeOut_21 : decode cX10_takeOut 21 = .ok (.getfield 22, 3) := by decide +kernel
theorem dX10_takeOut_24 : decode cX10_takeOut 24 = .ok (.invokevirtual 58, 3) := by decide +kernel
theorem dX10_takeOut_27 : decode cX10_takeOut 27 = .ok (.iconst 0, 1) := by decide +kernel
theorem dX10_takeOut_28 : decode cX10_takeOut 28 = .ok (.istore_n 1, 1) := by decide +kernel
theorem dX10_takeOut_29 : decode cX10_takeOut 29 = .ok (.iload_n 1, 1) := by decide +kernel
theorem dX10_takeOut_30 : decode cX10_takeOut 30 = .ok (.aload_n 0, 1) := by decide +kernel
theorem dX10_takeOut_31 : decode cX10_takeOut 31 = .ok (.getfield 31, 3) := by decide +kernel
theorem dX10_takeOut_34 : decode cX10_takeOut 34 = .ok (.invokevirtual 61, 3) := by decide +kernel
theorem dX10_takeOut_37 : decode cX10_takeOut 37 = .ok (.if_icmp .ge 29, 3) := by decide +kernel
theorem dX10_takeOut_40 : decode cX10_takeOut 40 = .ok (.aload_n 0, 1) := by decide +kernel
theorem dX10_takeOut_41 : decode cX10_takeOut 41 = .ok (.getfield 31, 3) := by decide +kernel
theorem dX10_takeOut_44 : decode cX10_takeOut 44 = .ok (.iload_n 1, 1) := by decide +kernel
theorem dX10_takeOut_45 : decode cX10_takeOut 45 = .ok (.invokevirtual 65, 3) := by decide +kernel
theorem dX10_takeOut_48 : decode cX10_takeOut 48 = .ok (.checkcast 46, 3) := by decide +kernel
theorem dX10_takeOut_51 : decode cX10_takeOut 51 = .ok (.dup, 1) := by decide +kernel
theorem dX10_takeOut_52 : decode cX10_takeOut 52 = .ok (.getfield 45, 3) := by decide +kernel
theorem dX10_takeOut_55 : decode cX10_takeOut 55 = .ok (.iconst 1, 1) := by decide +kernel
theorem dX10_takeOut_56 : decode cX10_takeOut 56 = .ok (.iadd, 1) := by decide +kernel
theorem dX10_takeOut_57 : decode cX10_takeOut 57 = .ok (.putfield 45, 3) := by decide +kernel
theorem dX10_takeOut_60 : decode cX10_takeOut 60 = .ok (.iinc 1 1, 3) := by decide +kernel
theorem dX10_takeOut_63 : decode cX10_takeOut 63 = .ok (.goto (-34), 3) := by decide +kernel
theorem dX10_takeOut_66 : decode cX10_takeOut 66 = .ok (.return_, 1) := by decide +kernel
theorem dX11_pull_0 : decode cX11_pull 0 = .ok (.aload_n 0, 1) := by decide +kernel
theorem dX11_pull_1 : decode cX11_pull 1 = .ok (.iload_n 1, 1) := by decide +kernel
theorem dX11_pull_2 : decode cX11_pull 2 = .ok (.invokevirtual 131, 3) := by decide +kernel
theorem dX11_pull_5 : decode cX11_pull 5 = .ok (.astore_n 2, 1) := by decide +kernel
theorem dX11_pull_6 : decode cX11_pull 6 = .ok (.aload_n 2, 1) := by decide +kernel
theorem dX11_pull_7 : decode cX11_pull 7 = .ok (.getfield 135, 3) := by decide +kernel
theorem dX11_pull_10 : decode cX11_pull 10 = .ok (.ifCond .ne 7, 3) := by decide +kernel
theorem dX11_pull_13 : decode cX11_pull 13 = .ok (.iconst 1, 1) := by decide +kernel
theorem dX11_pull_14 : decode cX11_pull 14 = .ok (.goto 4, 3) := by decide +kernel
theorem dX11_pull_17 : decode cX11_pull 17 = .ok (.iconst 0, 1) := by decide +kernel
theorem dX11_pull_18 : decode cX11_pull 18 = .ok (.invokestatic 76, 3) := by decide +kernel
theorem dX11_pull_21 : decode cX11_pull 21 = .ok (.aload_n 2, 1) := by decide +kernel
theorem dX11_pull_22 : decode cX11_pull 22 = .ok (.invokevirtual 139, 3) := by decide +kernel
theorem dX11_pull_25 : decode cX11_pull 25 = .ok (.aload_n 2, 1) := by decide +kernel
theorem dX11_pull_26 : decode cX11_pull 26 = .ok (.getfield 142, 3) := by decide +kernel
theorem dX11_pull_29 : decode cX11_pull 29 = .ok (.ireturn, 1) := by decide +kernel
theorem dX10_bundleAt_0 : decode cX10_bundleAt 0 = .ok (.iload_n 1, 1) := by decide +kernel
theorem dX10_bundleAt_1 : decode cX10_bundleAt 1 = .ok (.ifCond .lt 31, 3) := by decide +kernel
theorem dX10_bundleAt_4 : decode cX10_bundleAt 4 = .ok (.iload_n 1, 1) := by decide +kernel
theorem dX10_bundleAt_5 : decode cX10_bundleAt 5 = .ok (.aload_n 0, 1) := by decide +kernel
theorem dX10_bundleAt_6 : decode cX10_bundleAt 6 = .ok (.getfield 31, 3) := by decide +kernel
theorem dX10_bundleAt_9 : decode cX10_bundleAt 9 = .ok (.invokevirtual 61, 3) := by decide +kernel
theorem dX10_bundleAt_12 : decode cX10_bundleAt 12 = .ok (.if_icmp .ge 20, 3) := by decide +kernel
theorem dX10_bundleAt_15 : decode cX10_bundleAt 15 = .ok (.aload_n 0, 1) := by decide +kernel
theorem dX10_bundleAt_16 : decode cX10_bundleAt 16 = .ok (.getfield 31, 3) := by decide +kernel
theorem dX10_bundleAt_19 : decode cX10_bundleAt 19 = .ok (.iload_n 1, 1) := by decide +kernel
theorem dX10_bundleAt_20 : decode cX10_bundleAt 20 = .ok (.invokevirtual 65, 3) := by decide +kernel
theorem dX10_bundleAt_23 : decode cX10_bundleAt 23 = .ok (.checkcast 46, 3) := by decide +kernel
theorem dX10_bundleAt_26 : decode cX10_bundleAt 26 = .ok (.getfield 69, 3) := by decide +kernel
theorem dX10_bundleAt_29 : decode cX10_bundleAt 29 = .ok (.goto 4, 3) := by decide +kernel
theorem dX10_bundleAt_32 : decode cX10_bundleAt 32 = .ok (.iconst (-1), 1) := by decide +kernel
theorem dX10_bundleAt_33 : decode cX10_bundleAt 33 = .ok (.ireturn, 1) := by decide +kernel
theorem dX11_ofWire_0 : decode cX11_ofWire 0 = .ok (.aload_n 0, 1) := by decide +kernel
theorem dX11_ofWire_1 : decode cX11_ofWire 1 = .ok (.iload_n 1, 1) := by decide +kernel
theorem dX11_ofWire_2 : decode cX11_ofWire 2 = .ok (.invokevirtual 131, 3) := by decide +kernel
theorem dX11_ofWire_5 : decode cX11_ofWire 5 = .ok (.astore_n 3, 1) := by decide +kernel
theorem dX11_ofWire_6 : decode cX11_ofWire 6 = .ok (.iload_n 2, 1) := by decide +kernel
theorem dX11_ofWire_7 : decode cX11_ofWire 7 = .ok (.iconst (-1), 1) := by decide +kernel
theorem dX11_ofWire_8 : decode cX11_ofWire 8 = .ok (.if_icmp .lt 7, 3) := by decide +kernel
theorem dX11_ofWire_11 : decode cX11_ofWire 11 = .ok (.iconst 1, 1) := by decide +kernel
theorem dX11_ofWire_12 : decode cX11_ofWire 12 = .ok (.goto 4, 3) := by decide +kernel
theorem dX11_ofWire_15 : decode cX11_ofWire 15 = .ok (.iconst 0, 1) := by decide +kernel
theorem dX11_ofWire_16 : decode cX11_ofWire 16 = .ok (.invokestatic 58, 3) := by decide +kernel
theorem dX11_ofWire_19 : decode cX11_ofWire 19 = .ok (.iload_n 2, 1) := by decide +kernel
theorem dX11_ofWire_20 : decode cX11_ofWire 20 = .ok (.iconst (-1), 1) := by decide +kernel
theorem dX11_ofWire_21 : decode cX11_ofWire 21 = .ok (.if_icmp .ne 19, 3) := by decide +kernel
theorem dX11_ofWire_24 : decode cX11_ofWire 24 = .ok (.aload_n 3, 1) := by decide +kernel
theorem dX11_ofWire_25 : decode cX11_ofWire 25 = .ok (.getfield 135, 3) := by decide +kernel
theorem dX11_ofWire_28 : decode cX11_ofWire 28 = .ok (.ifCond .eq 7, 3) := by decide +kernel
theorem dX11_ofWire_31 : decode cX11_ofWire 31 = .ok (.iconst 0, 1) := by decide +kernel
theorem dX11_ofWire_32 : decode cX11_ofWire 32 = .ok (.goto 7, 3) := by decide +kernel
theorem dX11_ofWire_35 : decode cX11_ofWire 35 = .ok (.aload_n 3, 1) := by decide +kernel
theorem dX11_ofWire_36 : decode cX11_ofWire 36 = .ok (.getfield 142, 3) := by decide +kernel
theorem dX11_ofWire_39 : decode cX11_ofWire 39 = .ok (.ireturn, 1) := by decide +kernel
theorem dX11_ofWire_40 : decode cX11_ofWire 40 = .ok (.aload_n 3, 1) := by decide +kernel
theorem dX11_ofWire_41 : decode cX11_ofWire 41 = .ok (.getfield 135, 3) := by decide +kernel
theorem dX11_ofWire_44 : decode cX11_ofWire 44 = .ok (.ifCond .eq 7, 3) := by decide +kernel
theorem dX11_ofWire_47 : decode cX11_ofWire 47 = .ok (.iconst (-1), 1) := by decide +kernel
theorem dX11_ofWire_48 : decode cX11_ofWire 48 = .ok (.goto 8, 3) := by decide +kernel
theorem dX11_ofWire_51 : decode cX11_ofWire 51 = .ok (.aload_n 3, 1) := by decide +kernel
theorem dX11_ofWire_52 : decode cX11_ofWire 52 = .ok (.iload_n 2, 1) := by decide +kernel
theorem dX11_ofWire_53 : decode cX11_ofWire 53 = .ok (.invokevirtual 145, 3) := by decide +kernel
theorem dX11_ofWire_56 : decode cX11_ofWire 56 = .ok (.ireturn, 1) := by decide +kernel
theorem dX5_add_0 : decode cX5_add 0 = .ok (.aload_n 0, 1) := by decide +kernel
theorem dX5_add_1 : decode cX5_add 1 = .ok (.getfield 14, 3) := by decide +kernel
theorem dX5_add_4 : decode cX5_add 4 = .ok (.aload_n 0, 1) := by decide +kernel
theorem dX5_add_5 : decode cX5_add 5 = .ok (.getfield 29, 3) := by decide +kernel
theorem dX5_add_8 : decode cX5_add 8 = .ok (.iload_n 1, 1) := by decide +kernel
theorem dX5_add_9 : decode cX5_add 9 = .ok (.invokevirtual 33, 3) := by decide +kernel
theorem dX5_add_12 : decode cX5_add 12 = .ok (.aload_n 0, 1) := by decide +kernel
theorem dX5_add_13 : decode cX5_add 13 = .ok (.getfield 20, 3) := by decide +kernel
theorem dX5_add_16 : decode cX5_add 16 = .ok (.aload_n 0, 1) := by decide +kernel
theorem dX5_add_17 : decode cX5_add 17 = .ok (.getfield 29, 3) := by decide +kernel
theorem dX5_add_20 : decode cX5_add 20 = .ok (.iload_n 2, 1) := by decide +kernel
theorem dX5_add_21 : decode cX5_add 21 = .ok (.invokevirtual 33, 3) := by decide +kernel
theorem dX5_add_24 : decode cX5_add 24 = .ok (.aload_n 0, 1) := by decide +kernel
theorem dX5_add_25 : decode cX5_add 25 = .ok (.dup, 1) := by decide +kernel
theorem dX5_add_26 : decode cX5_add 26 = .ok (.getfield 29, 3) := by decide +kernel
theorem dX5_add_29 : decode cX5_add 29 = .ok (.iconst 1, 1) := by decide +kernel
theorem dX5_add_30 : decode cX5_add 30 = .ok (.iadd, 1) := by decide +kernel
theorem dX5_add_31 : decode cX5_add 31 = .ok (.putfield 29, 3) := by decide +kernel
theorem dX5_add_34 : decode cX5_add 34 = .ok (.aload_n 0, 1) := by decide +kernel
theorem dX5_add_35 : decode cX5_add 35 = .ok (.getfield 29, 3) := by decide +kernel
theorem dX5_add_38 : decode cX5_add 38 = .ok (.iconst 1, 1) := by decide +kernel
theorem dX5_add_39 : decode cX5_add 39 = .ok (.isub, 1) := by decide +kernel
theorem dX5_add_40 : decode cX5_add 40 = .ok (.ireturn, 1) := by decide +kernel
theorem dX11_order_0 : decode cX11_order 0 = .ok (.iload_n 1, 1) := by decide +kernel
theorem dX11_order_1 : decode cX11_order 1 = .ok (.iconst 0, 1) := by decide +kernel
theorem dX11_order_2 : decode cX11_order 2 = .ok (.sipush 255, 3) := by decide +kernel
theorem dX11_order_5 : decode cX11_order 5 = .ok (.invokestatic 62, 3) := by decide +kernel
theorem dX11_order_8 : decode cX11_order 8 = .ok (.ifCond .eq 17, 3) := by decide +kernel
theorem dX11_order_11 : decode cX11_order 11 = .ok (.iload_n 2, 1) := by decide +kernel
theorem dX11_order_12 : decode cX11_order 12 = .ok (.iconst 1, 1) := by decide +kernel
theorem dX11_order_13 : decode cX11_order 13 = .ok (.bipush 99, 2) := by decide +kernel
theorem dX11_order_15 : decode cX11_order 15 = .ok (.invokestatic 62, 3) := by decide +kernel
theorem dX11_order_18 : decode cX11_order 18 = .ok (.ifCond .eq 7, 3) := by decide +kernel
theorem dX11_order_21 : decode cX11_order 21 = .ok (.iconst 1, 1) := by decide +kernel
theorem dX11_order_22 : decode cX11_order 22 = .ok (.goto 4, 3) := by decide +kernel
theorem dX11_order_25 : decode cX11_order 25 = .ok (.iconst 0, 1) := by decide +kernel
theorem dX11_order_26 : decode cX11_order 26 = .ok (.invokestatic 66, 3) := by decide +kernel
theorem dX11_order_29 : decode cX11_order 29 = .ok (.aload_n 0, 1) := by decide +kernel
theorem dX11_order_30 : decode cX11_order 30 = .ok (.getfield 19, 3) := by decide +kernel
theorem dX11_order_33 : decode cX11_order 33 = .ok (.getfield 152, 3) := by decide +kernel
theorem dX11_order_36 : decode cX11_order 36 = .ok (.iconst 5, 1) := by decide +kernel
theorem dX11_order_37 : decode cX11_order 37 = .ok (.if_icmp .ge 7, 3) := by decide +kernel
theorem dX11_order_40 : decode cX11_order 40 = .ok (.iconst 1, 1) := by decide +kernel
theorem dX11_order_41 : decode cX11_order 41 = .ok (.goto 4, 3) := by decide +kernel
theorem dX11_order_44 : decode cX11_order 44 = .ok (.iconst 0, 1) := by decide +kernel
theorem dX11_order_45 : decode cX11_order 45 = .ok (.invokestatic 76, 3) := by decide +kernel
theorem dX11_order_48 : decode cX11_order 48 = .ok (.aload_n 0, 1) := by decide +kernel
theorem dX11_order_49 : decode cX11_order 49 = .ok (.getfield 19, 3) := by decide +kernel
theorem dX11_order_52 : decode cX11_order 52 = .ok (.iload_n 1, 1) := by decide +kernel
theorem dX11_order_53 : decode cX11_order 53 = .ok (.iload_n 2, 1) := by decide +kernel
theorem dX11_order_54 : decode cX11_order 54 = .ok (.invokevirtual 155, 3) := by decide +kernel
theorem dX11_order_57 : decode cX11_order 57 = .ok (.ireturn, 1) := by decide +kernel
theorem dJ9_floorDiv_7cf53_0 : decode cJ9_floorDiv_7cf53 0 = .ok (.iload_n 0, 1) := by decide +kernel
theorem dJ9_floorDiv_7cf53_1 : decode cJ9_floorDiv_7cf53 1 = .ok (.iload_n 1, 1) := by decide +kernel
theorem dJ9_floorDiv_7cf53_2 : decode cJ9_floorDiv_7cf53 2 = .ok (.idiv, 1) := by decide +kernel
theorem dJ9_floorDiv_7cf53_3 : decode cJ9_floorDiv_7cf53 3 = .ok (.istore_n 2, 1) := by decide +kernel
theorem dJ9_floorDiv_7cf53_4 : decode cJ9_floorDiv_7cf53 4 = .ok (.iload_n 0, 1) := by decide +kernel
theorem dJ9_floorDiv_7cf53_5 : decode cJ9_floorDiv_7cf53 5 = .ok (.iload_n 1, 1) := by decide +kernel
theorem dJ9_floorDiv_7cf53_6 : decode cJ9_floorDiv_7cf53 6 = .ok (.ixor, 1) := by decide +kernel
theorem dJ9_floorDiv_7cf53_7 : decode cJ9_floorDiv_7cf53 7 = .ok (.ifCond .ge 14, 3) := by decide +kernel
theorem dJ9_floorDiv_7cf53_10 : decode cJ9_floorDiv_7cf53 10 = .ok (.iload_n 2, 1) := by decide +kernel
theorem dJ9_floorDiv_7cf53_11 : decode cJ9_floorDiv_7cf53 11 = .ok (.iload_n 1, 1) := by decide +kernel
theorem dJ9_floorDiv_7cf53_12 : decode cJ9_floorDiv_7cf53 12 = .ok (.imul, 1) := by decide +kernel
theorem dJ9_floorDiv_7cf53_13 : decode cJ9_floorDiv_7cf53 13 = .ok (.iload_n 0, 1) := by decide +kernel
theorem dJ9_floorDiv_7cf53_14 : decode cJ9_floorDiv_7cf53 14 = .ok (.if_icmp .eq 7, 3) := by decide +kernel
theorem dJ9_floorDiv_7cf53_17 : decode cJ9_floorDiv_7cf53 17 = .ok (.iload_n 2, 1) := by decide +kernel
theorem dJ9_floorDiv_7cf53_18 : decode cJ9_floorDiv_7cf53 18 = .ok (.iconst 1, 1) := by decide +kernel
theorem dJ9_floorDiv_7cf53_19 : decode cJ9_floorDiv_7cf53 19 = .ok (.isub, 1) := by decide +kernel
theorem dJ9_floorDiv_7cf53_20 : decode cJ9_floorDiv_7cf53 20 = .ok (.ireturn, 1) := by decide +kernel
theorem dJ9_floorDiv_7cf53_21 : decode cJ9_floorDiv_7cf53 21 = .ok (.iload_n 2, 1) := by decide +kernel
theorem dJ9_floorDiv_7cf53_22 : decode cJ9_floorDiv_7cf53 22 = .ok (.ireturn, 1) := by decide +kernel
theorem dX11_divideDown_0 : decode cX11_divideDown 0 = .ok (.iload_n 1, 1) := by decide +kernel
theorem dX11_divideDown_1 : decode cX11_divideDown 1 = .ok (.iconst 1, 1) := by decide +kernel
theorem dX11_divideDown_2 : decode cX11_divideDown 2 = .ok (.if_icmp .ge 7, 3) := by decide +kernel
theorem dX11_divideDown_5 : decode cX11_divideDown 5 = .ok (.iconst 0, 1) := by decide +kernel
theorem dX11_divideDown_6 : decode cX11_divideDown 6 = .ok (.goto 8, 3) := by decide +kernel
theorem dX11_divideDown_9 : decode cX11_divideDown 9 = .ok (.iload_n 0, 1) := by decide +kernel
theorem dX11_divideDown_10 : decode cX11_divideDown 10 = .ok (.iload_n 1, 1) := by decide +kernel
theorem dX11_divideDown_11 : decode cX11_divideDown 11 = .ok (.invokestatic 308, 3) := by decide +kernel
theorem dX11_divideDown_14 : decode cX11_divideDown 14 = .ok (.ireturn, 1) := by decide +kernel
theorem dX3_window_0 : decode cX3_window 0 = .ok (.aload_n 0, 1) := by decide +kernel
theorem dX3_window_1 : decode cX3_window 1 = .ok (.getfield 18, 3) := by decide +kernel
theorem dX3_window_4 : decode cX3_window 4 = .ok (.iconst 3, 1) := by decide +kernel
theorem dX3_window_5 : decode cX3_window 5 = .ok (.if_icmp .ge 5, 3) := by decide +kernel
theorem dX3_window_8 : decode cX3_window 8 = .ok (.iconst 0, 1) := by decide +kernel
theorem dX3_window_9 : decode cX3_window 9 = .ok (.ireturn, 1) := by decide +kernel
theorem dX3_window_10 : decode cX3_window 10 = .ok (.iconst 0, 1) := by decide +kernel
theorem dX3_window_11 : decode cX3_window 11 = .ok (.istore_n 1, 1) := by decide +kernel
theorem dX3_window_12 : decode cX3_window 12 = .ok (.iconst 0, 1) := by decide +kernel
theorem dX3_window_13 : decode cX3_window 13 = .ok (.istore_n 2, 1) := by decide +kernel
theorem dX3_window_14 : decode cX3_window 14 = .ok (.iload_n 2, 1) := by decide +kernel
theorem dX3_window_15 : decode cX3_window 15 = .ok (.bipush 8, 2) := by decide +kernel
theorem dX3_window_17 : decode cX3_window 17 = .ok (.if_icmp .ge 20, 3) := by decide +kernel
theorem dX3_window_20 : decode cX3_window 20 = .ok (.iload_n 1, 1) := by decide +kernel
theorem dX3_window_21 : decode cX3_window 21 = .ok (.aload_n 0, 1) := by decide +kernel
theorem dX3_window_22 : decode cX3_window 22 = .ok (.getfield 14, 3) := by decide +kernel
theorem dX3_window_25 : decode cX3_window 25 = .ok (.iload_n 2, 1) := by decide +kernel
theorem dX3_window_26 : decode cX3_window 26 = .ok (.invokevirtual 42, 3) := by decide +kernel
theorem dX3_window_29 : decode cX3_window 29 = .ok (.iadd, 1) := by decide +kernel
theorem dX3_window_30 : decode cX3_window 30 = .ok (.istore_n 1, 1) := by decide +kernel
theorem dX3_window_31 : decode cX3_window 31 = .ok (.iinc 2 1, 3) := by decide +kernel
theorem dX3_window_34 : decode cX3_window 34 = .ok (.goto (-20), 3) := by decide +kernel
theorem dX3_window_37 : decode cX3_window 37 = .ok (.iload_n 1, 1) := by decide +kernel
theorem dX3_window_38 : decode cX3_window 38 = .ok (.aload_n 0, 1) := by decide +kernel
theorem dX3_window_39 : decode cX3_window 39 = .ok (.getfield 18, 3) := by decide +kernel
theorem dX3_window_42 : decode cX3_window 42 = .ok (.bipush 8, 2) := by decide +kernel
theorem dX3_window_44 : decode cX3_window 44 = .ok (.invokestatic 45, 3) := by decide +kernel
theorem dX3_window_47 : decode cX3_window 47 = .ok (.invokestatic 49, 3) := by decide +kernel
theorem dX3_window_50 : decode cX3_window 50 = .ok (.ireturn, 1) := by decide +kernel
theorem dJ9_abs_0f7a4_0 : decode cJ9_abs_0f7a4 0 = .ok (.iload_n 0, 1) := by decide +kernel
theorem dJ9_abs_0f7a4_1 : decode cJ9_abs_0f7a4 1 = .ok (.ifCond .ge 8, 3) := by decide +kernel
theorem dJ9_abs_0f7a4_4 : decode cJ9_abs_0f7a4 4 = .ok (.iload_n 0, 1) := by decide +kernel
theorem dJ9_abs_0f7a4_5 : decode cJ9_abs_0f7a4 5 = .ok (.ineg, 1) := by decide +kernel
theorem dJ9_abs_0f7a4_6 : decode cJ9_abs_0f7a4 6 = .ok (.goto 4, 3) := by decide +kernel
theorem dJ9_abs_0f7a4_9 : decode cJ9_abs_0f7a4 9 = .ok (.iload_n 0, 1) := by decide +kernel
theorem dJ9_abs_0f7a4_10 : decode cJ9_abs_0f7a4 10 = .ok (.ireturn, 1) := by decide +kernel
theorem dX3_judge_0 : decode cX3_judge 0 = .ok (.aload_n 0, 1) := by decide +kernel
theorem dX3_judge_1 : decode cX3_judge 1 = .ok (.getfield 18, 3) := by decide +kernel
theorem dX3_judge_4 : decode cX3_judge 4 = .ok (.iconst 3, 1) := by decide +kernel
theorem dX3_judge_5 : decode cX3_judge 5 = .ok (.if_icmp .lt 22, 3) := by decide +kernel
theorem dX3_judge_8 : decode cX3_judge 8 = .ok (.iload_n 1, 1) := by decide +kernel
theorem dX3_judge_9 : decode cX3_judge 9 = .ok (.aload_n 0, 1) := by decide +kernel
theorem dX3_judge_10 : decode cX3_judge 10 = .ok (.invokevirtual 22, 3) := by decide +kernel
theorem dX3_judge_13 : decode cX3_judge 13 = .ok (.isub, 1) := by decide +kernel
theorem dX3_judge_14 : decode cX3_judge 14 = .ok (.invokestatic 26, 3) := by decide +kernel
theorem dX3_judge_17 : decode cX3_judge 17 = .ok (.bipush 10, 2) := by decide +kernel
theorem dX3_judge_19 : decode cX3_judge 19 = .ok (.imul, 1) := by decide +kernel
theorem dX3_judge_20 : decode cX3_judge 20 = .ok (.aload_n 0, 1) := by decide +kernel
theorem dX3_judge_21 : decode cX3_judge 21 = .ok (.invokevirtual 22, 3) := by decide +kernel
theorem dX3_judge_24 : decode cX3_judge 24 = .ok (.if_icmp .gt 7, 3) := by decide +kernel
theorem dX3_judge_27 : decode cX3_judge 27 = .ok (.iconst 1, 1) := by decide +kernel
theorem dX3_judge_28 : decode cX3_judge 28 = .ok (.goto 4, 3) := by decide +kernel
theorem dX3_judge_31 : decode cX3_judge 31 = .ok (.iconst 0, 1) := by decide +kernel
theorem dX3_judge_32 : decode cX3_judge 32 = .ok (.istore_n 2, 1) := by decide +kernel
theorem dX3_judge_33 : decode cX3_judge 33 = .ok (.aload_n 0, 1) := by decide +kernel
theorem dX3_judge_34 : decode cX3_judge 34 = .ok (.dup, 1) := by decide +kernel
theorem dX3_judge_35 : decode cX3_judge 35 = .ok (.getfield 32, 3) := by decide +kernel
theorem dX3_judge_38 : decode cX3_judge 38 = .ok (.iconst 1, 1) := by decide +kernel
theorem dX3_judge_39 : decode cX3_judge 39 = .ok (.iadd, 1) := by decide +kernel
theorem dX3_judge_40 : decode cX3_judge 40 = .ok (.putfield 32, 3) := by decide +kernel
theorem dX3_judge_43 : decode cX3_judge 43 = .ok (.iload_n 2, 1) := by decide +kernel
theorem dX3_judge_44 : decode cX3_judge 44 = .ok (.ifCond .eq 50, 3) := by decide +kernel
theorem dX3_judge_47 : decode cX3_judge 47 = .ok (.aload_n 0, 1) := by decide +kernel
theorem dX3_judge_48 : decode cX3_judge 48 = .ok (.dup, 1) := by decide +kernel
theorem dX3_judge_49 : decode cX3_judge 49 = .ok (.getfield 18, 3) := by decide +kernel
theorem dX3_judge_52 : decode cX3_judge 52 = .ok (.iconst 1, 1) := by decide +kernel
theorem dX3_judge_53 : decode cX3_judge 53 = .ok (.iadd, 1) := by decide +kernel
theorem dX3_judge_54 : decode cX3_judge 54 = .ok (.putfield 18, 3) := by decide +kernel
theorem dX3_judge_57 : decode cX3_judge 57 = .ok (.aload_n 0, 1) := by decide +kernel
theorem dX3_judge_58 : decode cX3_judge 58 = .ok (.getfield 14, 3) := by decide +kernel
theorem dX3_judge_61 : decode cX3_judge 61 = .ok (.aload_n 0, 1) := by decide +kernel
theorem dX3_judge_62 : decode cX3_judge 62 = .ok (.getfield 35, 3) := by decide +kernel
theorem dX3_judge_65 : decode cX3_judge 65 = .ok (.iload_n 1, 1) := by decide +kernel
theorem dX3_judge_66 : decode cX3_judge 66 = .ok (.invokevirtual 38, 3) := by decide +kernel
theorem dX3_judge_69 : decode cX3_judge 69 = .ok (.aload_n 0, 1) := by decide +kernel
theorem dX3_judge_70 : decode cX3_judge 70 = .ok (.aload_n 0, 1) := by decide +kernel
theorem dX3_judge_71 : decode cX3_judge 71 = .ok (.getfield 35, 3) := by decide +kernel
theorem dX3_judge_74 : decode cX3_judge 74 = .ok (.iconst 1, 1) := by decide +kernel
theorem dX3_judge_75 : decode cX3_judge 75 = .ok (.iadd, 1) := by decide +kernel
theorem dX3_judge_76 : decode cX3_judge 76 = .ok (.bipush 8, 2) := by decide +kernel
theorem dX3_judge_78 : decode cX3_judge 78 = .ok (.if_icmp .ge 12, 3) := by decide +kernel
theorem dX3_judge_81 : decode cX3_judge 81 = .ok (.aload_n 0, 1) := by decide +kernel
theorem dX3_judge_82 : decode cX3_judge 82 = .ok (.getfield 35, 3) := by decide +kernel
theorem dX3_judge_85 : decode cX3_judge 85 = .ok (.iconst 1, 1) := by decide +kernel
theorem dX3_judge_86 : decode cX3_judge 86 = .ok (.iadd, 1) := by decide +kernel
theorem dX3_judge_87 : decode cX3_judge 87 = .ok (.goto 4, 3) := by decide +kernel
theorem dX3_judge_90 : decode cX3_judge 90 = .ok (.iconst 0, 1) := by decide +kernel
theorem dX3_judge_91 : decode cX3_judge 91 = .ok (.putfield 35, 3) := by decide +kernel
theorem dX3_judge_94 : decode cX3_judge 94 = .ok (.iload_n 2, 1) := by decide +kernel
theorem dX3_judge_95 : decode cX3_judge 95 = .ok (.ireturn, 1) := by decide +kernel
theorem dX11_crimp_0 : decode cX11_crimp 0 = .ok (.iload_n 1, 1) := by decide +kernel
theorem dX11_crimp_1 : decode cX11_crimp 1 = .ok (.iconst 1, 1) := by decide +kernel
theorem dX11_crimp_2 : decode cX11_crimp 2 = .ok (.sipush 9999, 3) := by decide +kernel
theorem dX11_crimp_5 : decode cX11_crimp 5 = .ok (.invokestatic 62, 3) := by decide +kernel
theorem dX11_crimp_8 : decode cX11_crimp 8 = .ok (.invokestatic 66, 3) := by decide +kernel
theorem dX11_crimp_11 : decode cX11_crimp 11 = .ok (.aload_n 0, 1) := by decide +kernel
theorem dX11_crimp_12 : decode cX11_crimp 12 = .ok (.getfield 26, 3) := by decide +kernel
theorem dX11_crimp_15 : decode cX11_crimp 15 = .ok (.iload_n 1, 1) := by decide +kernel
theorem dX11_crimp_16 : decode cX11_crimp 16 = .ok (.invokevirtual 166, 3) := by decide +kernel
theorem dX11_crimp_19 : decode cX11_crimp 19 = .ok (.ireturn, 1) := by decide +kernel
theorem dX7_init_0 : decode cX7_init 0 = .ok (.aload_n 0, 1) := by decide +kernel
theorem dX7_init_1 : decode cX7_init 1 = .ok (.invokespecial 3, 3) := by decide +kernel
theorem dX7_init_4 : decode cX7_init 4 = .ok (.aload_n 0, 1) := by decide +kernel
theorem dX7_init_5 : decode cX7_init 5 = .ok (.iload_n 1, 1) := by decide +kernel
theorem dX7_init_6 : decode cX7_init 6 = .ok (.putfield 9, 3) := by decide +kernel
theorem dX7_init_9 : decode cX7_init 9 = .ok (.aload_n 0, 1) := by decide +kernel
theorem dX7_init_10 : decode cX7_init 10 = .ok (.iload_n 3, 1) := by decide +kernel
theorem dX7_init_11 : decode cX7_init 11 = .ok (.putfield 15, 3) := by decide +kernel
theorem dX7_init_14 : decode cX7_init 14 = .ok (.aload_n 0, 1) := by decide +kernel
theorem dX7_init_15 : decode cX7_init 15 = .ok (.iload_n 2, 1) := by decide +kernel
theorem dX7_init_16 : decode cX7_init 16 = .ok (.putfield 18, 3) := by decide +kernel
theorem dX7_init_19 : decode cX7_init 19 = .ok (.return_, 1) := by decide +kernel
theorem dX11_reel_0 : decode cX11_reel 0 = .ok (.iload_n 1, 1) := by decide +kernel
theorem dX11_reel_1 : decode cX11_reel 1 = .ok (.bipush 6, 2) := by decide +kernel
theorem dX11_reel_3 : decode cX11_reel 3 = .ok (.invokestatic 54, 3) := by decide +kernel
theorem dX11_reel_6 : decode cX11_reel 6 = .ok (.invokestatic 58, 3) := by decide +kernel
theorem dX11_reel_9 : decode cX11_reel 9 = .ok (.iload_n 2, 1) := by decide +kernel
theorem dX11_reel_10 : decode cX11_reel 10 = .ok (.iconst 1, 1) := by decide +kernel
theorem dX11_reel_11 : decode cX11_reel 11 = .ok (.bipush 99, 2) := by decide +kernel
theorem dX11_reel_13 : decode cX11_reel 13 = .ok (.invokestatic 62, 3) := by decide +kernel
theorem dX11_reel_16 : decode cX11_reel 16 = .ok (.ifCond .eq 18, 3) := by decide +kernel
theorem dX11_reel_19 : decode cX11_reel 19 = .ok (.iload_n 3, 1) := by decide +kernel
theorem dX11_reel_20 : decode cX11_reel 20 = .ok (.iconst 1, 1) := by decide +kernel
theorem dX11_reel_21 : decode cX11_reel 21 = .ok (.sipush 5000, 3) := by decide +kernel
theorem dX11_reel_24 : decode cX11_reel 24 = .ok (.invokestatic 62, 3) := by decide +kernel
theorem dX11_reel_27 : decode cX11_reel 27 = .ok (.ifCond .eq 7, 3) := by decide +kernel
theorem dX11_reel_30 : decode cX11_reel 30 = .ok (.iconst 1, 1) := by decide +kernel
theorem dX11_reel_31 : decode cX11_reel 31 = .ok (.goto 4, 3) := by decide +kernel
theorem dX11_reel_34 : decode cX11_reel 34 = .ok (.iconst 0, 1) := by decide +kernel
theorem dX11_reel_35 : decode cX11_reel 35 = .ok (.invokestatic 66, 3) := by decide +kernel
theorem dX11_reel_38 : decode cX11_reel 38 = .ok (.aload_n 0, 1) := by decide +kernel
theorem dX11_reel_39 : decode cX11_reel 39 = .ok (.getfield 40, 3) := by decide +kernel
theorem dX11_reel_42 : decode cX11_reel 42 = .ok (.invokevirtual 72, 3) := by decide +kernel
theorem dX11_reel_45 : decode cX11_reel 45 = .ok (.bipush 12, 2) := by decide +kernel
theorem dX11_reel_47 : decode cX11_reel 47 = .ok (.if_icmp .ge 7, 3) := by decide +kernel
theorem dX11_reel_50 : decode cX11_reel 50 = .ok (.iconst 1, 1) := by decide +kernel
theorem dX11_reel_51 : decode cX11_reel 51 = .ok (.goto 4, 3) := by decide +kernel
theorem dX11_reel_54 : decode cX11_reel 54 = .ok (.iconst 0, 1) := by decide +kernel
theorem dX11_reel_55 : decode cX11_reel 55 = .ok (.invokestatic 76, 3) := by decide +kernel
theorem dX11_reel_58 : decode cX11_reel 58 = .ok (.aload_n 0, 1) := by decide +kernel
theorem dX11_reel_59 : decode cX11_reel 59 = .ok (.getfield 40, 3) := by decide +kernel
theorem dX11_reel_62 : decode cX11_reel 62 = .ok (.new 176, 3) := by decide +kernel
theorem dX11_reel_65 : decode cX11_reel 65 = .ok (.dup, 1) := by decide +kernel
theorem dX11_reel_66 : decode cX11_reel 66 = .ok (.iload_n 1, 1) := by decide +kernel
theorem dX11_reel_67 : decode cX11_reel 67 = .ok (.iload_n 2, 1) := by decide +kernel
theorem dX11_reel_68 : decode cX11_reel 68 = .ok (.iload_n 3, 1) := by decide +kernel
theorem dX11_reel_69 : decode cX11_reel 69 = .ok (.invokespecial 178, 3) := by decide +kernel
theorem dX11_reel_72 : decode cX11_reel 72 = .ok (.invokevirtual 181, 3) := by decide +kernel
theorem dX11_reel_75 : decode cX11_reel 75 = .ok (.pop, 1) := by decide +kernel
theorem dX11_reel_76 : decode cX11_reel 76 = .ok (.aload_n 0, 1) := by decide +kernel
theorem dX11_reel_77 : decode cX11_reel 77 = .ok (.getfield 40, 3) := by decide +kernel
theorem dX11_reel_80 : decode cX11_reel 80 = .ok (.invokevirtual 72, 3) := by decide +kernel
theorem dX11_reel_83 : decode cX11_reel 83 = .ok (.iconst 1, 1) := by decide +kernel
theorem dX11_reel_84 : decode cX11_reel 84 = .ok (.isub, 1) := by decide +kernel
theorem dX11_reel_85 : decode cX11_reel 85 = .ok (.ireturn, 1) := by decide +kernel
theorem dX11_reelAt_0 : decode cX11_reelAt 0 = .ok (.iload_n 1, 1) := by decide +kernel
theorem dX11_reelAt_1 : decode cX11_reelAt 1 = .ok (.aload_n 0, 1) := by decide +kernel
theorem dX11_reelAt_2 : decode cX11_reelAt 2 = .ok (.getfield 40, 3) := by decide +kernel
theorem dX11_reelAt_5 : decode cX11_reelAt 5 = .ok (.invokevirtual 72, 3) := by decide +kernel
theorem dX11_reelAt_8 : decode cX11_reelAt 8 = .ok (.invokestatic 54, 3) := by decide +kernel
theorem dX11_reelAt_11 : decode cX11_reelAt 11 = .ok (.ifCond .ne 11, 3) := by decide +kernel
theorem dX11_reelAt_14 : decode cX11_reelAt 14 = .ok (.new 299, 3) := by decide +kernel
theorem dX11_reelAt_17 : decode cX11_reelAt 17 = .ok (.dup, 1) := by decide +kernel
theorem dX11_reelAt_18 : decode cX11_reelAt 18 = .ok (.invokespecial 301, 3) := by decide +kernel
theorem dX11_reelAt_21 : decode cX11_reelAt 21 = .ok (.athrow, 1) := by decide +kernel
theorem dX11_reelAt_22 : decode cX11_reelAt 22 = .ok (.aload_n 0, 1) := by decide +kernel
theorem dX11_reelAt_23 : decode cX11_reelAt 23 = .ok (.getfield 40, 3) := by decide +kernel
theorem dX11_reelAt_26 : decode cX11_reelAt 26 = .ok (.iload_n 1, 1) := by decide +kernel
theorem dX11_reelAt_27 : decode cX11_reelAt 27 = .ok (.invokevirtual 292, 3) := by decide +kernel
theorem dX11_reelAt_30 : decode cX11_reelAt 30 = .ok (.checkcast 176, 3) := by decide +kernel
theorem dX11_reelAt_33 : decode cX11_reelAt 33 = .ok (.areturn, 1) := by decide +kernel
theorem dX7_beginClock_0 : decode cX7_beginClock 0 = .ok (.aload_n 0, 1) := by decide +kernel
theorem dX7_beginClock_1 : decode cX7_beginClock 1 = .ok (.iconst 1, 1) := by decide +kernel
theorem dX7_beginClock_2 : decode cX7_beginClock 2 = .ok (.putfield 21, 3) := by decide +kernel
theorem dX7_beginClock_5 : decode cX7_beginClock 5 = .ok (.aload_n 0, 1) := by decide +kernel
theorem dX7_beginClock_6 : decode cX7_beginClock 6 = .ok (.iload_n 1, 1) := by decide +kernel
theorem dX7_beginClock_7 : decode cX7_beginClock 7 = .ok (.putfield 25, 3) := by decide +kernel
theorem dX7_beginClock_10 : decode cX7_beginClock 10 = .ok (.return_, 1) := by decide +kernel
theorem dX7_clockAt_0 : decode cX7_clockAt 0 = .ok (.aload_n 0, 1) := by decide +kernel
theorem dX7_clockAt_1 : decode cX7_clockAt 1 = .ok (.getfield 15, 3) := by decide +kernel
theorem dX7_clockAt_4 : decode cX7_clockAt 4 = .ok (.iload_n 1, 1) := by decide +kernel
theorem dX7_clockAt_5 : decode cX7_clockAt 5 = .ok (.aload_n 0, 1) := by decide +kernel
theorem dX7_clockAt_6 : decode cX7_clockAt 6 = .ok (.getfield 25, 3) := by decide +kernel
theorem dX7_clockAt_9 : decode cX7_clockAt 9 = .ok (.isub, 1) := by decide +kernel
theorem dX7_clockAt_10 : decode cX7_clockAt 10 = .ok (.isub, 1) := by decide +kernel
theorem dX7_clockAt_11 : decode cX7_clockAt 11 = .ok (.istore_n 2, 1) := by decide +kernel
theorem dX7_clockAt_12 : decode cX7_clockAt 12 = .ok (.aload_n 0, 1) := by decide +kernel
theorem dX7_clockAt_13 : decode cX7_clockAt 13 = .ok (.getfield 21, 3) := by decide +kernel
theorem dX7_clockAt_16 : decode cX7_clockAt 16 = .ok (.ifCond .eq 11, 3) := by decide +kernel
theorem dX7_clockAt_19 : decode cX7_clockAt 19 = .ok (.iload_n 2, 1) := by decide +kernel
theorem dX7_clockAt_20 : decode cX7_clockAt 20 = .ok (.ifCond .lt 7, 3) := by decide +kernel
theorem dX7_clockAt_23 : decode cX7_clockAt 23 = .ok (.iload_n 2, 1) := by decide +kernel
theorem dX7_clockAt_24 : decode cX7_clockAt 24 = .ok (.goto 4, 3) := by decide +kernel
theorem dX7_clockAt_27 : decode cX7_clockAt 27 = .ok (.iconst (-1), 1) := by decide +kernel
theorem dX7_clockAt_28 : decode cX7_clockAt 28 = .ok (.ireturn, 1) := by decide +kernel
theorem dX11_open_0 : decode cX11_open 0 = .ok (.aload_n 0, 1) := by decide +kernel
theorem dX11_open_1 : decode cX11_open 1 = .ok (.iload_n 1, 1) := by decide +kernel
theorem dX11_open_2 : decode cX11_open 2 = .ok (.invokevirtual 184, 3) := by decide +kernel
theorem dX11_open_5 : decode cX11_open 5 = .ok (.astore_n 3, 1) := by decide +kernel
theorem dX11_open_6 : decode cX11_open 6 = .ok (.iload_n 2, 1) := by decide +kernel
theorem dX11_open_7 : decode cX11_open 7 = .ok (.ifCond .ne 10, 3) := by decide +kernel
theorem dX11_open_10 : decode cX11_open 10 = .ok (.aload_n 3, 1) := by decide +kernel
theorem dX11_open_11 : decode cX11_open 11 = .ok (.getfield 188, 3) := by decide +kernel
theorem dX11_open_14 : decode cX11_open 14 = .ok (.ifCond .ne 7, 3) := by decide +kernel
theorem dX11_open_17 : decode cX11_open 17 = .ok (.iconst 1, 1) := by decide +kernel
theorem dX11_open_18 : decode cX11_open 18 = .ok (.goto 4, 3) := by decide +kernel
theorem dX11_open_21 : decode cX11_open 21 = .ok (.iconst 0, 1) := by decide +kernel
theorem dX11_open_22 : decode cX11_open 22 = .ok (.invokestatic 76, 3) := by decide +kernel
theorem dX11_open_25 : decode cX11_open 25 = .ok (.aload_n 3, 1) := by decide +kernel
theorem dX11_open_26 : decode cX11_open 26 = .ok (.aload_n 0, 1) := by decide +kernel
theorem dX11_open_27 : decode cX11_open 27 = .ok (.getfield 51, 3) := by decide +kernel
theorem dX11_open_30 : decode cX11_open 30 = .ok (.invokevirtual 191, 3) := by decide +kernel
theorem dX11_open_33 : decode cX11_open 33 = .ok (.aload_n 3, 1) := by decide +kernel
theorem dX11_open_34 : decode cX11_open 34 = .ok (.aload_n 0, 1) := by decide +kernel
theorem dX11_open_35 : decode cX11_open 35 = .ok (.getfield 51, 3) := by decide +kernel
theorem dX11_open_38 : decode cX11_open 38 = .ok (.invokevirtual 195, 3) := by decide +kernel
theorem dX11_open_41 : decode cX11_open 41 = .ok (.ireturn, 1) := by decide +kernel
theorem dX11_ofReel_0 : decode cX11_ofReel 0 = .ok (.aload_n 0, 1) := by decide +kernel
theorem dX11_ofReel_1 : decode cX11_ofReel 1 = .ok (.iload_n 1, 1) := by decide +kernel
theorem dX11_ofReel_2 : decode cX11_ofReel 2 = .ok (.invokevirtual 184, 3) := by decide +kernel
theorem dX11_ofReel_5 : decode cX11_ofReel 5 = .ok (.astore_n 3, 1) := by decide +kernel
theorem dX11_ofReel_6 : decode cX11_ofReel 6 = .ok (.iload_n 2, 1) := by decide +kernel
theorem dX11_ofReel_7 : decode cX11_ofReel 7 = .ok (.iconst 0, 1) := by decide +kernel
theorem dX11_ofReel_8 : decode cX11_ofReel 8 = .ok (.iconst 2, 1) := by decide +kernel
theorem dX11_ofReel_9 : decode cX11_ofReel 9 = .ok (.invokestatic 62, 3) := by decide +kernel
theorem dX11_ofReel_12 : decode cX11_ofReel 12 = .ok (.invokestatic 58, 3) := by decide +kernel
theorem dX11_ofReel_15 : decode cX11_ofReel 15 = .ok (.iload_n 2, 1) := by decide +kernel
theorem dX11_ofReel_16 : decode cX11_ofReel 16 = .ok (.ifCond .ne 8, 3) := by decide +kernel
theorem dX11_ofReel_19 : decode cX11_ofReel 19 = .ok (.aload_n 3, 1) := by decide +kernel
theorem dX11_ofReel_20 : decode cX11_ofReel 20 = .ok (.getfield 198, 3) := by decide +kernel
theorem dX11_ofReel_23 : decode cX11_ofReel 23 = .ok (.ireturn, 1) := by decide +kernel
theorem dX11_ofReel_24 : decode cX11_ofReel 24 = .ok (.iload_n 2, 1) := by decide +kernel
theorem dX11_ofReel_25 : decode cX11_ofReel 25 = .ok (.iconst 1, 1) := by decide +kernel
theorem dX11_ofReel_26 : decode cX11_ofReel 26 = .ok (.if_icmp .ne 10, 3) := by decide +kernel
theorem dX11_ofReel_29 : decode cX11_ofReel 29 = .ok (.aload_n 3, 1) := by decide +kernel
theorem dX11_ofReel_30 : decode cX11_ofReel 30 = .ok (.getfield 201, 3) := by decide +kernel
theorem dX11_ofReel_33 : decode cX11_ofReel 33 = .ok (.goto 11, 3) := by decide +kernel
theorem dX11_ofReel_36 : decode cX11_ofReel 36 = .ok (.aload_n 3, 1) := by decide +kernel
theorem dX11_ofReel_37 : decode cX11_ofReel 37 = .ok (.aload_n 0, 1) := by decide +kernel
theorem dX11_ofReel_38 : decode cX11_ofReel 38 = .ok (.getfield 51, 3) := by decide +kernel
theorem dX11_ofReel_41 : decode cX11_ofReel 41 = .ok (.invokevirtual 195, 3) := by decide +kernel
theorem dX11_ofReel_44 : decode cX11_ofReel 44 = .ok (.ireturn, 1) := by decide +kernel
theorem dX9_init_0 : decode cX9_init 0 = .ok (.aload_n 0, 1) := by decide +kernel
theorem dX9_init_1 : decode cX9_init 1 = .ok (.invokespecial 3, 3) := by decide +kernel
theorem dX9_init_4 : decode cX9_init 4 = .ok (.aload_n 0, 1) := by decide +kernel
theorem dX9_init_5 : decode cX9_init 5 = .ok (.iconst (-1), 1) := by decide +kernel
theorem dX9_init_6 : decode cX9_init 6 = .ok (.putfield 9, 3) := by decide +kernel
theorem dX9_init_9 : decode cX9_init 9 = .ok (.aload_n 0, 1) := by decide +kernel
theorem dX9_init_10 : decode cX9_init 10 = .ok (.iconst (-1), 1) := by decide +kernel
theorem dX9_init_11 : decode cX9_init 11 = .ok (.putfield 15, 3) := by decide +kernel
theorem dX9_init_14 : decode cX9_init 14 = .ok (.aload_n 0, 1) := by decide +kernel
theorem dX9_init_15 : decode cX9_init 15 = .ok (.iconst (-1), 1) := by decide +kernel
theorem dX9_init_16 : decode cX9_init 16 = .ok (.putfield 18, 3) := by decide +kernel
theorem dX9_init_19 : decode cX9_init 19 = .ok (.aload_n 0, 1) := by decide +kernel
theorem dX9_init_20 : decode cX9_init 20 = .ok (.iconst 0, 1) := by decide +kernel
theorem dX9_init_21 : decode cX9_init 21 = .ok (.putfield 21, 3) := by decide +kernel
theorem dX9_init_24 : decode cX9_init 24 = .ok (.return_, 1) := by decide +kernel
theorem dX0_init_0 : decode cX0_init 0 = .ok (.aload_n 0, 1) := by decide +kernel
theorem dX0_init_1 : decode cX0_init 1 = .ok (.invokespecial 3, 3) := by decide +kernel
theorem dX0_init_4 : decode cX0_init 4 = .ok (.aload_n 0, 1) := by decide +kernel
theorem dX0_init_5 : decode cX0_init 5 = .ok (.new 9, 3) := by decide +kernel
theorem dX0_init_8 : decode cX0_init 8 = .ok (.dup, 1) := by decide +kernel
theorem dX0_init_9 : decode cX0_init 9 = .ok (.invokespecial 11, 3) := by decide +kernel
theorem dX0_init_12 : decode cX0_init 12 = .ok (.putfield 12, 3) := by decide +kernel
theorem dX0_init_15 : decode cX0_init 15 = .ok (.aload_n 0, 1) := by decide +kernel
theorem dX0_init_16 : decode cX0_init 16 = .ok (.new 18, 3) := by decide +kernel
theorem dX0_init_19 : decode cX0_init 19 = .ok (.dup, 1) := by decide +kernel
theorem dX0_init_20 : decode cX0_init 20 = .ok (.iconst 4, 1) := by decide +kernel
theorem dX0_init_21 : decode cX0_init 21 = .ok (.invokespecial 20, 3) := by decide +kernel
theorem dX0_init_24 : decode cX0_init 24 = .ok (.putfield 23, 3) := by decide +kernel
theorem dX0_init_27 : decode cX0_init 27 = .ok (.iconst 0, 1) := by decide +kernel
theorem dX0_init_28 : decode cX0_init 28 = .ok (.istore_n 1, 1) := by decide +kernel
theorem dX0_init_29 : decode cX0_init 29 = .ok (.iload_n 1, 1) := by decide +kernel
theorem dX0_init_30 : decode cX0_init 30 = .ok (.bipush 8, 2) := by decide +kernel
theorem dX0_init_32 : decode cX0_init 32 = .ok (.if_icmp .ge 24, 3) := by decide +kernel
theorem dX0_init_35 : decode cX0_init 35 = .ok (.aload_n 0, 1) := by decide +kernel
theorem dX0_init_36 : decode cX0_init 36 = .ok (.getfield 12, 3) := by decide +kernel
theorem dX0_init_39 : decode cX0_init 39 = .ok (.new 27, 3) := by decide +kernel
theorem dX0_init_42 : decode cX0_init 42 = .ok (.dup, 1) := by decide +kernel
theorem dX0_init_43 : decode cX0_init 43 = .ok (.invokespecial 29, 3) := by decide +kernel
theorem dX0_init_46 : decode cX0_init 46 = .ok (.invokevirtual 30, 3) := by decide +kernel
theorem dX0_init_49 : decode cX0_init 49 = .ok (.pop, 1) := by decide +kernel
theorem dX0_init_50 : decode cX0_init 50 = .ok (.iinc 1 1, 3) := by decide +kernel
theorem dX0_init_53 : decode cX0_init 53 = .ok (.goto (-24), 3) := by decide +kernel
theorem dX0_init_56 : decode cX0_init 56 = .ok (.return_, 1) := by decide +kernel
theorem dX11_board_0 : decode cX11_board 0 = .ok (.aload_n 0, 1) := by decide +kernel
theorem dX11_board_1 : decode cX11_board 1 = .ok (.getfield 44, 3) := by decide +kernel
theorem dX11_board_4 : decode cX11_board 4 = .ok (.invokevirtual 72, 3) := by decide +kernel
theorem dX11_board_7 : decode cX11_board 7 = .ok (.bipush 12, 2) := by decide +kernel
theorem dX11_board_9 : decode cX11_board 9 = .ok (.if_icmp .ge 7, 3) := by decide +kernel
theorem dX11_board_12 : decode cX11_board 12 = .ok (.iconst 1, 1) := by decide +kernel
theorem dX11_board_13 : decode cX11_board 13 = .ok (.goto 4, 3) := by decide +kernel
theorem dX11_board_16 : decode cX11_board 16 = .ok (.iconst 0, 1) := by decide +kernel
theorem dX11_board_17 : decode cX11_board 17 = .ok (.invokestatic 76, 3) := by decide +kernel
theorem dX11_board_20 : decode cX11_board 20 = .ok (.aload_n 0, 1) := by decide +kernel
theorem dX11_board_21 : decode cX11_board 21 = .ok (.getfield 44, 3) := by decide +kernel
theorem dX11_board_24 : decode cX11_board 24 = .ok (.new 204, 3) := by decide +kernel
theorem dX11_board_27 : decode cX11_board 27 = .ok (.dup, 1) := by decide +kernel
theorem dX11_board_28 : decode cX11_board 28 = .ok (.invokespecial 206, 3) := by decide +kernel
theorem dX11_board_31 : decode cX11_board 31 = .ok (.invokevirtual 181, 3) := by decide +kernel
theorem dX11_board_34 : decode cX11_board 34 = .ok (.pop, 1) := by decide +kernel
theorem dX11_board_35 : decode cX11_board 35 = .ok (.aload_n 0, 1) := by decide +kernel
theorem dX11_board_36 : decode cX11_board 36 = .ok (.getfield 44, 3) := by decide +kernel
theorem dX11_board_39 : decode cX11_board 39 = .ok (.invokevirtual 72, 3) := by decide +kernel
theorem dX11_board_42 : decode cX11_board 42 = .ok (.iconst 1, 1) := by decide +kernel
theorem dX11_board_43 : decode cX11_board 43 = .ok (.isub, 1) := by decide +kernel
theorem dX11_board_44 : decode cX11_board 44 = .ok (.ireturn, 1) := by decide +kernel
theorem dX11_boardAt_0 : decode cX11_boardAt 0 = .ok (.iload_n 1, 1) := by decide +kernel
theorem dX11_boardAt_1 : decode cX11_boardAt 1 = .ok (.aload_n 0, 1) := by decide +kernel
theorem dX11_boardAt_2 : decode cX11_boardAt 2 = .ok (.getfield 44, 3) := by decide +kernel
theorem dX11_boardAt_5 : decode cX11_boardAt 5 = .ok (.invokevirtual 72, 3) := by decide +kernel
theorem dX11_boardAt_8 : decode cX11_boardAt 8 = .ok (.invokestatic 54, 3) := by decide +kernel
theorem dX11_boardAt_11 : decode cX11_boardAt 11 = .ok (.ifCond .ne 11, 3) := by decide +kernel
theorem dX11_boardAt_14 : decode cX11_boardAt 14 = .ok (.new 299, 3) := by decide +kernel
theorem dX11_boardAt_17 : decode cX11_boardAt 17 = .ok (.dup, 1) := by decide +kernel
theorem dX11_boardAt_18 : decode cX11_boardAt 18 = .ok (.invokespecial 301, 3) := by decide +kernel
theorem dX11_boardAt_21 : decode cX11_boardAt 21 = .ok (.athrow, 1) := by decide +kernel
theorem dX11_boardAt_22 : decode cX11_boardAt 22 = .ok (.aload_n 0, 1) := by decide +kernel
theorem dX11_boardAt_23 : decode cX11_boardAt 23 = .ok (.getfield 44, 3) := by decide +kernel
theorem dX11_boardAt_26 : decode cX11_boardAt 26 = .ok (.iload_n 1, 1) := by decide +kernel
theorem dX11_boardAt_27 : decode cX11_boardAt 27 = .ok (.invokevirtual 292, 3) := by decide +kernel
theorem dX11_boardAt_30 : decode cX11_boardAt 30 = .ok (.checkcast 204, 3) := by decide +kernel
theorem dX11_boardAt_33 : decode cX11_boardAt 33 = .ok (.areturn, 1) := by decide +kernel
theorem dX0_slotAt_0 : decode cX0_slotAt 0 = .ok (.iload_n 1, 1) := by decide +kernel
theorem dX0_slotAt_1 : decode cX0_slotAt 1 = .ok (.aload_n 0, 1) := by decide +kernel
theorem dX0_slotAt_2 : decode cX0_slotAt 2 = .ok (.getfield 12, 3) := by decide +kernel
theorem dX0_slotAt_5 : decode cX0_slotAt 5 = .ok (.invokevirtual 34, 3) := by decide +kernel
theorem dX0_slotAt_8 : decode cX0_slotAt 8 = .ok (.invokestatic 38, 3) := by decide +kernel
theorem dX0_slotAt_11 : decode cX0_slotAt 11 = .ok (.ifCond .ne 11, 3) := by decide +kernel
theorem dX0_slotAt_14 : decode cX0_slotAt 14 = .ok (.new 42, 3) := by decide +kernel
theorem dX0_slotAt_17 : decode cX0_slotAt 17 = .ok (.dup, 1) := by decide +kernel
theorem dX0_slotAt_18 : decode cX0_slotAt 18 = .ok (.invokespecial 44, 3) := by decide +kernel
theorem dX0_slotAt_21 : decode cX0_slotAt 21 = .ok (.athrow, 1) := by decide +kernel
theorem dX0_slotAt_22 : decode cX0_slotAt 22 = .ok (.aload_n 0, 1) := by decide +kernel
theorem dX0_slotAt_23 : decode cX0_slotAt 23 = .ok (.getfield 12, 3) := by decide +kernel
theorem dX0_slotAt_26 : decode cX0_slotAt 26 = .ok (.iload_n 1, 1) := by decide +kernel
theorem dX0_slotAt_27 : decode cX0_slotAt 27 = .ok (.invokevirtual 45, 3) := by decide +kernel
theorem dX0_slotAt_30 : decode cX0_slotAt 30 = .ok (.checkcast 27, 3) := by decide +kernel
theorem dX0_slotAt_33 : decode cX0_slotAt 33 = .ok (.areturn, 1) := by decide +kernel
theorem dX9_hasPart_0 : decode cX9_hasPart 0 = .ok (.aload_n 0, 1) := by decide +kernel
theorem dX9_hasPart_1 : decode cX9_hasPart 1 = .ok (.getfield 9, 3) := by decide +kernel
theorem dX9_hasPart_4 : decode cX9_hasPart 4 = .ok (.iconst (-1), 1) := by decide +kernel
theorem dX9_hasPart_5 : decode cX9_hasPart 5 = .ok (.if_icmp .eq 7, 3) := by decide +kernel
theorem dX9_hasPart_8 : decode cX9_hasPart 8 = .ok (.iconst 1, 1) := by decide +kernel
theorem dX9_hasPart_9 : decode cX9_hasPart 9 = .ok (.goto 4, 3) := by decide +kernel
theorem dX9_hasPart_12 : decode cX9_hasPart 12 = .ok (.iconst 0, 1) := by decide +kernel
theorem dX9_hasPart_13 : decode cX9_hasPart 13 = .ok (.ireturn, 1) := by decide +kernel
theorem dX7_gives_0 : decode cX7_gives 0 = .ok (.aload_n 0, 1) := by decide +kernel
theorem dX7_gives_1 : decode cX7_gives 1 = .ok (.getfield 18, 3) := by decide +kernel
theorem dX7_gives_4 : decode cX7_gives 4 = .ok (.ifCond .le 16, 3) := by decide +kernel
theorem dX7_gives_7 : decode cX7_gives 7 = .ok (.aload_n 0, 1) := by decide +kernel
theorem dX7_gives_8 : decode cX7_gives 8 = .ok (.iload_n 1, 1) := by decide +kernel
theorem dX7_gives_9 : decode cX7_gives 9 = .ok (.invokevirtual 28, 3) := by decide +kernel
theorem dX7_gives_12 : decode cX7_gives 12 = .ok (.iconst (-1), 1) := by decide +kernel
theorem dX7_gives_13 : decode cX7_gives 13 = .ok (.if_icmp .eq 7, 3) := by decide +kernel
theorem dX7_gives_16 : decode cX7_gives 16 = .ok (.iconst 1, 1) := by decide +kernel
theorem dX7_gives_17 : decode cX7_gives 17 = .ok (.goto 4, 3) := by decide +kernel
theorem dX7_gives_20 : decode cX7_gives 20 = .ok (.iconst 0, 1) := by decide +kernel
theorem dX7_gives_21 : decode cX7_gives 21 = .ok (.ireturn, 1) := by decide +kernel
theorem dX9_fill_0 : decode cX9_fill 0 = .ok (.aload_n 2, 1) := by decide +kernel
theorem dX9_fill_1 : decode cX9_fill 1 = .ok (.dup, 1) := by decide +kernel
theorem dX9_fill_2 : decode cX9_fill 2 = .ok (.getfield 24, 3) := by decide +kernel
theorem dX9_fill_5 : decode cX9_fill 5 = .ok (.iconst 1, 1) := by decide +kernel
theorem dX9_fill_6 : decode cX9_fill 6 = .ok (.isub, 1) := by decide +kernel
theorem dX9_fill_7 : decode cX9_fill 7 = .ok (.putfield 24, 3) := by decide +kernel
theorem dX9_fill_10 : decode cX9_fill 10 = .ok (.aload_n 0, 1) := by decide +kernel
theorem dX9_fill_11 : decode cX9_fill 11 = .ok (.aload_n 2, 1) := by decide +kernel
theorem dX9_fill_12 : decode cX9_fill 12 = .ok (.getfield 29, 3) := by decide +kernel
theorem dX9_fill_15 : decode cX9_fill 15 = .ok (.putfield 9, 3) := by decide +kernel
theorem dX9_fill_18 : decode cX9_fill 18 = .ok (.aload_n 0, 1) := by decide +kernel
theorem dX9_fill_19 : decode cX9_fill 19 = .ok (.iload_n 1, 1) := by decide +kernel
theorem dX9_fill_20 : decode cX9_fill 20 = .ok (.putfield 15, 3) := by decide +kernel
theorem dX9_fill_23 : decode cX9_fill 23 = .ok (.aload_n 0, 1) := by decide +kernel
theorem dX9_fill_24 : decode cX9_fill 24 = .ok (.iload_n 3, 1) := by decide +kernel
theorem dX9_fill_25 : decode cX9_fill 25 = .ok (.putfield 18, 3) := by decide +kernel
theorem dX9_fill_28 : decode cX9_fill 28 = .ok (.return_, 1) := by decide +kernel
theorem dX11_place_0 : decode cX11_place 0 = .ok (.aload_n 0, 1) := by decide +kernel
theorem dX11_place_1 : decode cX11_place 1 = .ok (.iload_n 1, 1) := by decide +kernel
theorem dX11_place_2 : decode cX11_place 2 = .ok (.invokevirtual 207, 3) := by decide +kernel
theorem dX11_place_5 : decode cX11_place 5 = .ok (.astore 4, 2) := by decide +kernel
theorem dX11_place_7 : decode cX11_place 7 = .ok (.aload 4, 2) := by decide +kernel
theorem dX11_place_9 : decode cX11_place 9 = .ok (.iload_n 2, 1) := by decide +kernel
theorem dX11_place_10 : decode cX11_place 10 = .ok (.invokevirtual 211, 3) := by decide +kernel
theorem dX11_place_13 : decode cX11_place 13 = .ok (.astore 5, 2) := by decide +kernel
theorem dX11_place_15 : decode cX11_place 15 = .ok (.aload_n 0, 1) := by decide +kernel
theorem dX11_place_16 : decode cX11_place 16 = .ok (.iload_n 3, 1) := by decide +kernel
theorem dX11_place_17 : decode cX11_place 17 = .ok (.invokevirtual 184, 3) := by decide +kernel
theorem dX11_place_20 : decode cX11_place 20 = .ok (.astore 6, 2) := by decide +kernel
theorem dX11_place_22 : decode cX11_place 22 = .ok (.aload 4, 2) := by decide +kernel
theorem dX11_place_24 : decode cX11_place 24 = .ok (.getfield 215, 3) := by decide +kernel
theorem dX11_place_27 : decode cX11_place 27 = .ok (.ifCond .ne 27, 3) := by decide +kernel
theorem dX11_place_30 : decode cX11_place 30 = .ok (.aload 5, 2) := by decide +kernel
theorem dX11_place_32 : decode cX11_place 32 = .ok (.invokevirtual 218, 3) := by decide +kernel
theorem dX11_place_35 : decode cX11_place 35 = .ok (.ifCond .ne 19, 3) := by decide +kernel
theorem dX11_place_38 : decode cX11_place 38 = .ok (.aload 6, 2) := by decide +kernel
theorem dX11_place_40 : decode cX11_place 40 = .ok (.aload_n 0, 1) := by decide +kernel
theorem dX11_place_41 : decode cX11_place 41 = .ok (.getfield 51, 3) := by decide +kernel
theorem dX11_place_44 : decode cX11_place 44 = .ok (.invokevirtual 224, 3) := by decide +kernel
theorem dX11_place_47 : decode cX11_place 47 = .ok (.ifCond .eq 7, 3) := by decide +kernel
theorem dX11_place_50 : decode cX11_place 50 = .ok (.iconst 1, 1) := by decide +kernel
theorem dX11_place_51 : decode cX11_place 51 = .ok (.goto 4, 3) := by decide +kernel
theorem dX11_place_54 : decode cX11_place 54 = .ok (.iconst 0, 1) := by decide +kernel
theorem dX11_place_55 : decode cX11_place 55 = .ok (.invokestatic 76, 3) := by decide +kernel
theorem dX11_place_58 : decode cX11_place 58 = .ok (.aload 5, 2) := by decide +kernel
theorem dX11_place_60 : decode cX11_place 60 = .ok (.iload_n 3, 1) := by decide +kernel
theorem dX11_place_61 : decode cX11_place 61 = .ok (.aload 6, 2) := by decide +kernel
theorem dX11_place_63 : decode cX11_place 63 = .ok (.aload_n 0, 1) := by decide +kernel
theorem dX11_place_64 : decode cX11_place 64 = .ok (.getfield 51, 3) := by decide +kernel
theorem dX11_place_67 : decode cX11_place 67 = .ok (.invokevirtual 227, 3) := by decide +kernel
theorem dX11_place_70 : decode cX11_place 70 = .ok (.aload 6, 2) := by decide +kernel
theorem dX11_place_72 : decode cX11_place 72 = .ok (.getfield 201, 3) := by decide +kernel
theorem dX11_place_75 : decode cX11_place 75 = .ok (.ireturn, 1) := by decide +kernel
theorem dX11_limits_0 : decode cX11_limits 0 = .ok (.iload_n 2, 1) := by decide +kernel
theorem dX11_limits_1 : decode cX11_limits 1 = .ok (.iload_n 1, 1) := by decide +kernel
theorem dX11_limits_2 : decode cX11_limits 2 = .ok (.ifCond .eq 7, 3) := by decide +kernel
theorem dX11_limits_5 : decode cX11_limits 5 = .ok (.iconst 4, 1) := by decide +kernel
theorem dX11_limits_6 : decode cX11_limits 6 = .ok (.goto 5, 3) := by decide +kernel
theorem dX11_limits_9 : decode cX11_limits 9 = .ok (.bipush 6, 2) := by decide +kernel
theorem dX11_limits_11 : decode cX11_limits 11 = .ok (.invokestatic 54, 3) := by decide +kernel
theorem dX11_limits_14 : decode cX11_limits 14 = .ok (.invokestatic 58, 3) := by decide +kernel
theorem dX11_limits_17 : decode cX11_limits 17 = .ok (.iload_n 3, 1) := by decide +kernel
theorem dX11_limits_18 : decode cX11_limits 18 = .ok (.iconst 0, 1) := by decide +kernel
theorem dX11_limits_19 : decode cX11_limits 19 = .ok (.sipush 400, 3) := by decide +kernel
theorem dX11_limits_22 : decode cX11_limits 22 = .ok (.invokestatic 62, 3) := by decide +kernel
theorem dX11_limits_25 : decode cX11_limits 25 = .ok (.ifCond .eq 23, 3) := by decide +kernel
theorem dX11_limits_28 : decode cX11_limits 28 = .ok (.iload_n 1, 1) := by decide +kernel
theorem dX11_limits_29 : decode cX11_limits 29 = .ok (.ifCond .ne 15, 3) := by decide +kernel
theorem dX11_limits_32 : decode cX11_limits 32 = .ok (.iload 4, 2) := by decide +kernel
theorem dX11_limits_34 : decode cX11_limits 34 = .ok (.iload_n 3, 1) := by decide +kernel
theorem dX11_limits_35 : decode cX11_limits 35 = .ok (.sipush 400, 3) := by decide +kernel
theorem dX11_limits_38 : decode cX11_limits 38 = .ok (.invokestatic 62, 3) := by decide +kernel
theorem dX11_limits_41 : decode cX11_limits 41 = .ok (.ifCond .eq 7, 3) := by decide +kernel
theorem dX11_limits_44 : decode cX11_limits 44 = .ok (.iconst 1, 1) := by decide +kernel
theorem dX11_limits_45 : decode cX11_limits 45 = .ok (.goto 4, 3) := by decide +kernel
theorem dX11_limits_48 : decode cX11_limits 48 = .ok (.iconst 0, 1) := by decide +kernel
theorem dX11_limits_49 : decode cX11_limits 49 = .ok (.invokestatic 66, 3) := by decide +kernel
theorem dX11_limits_52 : decode cX11_limits 52 = .ok (.iload_n 1, 1) := by decide +kernel
theorem dX11_limits_53 : decode cX11_limits 53 = .ok (.ifCond .eq 18, 3) := by decide +kernel
theorem dX11_limits_56 : decode cX11_limits 56 = .ok (.aload_n 0, 1) := by decide +kernel
theorem dX11_limits_57 : decode cX11_limits 57 = .ok (.getfield 33, 3) := by decide +kernel
theorem dX11_limits_60 : decode cX11_limits 60 = .ok (.getfield 231, 3) := by decide +kernel
theorem dX11_limits_63 : decode cX11_limits 63 = .ok (.iload_n 2, 1) := by decide +kernel
theorem dX11_limits_64 : decode cX11_limits 64 = .ok (.iload_n 3, 1) := by decide +kernel
theorem dX11_limits_65 : decode cX11_limits 65 = .ok (.invokevirtual 235, 3) := by decide +kernel
theorem dX11_limits_68 : decode cX11_limits 68 = .ok (.goto 28, 3) := by decide +kernel
theorem dX11_limits_71 : decode cX11_limits 71 = .ok (.aload_n 0, 1) := by decide +kernel
theorem dX11_limits_72 : decode cX11_limits 72 = .ok (.getfield 33, 3) := by decide +kernel
theorem dX11_limits_75 : decode cX11_limits 75 = .ok (.getfield 241, 3) := by decide +kernel
theorem dX11_limits_78 : decode cX11_limits 78 = .ok (.iload_n 2, 1) := by decide +kernel
theorem dX11_limits_79 : decode cX11_limits 79 = .ok (.iload_n 3, 1) := by decide +kernel
theorem dX11_limits_80 : decode cX11_limits 80 = .ok (.invokevirtual 235, 3) := by decide +kernel
theorem dX11_limits_83 : decode cX11_limits 83 = .ok (.aload_n 0, 1) := by decide +kernel
theorem dX11_limits_84 : decode cX11_limits 84 = .ok (.getfield 33, 3) := by decide +kernel
theorem dX11_limits_87 : decode cX11_limits 87 = .ok (.getfield 244, 3) := by decide +kernel
theorem dX11_limits_90 : decode cX11_limits 90 = .ok (.iload_n 2, 1) := by decide +kernel
theorem dX11_limits_91 : decode cX11_limits 91 = .ok (.iload 4, 2) := by decide +kernel
theorem dX11_limits_93 : decode cX11_limits 93 = .ok (.invokevirtual 235, 3) := by decide +kernel
theorem dX11_limits_96 : decode cX11_limits 96 = .ok (.return_, 1) := by decide +kernel
theorem dL_limited_0 : decode cL_limited 0 = .ok (.aload_n 0, 1) := by decide +kernel
theorem dL_limited_1 : decode cL_limited 1 = .ok (.iload_n 1, 1) := by decide +kernel
theorem dL_limited_2 : decode cL_limited 2 = .ok (.iconst 1, 1) := by decide +kernel
theorem dL_limited_3 : decode cL_limited 3 = .ok (.if_icmp .ne 7, 3) := by decide +kernel
theorem dL_limited_6 : decode cL_limited 6 = .ok (.iconst 1, 1) := by decide +kernel
theorem dL_limited_7 : decode cL_limited 7 = .ok (.goto 4, 3) := by decide +kernel
theorem dL_limited_10 : decode cL_limited 10 = .ok (.iconst 0, 1) := by decide +kernel
theorem dL_limited_11 : decode cL_limited 11 = .ok (.iload_n 2, 1) := by decide +kernel
theorem dL_limited_12 : decode cL_limited 12 = .ok (.iload_n 3, 1) := by decide +kernel
theorem dL_limited_13 : decode cL_limited 13 = .ok (.iload 4, 2) := by decide +kernel
theorem dL_limited_15 : decode cL_limited 15 = .ok (.invokevirtual 100, 3) := by decide +kernel
theorem dL_limited_18 : decode cL_limited 18 = .ok (.iconst 0, 1) := by decide +kernel
theorem dL_limited_19 : decode cL_limited 19 = .ok (.ireturn, 1) := by decide +kernel
theorem dX8_copyFrom_0 : decode cX8_copyFrom 0 = .ok (.iconst 0, 1) := by decide +kernel
theorem dX8_copyFrom_1 : decode cX8_copyFrom 1 = .ok (.istore_n 2, 1) := by decide +kernel
theorem dX8_copyFrom_2 : decode cX8_copyFrom 2 = .ok (.iload_n 2, 1) := by decide +kernel
theorem dX8_copyFrom_3 : decode cX8_copyFrom 3 = .ok (.aload_n 0, 1) := by decide +kernel
theorem dX8_copyFrom_4 : decode cX8_copyFrom 4 = .ok (.getfield 7, 3) := by decide +kernel
theorem dX8_copyFrom_7 : decode cX8_copyFrom 7 = .ok (.arraylength, 1) := by decide +kernel
theorem dX8_copyFrom_8 : decode cX8_copyFrom 8 = .ok (.if_icmp .ge 20, 3) := by decide +kernel
theorem dX8_copyFrom_11 : decode cX8_copyFrom 11 = .ok (.aload_n 0, 1) := by decide +kernel
theorem dX8_copyFrom_12 : decode cX8_copyFrom 12 = .ok (.getfield 7, 3) := by decide +kernel
theorem dX8_copyFrom_15 : decode cX8_copyFrom 15 = .ok (.iload_n 2, 1) := by decide +kernel
theorem dX8_copyFrom_16 : decode cX8_copyFrom 16 = .ok (.aload_n 1, 1) := by decide +kernel
theorem dX8_copyFrom_17 : decode cX8_copyFrom 17 = .ok (.iload_n 2, 1) := by decide +kernel
theorem dX8_copyFrom_18 : decode cX8_copyFrom 18 = .ok (.invokevirtual 13, 3) := by decide +kernel
theorem dX8_copyFrom_21 : decode cX8_copyFrom 21 = .ok (.iastore, 1) := by decide +kernel
theorem dX8_copyFrom_22 : decode cX8_copyFrom 22 = .ok (.iinc 2 1, 3) := by decide +kernel
theorem dX8_copyFrom_25 : decode cX8_copyFrom 25 = .ok (.goto (-23), 3) := by decide +kernel
theorem dX8_copyFrom_28 : decode cX8_copyFrom 28 = .ok (.return_, 1) := by decide +kernel
theorem dX0_mass_0 : decode cX0_mass 0 = .ok (.iconst 2, 1) := by decide +kernel
theorem dX0_mass_1 : decode cX0_mass 1 = .ok (.istore_n 1, 1) := by decide +kernel
theorem dX0_mass_2 : decode cX0_mass 2 = .ok (.iconst 0, 1) := by decide +kernel
theorem dX0_mass_3 : decode cX0_mass 3 = .ok (.istore_n 2, 1) := by decide +kernel
theorem dX0_mass_4 : decode cX0_mass 4 = .ok (.iload_n 2, 1) := by decide +kernel
theorem dX0_mass_5 : decode cX0_mass 5 = .ok (.aload_n 0, 1) := by decide +kernel
theorem dX0_mass_6 : decode cX0_mass 6 = .ok (.getfield 12, 3) := by decide +kernel
theorem dX0_mass_9 : decode cX0_mass 9 = .ok (.invokevirtual 34, 3) := by decide +kernel
theorem dX0_mass_12 : decode cX0_mass 12 = .ok (.if_icmp .ge 29, 3) := by decide +kernel
theorem dX0_mass_15 : decode cX0_mass 15 = .ok (.aload_n 0, 1) := by decide +kernel
theorem dX0_mass_16 : decode cX0_mass 16 = .ok (.getfield 12, 3) := by decide +kernel
theorem dX0_mass_19 : decode cX0_mass 19 = .ok (.iload_n 2, 1) := by decide +kernel
theorem dX0_mass_20 : decode cX0_mass 20 = .ok (.invokevirtual 45, 3) := by decide +kernel
theorem dX0_mass_23 : decode cX0_mass 23 = .ok (.checkcast 27, 3) := by decide +kernel
theorem dX0_mass_26 : decode cX0_mass 26 = .ok (.invokevirtual 49, 3) := by decide +kernel
theorem dX0_mass_29 : decode cX0_mass 29 = .ok (.ifCond .eq 6, 3) := by decide +kernel
theorem dX0_mass_32 : decode cX0_mass 32 = .ok (.iinc 1 1, 3) := by decide +kernel
theorem dX0_mass_35 : decode cX0_mass 35 = .ok (.iinc 2 1, 3) := by decide +kernel
theorem dX0_mass_38 : decode cX0_mass 38 = .ok (.goto (-34), 3) := by decide +kernel
theorem dX0_mass_41 : decode cX0_mass 41 = .ok (.iload_n 1, 1) := by decide +kernel
theorem dX0_mass_42 : decode cX0_mass 42 = .ok (.ireturn, 1) := by decide +kernel
theorem dX6_peakOf_0 : decode cX6_peakOf 0 = .ok (.bipush 25, 2) := by decide +kernel
theorem dX6_peakOf_2 : decode cX6_peakOf 2 = .ok (.istore_n 2, 1) := by decide +kernel
theorem dX6_peakOf_3 : decode cX6_peakOf 3 = .ok (.iconst 0, 1) := by decide +kernel
theorem dX6_peakOf_4 : decode cX6_peakOf 4 = .ok (.istore_n 3, 1) := by decide +kernel
theorem dX6_peakOf_5 : decode cX6_peakOf 5 = .ok (.iconst 0, 1) := by decide +kernel
theorem dX6_peakOf_6 : decode cX6_peakOf 6 = .ok (.istore 4, 2) := by decide +kernel
theorem dX6_peakOf_8 : decode cX6_peakOf 8 = .ok (.iload 4, 2) := by decide +kernel
theorem dX6_peakOf_10 : decode cX6_peakOf 10 = .ok (.iconst 4, 1) := by decide +kernel
theorem dX6_peakOf_11 : decode cX6_peakOf 11 = .ok (.if_icmp .ge 45, 3) := by decide +kernel
theorem dX6_peakOf_14 : decode cX6_peakOf 14 = .ok (.iconst 0, 1) := by decide +kernel
theorem dX6_peakOf_15 : decode cX6_peakOf 15 = .ok (.istore 5, 2) := by decide +kernel
theorem dX6_peakOf_17 : decode cX6_peakOf 17 = .ok (.iload 5, 2) := by decide +kernel
theorem dX6_peakOf_19 : decode cX6_peakOf 19 = .ok (.iconst 3, 1) := by decide +kernel
theorem dX6_peakOf_20 : decode cX6_peakOf 20 = .ok (.if_icmp .ge 30, 3) := by decide +kernel
theorem dX6_peakOf_23 : decode cX6_peakOf 23 = .ok (.iload_n 2, 1) := by decide +kernel
theorem dX6_peakOf_24 : decode cX6_peakOf 24 = .ok (.aload_n 0, 1) := by decide +kernel
theorem dX6_peakOf_25 : decode cX6_peakOf 25 = .ok (.iload 4, 2) := by decide +kernel
theorem dX6_peakOf_27 : decode cX6_peakOf 27 = .ok (.invokevirtual 33, 3) := by decide +kernel
theorem dX6_peakOf_30 : decode cX6_peakOf 30 = .ok (.iload_n 2, 1) := by decide +kernel
theorem dX6_peakOf_31 : decode cX6_peakOf 31 = .ok (.isub, 1) := by decide +kernel
theorem dX6_peakOf_32 : decode cX6_peakOf 32 = .ok (.iload_n 1, 1) := by decide +kernel
theorem dX6_peakOf_33 : decode cX6_peakOf 33 = .ok (.invokestatic 37, 3) := by decide +kernel
theorem dX6_peakOf_36 : decode cX6_peakOf 36 = .ok (.iadd, 1) := by decide +kernel
theorem dX6_peakOf_37 : decode cX6_peakOf 37 = .ok (.istore_n 2, 1) := by decide +kernel
theorem dX6_peakOf_38 : decode cX6_peakOf 38 = .ok (.iload_n 3, 1) := by decide +kernel
theorem dX6_peakOf_39 : decode cX6_peakOf 39 = .ok (.iload_n 2, 1) := by decide +kernel
theorem dX6_peakOf_40 : decode cX6_peakOf 40 = .ok (.invokestatic 41, 3) := by decide +kernel
theorem dX6_peakOf_43 : decode cX6_peakOf 43 = .ok (.istore_n 3, 1) := by decide +kernel
theorem dX6_peakOf_44 : decode cX6_peakOf 44 = .ok (.iinc 5 1, 3) := by decide +kernel
theorem dX6_peakOf_47 : decode cX6_peakOf 47 = .ok (.goto (-30), 3) := by decide +kernel
theorem dX6_peakOf_50 : decode cX6_peakOf 50 = .ok (.iinc 4 1, 3) := by decide +kernel
theorem dX6_peakOf_53 : decode cX6_peakOf 53 = .ok (.goto (-45), 3) := by decide +kernel
theorem dX6_peakOf_56 : decode cX6_peakOf 56 = .ok (.iload_n 3, 1) := by decide +kernel
theorem dX6_peakOf_57 : decode cX6_peakOf 57 = .ok (.ireturn, 1) := by decide +kernel
theorem dX0_peak_0 : decode cX0_peak 0 = .ok (.aload_n 0, 1) := by decide +kernel
theorem dX0_peak_1 : decode cX0_peak 1 = .ok (.getfield 23, 3) := by decide +kernel
theorem dX0_peak_4 : decode cX0_peak 4 = .ok (.aload_n 0, 1) := by decide +kernel
theorem dX0_peak_5 : decode cX0_peak 5 = .ok (.invokevirtual 53, 3) := by decide +kernel
theorem dX0_peak_8 : decode cX0_peak 8 = .ok (.invokestatic 56, 3) := by decide +kernel
theorem dX0_peak_11 : decode cX0_peak 11 = .ok (.ireturn, 1) := by decide +kernel
theorem dX9_jointFor_0 : decode cX9_jointFor 0 = .ok (.aload_n 0, 1) := by decide +kernel
theorem dX9_jointFor_1 : decode cX9_jointFor 1 = .ok (.getfield 42, 3) := by decide +kernel
theorem dX9_jointFor_4 : decode cX9_jointFor 4 = .ok (.iload_n 1, 1) := by decide +kernel
theorem dX9_jointFor_5 : decode cX9_jointFor 5 = .ok (.if_icmp .le 5, 3) := by decide +kernel
theorem dX9_jointFor_8 : decode cX9_jointFor 8 = .ok (.iconst 1, 1) := by decide +kernel
theorem dX9_jointFor_9 : decode cX9_jointFor 9 = .ok (.ireturn, 1) := by decide +kernel
theorem dX9_jointFor_10 : decode cX9_jointFor 10 = .ok (.aload_n 0, 1) := by decide +kernel
theorem dX9_jointFor_11 : decode cX9_jointFor 11 = .ok (.getfield 48, 3) := by decide +kernel
theorem dX9_jointFor_14 : decode cX9_jointFor 14 = .ok (.iload_n 1, 1) := by decide +kernel
theorem dX9_jointFor_15 : decode cX9_jointFor 15 = .ok (.if_icmp .ge 7, 3) := by decide +kernel
theorem dX9_jointFor_18 : decode cX9_jointFor 18 = .ok (.iconst 2, 1) := by decide +kernel
theorem dX9_jointFor_19 : decode cX9_jointFor 19 = .ok (.goto 4, 3) := by decide +kernel
theorem dX9_jointFor_22 : decode cX9_jointFor 22 = .ok (.iconst 0, 1) := by decide +kernel
theorem dX9_jointFor_23 : decode cX9_jointFor 23 = .ok (.ireturn, 1) := by decide +kernel
theorem dX9_join_0 : decode cX9_join 0 = .ok (.aload_n 0, 1) := by decide +kernel
theorem dX9_join_1 : decode cX9_join 1 = .ok (.aload_n 1, 1) := by decide +kernel
theorem dX9_join_2 : decode cX9_join 2 = .ok (.getfield 30, 3) := by decide +kernel
theorem dX9_join_5 : decode cX9_join 5 = .ok (.aload_n 0, 1) := by decide +kernel
theorem dX9_join_6 : decode cX9_join 6 = .ok (.getfield 9, 3) := by decide +kernel
theorem dX9_join_9 : decode cX9_join 9 = .ok (.invokevirtual 36, 3) := by decide +kernel
theorem dX9_join_12 : decode cX9_join 12 = .ok (.putfield 42, 3) := by decide +kernel
theorem dX9_join_15 : decode cX9_join 15 = .ok (.aload_n 0, 1) := by decide +kernel
theorem dX9_join_16 : decode cX9_join 16 = .ok (.aload_n 1, 1) := by decide +kernel
theorem dX9_join_17 : decode cX9_join 17 = .ok (.getfield 45, 3) := by decide +kernel
theorem dX9_join_20 : decode cX9_join 20 = .ok (.aload_n 0, 1) := by decide +kernel
theorem dX9_join_21 : decode cX9_join 21 = .ok (.getfield 9, 3) := by decide +kernel
theorem dX9_join_24 : decode cX9_join 24 = .ok (.invokevirtual 36, 3) := by decide +kernel
theorem dX9_join_27 : decode cX9_join 27 = .ok (.putfield 48, 3) := by decide +kernel
theorem dX9_join_30 : decode cX9_join 30 = .ok (.aload_n 0, 1) := by decide +kernel
theorem dX9_join_31 : decode cX9_join 31 = .ok (.aload_n 0, 1) := by decide +kernel
theorem dX9_join_32 : decode cX9_join 32 = .ok (.iload_n 2, 1) := by decide +kernel
theorem dX9_join_33 : decode cX9_join 33 = .ok (.invokevirtual 51, 3) := by decide +kernel
theorem dX9_join_36 : decode cX9_join 36 = .ok (.putfield 21, 3) := by decide +kernel
theorem dX9_join_39 : decode cX9_join 39 = .ok (.return_, 1) := by decide +kernel
theorem dX0_goThrough_0 : decode cX0_goThrough 0 = .ok (.aload_n 0, 1) := by decide +kernel
theorem dX0_goThrough_1 : decode cX0_goThrough 1 = .ok (.getfield 23, 3) := by decide +kernel
theorem dX0_goThrough_4 : decode cX0_goThrough 4 = .ok (.aload_n 1, 1) := by decide +kernel
theorem dX0_goThrough_5 : decode cX0_goThrough 5 = .ok (.getfield 62, 3) := by decide +kernel
theorem dX0_goThrough_8 : decode cX0_goThrough 8 = .ok (.invokevirtual 63, 3) := by decide +kernel
theorem dX0_goThrough_11 : decode cX0_goThrough 11 = .ok (.aload_n 0, 1) := by decide +kernel
theorem dX0_goThrough_12 : decode cX0_goThrough 12 = .ok (.iconst 1, 1) := by decide +kernel
theorem dX0_goThrough_13 : decode cX0_goThrough 13 = .ok (.putfield 67, 3) := by decide +kernel
theorem dX0_goThrough_16 : decode cX0_goThrough 16 = .ok (.aload_n 0, 1) := by decide +kernel
theorem dX0_goThrough_17 : decode cX0_goThrough 17 = .ok (.invokevirtual 71, 3) := by decide +kernel
theorem dX0_goThrough_20 : decode cX0_goThrough 20 = .ok (.istore_n 2, 1) := by decide +kernel
theorem dX0_goThrough_21 : decode cX0_goThrough 21 = .ok (.iconst 0, 1) := by decide +kernel
theorem dX0_goThrough_22 : decode cX0_goThrough 22 = .ok (.istore_n 3, 1) := by decide +kernel
theorem dX0_goThrough_23 : decode cX0_goThrough 23 = .ok (.iload_n 3, 1) := by decide +kernel
theorem dX0_goThrough_24 : decode cX0_goThrough 24 = .ok (.aload_n 0, 1) := by decide +kernel
theorem dX0_goThrough_25 : decode cX0_goThrough 25 = .ok (.getfield 12, 3) := by decide +kernel
theorem dX0_goThrough_28 : decode cX0_goThrough 28 = .ok (.invokevirtual 34, 3) := by decide +kernel
theorem dX0_goThrough_31 : decode cX0_goThrough 31 = .ok (.if_icmp .ge 37, 3) := by decide +kernel
theorem dX0_goThrough_34 : decode cX0_goThrough 34 = .ok (.aload_n 0, 1) := by decide +kernel
theorem dX0_goThrough_35 : decode cX0_goThrough 35 = .ok (.getfield 12, 3) := by decide +kernel
theorem dX0_goThrough_38 : decode cX0_goThrough 38 = .ok (.iload_n 3, 1) := by decide +kernel
theorem dX0_goThrough_39 : decode cX0_goThrough 39 = .ok (.invokevirtual 45, 3) := by decide +kernel
theorem dX0_goThrough_42 : decode cX0_goThrough 42 = .ok (.checkcast 27, 3) := by decide +kernel
theorem dX0_goThrough_45 : decode cX0_goThrough 45 = .ok (.astore 4, 2) := by decide +kernel
theorem dX0_goThrough_47 : decode cX0_goThrough 47 = .ok (.aload 4, 2) := by decide +kernel
theorem dX0_goThrough_49 : decode cX0_goThrough 49 = .ok (.invokevirtual 49, 3) := by decide +kernel
theorem dX0_goThrough_52 : decode cX0_goThrough 52 = .ok (.ifCond .eq 10, 3) := by decide +kernel
theorem dX0_goThrough_55 : decode cX0_goThrough 55 = .ok (.aload 4, 2) := by decide +kernel
theorem dX0_goThrough_57 : decode cX0_goThrough 57 = .ok (.aload_n 1, 1) := by decide +kernel
theorem dX0_goThrough_58 : decode cX0_goThrough 58 = .ok (.iload_n 2, 1) := by decide +kernel
theorem dX0_goThrough_59 : decode cX0_goThrough 59 = .ok (.invokevirtual 74, 3) := by decide +kernel
theorem dX0_goThrough_62 : decode cX0_goThrough 62 = .ok (.iinc 3 1, 3) := by decide +kernel
theorem dX0_goThrough_65 : decode cX0_goThrough 65 = .ok (.goto (-42), 3) := by decide +kernel
theorem dX0_goThrough_68 : decode cX0_goThrough 68 = .ok (.iload_n 2, 1) := by decide +kernel
theorem dX0_goThrough_69 : decode cX0_goThrough 69 = .ok (.ireturn, 1) := by decide +kernel
theorem dX11_solder_0 : decode cX11_solder 0 = .ok (.aload_n 0, 1) := by decide +kernel
theorem dX11_solder_1 : decode cX11_solder 1 = .ok (.iload_n 1, 1) := by decide +kernel
theorem dX11_solder_2 : decode cX11_solder 2 = .ok (.invokevirtual 207, 3) := by decide +kernel
theorem dX11_solder_5 : decode cX11_solder 5 = .ok (.astore_n 2, 1) := by decide +kernel
theorem dX11_solder_6 : decode cX11_solder 6 = .ok (.aload_n 2, 1) := by decide +kernel
theorem dX11_solder_7 : decode cX11_solder 7 = .ok (.getfield 215, 3) := by decide +kernel
theorem dX11_solder_10 : decode cX11_solder 10 = .ok (.ifCond .ne 7, 3) := by decide +kernel
theorem dX11_solder_13 : decode cX11_solder 13 = .ok (.iconst 1, 1) := by decide +kernel
theorem dX11_solder_14 : decode cX11_solder 14 = .ok (.goto 4, 3) := by decide +kernel
theorem dX11_solder_17 : decode cX11_solder 17 = .ok (.iconst 0, 1) := by decide +kernel
theorem dX11_solder_18 : decode cX11_solder 18 = .ok (.invokestatic 76, 3) := by decide +kernel
theorem dX11_solder_21 : decode cX11_solder 21 = .ok (.aload_n 2, 1) := by decide +kernel
theorem dX11_solder_22 : decode cX11_solder 22 = .ok (.aload_n 0, 1) := by decide +kernel
theorem dX11_solder_23 : decode cX11_solder 23 = .ok (.getfield 33, 3) := by decide +kernel
theorem dX11_solder_26 : decode cX11_solder 26 = .ok (.invokevirtual 247, 3) := by decide +kernel
theorem dX11_solder_29 : decode cX11_solder 29 = .ok (.ireturn, 1) := by decide +kernel
theorem dX11_flaw_0 : decode cX11_flaw 0 = .ok (.aload_n 0, 1) := by decide +kernel
theorem dX11_flaw_1 : decode cX11_flaw 1 = .ok (.iload_n 1, 1) := by decide +kernel
theorem dX11_flaw_2 : decode cX11_flaw 2 = .ok (.invokevirtual 207, 3) := by decide +kernel
theorem dX11_flaw_5 : decode cX11_flaw 5 = .ok (.astore_n 3, 1) := by decide +kernel
theorem dX11_flaw_6 : decode cX11_flaw 6 = .ok (.aload_n 3, 1) := by decide +kernel
theorem dX11_flaw_7 : decode cX11_flaw 7 = .ok (.iload_n 2, 1) := by decide +kernel
theorem dX11_flaw_8 : decode cX11_flaw 8 = .ok (.invokevirtual 211, 3) := by decide +kernel
theorem dX11_flaw_11 : decode cX11_flaw 11 = .ok (.astore 4, 2) := by decide +kernel
theorem dX11_flaw_13 : decode cX11_flaw 13 = .ok (.aload_n 3, 1) := by decide +kernel
theorem dX11_flaw_14 : decode cX11_flaw 14 = .ok (.getfield 215, 3) := by decide +kernel
theorem dX11_flaw_17 : decode cX11_flaw 17 = .ok (.ifCond .eq 22, 3) := by decide +kernel
theorem dX11_flaw_20 : decode cX11_flaw 20 = .ok (.aload_n 3, 1) := by decide +kernel
theorem dX11_flaw_21 : decode cX11_flaw 21 = .ok (.getfield 251, 3) := by decide +kernel
theorem dX11_flaw_24 : decode cX11_flaw 24 = .ok (.ifCond .ne 15, 3) := by decide +kernel
theorem dX11_flaw_27 : decode cX11_flaw 27 = .ok (.aload 4, 2) := by decide +kernel
theorem dX11_flaw_29 : decode cX11_flaw 29 = .ok (.invokevirtual 218, 3) := by decide +kernel
theorem dX11_flaw_32 : decode cX11_flaw 32 = .ok (.ifCond .eq 7, 3) := by decide +kernel
theorem dX11_flaw_35 : decode cX11_flaw 35 = .ok (.iconst 1, 1) := by decide +kernel
theorem dX11_flaw_36 : decode cX11_flaw 36 = .ok (.goto 4, 3) := by decide +kernel
theorem dX11_flaw_39 : decode cX11_flaw 39 = .ok (.iconst 0, 1) := by decide +kernel
theorem dX11_flaw_40 : decode cX11_flaw 40 = .ok (.invokestatic 76, 3) := by decide +kernel
theorem dX11_flaw_43 : decode cX11_flaw 43 = .ok (.aload 4, 2) := by decide +kernel
theorem dX11_flaw_45 : decode cX11_flaw 45 = .ok (.iconst 3, 1) := by decide +kernel
theorem dX11_flaw_46 : decode cX11_flaw 46 = .ok (.putfield 254, 3) := by decide +kernel
theorem dX11_flaw_49 : decode cX11_flaw 49 = .ok (.aload 4, 2) := by decide +kernel
theorem dX11_flaw_51 : decode cX11_flaw 51 = .ok (.iconst 0, 1) := by decide +kernel
theorem dX11_flaw_52 : decode cX11_flaw 52 = .ok (.putfield 257, 3) := by decide +kernel
theorem dX11_flaw_55 : decode cX11_flaw 55 = .ok (.return_, 1) := by decide +kernel
theorem dL_flawed_0 : decode cL_flawed 0 = .ok (.aload_n 0, 1) := by decide +kernel
theorem dL_flawed_1 : decode cL_flawed 1 = .ok (.iload_n 1, 1) := by decide +kernel
theorem dL_flawed_2 : decode cL_flawed 2 = .ok (.iload_n 2, 1) := by decide +kernel
theorem dL_flawed_3 : decode cL_flawed 3 = .ok (.invokevirtual 104, 3) := by decide +kernel
theorem dL_flawed_6 : decode cL_flawed 6 = .ok (.iconst 0, 1) := by decide +kernel
theorem dL_flawed_7 : decode cL_flawed 7 = .ok (.ireturn, 1) := by decide +kernel
theorem dJ6_bitCount_0f7a4_0 : decode cJ6_bitCount_0f7a4 0 = .ok (.iload_n 0, 1) := by decide +kernel
theorem dJ6_bitCount_0f7a4_1 : decode cJ6_bitCount_0f7a4 1 = .ok (.iload_n 0, 1) := by decide +kernel
theorem dJ6_bitCount_0f7a4_2 : decode cJ6_bitCount_0f7a4 2 = .ok (.iconst 1, 1) := by decide +kernel
theorem dJ6_bitCount_0f7a4_3 : decode cJ6_bitCount_0f7a4 3 = .ok (.iushr, 1) := by decide +kernel
theorem dJ6_bitCount_0f7a4_4 : decode cJ6_bitCount_0f7a4 4 = .ok (.ldc_w 265, 3) := by decide +kernel
theorem dJ6_bitCount_0f7a4_7 : decode cJ6_bitCount_0f7a4 7 = .ok (.iand, 1) := by decide +kernel
theorem dJ6_bitCount_0f7a4_8 : decode cJ6_bitCount_0f7a4 8 = .ok (.isub, 1) := by decide +kernel
theorem dJ6_bitCount_0f7a4_9 : decode cJ6_bitCount_0f7a4 9 = .ok (.istore_n 0, 1) := by decide +kernel
theorem dJ6_bitCount_0f7a4_10 : decode cJ6_bitCount_0f7a4 10 = .ok (.iload_n 0, 1) := by decide +kernel
theorem dJ6_bitCount_0f7a4_11 : decode cJ6_bitCount_0f7a4 11 = .ok (.ldc_w 266, 3) := by decide +kernel
theorem dJ6_bitCount_0f7a4_14 : decode cJ6_bitCount_0f7a4 14 = .ok (.iand, 1) := by decide +kernel
theorem dJ6_bitCount_0f7a4_15 : decode cJ6_bitCount_0f7a4 15 = .ok (.iload_n 0, 1) := by decide +kernel
theorem dJ6_bitCount_0f7a4_16 : decode cJ6_bitCount_0f7a4 16 = .ok (.iconst 2, 1) := by decide +kernel
theorem dJ6_bitCount_0f7a4_17 : decode cJ6_bitCount_0f7a4 17 = .ok (.iushr, 1) := by decide +kernel
theorem dJ6_bitCount_0f7a4_18 : decode cJ6_bitCount_0f7a4 18 = .ok (.ldc_w 266, 3) := by decide +kernel
theorem dJ6_bitCount_0f7a4_21 : decode cJ6_bitCount_0f7a4 21 = .ok (.iand, 1) := by decide +kernel
theorem dJ6_bitCount_0f7a4_22 : decode cJ6_bitCount_0f7a4 22 = .ok (.iadd, 1) := by decide +kernel
theorem dJ6_bitCount_0f7a4_23 : decode cJ6_bitCount_0f7a4 23 = .ok (.istore_n 0, 1) := by decide +kernel
theorem dJ6_bitCount_0f7a4_24 : decode cJ6_bitCount_0f7a4 24 = .ok (.iload_n 0, 1) := by decide +kernel
theorem dJ6_bitCount_0f7a4_25 : decode cJ6_bitCount_0f7a4 25 = .ok (.iload_n 0, 1) := by decide +kernel
theorem dJ6_bitCount_0f7a4_26 : decode cJ6_bitCount_0f7a4 26 = .ok (.iconst 4, 1) := by decide +kernel
theorem dJ6_bitCount_0f7a4_27 : decode cJ6_bitCount_0f7a4 27 = .ok (.iushr, 1) := by decide +kernel
theorem dJ6_bitCount_0f7a4_28 : decode cJ6_bitCount_0f7a4 28 = .ok (.iadd, 1) := by decide +kernel
theorem dJ6_bitCount_0f7a4_29 : decode cJ6_bitCount_0f7a4 29 = .ok (.ldc_w 267, 3) := by decide +kernel
theorem dJ6_bitCount_0f7a4_32 : decode cJ6_bitCount_0f7a4 32 = .ok (.iand, 1) := by decide +kernel
theorem dJ6_bitCount_0f7a4_33 : decode cJ6_bitCount_0f7a4 33 = .ok (.istore_n 0, 1) := by decide +kernel
theorem dJ6_bitCount_0f7a4_34 : decode cJ6_bitCount_0f7a4 34 = .ok (.iload_n 0, 1) := by decide +kernel
theorem dJ6_bitCount_0f7a4_35 : decode cJ6_bitCount_0f7a4 35 = .ok (.iload_n 0, 1) := by decide +kernel
theorem dJ6_bitCount_0f7a4_36 : decode cJ6_bitCount_0f7a4 36 = .ok (.bipush 8, 2) := by decide +kernel
theorem dJ6_bitCount_0f7a4_38 : decode cJ6_bitCount_0f7a4 38 = .ok (.iushr, 1) := by decide +kernel
theorem dJ6_bitCount_0f7a4_39 : decode cJ6_bitCount_0f7a4 39 = .ok (.iadd, 1) := by decide +kernel
theorem dJ6_bitCount_0f7a4_40 : decode cJ6_bitCount_0f7a4 40 = .ok (.istore_n 0, 1) := by decide +kernel
theorem dJ6_bitCount_0f7a4_41 : decode cJ6_bitCount_0f7a4 41 = .ok (.iload_n 0, 1) := by decide +kernel
theorem dJ6_bitCount_0f7a4_42 : decode cJ6_bitCount_0f7a4 42 = .ok (.iload_n 0, 1) := by decide +kernel
theorem dJ6_bitCount_0f7a4_43 : decode cJ6_bitCount_0f7a4 43 = .ok (.bipush 16, 2) := by decide +kernel
theorem dJ6_bitCount_0f7a4_45 : decode cJ6_bitCount_0f7a4 45 = .ok (.iushr, 1) := by decide +kernel
theorem dJ6_bitCount_0f7a4_46 : decode cJ6_bitCount_0f7a4 46 = .ok (.iadd, 1) := by decide +kernel
theorem dJ6_bitCount_0f7a4_47 : decode cJ6_bitCount_0f7a4 47 = .ok (.istore_n 0, 1) := by decide +kernel
theorem dJ6_bitCount_0f7a4_48 : decode cJ6_bitCount_0f7a4 48 = .ok (.iload_n 0, 1) := by decide +kernel
theorem dJ6_bitCount_0f7a4_49 : decode cJ6_bitCount_0f7a4 49 = .ok (.bipush 63, 2) := by decide +kernel
theorem dJ6_bitCount_0f7a4_51 : decode cJ6_bitCount_0f7a4 51 = .ok (.iand, 1) := by decide +kernel
theorem dJ6_bitCount_0f7a4_52 : decode cJ6_bitCount_0f7a4 52 = .ok (.ireturn, 1) := by decide +kernel
theorem dX11_cover_0 : decode cX11_cover 0 = .ok (.iload_n 1, 1) := by decide +kernel
theorem dX11_cover_1 : decode cX11_cover 1 = .ok (.bipush 8, 2) := by decide +kernel
theorem dX11_cover_3 : decode cX11_cover 3 = .ok (.invokestatic 54, 3) := by decide +kernel
theorem dX11_cover_6 : decode cX11_cover 6 = .ok (.invokestatic 58, 3) := by decide +kernel
theorem dX11_cover_9 : decode cX11_cover 9 = .ok (.aload_n 0, 1) := by decide +kernel
theorem dX11_cover_10 : decode cX11_cover 10 = .ok (.iload_n 2, 1) := by decide +kernel
theorem dX11_cover_11 : decode cX11_cover 11 = .ok (.ifCond .eq 14, 3) := by decide +kernel
theorem dX11_cover_14 : decode cX11_cover 14 = .ok (.aload_n 0, 1) := by decide +kernel
theorem dX11_cover_15 : decode cX11_cover 15 = .ok (.getfield 47, 3) := by decide +kernel
theorem dX11_cover_18 : decode cX11_cover 18 = .ok (.iconst 1, 1) := by decide +kernel
theorem dX11_cover_19 : decode cX11_cover 19 = .ok (.iload_n 1, 1) := by decide +kernel
theorem dX11_cover_20 : decode cX11_cover 20 = .ok (.ishl, 1) := by decide +kernel
theorem dX11_cover_21 : decode cX11_cover 21 = .ok (.ior, 1) := by decide +kernel
theorem dX11_cover_22 : decode cX11_cover 22 = .ok (.goto 13, 3) := by decide +kernel
theorem dX11_cover_25 : decode cX11_cover 25 = .ok (.aload_n 0, 1) := by decide +kernel
theorem dX11_cover_26 : decode cX11_cover 26 = .ok (.getfield 47, 3) := by decide +kernel
theorem dX11_cover_29 : decode cX11_cover 29 = .ok (.iconst 1, 1) := by decide +kernel
theorem dX11_cover_30 : decode cX11_cover 30 = .ok (.iload_n 1, 1) := by decide +kernel
theorem dX11_cover_31 : decode cX11_cover 31 = .ok (.ishl, 1) := by decide +kernel
theorem dX11_cover_32 : decode cX11_cover 32 = .ok (.iconst (-1), 1) := by decide +kernel
theorem dX11_cover_33 : decode cX11_cover 33 = .ok (.ixor, 1) := by decide +kernel
theorem dX11_cover_34 : decode cX11_cover 34 = .ok (.iand, 1) := by decide +kernel
theorem dX11_cover_35 : decode cX11_cover 35 = .ok (.putfield 47, 3) := by decide +kernel
theorem dX11_cover_38 : decode cX11_cover 38 = .ok (.aload_n 0, 1) := by decide +kernel
theorem dX11_cover_39 : decode cX11_cover 39 = .ok (.getfield 47, 3) := by decide +kernel
theorem dX11_cover_42 : decode cX11_cover 42 = .ok (.invokestatic 260, 3) := by decide +kernel
theorem dX11_cover_45 : decode cX11_cover 45 = .ok (.ireturn, 1) := by decide +kernel
theorem dX0_findFaults_0 : decode cX0_findFaults 0 = .ok (.aload_n 0, 1) := by decide +kernel
theorem dX0_findFaults_1 : decode cX0_findFaults 1 = .ok (.iconst 1, 1) := by decide +kernel
theorem dX0_findFaults_2 : decode cX0_findFaults 2 = .ok (.putfield 78, 3) := by decide +kernel
theorem dX0_findFaults_5 : decode cX0_findFaults 5 = .ok (.iconst 0, 1) := by decide +kernel
theorem dX0_findFaults_6 : decode cX0_findFaults 6 = .ok (.istore_n 2, 1) := by decide +kernel
theorem dX0_findFaults_7 : decode cX0_findFaults 7 = .ok (.iload_n 2, 1) := by decide +kernel
theorem dX0_findFaults_8 : decode cX0_findFaults 8 = .ok (.aload_n 0, 1) := by decide +kernel
theorem dX0_findFaults_9 : decode cX0_findFaults 9 = .ok (.getfield 12, 3) := by decide +kernel
theorem dX0_findFaults_12 : decode cX0_findFaults 12 = .ok (.invokevirtual 34, 3) := by decide +kernel
theorem dX0_findFaults_15 : decode cX0_findFaults 15 = .ok (.if_icmp .ge 41, 3) := by decide +kernel
theorem dX0_findFaults_18 : decode cX0_findFaults 18 = .ok (.aload_n 0, 1) := by decide +kernel
theorem dX0_findFaults_19 : decode cX0_findFaults 19 = .ok (.getfield 12, 3) := by decide +kernel
theorem dX0_findFaults_22 : decode cX0_findFaults 22 = .ok (.iload_n 2, 1) := by decide +kernel
theorem dX0_findFaults_23 : decode cX0_findFaults 23 = .ok (.invokevirtual 45, 3) := by decide +kernel
theorem dX0_findFaults_26 : decode cX0_findFaults 26 = .ok (.checkcast 27, 3) := by decide +kernel
theorem dX0_findFaults_29 : decode cX0_findFaults 29 = .ok (.astore_n 3, 1) := by decide +kernel
theorem dX0_findFaults_30 : decode cX0_findFaults 30 = .ok (.iload_n 1, 1) := by decide +kernel
theorem dX0_findFaults_31 : decode cX0_findFaults 31 = .ok (.iconst 1, 1) := by decide +kernel
theorem dX0_findFaults_32 : decode cX0_findFaults 32 = .ok (.iload_n 2, 1) := by decide +kernel
theorem dX0_findFaults_33 : decode cX0_findFaults 33 = .ok (.ishl, 1) := by decide +kernel
theorem dX0_findFaults_34 : decode cX0_findFaults 34 = .ok (.iand, 1) := by decide +kernel
theorem dX0_findFaults_35 : decode cX0_findFaults 35 = .ok (.ifCond .eq 15, 3) := by decide +kernel
theorem dX0_findFaults_38 : decode cX0_findFaults 38 = .ok (.aload_n 3, 1) := by decide +kernel
theorem dX0_findFaults_39 : decode cX0_findFaults 39 = .ok (.getfield 81, 3) := by decide +kernel
theorem dX0_findFaults_42 : decode cX0_findFaults 42 = .ok (.ifCond .eq 8, 3) := by decide +kernel
theorem dX0_findFaults_45 : decode cX0_findFaults 45 = .ok (.aload_n 3, 1) := by decide +kernel
theorem dX0_findFaults_46 : decode cX0_findFaults 46 = .ok (.iconst 1, 1) := by decide +kernel
theorem dX0_findFaults_47 : decode cX0_findFaults 47 = .ok (.putfield 85, 3) := by decide +kernel
theorem dX0_findFaults_50 : decode cX0_findFaults 50 = .ok (.iinc 2 1, 3) := by decide +kernel
theorem dX0_findFaults_53 : decode cX0_findFaults 53 = .ok (.goto (-46), 3) := by decide +kernel
theorem dX0_findFaults_56 : decode cX0_findFaults 56 = .ok (.return_, 1) := by decide +kernel
theorem dX0_faultsFound_0 : decode cX0_faultsFound 0 = .ok (.iconst 0, 1) := by decide +kernel
theorem dX0_faultsFound_1 : decode cX0_faultsFound 1 = .ok (.istore_n 2, 1) := by decide +kernel
theorem dX0_faultsFound_2 : decode cX0_faultsFound 2 = .ok (.iconst 0, 1) := by decide +kernel
theorem dX0_faultsFound_3 : decode cX0_faultsFound 3 = .ok (.istore_n 3, 1) := by decide +kernel
theorem dX0_faultsFound_4 : decode cX0_faultsFound 4 = .ok (.iload_n 3, 1) := by decide +kernel
theorem dX0_faultsFound_5 : decode cX0_faultsFound 5 = .ok (.aload_n 0, 1) := by decide +kernel
theorem dX0_faultsFound_6 : decode cX0_faultsFound 6 = .ok (.getfield 12, 3) := by decide +kernel
theorem dX0_faultsFound_9 : decode cX0_faultsFound 9 = .ok (.invokevirtual 34, 3) := by decide +kernel
theorem dX0_faultsFound_12 : decode cX0_faultsFound 12 = .ok (.if_icmp .ge 42, 3) := by decide +kernel
theorem dX0_faultsFound_15 : decode cX0_faultsFound 15 = .ok (.aload_n 0, 1) := by decide +kernel
theorem dX0_faultsFound_16 : decode cX0_faultsFound 16 = .ok (.getfield 12, 3) := by decide +kernel
theorem dX0_faultsFound_19 : decode cX0_faultsFound 19 = .ok (.iload_n 3, 1) := by decide +kernel
theorem dX0_faultsFound_20 : decode cX0_faultsFound 20 = .ok (.invokevirtual 45, 3) := by decide +kernel
theorem dX0_faultsFound_23 : decode cX0_faultsFound 23 = .ok (.checkcast 27, 3) := by decide +kernel
theorem dX0_faultsFound_26 : decode cX0_faultsFound 26 = .ok (.astore 4, 2) := by decide +kernel
theorem dX0_faultsFound_28 : decode cX0_faultsFound 28 = .ok (.aload 4, 2) := by decide +kernel
theorem dX0_faultsFound_30 : decode cX0_faultsFound 30 = .ok (.getfield 81, 3) := by decide +kernel
theorem dX0_faultsFound_33 : decode cX0_faultsFound 33 = .ok (.ifCond .eq 15, 3) := by decide +kernel
theorem dX0_faultsFound_36 : decode cX0_faultsFound 36 = .ok (.aload 4, 2) := by decide +kernel
theorem dX0_faultsFound_38 : decode cX0_faultsFound 38 = .ok (.getfield 85, 3) := by decide +kernel
theorem dX0_faultsFound_41 : decode cX0_faultsFound 41 = .ok (.iload_n 1, 1) := by decide +kernel
theorem dX0_faultsFound_42 : decode cX0_faultsFound 42 = .ok (.if_icmp .ne 6, 3) := by decide +kernel
theorem dX0_faultsFound_45 : decode cX0_faultsFound 45 = .ok (.iinc 2 1, 3) := by decide +kernel
theorem dX0_faultsFound_48 : decode cX0_faultsFound 48 = .ok (.iinc 3 1, 3) := by decide +kernel
theorem dX0_faultsFound_51 : decode cX0_faultsFound 51 = .ok (.goto (-47), 3) := by decide +kernel
theorem dX0_faultsFound_54 : decode cX0_faultsFound 54 = .ok (.iload_n 2, 1) := by decide +kernel
theorem dX0_faultsFound_55 : decode cX0_faultsFound 55 = .ok (.ireturn, 1) := by decide +kernel
theorem dX11_test_0 : decode cX11_test 0 = .ok (.aload_n 0, 1) := by decide +kernel
theorem dX11_test_1 : decode cX11_test 1 = .ok (.iload_n 1, 1) := by decide +kernel
theorem dX11_test_2 : decode cX11_test 2 = .ok (.invokevirtual 207, 3) := by decide +kernel
theorem dX11_test_5 : decode cX11_test 5 = .ok (.astore_n 2, 1) := by decide +kernel
theorem dX11_test_6 : decode cX11_test 6 = .ok (.aload_n 2, 1) := by decide +kernel
theorem dX11_test_7 : decode cX11_test 7 = .ok (.getfield 215, 3) := by decide +kernel
theorem dX11_test_10 : decode cX11_test 10 = .ok (.ifCond .eq 14, 3) := by decide +kernel
theorem dX11_test_13 : decode cX11_test 13 = .ok (.aload_n 2, 1) := by decide +kernel
theorem dX11_test_14 : decode cX11_test 14 = .ok (.getfield 251, 3) := by decide +kernel
theorem dX11_test_17 : decode cX11_test 17 = .ok (.ifCond .ne 7, 3) := by decide +kernel
theorem dX11_test_20 : decode cX11_test 20 = .ok (.iconst 1, 1) := by decide +kernel
theorem dX11_test_21 : decode cX11_test 21 = .ok (.goto 4, 3) := by decide +kernel
theorem dX11_test_24 : decode cX11_test 24 = .ok (.iconst 0, 1) := by decide +kernel
theorem dX11_test_25 : decode cX11_test 25 = .ok (.invokestatic 76, 3) := by decide +kernel
theorem dX11_test_28 : decode cX11_test 28 = .ok (.aload_n 2, 1) := by decide +kernel
theorem dX11_test_29 : decode cX11_test 29 = .ok (.aload_n 0, 1) := by decide +kernel
theorem dX11_test_30 : decode cX11_test 30 = .ok (.getfield 47, 3) := by decide +kernel
theorem dX11_test_33 : decode cX11_test 33 = .ok (.invokevirtual 265, 3) := by decide +kernel
theorem dX11_test_36 : decode cX11_test 36 = .ok (.aload_n 2, 1) := by decide +kernel
theorem dX11_test_37 : decode cX11_test 37 = .ok (.iconst 1, 1) := by decide +kernel
theorem dX11_test_38 : decode cX11_test 38 = .ok (.invokevirtual 268, 3) := by decide +kernel
theorem dX11_test_41 : decode cX11_test 41 = .ok (.ireturn, 1) := by decide +kernel
theorem dX9_mend_0 : decode cX9_mend 0 = .ok (.aload_n 0, 1) := by decide +kernel
theorem dX9_mend_1 : decode cX9_mend 1 = .ok (.iconst 0, 1) := by decide +kernel
theorem dX9_mend_2 : decode cX9_mend 2 = .ok (.putfield 21, 3) := by decide +kernel
theorem dX9_mend_5 : decode cX9_mend 5 = .ok (.aload_n 0, 1) := by decide +kernel
theorem dX9_mend_6 : decode cX9_mend 6 = .ok (.iconst 0, 1) := by decide +kernel
theorem dX9_mend_7 : decode cX9_mend 7 = .ok (.putfield 54, 3) := by decide +kernel
theorem dX9_mend_10 : decode cX9_mend 10 = .ok (.aload_n 0, 1) := by decide +kernel
theorem dX9_mend_11 : decode cX9_mend 11 = .ok (.iconst 1, 1) := by decide +kernel
theorem dX9_mend_12 : decode cX9_mend 12 = .ok (.putfield 58, 3) := by decide +kernel
theorem dX9_mend_15 : decode cX9_mend 15 = .ok (.return_, 1) := by decide +kernel
theorem dX11_repair_0 : decode cX11_repair 0 = .ok (.aload_n 0, 1) := by decide +kernel
theorem dX11_repair_1 : decode cX11_repair 1 = .ok (.iload_n 1, 1) := by decide +kernel
theorem dX11_repair_2 : decode cX11_repair 2 = .ok (.invokevirtual 207, 3) := by decide +kernel
theorem dX11_repair_5 : decode cX11_repair 5 = .ok (.astore 4, 2) := by decide +kernel
theorem dX11_repair_7 : decode cX11_repair 7 = .ok (.aload 4, 2) := by decide +kernel
theorem dX11_repair_9 : decode cX11_repair 9 = .ok (.iload_n 2, 1) := by decide +kernel
theorem dX11_repair_10 : decode cX11_repair 10 = .ok (.invokevirtual 211, 3) := by decide +kernel
theorem dX11_repair_13 : decode cX11_repair 13 = .ok (.astore 5, 2) := by decide +kernel
theorem dX11_repair_15 : decode cX11_repair 15 = .ok (.aload_n 0, 1) := by decide +kernel
theorem dX11_repair_16 : decode cX11_repair 16 = .ok (.iload_n 3, 1) := by decide +kernel
theorem dX11_repair_17 : decode cX11_repair 17 = .ok (.invokevirtual 184, 3) := by decide +kernel
theorem dX11_repair_20 : decode cX11_repair 20 = .ok (.astore 6, 2) := by decide +kernel
theorem dX11_repair_22 : decode cX11_repair 22 = .ok (.aload 5, 2) := by decide +kernel
theorem dX11_repair_24 : decode cX11_repair 24 = .ok (.getfield 257, 3) := by decide +kernel
theorem dX11_repair_27 : decode cX11_repair 27 = .ok (.ifCond .eq 15, 3) := by decide +kernel
theorem dX11_repair_30 : decode cX11_repair 30 = .ok (.aload 5, 2) := by decide +kernel
theorem dX11_repair_32 : decode cX11_repair 32 = .ok (.getfield 272, 3) := by decide +kernel
theorem dX11_repair_35 : decode cX11_repair 35 = .ok (.ifCond .ne 7, 3) := by decide +kernel
theorem dX11_repair_38 : decode cX11_repair 38 = .ok (.iconst 1, 1) := by decide +kernel
theorem dX11_repair_39 : decode cX11_repair 39 = .ok (.goto 4, 3) := by decide +kernel
theorem dX11_repair_42 : decode cX11_repair 42 = .ok (.iconst 0, 1) := by decide +kernel
theorem dX11_repair_43 : decode cX11_repair 43 = .ok (.invokestatic 76, 3) := by decide +kernel
theorem dX11_repair_46 : decode cX11_repair 46 = .ok (.aload 6, 2) := by decide +kernel
theorem dX11_repair_48 : decode cX11_repair 48 = .ok (.getfield 198, 3) := by decide +kernel
theorem dX11_repair_51 : decode cX11_repair 51 = .ok (.aload 5, 2) := by decide +kernel
theorem dX11_repair_53 : decode cX11_repair 53 = .ok (.getfield 275, 3) := by decide +kernel
theorem dX11_repair_56 : decode cX11_repair 56 = .ok (.if_icmp .ne 19, 3) := by decide +kernel
theorem dX11_repair_59 : decode cX11_repair 59 = .ok (.aload 6, 2) := by decide +kernel
theorem dX11_repair_61 : decode cX11_repair 61 = .ok (.aload_n 0, 1) := by decide +kernel
theorem dX11_repair_62 : decode cX11_repair 62 = .ok (.getfield 51, 3) := by decide +kernel
theorem dX11_repair_65 : decode cX11_repair 65 = .ok (.invokevirtual 224, 3) := by decide +kernel
theorem dX11_repair_68 : decode cX11_repair 68 = .ok (.ifCond .eq 7, 3) := by decide +kernel
theorem dX11_repair_71 : decode cX11_repair 71 = .ok (.iconst 1, 1) := by decide +kernel
theorem dX11_repair_72 : decode cX11_repair 72 = .ok (.goto 4, 3) := by decide +kernel
theorem dX11_repair_75 : decode cX11_repair 75 = .ok (.iconst 0, 1) := by decide +kernel
theorem dX11_repair_76 : decode cX11_repair 76 = .ok (.invokestatic 76, 3) := by decide +kernel
theorem dX11_repair_79 : decode cX11_repair 79 = .ok (.aload 5, 2) := by decide +kernel
theorem dX11_repair_81 : decode cX11_repair 81 = .ok (.iload_n 3, 1) := by decide +kernel
theorem dX11_repair_82 : decode cX11_repair 82 = .ok (.aload 6, 2) := by decide +kernel
theorem dX11_repair_84 : decode cX11_repair 84 = .ok (.aload_n 0, 1) := by decide +kernel
theorem dX11_repair_85 : decode cX11_repair 85 = .ok (.getfield 51, 3) := by decide +kernel
theorem dX11_repair_88 : decode cX11_repair 88 = .ok (.invokevirtual 227, 3) := by decide +kernel
theorem dX11_repair_91 : decode cX11_repair 91 = .ok (.aload 5, 2) := by decide +kernel
theorem dX11_repair_93 : decode cX11_repair 93 = .ok (.invokevirtual 276, 3) := by decide +kernel
theorem dX11_repair_96 : decode cX11_repair 96 = .ok (.aload 4, 2) := by decide +kernel
theorem dX11_repair_98 : decode cX11_repair 98 = .ok (.iconst 0, 1) := by decide +kernel
theorem dX11_repair_99 : decode cX11_repair 99 = .ok (.putfield 279, 3) := by decide +kernel
theorem dX11_repair_102 : decode cX11_repair 102 = .ok (.aload 4, 2) := by decide +kernel
theorem dX11_repair_104 : decode cX11_repair 104 = .ok (.iconst 1, 1) := by decide +kernel
theorem dX11_repair_105 : decode cX11_repair 105 = .ok (.invokevirtual 268, 3) := by decide +kernel
theorem dX11_repair_108 : decode cX11_repair 108 = .ok (.ireturn, 1) := by decide +kernel
theorem dX11_ship_0 : decode cX11_ship 0 = .ok (.aload_n 0, 1) := by decide +kernel
theorem dX11_ship_1 : decode cX11_ship 1 = .ok (.iload_n 1, 1) := by decide +kernel
theorem dX11_ship_2 : decode cX11_ship 2 = .ok (.invokevirtual 207, 3) := by decide +kernel
theorem dX11_ship_5 : decode cX11_ship 5 = .ok (.astore_n 2, 1) := by decide +kernel
theorem dX11_ship_6 : decode cX11_ship 6 = .ok (.aload_n 2, 1) := by decide +kernel
theorem dX11_ship_7 : decode cX11_ship 7 = .ok (.getfield 251, 3) := by decide +kernel
theorem dX11_ship_10 : decode cX11_ship 10 = .ok (.ifCond .ne 22, 3) := by decide +kernel
theorem dX11_ship_13 : decode cX11_ship 13 = .ok (.aload_n 2, 1) := by decide +kernel
theorem dX11_ship_14 : decode cX11_ship 14 = .ok (.getfield 279, 3) := by decide +kernel
theorem dX11_ship_17 : decode cX11_ship 17 = .ok (.ifCond .eq 15, 3) := by decide +kernel
theorem dX11_ship_20 : decode cX11_ship 20 = .ok (.aload_n 2, 1) := by decide +kernel
theorem dX11_ship_21 : decode cX11_ship 21 = .ok (.iconst 1, 1) := by decide +kernel
theorem dX11_ship_22 : decode cX11_ship 22 = .ok (.invokevirtual 268, 3) := by decide +kernel
theorem dX11_ship_25 : decode cX11_ship 25 = .ok (.ifCond .ne 7, 3) := by decide +kernel
theorem dX11_ship_28 : decode cX11_ship 28 = .ok (.iconst 1, 1) := by decide +kernel
theorem dX11_ship_29 : decode cX11_ship 29 = .ok (.goto 4, 3) := by decide +kernel
theorem dX11_ship_32 : decode cX11_ship 32 = .ok (.iconst 0, 1) := by decide +kernel
theorem dX11_ship_33 : decode cX11_ship 33 = .ok (.invokestatic 76, 3) := by decide +kernel
theorem dX11_ship_36 : decode cX11_ship 36 = .ok (.aload_n 2, 1) := by decide +kernel
theorem dX11_ship_37 : decode cX11_ship 37 = .ok (.iconst 1, 1) := by decide +kernel
theorem dX11_ship_38 : decode cX11_ship 38 = .ok (.putfield 251, 3) := by decide +kernel
theorem dX11_ship_41 : decode cX11_ship 41 = .ok (.aload_n 2, 1) := by decide +kernel
theorem dX11_ship_42 : decode cX11_ship 42 = .ok (.iconst 0, 1) := by decide +kernel
theorem dX11_ship_43 : decode cX11_ship 43 = .ok (.invokevirtual 268, 3) := by decide +kernel
theorem dX11_ship_46 : decode cX11_ship 46 = .ok (.ireturn, 1) := by decide +kernel
theorem dX11_pass_0 : decode cX11_pass 0 = .ok (.iload_n 1, 1) := by decide +kernel
theorem dX11_pass_1 : decode cX11_pass 1 = .ok (.iconst 1, 1) := by decide +kernel
theorem dX11_pass_2 : decode cX11_pass 2 = .ok (.sipush 999, 3) := by decide +kernel
theorem dX11_pass_5 : decode cX11_pass 5 = .ok (.invokestatic 62, 3) := by decide +kernel
theorem dX11_pass_8 : decode cX11_pass 8 = .ok (.invokestatic 66, 3) := by decide +kernel
theorem dX11_pass_11 : decode cX11_pass 11 = .ok (.aload_n 0, 1) := by decide +kernel
theorem dX11_pass_12 : decode cX11_pass 12 = .ok (.getfield 51, 3) := by decide +kernel
theorem dX11_pass_15 : decode cX11_pass 15 = .ok (.iload_n 1, 1) := by decide +kernel
theorem dX11_pass_16 : decode cX11_pass 16 = .ok (.iadd, 1) := by decide +kernel
theorem dX11_pass_17 : decode cX11_pass 17 = .ok (.sipush 9999, 3) := by decide +kernel
theorem dX11_pass_20 : decode cX11_pass 20 = .ok (.if_icmp .gt 7, 3) := by decide +kernel
theorem dX11_pass_23 : decode cX11_pass 23 = .ok (.iconst 1, 1) := by decide +kernel
theorem dX11_pass_24 : decode cX11_pass 24 = .ok (.goto 4, 3) := by decide +kernel
theorem dX11_pass_27 : decode cX11_pass 27 = .ok (.iconst 0, 1) := by decide +kernel
theorem dX11_pass_28 : decode cX11_pass 28 = .ok (.invokestatic 76, 3) := by decide +kernel
theorem dX11_pass_31 : decode cX11_pass 31 = .ok (.aload_n 0, 1) := by decide +kernel
theorem dX11_pass_32 : decode cX11_pass 32 = .ok (.dup, 1) := by decide +kernel
theorem dX11_pass_33 : decode cX11_pass 33 = .ok (.getfield 51, 3) := by decide +kernel
theorem dX11_pass_36 : decode cX11_pass 36 = .ok (.iload_n 1, 1) := by decide +kernel
theorem dX11_pass_37 : decode cX11_pass 37 = .ok (.iadd, 1) := by decide +kernel
theorem dX11_pass_38 : decode cX11_pass 38 = .ok (.putfield 51, 3) := by decide +kernel
theorem dX11_pass_41 : decode cX11_pass 41 = .ok (.aload_n 0, 1) := by decide +kernel
theorem dX11_pass_42 : decode cX11_pass 42 = .ok (.getfield 51, 3) := by decide +kernel
theorem dX11_pass_45 : decode cX11_pass 45 = .ok (.ireturn, 1) := by decide +kernel
theorem dX11_ofSlot_0 : decode cX11_ofSlot 0 = .ok (.aload_n 0, 1) := by decide +kernel
theorem dX11_ofSlot_1 : decode cX11_ofSlot 1 = .ok (.iload_n 1, 1) := by decide +kernel
theorem dX11_ofSlot_2 : decode cX11_ofSlot 2 = .ok (.invokevirtual 207, 3) := by decide +kernel
theorem dX11_ofSlot_5 : decode cX11_ofSlot 5 = .ok (.iload_n 2, 1) := by decide +kernel
theorem dX11_ofSlot_6 : decode cX11_ofSlot 6 = .ok (.invokevirtual 211, 3) := by decide +kernel
theorem dX11_ofSlot_9 : decode cX11_ofSlot 9 = .ok (.astore 4, 2) := by decide +kernel
theorem dX11_ofSlot_11 : decode cX11_ofSlot 11 = .ok (.iload_n 3, 1) := by decide +kernel
theorem dX11_ofSlot_12 : decode cX11_ofSlot 12 = .ok (.iconst 0, 1) := by decide +kernel
theorem dX11_ofSlot_13 : decode cX11_ofSlot 13 = .ok (.iconst 3, 1) := by decide +kernel
theorem dX11_ofSlot_14 : decode cX11_ofSlot 14 = .ok (.invokestatic 62, 3) := by decide +kernel
theorem dX11_ofSlot_17 : decode cX11_ofSlot 17 = .ok (.invokestatic 58, 3) := by decide +kernel
theorem dX11_ofSlot_20 : decode cX11_ofSlot 20 = .ok (.iload_n 3, 1) := by decide +kernel
theorem dX11_ofSlot_21 : decode cX11_ofSlot 21 = .ok (.ifCond .ne 9, 3) := by decide +kernel
theorem dX11_ofSlot_24 : decode cX11_ofSlot 24 = .ok (.aload 4, 2) := by decide +kernel
theorem dX11_ofSlot_26 : decode cX11_ofSlot 26 = .ok (.getfield 282, 3) := by decide +kernel
theorem dX11_ofSlot_29 : decode cX11_ofSlot 29 = .ok (.ireturn, 1) := by decide +kernel
theorem dX11_ofSlot_30 : decode cX11_ofSlot 30 = .ok (.iload_n 3, 1) := by decide +kernel
theorem dX11_ofSlot_31 : decode cX11_ofSlot 31 = .ok (.iconst 1, 1) := by decide +kernel
theorem dX11_ofSlot_32 : decode cX11_ofSlot 32 = .ok (.if_icmp .ne 9, 3) := by decide +kernel
theorem dX11_ofSlot_35 : decode cX11_ofSlot 35 = .ok (.aload 4, 2) := by decide +kernel
theorem dX11_ofSlot_37 : decode cX11_ofSlot 37 = .ok (.getfield 285, 3) := by decide +kernel
theorem dX11_ofSlot_40 : decode cX11_ofSlot 40 = .ok (.ireturn, 1) := by decide +kernel
theorem dX11_ofSlot_41 : decode cX11_ofSlot 41 = .ok (.iload_n 3, 1) := by decide +kernel
theorem dX11_ofSlot_42 : decode cX11_ofSlot 42 = .ok (.iconst 2, 1) := by decide +kernel
theorem dX11_ofSlot_43 : decode cX11_ofSlot 43 = .ok (.if_icmp .ne 21, 3) := by decide +kernel
theorem dX11_ofSlot_46 : decode cX11_ofSlot 46 = .ok (.aload 4, 2) := by decide +kernel
theorem dX11_ofSlot_48 : decode cX11_ofSlot 48 = .ok (.getfield 257, 3) := by decide +kernel
theorem dX11_ofSlot_51 : decode cX11_ofSlot 51 = .ok (.ifCond .eq 11, 3) := by decide +kernel
theorem dX11_ofSlot_54 : decode cX11_ofSlot 54 = .ok (.aload 4, 2) := by decide +kernel
theorem dX11_ofSlot_56 : decode cX11_ofSlot 56 = .ok (.getfield 254, 3) := by decide +kernel
theorem dX11_ofSlot_59 : decode cX11_ofSlot 59 = .ok (.goto 4, 3) := by decide +kernel
theorem dX11_ofSlot_62 : decode cX11_ofSlot 62 = .ok (.iconst 0, 1) := by decide +kernel
theorem dX11_ofSlot_63 : decode cX11_ofSlot 63 = .ok (.ireturn, 1) := by decide +kernel
theorem dX11_ofSlot_64 : decode cX11_ofSlot 64 = .ok (.aload 4, 2) := by decide +kernel
theorem dX11_ofSlot_66 : decode cX11_ofSlot 66 = .ok (.getfield 272, 3) := by decide +kernel
theorem dX11_ofSlot_69 : decode cX11_ofSlot 69 = .ok (.ifCond .eq 7, 3) := by decide +kernel
theorem dX11_ofSlot_72 : decode cX11_ofSlot 72 = .ok (.iconst 1, 1) := by decide +kernel
theorem dX11_ofSlot_73 : decode cX11_ofSlot 73 = .ok (.goto 4, 3) := by decide +kernel
theorem dX11_ofSlot_76 : decode cX11_ofSlot 76 = .ok (.iconst 0, 1) := by decide +kernel
theorem dX11_ofSlot_77 : decode cX11_ofSlot 77 = .ok (.ireturn, 1) := by decide +kernel
theorem dX0_hasPartOf_0 : decode cX0_hasPartOf 0 = .ok (.iconst 0, 1) := by decide +kernel
theorem dX0_hasPartOf_1 : decode cX0_hasPartOf 1 = .ok (.istore_n 2, 1) := by decide +kernel
theorem dX0_hasPartOf_2 : decode cX0_hasPartOf 2 = .ok (.iload_n 2, 1) := by decide +kernel
theorem dX0_hasPartOf_3 : decode cX0_hasPartOf 3 = .ok (.aload_n 0, 1) := by decide +kernel
theorem dX0_hasPartOf_4 : decode cX0_hasPartOf 4 = .ok (.getfield 12, 3) := by decide +kernel
theorem dX0_hasPartOf_7 : decode cX0_hasPartOf 7 = .ok (.invokevirtual 34, 3) := by decide +kernel
theorem dX0_hasPartOf_10 : decode cX0_hasPartOf 10 = .ok (.if_icmp .ge 29, 3) := by decide +kernel
theorem dX0_hasPartOf_13 : decode cX0_hasPartOf 13 = .ok (.aload_n 0, 1) := by decide +kernel
theorem dX0_hasPartOf_14 : decode cX0_hasPartOf 14 = .ok (.getfield 12, 3) := by decide +kernel
theorem dX0_hasPartOf_17 : decode cX0_hasPartOf 17 = .ok (.iload_n 2, 1) := by decide +kernel
theorem dX0_hasPartOf_18 : decode cX0_hasPartOf 18 = .ok (.invokevirtual 45, 3) := by decide +kernel
theorem dX0_hasPartOf_21 : decode cX0_hasPartOf 21 = .ok (.checkcast 27, 3) := by decide +kernel
theorem dX0_hasPartOf_24 : decode cX0_hasPartOf 24 = .ok (.getfield 88, 3) := by decide +kernel
theorem dX0_hasPartOf_27 : decode cX0_hasPartOf 27 = .ok (.iload_n 1, 1) := by decide +kernel
theorem dX0_hasPartOf_28 : decode cX0_hasPartOf 28 = .ok (.if_icmp .ne 5, 3) := by decide +kernel
theorem dX0_hasPartOf_31 : decode cX0_hasPartOf 31 = .ok (.iconst 1, 1) := by decide +kernel
theorem dX0_hasPartOf_32 : decode cX0_hasPartOf 32 = .ok (.ireturn, 1) := by decide +kernel
theorem dX0_hasPartOf_33 : decode cX0_hasPartOf 33 = .ok (.iinc 2 1, 3) := by decide +kernel
theorem dX0_hasPartOf_36 : decode cX0_hasPartOf 36 = .ok (.goto (-34), 3) := by decide +kernel
theorem dX0_hasPartOf_39 : decode cX0_hasPartOf 39 = .ok (.iconst 0, 1) := by decide +kernel
theorem dX0_hasPartOf_40 : decode cX0_hasPartOf 40 = .ok (.ireturn, 1) := by decide +kernel
theorem dX11_recall_0 : decode cX11_recall 0 = .ok (.iload_n 1, 1) := by decide +kernel
theorem dX11_recall_1 : decode cX11_recall 1 = .ok (.aload_n 0, 1) := by decide +kernel
theorem dX11_recall_2 : decode cX11_recall 2 = .ok (.getfield 40, 3) := by decide +kernel
theorem dX11_recall_5 : decode cX11_recall 5 = .ok (.invokevirtual 72, 3) := by decide +kernel
theorem dX11_recall_8 : decode cX11_recall 8 = .ok (.invokestatic 54, 3) := by decide +kernel
theorem dX11_recall_11 : decode cX11_recall 11 = .ok (.invokestatic 58, 3) := by decide +kernel
theorem dX11_recall_14 : decode cX11_recall 14 = .ok (.iconst 0, 1) := by decide +kernel
theorem dX11_recall_15 : decode cX11_recall 15 = .ok (.istore_n 2, 1) := by decide +kernel
theorem dX11_recall_16 : decode cX11_recall 16 = .ok (.iconst 0, 1) := by decide +kernel
theorem dX11_recall_17 : decode cX11_recall 17 = .ok (.istore_n 3, 1) := by decide +kernel
theorem dX11_recall_18 : decode cX11_recall 18 = .ok (.iload_n 3, 1) := by decide +kernel
theorem dX11_recall_19 : decode cX11_recall 19 = .ok (.aload_n 0, 1) := by decide +kernel
theorem dX11_recall_20 : decode cX11_recall 20 = .ok (.getfield 44, 3) := by decide +kernel
theorem dX11_recall_23 : decode cX11_recall 23 = .ok (.invokevirtual 72, 3) := by decide +kernel
theorem dX11_recall_26 : decode cX11_recall 26 = .ok (.if_icmp .ge 42, 3) := by decide +kernel
theorem dX11_recall_29 : decode cX11_recall 29 = .ok (.aload_n 0, 1) := by decide +kernel
theorem dX11_recall_30 : decode cX11_recall 30 = .ok (.getfield 44, 3) := by decide +kernel
theorem dX11_recall_33 : decode cX11_recall 33 = .ok (.iload_n 3, 1) := by decide +kernel
theorem dX11_recall_34 : decode cX11_recall 34 = .ok (.invokevirtual 292, 3) := by decide +kernel
theorem dX11_recall_37 : decode cX11_recall 37 = .ok (.checkcast 204, 3) := by decide +kernel
theorem dX11_recall_40 : decode cX11_recall 40 = .ok (.astore 4, 2) := by decide +kernel
theorem dX11_recall_42 : decode cX11_recall 42 = .ok (.aload 4, 2) := by decide +kernel
theorem dX11_recall_44 : decode cX11_recall 44 = .ok (.getfield 251, 3) := by decide +kernel
theorem dX11_recall_47 : decode cX11_recall 47 = .ok (.ifCond .eq 15, 3) := by decide +kernel
theorem dX11_recall_50 : decode cX11_recall 50 = .ok (.aload 4, 2) := by decide +kernel
theorem dX11_recall_52 : decode cX11_recall 52 = .ok (.iload_n 1, 1) := by decide +kernel
theorem dX11_recall_53 : decode cX11_recall 53 = .ok (.invokevirtual 296, 3) := by decide +kernel
theorem dX11_recall_56 : decode cX11_recall 56 = .ok (.ifCond .eq 6, 3) := by decide +kernel
theorem dX11_recall_59 : decode cX11_recall 59 = .ok (.iinc 2 1, 3) := by decide +kernel
theorem dX11_recall_62 : decode cX11_recall 62 = .ok (.iinc 3 1, 3) := by decide +kernel
theorem dX11_recall_65 : decode cX11_recall 65 = .ok (.goto (-47), 3) := by decide +kernel
theorem dX11_recall_68 : decode cX11_recall 68 = .ok (.iload_n 2, 1) := by decide +kernel
theorem dX11_recall_69 : decode cX11_recall 69 = .ok (.ireturn, 1) := by decide +kernel
theorem dL_does_0 : decode cL_does 0 = .ok (.iload_n 1, 1) := by decide +kernel
theorem dL_does_1 : decode cL_does 1 = .ok (.ifCond .ne 16, 3) := by decide +kernel
theorem dL_does_4 : decode cL_does 4 = .ok (.aload_n 0, 1) := by decide +kernel
theorem dL_does_5 : decode cL_does 5 = .ok (.iload_n 2, 1) := by decide +kernel
theorem dL_does_6 : decode cL_does 6 = .ok (.iload_n 3, 1) := by decide +kernel
theorem dL_does_7 : decode cL_does 7 = .ok (.iload 4, 2) := by decide +kernel
theorem dL_does_9 : decode cL_does 9 = .ok (.iload 5, 2) := by decide +kernel
theorem dL_does_11 : decode cL_does 11 = .ok (.invokevirtual 8, 3) := by decide +kernel
theorem dL_does_14 : decode cL_does 14 = .ok (.goto 356, 3) := by decide +kernel
theorem dL_does_17 : decode cL_does 17 = .ok (.iload_n 1, 1) := by decide +kernel
theorem dL_does_18 : decode cL_does 18 = .ok (.iconst 1, 1) := by decide +kernel
theorem dL_does_19 : decode cL_does 19 = .ok (.if_icmp .ne 14, 3) := by decide +kernel
theorem dL_does_22 : decode cL_does 22 = .ok (.aload_n 0, 1) := by decide +kernel
theorem dL_does_23 : decode cL_does 23 = .ok (.iload_n 2, 1) := by decide +kernel
theorem dL_does_24 : decode cL_does 24 = .ok (.iload_n 3, 1) := by decide +kernel
theorem dL_does_25 : decode cL_does 25 = .ok (.iload 4, 2) := by decide +kernel
theorem dL_does_27 : decode cL_does 27 = .ok (.invokevirtual 14, 3) := by decide +kernel
theorem dL_does_30 : decode cL_does 30 = .ok (.goto 340, 3) := by decide +kernel
theorem dL_does_33 : decode cL_does 33 = .ok (.iload_n 1, 1) := by decide +kernel
theorem dL_does_34 : decode cL_does 34 = .ok (.iconst 2, 1) := by decide +kernel
theorem dL_does_35 : decode cL_does 35 = .ok (.if_icmp .ne 12, 3) := by decide +kernel
theorem dL_does_38 : decode cL_does 38 = .ok (.aload_n 0, 1) := by decide +kernel
theorem dL_does_39 : decode cL_does 39 = .ok (.iload_n 2, 1) := by decide +kernel
theorem dL_does_40 : decode cL_does 40 = .ok (.iload_n 3, 1) := by decide +kernel
theorem dL_does_41 : decode cL_does 41 = .ok (.invokevirtual 18, 3) := by decide +kernel
theorem dL_does_44 : decode cL_does 44 = .ok (.goto 326, 3) := by decide +kernel
theorem dL_does_47 : decode cL_does 47 = .ok (.iload_n 1, 1) := by decide +kernel
theorem dL_does_48 : decode cL_does 48 = .ok (.iconst 3, 1) := by decide +kernel
theorem dL_does_49 : decode cL_does 49 = .ok (.if_icmp .ne 18, 3) := by decide +kernel
theorem dL_does_52 : decode cL_does 52 = .ok (.aload_n 0, 1) := by decide +kernel
theorem dL_does_53 : decode cL_does 53 = .ok (.iload_n 2, 1) := by decide +kernel
theorem dL_does_54 : decode cL_does 54 = .ok (.iload_n 3, 1) := by decide +kernel
theorem dL_does_55 : decode cL_does 55 = .ok (.iload 4, 2) := by decide +kernel
theorem dL_does_57 : decode cL_does 57 = .ok (.iload 5, 2) := by decide +kernel
theorem dL_does_59 : decode cL_does 59 = .ok (.iload 6, 2) := by decide +kernel
theorem dL_does_61 : decode cL_does 61 = .ok (.invokevirtual 22, 3) := by decide +kernel
theorem dL_does_64 : decode cL_does 64 = .ok (.goto 306, 3) := by decide +kernel
theorem dL_does_67 : decode cL_does 67 = .ok (.iload_n 1, 1) := by decide +kernel
theorem dL_does_68 : decode cL_does 68 = .ok (.iconst 4, 1) := by decide +kernel
theorem dL_does_69 : decode cL_does 69 = .ok (.if_icmp .ne 11, 3) := by decide +kernel
theorem dL_does_72 : decode cL_does 72 = .ok (.aload_n 0, 1) := by decide +kernel
theorem dL_does_73 : decode cL_does 73 = .ok (.iload_n 2, 1) := by decide +kernel
theorem dL_does_74 : decode cL_does 74 = .ok (.invokevirtual 26, 3) := by decide +kernel
theorem dL_does_77 : decode cL_does 77 = .ok (.goto 293, 3) := by decide +kernel
theorem dL_does_80 : decode cL_does 80 = .ok (.iload_n 1, 1) := by decide +kernel
theorem dL_does_81 : decode cL_does 81 = .ok (.iconst 5, 1) := by decide +kernel
theorem dL_does_82 : decode cL_does 82 = .ok (.if_icmp .ne 12, 3) := by decide +kernel
theorem dL_does_85 : decode cL_does 85 = .ok (.aload_n 0, 1) := by decide +kernel
theorem dL_does_86 : decode cL_does 86 = .ok (.iload_n 2, 1) := by decide +kernel
theorem dL_does_87 : decode cL_does 87 = .ok (.iload_n 3, 1) := by decide +kernel
theorem dL_does_88 : decode cL_does 88 = .ok (.invokevirtual 30, 3) := by decide +kernel
theorem dL_does_91 : decode cL_does 91 = .ok (.goto 279, 3) := by decide +kernel
theorem dL_does_94 : decode cL_does 94 = .ok (.iload_n 1, 1) := by decide +kernel
theorem dL_does_95 : decode cL_does 95 = .ok (.bipush 6, 2) := by decide +kernel
theorem dL_does_97 : decode cL_does 97 = .ok (.if_icmp .ne 12, 3) := by decide +kernel
theorem dL_does_100 : decode cL_does 100 = .ok (.aload_n 0, 1) := by decide +kernel
theorem dL_does_101 : decode cL_does 101 = .ok (.iload_n 2, 1) := by decide +kernel
theorem dL_does_102 : decode cL_does 102 = .ok (.iload_n 3, 1) := by decide +kernel
theorem dL_does_103 : decode cL_does 103 = .ok (.invokevirtual 33, 3) := by decide +kernel
theorem dL_does_106 : decode cL_does 106 = .ok (.goto 264, 3) := by decide +kernel
theorem dL_does_109 : decode cL_does 109 = .ok (.iload_n 1, 1) := by decide +kernel
theorem dL_does_110 : decode cL_does 110 = .ok (.bipush 7, 2) := by decide +kernel
theorem dL_does_112 : decode cL_does 112 = .ok (.if_icmp .ne 19, 3) := by decide +kernel
theorem dL_does_115 : decode cL_does 115 = .ok (.aload_n 0, 1) := by decide +kernel
theorem dL_does_116 : decode cL_does 116 = .ok (.iload_n 2, 1) := by decide +kernel
theorem dL_does_117 : decode cL_does 117 = .ok (.invokevirtual 36, 3) := by decide +kernel
theorem dL_does_120 : decode cL_does 120 = .ok (.ifCond .eq 7, 3) := by decide +kernel
theorem dL_does_123 : decode cL_does 123 = .ok (.iconst 1, 1) := by decide +kernel
theorem dL_does_124 : decode cL_does 124 = .ok (.goto 246, 3) := by decide +kernel
theorem dL_does_127 : decode cL_does 127 = .ok (.iconst 0, 1) := by decide +kernel
theorem dL_does_128 : decode cL_does 128 = .ok (.goto 242, 3) := by decide +kernel
theorem dL_does_131 : decode cL_does 131 = .ok (.iload_n 1, 1) := by decide +kernel
theorem dL_does_132 : decode cL_does 132 = .ok (.bipush 8, 2) := by decide +kernel
theorem dL_does_134 : decode cL_does 134 = .ok (.if_icmp .ne 14, 3) := by decide +kernel
theorem dL_does_137 : decode cL_does 137 = .ok (.aload_n 0, 1) := by decide +kernel
theorem dL_does_138 : decode cL_does 138 = .ok (.iload_n 2, 1) := by decide +kernel
theorem dL_does_139 : decode cL_does 139 = .ok (.iload_n 3, 1) := by decide +kernel
theorem dL_does_140 : decode cL_does 140 = .ok (.iload 4, 2) := by decide +kernel
theorem dL_does_142 : decode cL_does 142 = .ok (.invokevirtual 40, 3) := by decide +kernel
theorem dL_does_145 : decode cL_does 145 = .ok (.goto 225, 3) := by decide +kernel
theorem dL_does_148 : decode cL_does 148 = .ok (.iload_n 1, 1) := by decide +kernel
theorem dL_does_149 : decode cL_does 149 = .ok (.bipush 9, 2) := by decide +kernel
theorem dL_does_151 : decode cL_does 151 = .ok (.if_icmp .ne 21, 3) := by decide +kernel
theorem dL_does_154 : decode cL_does 154 = .ok (.aload_n 0, 1) := by decide +kernel
theorem dL_does_155 : decode cL_does 155 = .ok (.iload_n 2, 1) := by decide +kernel
theorem dL_does_156 : decode cL_does 156 = .ok (.iload_n 3, 1) := by decide +kernel
theorem dL_does_157 : decode cL_does 157 = .ok (.iconst 1, 1) := by decide +kernel
theorem dL_does_158 : decode cL_does 158 = .ok (.if_icmp .ne 7, 3) := by decide +kernel
theorem dL_does_161 : decode cL_does 161 = .ok (.iconst 1, 1) := by decide +kernel
theorem dL_does_162 : decode cL_does 162 = .ok (.goto 4, 3) := by decide +kernel
theorem dL_does_165 : decode cL_does 165 = .ok (.iconst 0, 1) := by decide +kernel
theorem dL_does_166 : decode cL_does 166 = .ok (.invokevirtual 43, 3) := by decide +kernel
theorem dL_does_169 : decode cL_does 169 = .ok (.goto 201, 3) := by decide +kernel
theorem dL_does_172 : decode cL_does 172 = .ok (.iload_n 1, 1) := by decide +kernel
theorem dL_does_173 : decode cL_does 173 = .ok (.bipush 10, 2) := by decide +kernel
theorem dL_does_175 : decode cL_does 175 = .ok (.if_icmp .ne 12, 3) := by decide +kernel
theorem dL_does_178 : decode cL_does 178 = .ok (.aload_n 0, 1) := by decide +kernel
theorem dL_does_179 : decode cL_does 179 = .ok (.iload_n 2, 1) := by decide +kernel
theorem dL_does_180 : decode cL_does 180 = .ok (.iload_n 3, 1) := by decide +kernel
theorem dL_does_181 : decode cL_does 181 = .ok (.invokevirtual 47, 3) := by decide +kernel
theorem dL_does_184 : decode cL_does 184 = .ok (.goto 186, 3) := by decide +kernel
theorem dL_does_187 : decode cL_does 187 = .ok (.iload_n 1, 1) := by decide +kernel
theorem dL_does_188 : decode cL_does 188 = .ok (.bipush 11, 2) := by decide +kernel
theorem dL_does_190 : decode cL_does 190 = .ok (.if_icmp .ne 10, 3) := by decide +kernel
theorem dL_does_193 : decode cL_does 193 = .ok (.aload_n 0, 1) := by decide +kernel
theorem dL_does_194 : decode cL_does 194 = .ok (.invokevirtual 50, 3) := by decide +kernel
theorem dL_does_197 : decode cL_does 197 = .ok (.goto 173, 3) := by decide +kernel
theorem dL_does_200 : decode cL_does 200 = .ok (.iload_n 1, 1) := by decide +kernel
theorem dL_does_201 : decode cL_does 201 = .ok (.bipush 12, 2) := by decide +kernel
theorem dL_does_203 : decode cL_does 203 = .ok (.if_icmp .ne 14, 3) := by decide +kernel
theorem dL_does_206 : decode cL_does 206 = .ok (.aload_n 0, 1) := by decide +kernel
theorem dL_does_207 : decode cL_does 207 = .ok (.iload_n 2, 1) := by decide +kernel
theorem dL_does_208 : decode cL_does 208 = .ok (.iload_n 3, 1) := by decide +kernel
theorem dL_does_209 : decode cL_does 209 = .ok (.iload 4, 2) := by decide +kernel
theorem dL_does_211 : decode cL_does 211 = .ok (.invokevirtual 54, 3) := by decide +kernel
theorem dL_does_214 : decode cL_does 214 = .ok (.goto 156, 3) := by decide +kernel
theorem dL_does_217 : decode cL_does 217 = .ok (.iload_n 1, 1) := by decide +kernel
theorem dL_does_218 : decode cL_does 218 = .ok (.bipush 13, 2) := by decide +kernel
theorem dL_does_220 : decode cL_does 220 = .ok (.if_icmp .ne 16, 3) := by decide +kernel
theorem dL_does_223 : decode cL_does 223 = .ok (.aload_n 0, 1) := by decide +kernel
theorem dL_does_224 : decode cL_does 224 = .ok (.iload_n 2, 1) := by decide +kernel
theorem dL_does_225 : decode cL_does 225 = .ok (.iload_n 3, 1) := by decide +kernel
theorem dL_does_226 : decode cL_does 226 = .ok (.iload 4, 2) := by decide +kernel
theorem dL_does_228 : decode cL_does 228 = .ok (.iload 5, 2) := by decide +kernel
theorem dL_does_230 : decode cL_does 230 = .ok (.invokestatic 57, 3) := by decide +kernel
theorem dL_does_233 : decode cL_does 233 = .ok (.goto 137, 3) := by decide +kernel
theorem dL_does_236 : decode cL_does 236 = .ok (.iload_n 1, 1) := by decide +kernel
theorem dL_does_237 : decode cL_does 237 = .ok (.bipush 14, 2) := by decide +kernel
theorem dL_does_239 : decode cL_does 239 = .ok (.if_icmp .ne 11, 3) := by decide +kernel
theorem dL_does_242 : decode cL_does 242 = .ok (.aload_n 0, 1) := by decide +kernel
theorem dL_does_243 : decode cL_does 243 = .ok (.iload_n 2, 1) := by decide +kernel
theorem dL_does_244 : decode cL_does 244 = .ok (.invokevirtual 63, 3) := by decide +kernel
theorem dL_does_247 : decode cL_does 247 = .ok (.goto 123, 3) := by decide +kernel
theorem dL_does_250 : decode cL_does 250 = .ok (.iload_n 1, 1) := by decide +kernel
theorem dL_does_251 : decode cL_does 251 = .ok (.bipush 15, 2) := by decide +kernel
theorem dL_does_253 : decode cL_does 253 = .ok (.if_icmp .ne 12, 3) := by decide +kernel
theorem dL_does_256 : decode cL_does 256 = .ok (.aload_n 0, 1) := by decide +kernel
theorem dL_does_257 : decode cL_does 257 = .ok (.iload_n 2, 1) := by decide +kernel
theorem dL_does_258 : decode cL_does 258 = .ok (.iload_n 3, 1) := by decide +kernel
theorem dL_does_259 : decode cL_does 259 = .ok (.invokestatic 66, 3) := by decide +kernel
theorem dL_does_262 : decode cL_does 262 = .ok (.goto 108, 3) := by decide +kernel
theorem dL_does_265 : decode cL_does 265 = .ok (.iload_n 1, 1) := by decide +kernel
theorem dL_does_266 : decode cL_does 266 = .ok (.bipush 16, 2) := by decide +kernel
theorem dL_does_268 : decode cL_does 268 = .ok (.if_icmp .ne 21, 3) := by decide +kernel
theorem dL_does_271 : decode cL_does 271 = .ok (.aload_n 0, 1) := by decide +kernel
theorem dL_does_272 : decode cL_does 272 = .ok (.iload_n 2, 1) := by decide +kernel
theorem dL_does_273 : decode cL_does 273 = .ok (.iload_n 3, 1) := by decide +kernel
theorem dL_does_274 : decode cL_does 274 = .ok (.iconst 1, 1) := by decide +kernel
theorem dL_does_275 : decode cL_does 275 = .ok (.if_icmp .ne 7, 3) := by decide +kernel
theorem dL_does_278 : decode cL_does 278 = .ok (.iconst 1, 1) := by decide +kernel
theorem dL_does_279 : decode cL_does 279 = .ok (.goto 4, 3) := by decide +kernel
theorem dL_does_282 : decode cL_does 282 = .ok (.iconst 0, 1) := by decide +kernel
theorem dL_does_283 : decode cL_does 283 = .ok (.invokevirtual 70, 3) := by decide +kernel
theorem dL_does_286 : decode cL_does 286 = .ok (.goto 84, 3) := by decide +kernel
theorem dL_does_289 : decode cL_does 289 = .ok (.iload_n 1, 1) := by decide +kernel
theorem dL_does_290 : decode cL_does 290 = .ok (.bipush 17, 2) := by decide +kernel
theorem dL_does_292 : decode cL_does 292 = .ok (.if_icmp .ne 11, 3) := by decide +kernel
theorem dL_does_295 : decode cL_does 295 = .ok (.aload_n 0, 1) := by decide +kernel
theorem dL_does_296 : decode cL_does 296 = .ok (.iload_n 2, 1) := by decide +kernel
theorem dL_does_297 : decode cL_does 297 = .ok (.invokevirtual 73, 3) := by decide +kernel
theorem dL_does_300 : decode cL_does 300 = .ok (.goto 70, 3) := by decide +kernel
theorem dL_does_303 : decode cL_does 303 = .ok (.iload_n 1, 1) := by decide +kernel
theorem dL_does_304 : decode cL_does 304 = .ok (.bipush 18, 2) := by decide +kernel
theorem dL_does_306 : decode cL_does 306 = .ok (.if_icmp .ne 14, 3) := by decide +kernel
theorem dL_does_309 : decode cL_does 309 = .ok (.aload_n 0, 1) := by decide +kernel
theorem dL_does_310 : decode cL_does 310 = .ok (.iload_n 2, 1) := by decide +kernel
theorem dL_does_311 : decode cL_does 311 = .ok (.iload_n 3, 1) := by decide +kernel
theorem dL_does_312 : decode cL_does 312 = .ok (.iload 4, 2) := by decide +kernel
theorem dL_does_314 : decode cL_does 314 = .ok (.invokevirtual 76, 3) := by decide +kernel
theorem dL_does_317 : decode cL_does 317 = .ok (.goto 53, 3) := by decide +kernel
theorem dL_does_320 : decode cL_does 320 = .ok (.iload_n 1, 1) := by decide +kernel
theorem dL_does_321 : decode cL_does 321 = .ok (.bipush 19, 2) := by decide +kernel
theorem dL_does_323 : decode cL_does 323 = .ok (.if_icmp .ne 11, 3) := by decide +kernel
theorem dL_does_326 : decode cL_does 326 = .ok (.aload_n 0, 1) := by decide +kernel
theorem dL_does_327 : decode cL_does 327 = .ok (.iload_n 2, 1) := by decide +kernel
theorem dL_does_328 : decode cL_does 328 = .ok (.invokevirtual 79, 3) := by decide +kernel
theorem dL_does_331 : decode cL_does 331 = .ok (.goto 39, 3) := by decide +kernel
theorem dL_does_334 : decode cL_does 334 = .ok (.iload_n 1, 1) := by decide +kernel
theorem dL_does_335 : decode cL_does 335 = .ok (.bipush 20, 2) := by decide +kernel
theorem dL_does_337 : decode cL_does 337 = .ok (.if_icmp .ne 11, 3) := by decide +kernel
theorem dL_does_340 : decode cL_does 340 = .ok (.aload_n 0, 1) := by decide +kernel
theorem dL_does_341 : decode cL_does 341 = .ok (.iload_n 2, 1) := by decide +kernel
theorem dL_does_342 : decode cL_does 342 = .ok (.invokevirtual 82, 3) := by decide +kernel
theorem dL_does_345 : decode cL_does 345 = .ok (.goto 25, 3) := by decide +kernel
theorem dL_does_348 : decode cL_does 348 = .ok (.iload_n 1, 1) := by decide +kernel
theorem dL_does_349 : decode cL_does 349 = .ok (.bipush 21, 2) := by decide +kernel
theorem dL_does_351 : decode cL_does 351 = .ok (.if_icmp .ne 14, 3) := by decide +kernel
theorem dL_does_354 : decode cL_does 354 = .ok (.aload_n 0, 1) := by decide +kernel
theorem dL_does_355 : decode cL_does 355 = .ok (.iload_n 2, 1) := by decide +kernel
theorem dL_does_356 : decode cL_does 356 = .ok (.iload_n 3, 1) := by decide +kernel
theorem dL_does_357 : decode cL_does 357 = .ok (.iload 4, 2) := by decide +kernel
theorem dL_does_359 : decode cL_does 359 = .ok (.invokevirtual 85, 3) := by decide +kernel
theorem dL_does_362 : decode cL_does 362 = .ok (.goto 8, 3) := by decide +kernel
theorem dL_does_365 : decode cL_does 365 = .ok (.aload_n 0, 1) := by decide +kernel
theorem dL_does_366 : decode cL_does 366 = .ok (.iload_n 2, 1) := by decide +kernel
theorem dL_does_367 : decode cL_does 367 = .ok (.invokevirtual 88, 3) := by decide +kernel
theorem dL_does_370 : decode cL_does 370 = .ok (.ireturn, 1) := by decide +kernel
theorem dL_does_371 : decode cL_does 371 = .ok (.astore 7, 2) := by decide +kernel
theorem dL_does_373 : decode cL_does 373 = .ok (.ldc 93, 2) := by decide +kernel
theorem dL_does_375 : decode cL_does 375 = .ok (.ireturn, 1) := by decide +kernel
theorem dL_does_376 : decode cL_does 376 = .ok (.astore 7, 2) := by decide +kernel
theorem dL_does_378 : decode cL_does 378 = .ok (.ldc 96, 2) := by decide +kernel
theorem dL_does_380 : decode cL_does 380 = .ok (.ireturn, 1) := by decide +kernel
theorem dL_does_381 : decode cL_does 381 = .ok (.astore 7, 2) := by decide +kernel
theorem dL_does_383 : decode cL_does 383 = .ok (.ldc 99, 2) := by decide +kernel
theorem dL_does_385 : decode cL_does 385 = .ok (.ireturn, 1) := by decide +kernel
theorem dX5_allOrders_0 : decode cX5_allOrders 0 = .ok (.iconst 1, 1) := by decide +kernel
theorem dX5_allOrders_1 : decode cX5_allOrders 1 = .ok (.aload_n 0, 1) := by decide +kernel
theorem dX5_allOrders_2 : decode cX5_allOrders 2 = .ok (.getfield 29, 3) := by decide +kernel
theorem dX5_allOrders_5 : decode cX5_allOrders 5 = .ok (.ishl, 1) := by decide +kernel
theorem dX5_allOrders_6 : decode cX5_allOrders 6 = .ok (.iconst 1, 1) := by decide +kernel
theorem dX5_allOrders_7 : decode cX5_allOrders 7 = .ok (.isub, 1) := by decide +kernel
theorem dX5_allOrders_8 : decode cX5_allOrders 8 = .ok (.ireturn, 1) := by decide +kernel
theorem dX4_weightOf_0 : decode cX4_weightOf 0 = .ok (.iconst 0, 1) := by decide +kernel
theorem dX4_weightOf_1 : decode cX4_weightOf 1 = .ok (.istore_n 2, 1) := by decide +kernel
theorem dX4_weightOf_2 : decode cX4_weightOf 2 = .ok (.iconst 0, 1) := by decide +kernel
theorem dX4_weightOf_3 : decode cX4_weightOf 3 = .ok (.istore_n 3, 1) := by decide +kernel
theorem dX4_weightOf_4 : decode cX4_weightOf 4 = .ok (.iload_n 3, 1) := by decide +kernel
theorem dX4_weightOf_5 : decode cX4_weightOf 5 = .ok (.aload_n 0, 1) := by decide +kernel
theorem dX4_weightOf_6 : decode cX4_weightOf 6 = .ok (.getfield 21, 3) := by decide +kernel
theorem dX4_weightOf_9 : decode cX4_weightOf 9 = .ok (.invokevirtual 35, 3) := by decide +kernel
theorem dX4_weightOf_12 : decode cX4_weightOf 12 = .ok (.if_icmp .ge 50, 3) := by decide +kernel
theorem dX4_weightOf_15 : decode cX4_weightOf 15 = .ok (.aload_n 0, 1) := by decide +kernel
theorem dX4_weightOf_16 : decode cX4_weightOf 16 = .ok (.getfield 21, 3) := by decide +kernel
theorem dX4_weightOf_19 : decode cX4_weightOf 19 = .ok (.iload_n 3, 1) := by decide +kernel
theorem dX4_weightOf_20 : decode cX4_weightOf 20 = .ok (.invokevirtual 51, 3) := by decide +kernel
theorem dX4_weightOf_23 : decode cX4_weightOf 23 = .ok (.checkcast 104, 3) := by decide +kernel
theorem dX4_weightOf_26 : decode cX4_weightOf 26 = .ok (.astore 4, 2) := by decide +kernel
theorem dX4_weightOf_28 : decode cX4_weightOf 28 = .ok (.aload 4, 2) := by decide +kernel
theorem dX4_weightOf_30 : decode cX4_weightOf 30 = .ok (.getfield 128, 3) := by decide +kernel
theorem dX4_weightOf_33 : decode cX4_weightOf 33 = .ok (.ifCond .ne 23, 3) := by decide +kernel
theorem dX4_weightOf_36 : decode cX4_weightOf 36 = .ok (.iload_n 1, 1) := by decide +kernel
theorem dX4_weightOf_37 : decode cX4_weightOf 37 = .ok (.iconst 1, 1) := by decide +kernel
theorem dX4_weightOf_38 : decode cX4_weightOf 38 = .ok (.aload 4, 2) := by decide +kernel
theorem dX4_weightOf_40 : decode cX4_weightOf 40 = .ok (.getfield 132, 3) := by decide +kernel
theorem dX4_weightOf_43 : decode cX4_weightOf 43 = .ok (.ishl, 1) := by decide +kernel
theorem dX4_weightOf_44 : decode cX4_weightOf 44 = .ok (.iand, 1) := by decide +kernel
theorem dX4_weightOf_45 : decode cX4_weightOf 45 = .ok (.ifCond .eq 11, 3) := by decide +kernel
theorem dX4_weightOf_48 : decode cX4_weightOf 48 = .ok (.iload_n 2, 1) := by decide +kernel
theorem dX4_weightOf_49 : decode cX4_weightOf 49 = .ok (.aload 4, 2) := by decide +kernel
theorem dX4_weightOf_51 : decode cX4_weightOf 51 = .ok (.getfield 135, 3) := by decide +kernel
theorem dX4_weightOf_54 : decode cX4_weightOf 54 = .ok (.iadd, 1) := by decide +kernel
theorem dX4_weightOf_55 : decode cX4_weightOf 55 = .ok (.istore_n 2, 1) := by decide +kernel
theorem dX4_weightOf_56 : decode cX4_weightOf 56 = .ok (.iinc 3 1, 3) := by decide +kernel
theorem dX4_weightOf_59 : decode cX4_weightOf 59 = .ok (.goto (-55), 3) := by decide +kernel
theorem dX4_weightOf_62 : decode cX4_weightOf 62 = .ok (.iload_n 2, 1) := by decide +kernel
theorem dX4_weightOf_63 : decode cX4_weightOf 63 = .ok (.ireturn, 1) := by decide +kernel
theorem dX5_weightAsOne_0 : decode cX5_weightAsOne 0 = .ok (.iconst 0, 1) := by decide +kernel
theorem dX5_weightAsOne_1 : decode cX5_weightAsOne 1 = .ok (.istore_n 3, 1) := by decide +kernel
theorem dX5_weightAsOne_2 : decode cX5_weightAsOne 2 = .ok (.iconst 0, 1) := by decide +kernel
theorem dX5_weightAsOne_3 : decode cX5_weightAsOne 3 = .ok (.istore 4, 2) := by decide +kernel
theorem dX5_weightAsOne_5 : decode cX5_weightAsOne 5 = .ok (.iconst 0, 1) := by decide +kernel
theorem dX5_weightAsOne_6 : decode cX5_weightAsOne 6 = .ok (.istore 5, 2) := by decide +kernel
theorem dX5_weightAsOne_8 : decode cX5_weightAsOne 8 = .ok (.iload 5, 2) := by decide +kernel
theorem dX5_weightAsOne_10 : decode cX5_weightAsOne 10 = .ok (.aload_n 0, 1) := by decide +kernel
theorem dX5_weightAsOne_11 : decode cX5_weightAsOne 11 = .ok (.getfield 29, 3) := by decide +kernel
theorem dX5_weightAsOne_14 : decode cX5_weightAsOne 14 = .ok (.if_icmp .ge 44, 3) := by decide +kernel
theorem dX5_weightAsOne_17 : decode cX5_weightAsOne 17 = .ok (.iload_n 2, 1) := by decide +kernel
theorem dX5_weightAsOne_18 : decode cX5_weightAsOne 18 = .ok (.iconst 1, 1) := by decide +kernel
theorem dX5_weightAsOne_19 : decode cX5_weightAsOne 19 = .ok (.iload 5, 2) := by decide +kernel
theorem dX5_weightAsOne_21 : decode cX5_weightAsOne 21 = .ok (.ishl, 1) := by decide +kernel
theorem dX5_weightAsOne_22 : decode cX5_weightAsOne 22 = .ok (.iand, 1) := by decide +kernel
theorem dX5_weightAsOne_23 : decode cX5_weightAsOne 23 = .ok (.ifCond .eq 29, 3) := by decide +kernel
theorem dX5_weightAsOne_26 : decode cX5_weightAsOne 26 = .ok (.iload_n 3, 1) := by decide +kernel
theorem dX5_weightAsOne_27 : decode cX5_weightAsOne 27 = .ok (.aload_n 0, 1) := by decide +kernel
theorem dX5_weightAsOne_28 : decode cX5_weightAsOne 28 = .ok (.getfield 14, 3) := by decide +kernel
theorem dX5_weightAsOne_31 : decode cX5_weightAsOne 31 = .ok (.iload 5, 2) := by decide +kernel
theorem dX5_weightAsOne_33 : decode cX5_weightAsOne 33 = .ok (.invokevirtual 45, 3) := by decide +kernel
theorem dX5_weightAsOne_36 : decode cX5_weightAsOne 36 = .ok (.ior, 1) := by decide +kernel
theorem dX5_weightAsOne_37 : decode cX5_weightAsOne 37 = .ok (.istore_n 3, 1) := by decide +kernel
theorem dX5_weightAsOne_38 : decode cX5_weightAsOne 38 = .ok (.iload 4, 2) := by decide +kernel
theorem dX5_weightAsOne_40 : decode cX5_weightAsOne 40 = .ok (.aload_n 0, 1) := by decide +kernel
theorem dX5_weightAsOne_41 : decode cX5_weightAsOne 41 = .ok (.getfield 20, 3) := by decide +kernel
theorem dX5_weightAsOne_44 : decode cX5_weightAsOne 44 = .ok (.iload 5, 2) := by decide +kernel
theorem dX5_weightAsOne_46 : decode cX5_weightAsOne 46 = .ok (.invokevirtual 45, 3) := by decide +kernel
theorem dX5_weightAsOne_49 : decode cX5_weightAsOne 49 = .ok (.iadd, 1) := by decide +kernel
theorem dX5_weightAsOne_50 : decode cX5_weightAsOne 50 = .ok (.istore 4, 2) := by decide +kernel
theorem dX5_weightAsOne_52 : decode cX5_weightAsOne 52 = .ok (.iinc 5 1, 3) := by decide +kernel
theorem dX5_weightAsOne_55 : decode cX5_weightAsOne 55 = .ok (.goto (-47), 3) := by decide +kernel
theorem dX5_weightAsOne_58 : decode cX5_weightAsOne 58 = .ok (.aload_n 1, 1) := by decide +kernel
theorem dX5_weightAsOne_59 : decode cX5_weightAsOne 59 = .ok (.iload_n 3, 1) := by decide +kernel
theorem dX5_weightAsOne_60 : decode cX5_weightAsOne 60 = .ok (.invokevirtual 49, 3) := by decide +kernel
theorem dX5_weightAsOne_63 : decode cX5_weightAsOne 63 = .ok (.iload 4, 2) := by decide +kernel
theorem dX5_weightAsOne_65 : decode cX5_weightAsOne 65 = .ok (.imul, 1) := by decide +kernel
theorem dX5_weightAsOne_66 : decode cX5_weightAsOne 66 = .ok (.ireturn, 1) := by decide +kernel
theorem dX5_weighSets_0 : decode cX5_weighSets 0 = .ok (.aload_n 0, 1) := by decide +kernel
theorem dX5_weighSets_1 : decode cX5_weighSets 1 = .ok (.invokevirtual 37, 3) := by decide +kernel
theorem dX5_weighSets_4 : decode cX5_weighSets 4 = .ok (.istore_n 2, 1) := by decide +kernel
theorem dX5_weighSets_5 : decode cX5_weighSets 5 = .ok (.iconst 0, 1) := by decide +kernel
theorem dX5_weighSets_6 : decode cX5_weighSets 6 = .ok (.istore_n 3, 1) := by decide +kernel
theorem dX5_weighSets_7 : decode cX5_weighSets 7 = .ok (.iload_n 3, 1) := by decide +kernel
theorem dX5_weighSets_8 : decode cX5_weighSets 8 = .ok (.iload_n 2, 1) := by decide +kernel
theorem dX5_weighSets_9 : decode cX5_weighSets 9 = .ok (.if_icmp .gt 23, 3) := by decide +kernel
theorem dX5_weighSets_12 : decode cX5_weighSets 12 = .ok (.aload_n 0, 1) := by decide +kernel
theorem dX5_weighSets_13 : decode cX5_weighSets 13 = .ok (.getfield 23, 3) := by decide +kernel
theorem dX5_weighSets_16 : decode cX5_weighSets 16 = .ok (.iload_n 3, 1) := by decide +kernel
theorem dX5_weighSets_17 : decode cX5_weighSets 17 = .ok (.aload_n 0, 1) := by decide +kernel
theorem dX5_weighSets_18 : decode cX5_weighSets 18 = .ok (.aload_n 1, 1) := by decide +kernel
theorem dX5_weighSets_19 : decode cX5_weighSets 19 = .ok (.iload_n 3, 1) := by decide +kernel
theorem dX5_weighSets_20 : decode cX5_weighSets 20 = .ok (.invokevirtual 41, 3) := by decide +kernel
theorem dX5_weighSets_23 : decode cX5_weighSets 23 = .ok (.invokevirtual 33, 3) := by decide +kernel
theorem dX5_weighSets_26 : decode cX5_weighSets 26 = .ok (.iinc 3 1, 3) := by decide +kernel
theorem dX5_weighSets_29 : decode cX5_weighSets 29 = .ok (.goto (-22), 3) := by decide +kernel
theorem dX5_weighSets_32 : decode cX5_weighSets 32 = .ok (.return_, 1) := by decide +kernel
theorem dX5_leastOfRest_0 : decode cX5_leastOfRest 0 = .ok (.iload_n 1, 1) := by decide +kernel
theorem dX5_leastOfRest_1 : decode cX5_leastOfRest 1 = .ok (.ifCond .ne 5, 3) := by decide +kernel
theorem dX5_leastOfRest_4 : decode cX5_leastOfRest 4 = .ok (.iconst 0, 1) := by decide +kernel
theorem dX5_leastOfRest_5 : decode cX5_leastOfRest 5 = .ok (.ireturn, 1) := by decide +kernel
theorem dX5_leastOfRest_6 : decode cX5_leastOfRest 6 = .ok (.iload_n 2, 1) := by decide +kernel
theorem dX5_leastOfRest_7 : decode cX5_leastOfRest 7 = .ok (.iconst 1, 1) := by decide +kernel
theorem dX5_leastOfRest_8 : decode cX5_leastOfRest 8 = .ok (.if_icmp .ge 6, 3) := by decide +kernel
theorem dX5_leastOfRest_11 : decode cX5_leastOfRest 11 = .ok (.ldc 62, 2) := by decide +kernel
theorem dX5_leastOfRest_13 : decode cX5_leastOfRest 13 = .ok (.ireturn, 1) := by decide +kernel
theorem dX5_leastOfRest_14 : decode cX5_leastOfRest 14 = .ok (.iload_n 1, 1) := by decide +kernel
theorem dX5_leastOfRest_15 : decode cX5_leastOfRest 15 = .ok (.iload_n 1, 1) := by decide +kernel
theorem dX5_leastOfRest_16 : decode cX5_leastOfRest 16 = .ok (.ineg, 1) := by decide +kernel
theorem dX5_leastOfRest_17 : decode cX5_leastOfRest 17 = .ok (.iand, 1) := by decide +kernel
theorem dX5_leastOfRest_18 : decode cX5_leastOfRest 18 = .ok (.istore_n 3, 1) := by decide +kernel
theorem dX5_leastOfRest_19 : decode cX5_leastOfRest 19 = .ok (.ldc 62, 2) := by decide +kernel
theorem dX5_leastOfRest_21 : decode cX5_leastOfRest 21 = .ok (.istore 4, 2) := by decide +kernel
theorem dX5_leastOfRest_23 : decode cX5_leastOfRest 23 = .ok (.iload_n 3, 1) := by decide +kernel
theorem dX5_leastOfRest_24 : decode cX5_leastOfRest 24 = .ok (.istore 5, 2) := by decide +kernel
theorem dX5_leastOfRest_26 : decode cX5_leastOfRest 26 = .ok (.iload 5, 2) := by decide +kernel
theorem dX5_leastOfRest_28 : decode cX5_leastOfRest 28 = .ok (.iload_n 1, 1) := by decide +kernel
theorem dX5_leastOfRest_29 : decode cX5_leastOfRest 29 = .ok (.if_icmp .gt 56, 3) := by decide +kernel
theorem dX5_leastOfRest_32 : decode cX5_leastOfRest 32 = .ok (.iload 5, 2) := by decide +kernel
theorem dX5_leastOfRest_34 : decode cX5_leastOfRest 34 = .ok (.iload_n 1, 1) := by decide +kernel
theorem dX5_leastOfRest_35 : decode cX5_leastOfRest 35 = .ok (.iconst (-1), 1) := by decide +kernel
theorem dX5_leastOfRest_36 : decode cX5_leastOfRest 36 = .ok (.ixor, 1) := by decide +kernel
theorem dX5_leastOfRest_37 : decode cX5_leastOfRest 37 = .ok (.iand, 1) := by decide +kernel
theorem dX5_leastOfRest_38 : decode cX5_leastOfRest 38 = .ok (.ifCond .ne 41, 3) := by decide +kernel
theorem dX5_leastOfRest_41 : decode cX5_leastOfRest 41 = .ok (.iload 5, 2) := by decide +kernel
theorem dX5_leastOfRest_43 : decode cX5_leastOfRest 43 = .ok (.iload_n 3, 1) := by decide +kernel
theorem dX5_leastOfRest_44 : decode cX5_leastOfRest 44 = .ok (.iand, 1) := by decide +kernel
theorem dX5_leastOfRest_45 : decode cX5_leastOfRest 45 = .ok (.ifCond .eq 34, 3) := by decide +kernel
theorem dX5_leastOfRest_48 : decode cX5_leastOfRest 48 = .ok (.aload_n 0, 1) := by decide +kernel
theorem dX5_leastOfRest_49 : decode cX5_leastOfRest 49 = .ok (.iload_n 1, 1) := by decide +kernel
theorem dX5_leastOfRest_50 : decode cX5_leastOfRest 50 = .ok (.iload 5, 2) := by decide +kernel
theorem dX5_leastOfRest_52 : decode cX5_leastOfRest 52 = .ok (.iconst (-1), 1) := by decide +kernel
theorem dX5_leastOfRest_53 : decode cX5_leastOfRest 53 = .ok (.ixor, 1) := by decide +kernel
theorem dX5_leastOfRest_54 : decode cX5_leastOfRest 54 = .ok (.iand, 1) := by decide +kernel
theorem dX5_leastOfRest_55 : decode cX5_leastOfRest 55 = .ok (.iload_n 2, 1) := by decide +kernel
theorem dX5_leastOfRest_56 : decode cX5_leastOfRest 56 = .ok (.iconst 1, 1) := by decide +kernel
theorem dX5_leastOfRest_57 : decode cX5_leastOfRest 57 = .ok (.isub, 1) := by decide +kernel
theorem dX5_leastOfRest_58 : decode cX5_leastOfRest 58 = .ok (.invokestatic 58, 3) := by decide +kernel
theorem dX5_leastOfRest_61 : decode cX5_leastOfRest 61 = .ok (.istore 6, 2) := by decide +kernel
theorem dX5_leastOfRest_63 : decode cX5_leastOfRest 63 = .ok (.iload 4, 2) := by decide +kernel
theorem dX5_leastOfRest_65 : decode cX5_leastOfRest 65 = .ok (.aload_n 0, 1) := by decide +kernel
theorem dX5_leastOfRest_66 : decode cX5_leastOfRest 66 = .ok (.iload 5, 2) := by decide +kernel
theorem dX5_leastOfRest_68 : decode cX5_leastOfRest 68 = .ok (.invokevirtual 45, 3) := by decide +kernel
theorem dX5_leastOfRest_71 : decode cX5_leastOfRest 71 = .ok (.iload 6, 2) := by decide +kernel
theorem dX5_leastOfRest_73 : decode cX5_leastOfRest 73 = .ok (.iadd, 1) := by decide +kernel
theorem dX5_leastOfRest_74 : decode cX5_leastOfRest 74 = .ok (.invokestatic 63, 3) := by decide +kernel
theorem dX5_leastOfRest_77 : decode cX5_leastOfRest 77 = .ok (.istore 4, 2) := by decide +kernel
theorem dX5_leastOfRest_79 : decode cX5_leastOfRest 79 = .ok (.iinc 5 1, 3) := by decide +kernel
theorem dX5_leastOfRest_82 : decode cX5_leastOfRest 82 = .ok (.goto (-56), 3) := by decide +kernel
theorem dX5_leastOfRest_85 : decode cX5_leastOfRest 85 = .ok (.iload 4, 2) := by decide +kernel
theorem dX5_leastOfRest_87 : decode cX5_leastOfRest 87 = .ok (.ireturn, 1) := by decide +kernel
theorem dX5_leastByChoice_0 : decode cX5_leastByChoice 0 = .ok (.aload_n 0, 1) := by decide +kernel
theorem dX5_leastByChoice_1 : decode cX5_leastByChoice 1 = .ok (.aload_n 1, 1) := by decide +kernel
theorem dX5_leastByChoice_2 : decode cX5_leastByChoice 2 = .ok (.invokevirtual 54, 3) := by decide +kernel
theorem dX5_leastByChoice_5 : decode cX5_leastByChoice 5 = .ok (.aload_n 0, 1) := by decide +kernel
theorem dX5_leastByChoice_6 : decode cX5_leastByChoice 6 = .ok (.getfield 23, 3) := by decide +kernel
theorem dX5_leastByChoice_9 : decode cX5_leastByChoice 9 = .ok (.aload_n 0, 1) := by decide +kernel
theorem dX5_leastByChoice_10 : decode cX5_leastByChoice 10 = .ok (.invokevirtual 37, 3) := by decide +kernel
theorem dX5_leastByChoice_13 : decode cX5_leastByChoice 13 = .ok (.iload_n 2, 1) := by decide +kernel
theorem dX5_leastByChoice_14 : decode cX5_leastByChoice 14 = .ok (.invokestatic 58, 3) := by decide +kernel
theorem dX5_leastByChoice_17 : decode cX5_leastByChoice 17 = .ok (.ireturn, 1) := by decide +kernel
theorem dX11_least_0 : decode cX11_least 0 = .ok (.iload_n 1, 1) := by decide +kernel
theorem dX11_least_1 : decode cX11_least 1 = .ok (.iconst 1, 1) := by decide +kernel
theorem dX11_least_2 : decode cX11_least 2 = .ok (.iconst 5, 1) := by decide +kernel
theorem dX11_least_3 : decode cX11_least 3 = .ok (.invokestatic 62, 3) := by decide +kernel
theorem dX11_least_6 : decode cX11_least 6 = .ok (.invokestatic 66, 3) := by decide +kernel
theorem dX11_least_9 : decode cX11_least 9 = .ok (.aload_n 0, 1) := by decide +kernel
theorem dX11_least_10 : decode cX11_least 10 = .ok (.getfield 19, 3) := by decide +kernel
theorem dX11_least_13 : decode cX11_least 13 = .ok (.aload_n 0, 1) := by decide +kernel
theorem dX11_least_14 : decode cX11_least 14 = .ok (.getfield 10, 3) := by decide +kernel
theorem dX11_least_17 : decode cX11_least 17 = .ok (.iload_n 1, 1) := by decide +kernel
theorem dX11_least_18 : decode cX11_least 18 = .ok (.invokevirtual 159, 3) := by decide +kernel
theorem dX11_least_21 : decode cX11_least 21 = .ok (.ireturn, 1) := by decide +kernel
theorem dX5_leastWithOneMore_0 : decode cX5_leastWithOneMore 0 = .ok (.aload_n 0, 1) := by decide +kernel
theorem dX5_leastWithOneMore_1 : decode cX5_leastWithOneMore 1 = .ok (.getfield 26, 3) := by decide +kernel
theorem dX5_leastWithOneMore_4 : decode cX5_leastWithOneMore 4 = .ok (.iload_n 1, 1) := by decide +kernel
theorem dX5_leastWithOneMore_5 : decode cX5_leastWithOneMore 5 = .ok (.invokevirtual 45, 3) := by decide +kernel
theorem dX5_leastWithOneMore_8 : decode cX5_leastWithOneMore 8 = .ok (.istore_n 2, 1) := by decide +kernel
theorem dX5_leastWithOneMore_9 : decode cX5_leastWithOneMore 9 = .ok (.iconst 1, 1) := by decide +kernel
theorem dX5_leastWithOneMore_10 : decode cX5_leastWithOneMore 10 = .ok (.istore_n 3, 1) := by decide +kernel
theorem dX5_leastWithOneMore_11 : decode cX5_leastWithOneMore 11 = .ok (.iload_n 3, 1) := by decide +kernel
theorem dX5_leastWithOneMore_12 : decode cX5_leastWithOneMore 12 = .ok (.iload_n 1, 1) := by decide +kernel
theorem dX5_leastWithOneMore_13 : decode cX5_leastWithOneMore 13 = .ok (.if_icmp .gt 43, 3) := by decide +kernel
theorem dX5_leastWithOneMore_16 : decode cX5_leastWithOneMore 16 = .ok (.iload_n 3, 1) := by decide +kernel
theorem dX5_leastWithOneMore_17 : decode cX5_leastWithOneMore 17 = .ok (.iload_n 1, 1) := by decide +kernel
theorem dX5_leastWithOneMore_18 : decode cX5_leastWithOneMore 18 = .ok (.iconst (-1), 1) := by decide +kernel
theorem dX5_leastWithOneMore_19 : decode cX5_leastWithOneMore 19 = .ok (.ixor, 1) := by decide +kernel
theorem dX5_leastWithOneMore_20 : decode cX5_leastWithOneMore 20 = .ok (.iand, 1) := by decide +kernel
theorem dX5_leastWithOneMore_21 : decode cX5_leastWithOneMore 21 = .ok (.ifCond .ne 29, 3) := by decide +kernel
theorem dX5_leastWithOneMore_24 : decode cX5_leastWithOneMore 24 = .ok (.iload_n 2, 1) := by decide +kernel
theorem dX5_leastWithOneMore_25 : decode cX5_leastWithOneMore 25 = .ok (.aload_n 0, 1) := by decide +kernel
theorem dX5_leastWithOneMore_26 : decode cX5_leastWithOneMore 26 = .ok (.getfield 23, 3) := by decide +kernel
theorem dX5_leastWithOneMore_29 : decode cX5_leastWithOneMore 29 = .ok (.iload_n 3, 1) := by decide +kernel
theorem dX5_leastWithOneMore_30 : decode cX5_leastWithOneMore 30 = .ok (.invokevirtual 45, 3) := by decide +kernel
theorem dX5_leastWithOneMore_33 : decode cX5_leastWithOneMore 33 = .ok (.aload_n 0, 1) := by decide +kernel
theorem dX5_leastWithOneMore_34 : decode cX5_leastWithOneMore 34 = .ok (.getfield 26, 3) := by decide +kernel
theorem dX5_leastWithOneMore_37 : decode cX5_leastWithOneMore 37 = .ok (.iload_n 1, 1) := by decide +kernel
theorem dX5_leastWithOneMore_38 : decode cX5_leastWithOneMore 38 = .ok (.iload_n 3, 1) := by decide +kernel
theorem dX5_leastWithOneMore_39 : decode cX5_leastWithOneMore 39 = .ok (.iconst (-1), 1) := by decide +kernel
theorem dX5_leastWithOneMore_40 : decode cX5_leastWithOneMore 40 = .ok (.ixor, 1) := by decide +kernel
theorem dX5_leastWithOneMore_41 : decode cX5_leastWithOneMore 41 = .ok (.iand, 1) := by decide +kernel
theorem dX5_leastWithOneMore_42 : decode cX5_leastWithOneMore 42 = .ok (.invokevirtual 45, 3) := by decide +kernel
theorem dX5_leastWithOneMore_45 : decode cX5_leastWithOneMore 45 = .ok (.iadd, 1) := by decide +kernel
theorem dX5_leastWithOneMore_46 : decode cX5_leastWithOneMore 46 = .ok (.invokestatic 63, 3) := by decide +kernel
theorem dX5_leastWithOneMore_49 : decode cX5_leastWithOneMore 49 = .ok (.istore_n 2, 1) := by decide +kernel
theorem dX5_leastWithOneMore_50 : decode cX5_leastWithOneMore 50 = .ok (.iinc 3 1, 3) := by decide +kernel
theorem dX5_leastWithOneMore_53 : decode cX5_leastWithOneMore 53 = .ok (.goto (-42), 3) := by decide +kernel
theorem dX5_leastWithOneMore_56 : decode cX5_leastWithOneMore 56 = .ok (.iload_n 2, 1) := by decide +kernel
theorem dX5_leastWithOneMore_57 : decode cX5_leastWithOneMore 57 = .ok (.ireturn, 1) := by decide +kernel
theorem dX5_addFamily_0 : decode cX5_addFamily 0 = .ok (.aload_n 0, 1) := by decide +kernel
theorem dX5_addFamily_1 : decode cX5_addFamily 1 = .ok (.invokevirtual 37, 3) := by decide +kernel
theorem dX5_addFamily_4 : decode cX5_addFamily 4 = .ok (.istore_n 1, 1) := by decide +kernel
theorem dX5_addFamily_5 : decode cX5_addFamily 5 = .ok (.iload_n 1, 1) := by decide +kernel
theorem dX5_addFamily_6 : decode cX5_addFamily 6 = .ok (.ifCond .lt 22, 3) := by decide +kernel
theorem dX5_addFamily_9 : decode cX5_addFamily 9 = .ok (.aload_n 0, 1) := by decide +kernel
theorem dX5_addFamily_10 : decode cX5_addFamily 10 = .ok (.getfield 26, 3) := by decide +kernel
theorem dX5_addFamily_13 : decode cX5_addFamily 13 = .ok (.iload_n 1, 1) := by decide +kernel
theorem dX5_addFamily_14 : decode cX5_addFamily 14 = .ok (.aload_n 0, 1) := by decide +kernel
theorem dX5_addFamily_15 : decode cX5_addFamily 15 = .ok (.iload_n 1, 1) := by decide +kernel
theorem dX5_addFamily_16 : decode cX5_addFamily 16 = .ok (.invokevirtual 75, 3) := by decide +kernel
theorem dX5_addFamily_19 : decode cX5_addFamily 19 = .ok (.invokevirtual 33, 3) := by decide +kernel
theorem dX5_addFamily_22 : decode cX5_addFamily 22 = .ok (.iinc 1 (-1), 3) := by decide +kernel
theorem dX5_addFamily_25 : decode cX5_addFamily 25 = .ok (.goto (-20), 3) := by decide +kernel
theorem dX5_addFamily_28 : decode cX5_addFamily 28 = .ok (.return_, 1) := by decide +kernel
theorem dX5_leastByTable_0 : decode cX5_leastByTable 0 = .ok (.aload_n 0, 1) := by decide +kernel
theorem dX5_leastByTable_1 : decode cX5_leastByTable 1 = .ok (.aload_n 1, 1) := by decide +kernel
theorem dX5_leastByTable_2 : decode cX5_leastByTable 2 = .ok (.invokevirtual 54, 3) := by decide +kernel
theorem dX5_leastByTable_5 : decode cX5_leastByTable 5 = .ok (.aload_n 0, 1) := by decide +kernel
theorem dX5_leastByTable_6 : decode cX5_leastByTable 6 = .ok (.getfield 26, 3) := by decide +kernel
theorem dX5_leastByTable_9 : decode cX5_leastByTable 9 = .ok (.ldc 62, 2) := by decide +kernel
theorem dX5_leastByTable_11 : decode cX5_leastByTable 11 = .ok (.invokevirtual 69, 3) := by decide +kernel
theorem dX5_leastByTable_14 : decode cX5_leastByTable 14 = .ok (.aload_n 0, 1) := by decide +kernel
theorem dX5_leastByTable_15 : decode cX5_leastByTable 15 = .ok (.getfield 26, 3) := by decide +kernel
theorem dX5_leastByTable_18 : decode cX5_leastByTable 18 = .ok (.iconst 0, 1) := by decide +kernel
theorem dX5_leastByTable_19 : decode cX5_leastByTable 19 = .ok (.iconst 0, 1) := by decide +kernel
theorem dX5_leastByTable_20 : decode cX5_leastByTable 20 = .ok (.invokevirtual 33, 3) := by decide +kernel
theorem dX5_leastByTable_23 : decode cX5_leastByTable 23 = .ok (.iconst 1, 1) := by decide +kernel
theorem dX5_leastByTable_24 : decode cX5_leastByTable 24 = .ok (.istore_n 3, 1) := by decide +kernel
theorem dX5_leastByTable_25 : decode cX5_leastByTable 25 = .ok (.iload_n 3, 1) := by decide +kernel
theorem dX5_leastByTable_26 : decode cX5_leastByTable 26 = .ok (.iload_n 2, 1) := by decide +kernel
theorem dX5_leastByTable_27 : decode cX5_leastByTable 27 = .ok (.if_icmp .gt 13, 3) := by decide +kernel
theorem dX5_leastByTable_30 : decode cX5_leastByTable 30 = .ok (.aload_n 0, 1) := by decide +kernel
theorem dX5_leastByTable_31 : decode cX5_leastByTable 31 = .ok (.invokevirtual 72, 3) := by decide +kernel
theorem dX5_leastByTable_34 : decode cX5_leastByTable 34 = .ok (.iinc 3 1, 3) := by decide +kernel
theorem dX5_leastByTable_37 : decode cX5_leastByTable 37 = .ok (.goto (-12), 3) := by decide +kernel
theorem dX5_leastByTable_40 : decode cX5_leastByTable 40 = .ok (.aload_n 0, 1) := by decide +kernel
theorem dX5_leastByTable_41 : decode cX5_leastByTable 41 = .ok (.getfield 26, 3) := by decide +kernel
theorem dX5_leastByTable_44 : decode cX5_leastByTable 44 = .ok (.aload_n 0, 1) := by decide +kernel
theorem dX5_leastByTable_45 : decode cX5_leastByTable 45 = .ok (.invokevirtual 37, 3) := by decide +kernel
theorem dX5_leastByTable_48 : decode cX5_leastByTable 48 = .ok (.invokevirtual 45, 3) := by decide +kernel
theorem dX5_leastByTable_51 : decode cX5_leastByTable 51 = .ok (.ireturn, 1) := by decide +kernel
theorem dX11_leastAnew_0 : decode cX11_leastAnew 0 = .ok (.iload_n 1, 1) := by decide +kernel
theorem dX11_leastAnew_1 : decode cX11_leastAnew 1 = .ok (.iconst 1, 1) := by decide +kernel
theorem dX11_leastAnew_2 : decode cX11_leastAnew 2 = .ok (.iconst 5, 1) := by decide +kernel
theorem dX11_leastAnew_3 : decode cX11_leastAnew 3 = .ok (.invokestatic 62, 3) := by decide +kernel
theorem dX11_leastAnew_6 : decode cX11_leastAnew 6 = .ok (.invokestatic 66, 3) := by decide +kernel
theorem dX11_leastAnew_9 : decode cX11_leastAnew 9 = .ok (.aload_n 0, 1) := by decide +kernel
theorem dX11_leastAnew_10 : decode cX11_leastAnew 10 = .ok (.getfield 19, 3) := by decide +kernel
theorem dX11_leastAnew_13 : decode cX11_leastAnew 13 = .ok (.aload_n 0, 1) := by decide +kernel
theorem dX11_leastAnew_14 : decode cX11_leastAnew 14 = .ok (.getfield 10, 3) := by decide +kernel
theorem dX11_leastAnew_17 : decode cX11_leastAnew 17 = .ok (.iload_n 1, 1) := by decide +kernel
theorem dX11_leastAnew_18 : decode cX11_leastAnew 18 = .ok (.invokevirtual 163, 3) := by decide +kernel
theorem dX11_leastAnew_21 : decode cX11_leastAnew 21 = .ok (.ireturn, 1) := by decide +kernel
theorem dL_part_0 : decode cL_part 0 = .ok (.iload_n 1, 1) := by decide +kernel
theorem dL_part_1 : decode cL_part 1 = .ok (.aload_n 0, 1) := by decide +kernel
theorem dL_part_2 : decode cL_part 2 = .ok (.arraylength, 1) := by decide +kernel
theorem dL_part_3 : decode cL_part 3 = .ok (.if_icmp .ge 9, 3) := by decide +kernel
theorem dL_part_6 : decode cL_part 6 = .ok (.aload_n 0, 1) := by decide +kernel
theorem dL_part_7 : decode cL_part 7 = .ok (.iload_n 1, 1) := by decide +kernel
theorem dL_part_8 : decode cL_part 8 = .ok (.iaload, 1) := by decide +kernel
theorem dL_part_9 : decode cL_part 9 = .ok (.goto 16, 3) := by decide +kernel
theorem dL_part_12 : decode cL_part 12 = .ok (.sipush 983, 3) := by decide +kernel
theorem dL_part_15 : decode cL_part 15 = .ok (.iload_n 1, 1) := by decide +kernel
theorem dL_part_16 : decode cL_part 16 = .ok (.imul, 1) := by decide +kernel
theorem dL_part_17 : decode cL_part 17 = .ok (.sipush 853, 3) := by decide +kernel
theorem dL_part_20 : decode cL_part 20 = .ok (.iload_n 1, 1) := by decide +kernel
theorem dL_part_21 : decode cL_part 21 = .ok (.imul, 1) := by decide +kernel
theorem dL_part_22 : decode cL_part 22 = .ok (.iload_n 1, 1) := by decide +kernel
theorem dL_part_23 : decode cL_part 23 = .ok (.imul, 1) := by decide +kernel
theorem dL_part_24 : decode cL_part 24 = .ok (.iadd, 1) := by decide +kernel
theorem dL_part_25 : decode cL_part 25 = .ok (.istore_n 3, 1) := by decide +kernel
theorem dL_part_26 : decode cL_part 26 = .ok (.iload_n 3, 1) := by decide +kernel
theorem dL_part_27 : decode cL_part 27 = .ok (.ldc 7, 2) := by decide +kernel
theorem dL_part_29 : decode cL_part 29 = .ok (.iand, 1) := by decide +kernel
theorem dL_part_30 : decode cL_part 30 = .ok (.iload_n 2, 1) := by decide +kernel
theorem dL_part_31 : decode cL_part 31 = .ok (.irem, 1) := by decide +kernel
theorem dL_part_32 : decode cL_part 32 = .ok (.ireturn, 1) := by decide +kernel
theorem dL_wrong_0 : decode cL_wrong 0 = .ok (.iconst 0, 1) := by decide +kernel
theorem dL_wrong_1 : decode cL_wrong 1 = .ok (.istore_n 2, 1) := by decide +kernel
theorem dL_wrong_2 : decode cL_wrong 2 = .ok (.iconst 0, 1) := by decide +kernel
theorem dL_wrong_3 : decode cL_wrong 3 = .ok (.istore_n 3, 1) := by decide +kernel
theorem dL_wrong_4 : decode cL_wrong 4 = .ok (.iload_n 3, 1) := by decide +kernel
theorem dL_wrong_5 : decode cL_wrong 5 = .ok (.aload_n 1, 1) := by decide +kernel
theorem dL_wrong_6 : decode cL_wrong 6 = .ok (.iconst 1, 1) := by decide +kernel
theorem dL_wrong_7 : decode cL_wrong 7 = .ok (.iaload, 1) := by decide +kernel
theorem dL_wrong_8 : decode cL_wrong 8 = .ok (.if_icmp .ge 74, 3) := by decide +kernel
theorem dL_wrong_11 : decode cL_wrong 11 = .ok (.iload_n 3, 1) := by decide +kernel
theorem dL_wrong_12 : decode cL_wrong 12 = .ok (.iconst 1, 1) := by decide +kernel
theorem dL_wrong_13 : decode cL_wrong 13 = .ok (.iadd, 1) := by decide +kernel
theorem dL_wrong_14 : decode cL_wrong 14 = .ok (.istore 4, 2) := by decide +kernel
theorem dL_wrong_16 : decode cL_wrong 16 = .ok (.iload 4, 2) := by decide +kernel
theorem dL_wrong_18 : decode cL_wrong 18 = .ok (.aload_n 1, 1) := by decide +kernel
theorem dL_wrong_19 : decode cL_wrong 19 = .ok (.iconst 1, 1) := by decide +kernel
theorem dL_wrong_20 : decode cL_wrong 20 = .ok (.iaload, 1) := by decide +kernel
theorem dL_wrong_21 : decode cL_wrong 21 = .ok (.if_icmp .ge 55, 3) := by decide +kernel
theorem dL_wrong_24 : decode cL_wrong 24 = .ok (.iload_n 2, 1) := by decide +kernel
theorem dL_wrong_25 : decode cL_wrong 25 = .ok (.aload_n 0, 1) := by decide +kernel
theorem dL_wrong_26 : decode cL_wrong 26 = .ok (.iload_n 3, 1) := by decide +kernel
theorem dL_wrong_27 : decode cL_wrong 27 = .ok (.iaload, 1) := by decide +kernel
theorem dL_wrong_28 : decode cL_wrong 28 = .ok (.bipush 8, 2) := by decide +kernel
theorem dL_wrong_30 : decode cL_wrong 30 = .ok (.idiv, 1) := by decide +kernel
theorem dL_wrong_31 : decode cL_wrong 31 = .ok (.sipush 256, 3) := by decide +kernel
theorem dL_wrong_34 : decode cL_wrong 34 = .ok (.irem, 1) := by decide +kernel
theorem dL_wrong_35 : decode cL_wrong 35 = .ok (.aload_n 0, 1) := by decide +kernel
theorem dL_wrong_36 : decode cL_wrong 36 = .ok (.iload 4, 2) := by decide +kernel
theorem dL_wrong_38 : decode cL_wrong 38 = .ok (.iaload, 1) := by decide +kernel
theorem dL_wrong_39 : decode cL_wrong 39 = .ok (.bipush 8, 2) := by decide +kernel
theorem dL_wrong_41 : decode cL_wrong 41 = .ok (.idiv, 1) := by decide +kernel
theorem dL_wrong_42 : decode cL_wrong 42 = .ok (.sipush 256, 3) := by decide +kernel
theorem dL_wrong_45 : decode cL_wrong 45 = .ok (.irem, 1) := by decide +kernel
theorem dL_wrong_46 : decode cL_wrong 46 = .ok (.if_icmp .ne 21, 3) := by decide +kernel
theorem dL_wrong_49 : decode cL_wrong 49 = .ok (.aload_n 0, 1) := by decide +kernel
theorem dL_wrong_50 : decode cL_wrong 50 = .ok (.iload_n 3, 1) := by decide +kernel
theorem dL_wrong_51 : decode cL_wrong 51 = .ok (.iaload, 1) := by decide +kernel
theorem dL_wrong_52 : decode cL_wrong 52 = .ok (.sipush 2048, 3) := by decide +kernel
theorem dL_wrong_55 : decode cL_wrong 55 = .ok (.idiv, 1) := by decide +kernel
theorem dL_wrong_56 : decode cL_wrong 56 = .ok (.iconst 1, 1) := by decide +kernel
theorem dL_wrong_57 : decode cL_wrong 57 = .ok (.isub, 1) := by decide +kernel
theorem dL_wrong_58 : decode cL_wrong 58 = .ok (.iload 4, 2) := by decide +kernel
theorem dL_wrong_60 : decode cL_wrong 60 = .ok (.if_icmp .eq 7, 3) := by decide +kernel
theorem dL_wrong_63 : decode cL_wrong 63 = .ok (.iconst 1, 1) := by decide +kernel
theorem dL_wrong_64 : decode cL_wrong 64 = .ok (.goto 4, 3) := by decide +kernel
theorem dL_wrong_67 : decode cL_wrong 67 = .ok (.iconst 0, 1) := by decide +kernel
theorem dL_wrong_68 : decode cL_wrong 68 = .ok (.iadd, 1) := by decide +kernel
theorem dL_wrong_69 : decode cL_wrong 69 = .ok (.istore_n 2, 1) := by decide +kernel
theorem dL_wrong_70 : decode cL_wrong 70 = .ok (.iinc 4 1, 3) := by decide +kernel
theorem dL_wrong_73 : decode cL_wrong 73 = .ok (.goto (-57), 3) := by decide +kernel
theorem dL_wrong_76 : decode cL_wrong 76 = .ok (.iinc 3 1, 3) := by decide +kernel
theorem dL_wrong_79 : decode cL_wrong 79 = .ok (.goto (-75), 3) := by decide +kernel
theorem dL_wrong_82 : decode cL_wrong 82 = .ok (.iload_n 2, 1) := by decide +kernel
theorem dL_wrong_83 : decode cL_wrong 83 = .ok (.ireturn, 1) := by decide +kernel
theorem dL_way_0 : decode cL_way 0 = .ok (.bipush 9, 2) := by decide +kernel
theorem dL_way_2 : decode cL_way 2 = .ok (.newarray .int, 2) := by decide +kernel
theorem dL_way_4 : decode cL_way 4 = .ok (.astore 6, 2) := by decide +kernel
theorem dL_way_6 : decode cL_way 6 = .ok (.bipush 9, 2) := by decide +kernel
theorem dL_way_8 : decode cL_way 8 = .ok (.newarray .int, 2) := by decide +kernel
theorem dL_way_10 : decode cL_way 10 = .ok (.astore 7, 2) := by decide +kernel
theorem dL_way_12 : decode cL_way 12 = .ok (.bipush 9, 2) := by decide +kernel
theorem dL_way_14 : decode cL_way 14 = .ok (.newarray .int, 2) := by decide +kernel
theorem dL_way_16 : decode cL_way 16 = .ok (.astore 8, 2) := by decide +kernel
theorem dL_way_18 : decode cL_way 18 = .ok (.iconst (-1), 1) := by decide +kernel
theorem dL_way_19 : decode cL_way 19 = .ok (.istore 9, 2) := by decide +kernel
theorem dL_way_21 : decode cL_way 21 = .ok (.iconst 0, 1) := by decide +kernel
theorem dL_way_22 : decode cL_way 22 = .ok (.istore 10, 2) := by decide +kernel
theorem dL_way_24 : decode cL_way 24 = .ok (.aload 6, 2) := by decide +kernel
theorem dL_way_26 : decode cL_way 26 = .ok (.iconst 0, 1) := by decide +kernel
theorem dL_way_27 : decode cL_way 27 = .ok (.iload_n 3, 1) := by decide +kernel
theorem dL_way_28 : decode cL_way 28 = .ok (.iastore, 1) := by decide +kernel
theorem dL_way_29 : decode cL_way 29 = .ok (.iload 10, 2) := by decide +kernel
theorem dL_way_31 : decode cL_way 31 = .ok (.ifCond .lt 296, 3) := by decide +kernel
theorem dL_way_34 : decode cL_way 34 = .ok (.aload 8, 2) := by decide +kernel
theorem dL_way_36 : decode cL_way 36 = .ok (.iload 10, 2) := by decide +kernel
theorem dL_way_38 : decode cL_way 38 = .ok (.iaload, 1) := by decide +kernel
theorem dL_way_39 : decode cL_way 39 = .ok (.bipush 8, 2) := by decide +kernel
theorem dL_way_41 : decode cL_way 41 = .ok (.imul, 1) := by decide +kernel
theorem dL_way_42 : decode cL_way 42 = .ok (.iload 10, 2) := by decide +kernel
theorem dL_way_44 : decode cL_way 44 = .ok (.iadd, 1) := by decide +kernel
theorem dL_way_45 : decode cL_way 45 = .ok (.istore 11, 2) := by decide +kernel
theorem dL_way_47 : decode cL_way 47 = .ok (.aload 6, 2) := by decide +kernel
theorem dL_way_49 : decode cL_way 49 = .ok (.iload 10, 2) := by decide +kernel
theorem dL_way_51 : decode cL_way 51 = .ok (.iaload, 1) := by decide +kernel
theorem dL_way_52 : decode cL_way 52 = .ok (.iload 4, 2) := by decide +kernel
theorem dL_way_54 : decode cL_way 54 = .ok (.if_icmp .ne 58, 3) := by decide +kernel
theorem dL_way_57 : decode cL_way 57 = .ok (.iload 9, 2) := by decide +kernel
theorem dL_way_59 : decode cL_way 59 = .ok (.ifCond .lt 10, 3) := by decide +kernel
theorem dL_way_62 : decode cL_way 62 = .ok (.iload 11, 2) := by decide +kernel
theorem dL_way_64 : decode cL_way 64 = .ok (.iload 9, 2) := by decide +kernel
theorem dL_way_66 : decode cL_way 66 = .ok (.if_icmp .ge 46, 3) := by decide +kernel
theorem dL_way_69 : decode cL_way 69 = .ok (.iload 11, 2) := by decide +kernel
theorem dL_way_71 : decode cL_way 71 = .ok (.istore 9, 2) := by decide +kernel
theorem dL_way_73 : decode cL_way 73 = .ok (.iconst 0, 1) := by decide +kernel
theorem dL_way_74 : decode cL_way 74 = .ok (.istore 12, 2) := by decide +kernel
theorem dL_way_76 : decode cL_way 76 = .ok (.iload 12, 2) := by decide +kernel
theorem dL_way_78 : decode cL_way 78 = .ok (.bipush 8, 2) := by decide +kernel
theorem dL_way_80 : decode cL_way 80 = .ok (.if_icmp .ge 32, 3) := by decide +kernel
theorem dL_way_83 : decode cL_way 83 = .ok (.aload 5, 2) := by decide +kernel
theorem dL_way_85 : decode cL_way 85 = .ok (.iload 12, 2) := by decide +kernel
theorem dL_way_87 : decode cL_way 87 = .ok (.iload 12, 2) := by decide +kernel
theorem dL_way_89 : decode cL_way 89 = .ok (.iload 10, 2) := by decide +kernel
theorem dL_way_91 : decode cL_way 91 = .ok (.if_icmp .ge 13, 3) := by decide +kernel
theorem dL_way_94 : decode cL_way 94 = .ok (.aload 7, 2) := by decide +kernel
theorem dL_way_96 : decode cL_way 96 = .ok (.iload 12, 2) := by decide +kernel
theorem dL_way_98 : decode cL_way 98 = .ok (.iaload, 1) := by decide +kernel
theorem dL_way_99 : decode cL_way 99 = .ok (.iconst 1, 1) := by decide +kernel
theorem dL_way_100 : decode cL_way 100 = .ok (.isub, 1) := by decide +kernel
theorem dL_way_101 : decode cL_way 101 = .ok (.goto 4, 3) := by decide +kernel
theorem dL_way_104 : decode cL_way 104 = .ok (.iconst (-1), 1) := by decide +kernel
theorem dL_way_105 : decode cL_way 105 = .ok (.iastore, 1) := by decide +kernel
theorem dL_way_106 : decode cL_way 106 = .ok (.iinc 12 1, 3) := by decide +kernel
theorem dL_way_109 : decode cL_way 109 = .ok (.goto (-33), 3) := by decide +kernel
theorem dL_way_112 : decode cL_way 112 = .ok (.aload 6, 2) := by decide +kernel
theorem dL_way_114 : decode cL_way 114 = .ok (.iload 10, 2) := by decide +kernel
theorem dL_way_116 : decode cL_way 116 = .ok (.iaload, 1) := by decide +kernel
theorem dL_way_117 : decode cL_way 117 = .ok (.iload 4, 2) := by decide +kernel
theorem dL_way_119 : decode cL_way 119 = .ok (.if_icmp .eq 26, 3) := by decide +kernel
theorem dL_way_122 : decode cL_way 122 = .ok (.aload 7, 2) := by decide +kernel
theorem dL_way_124 : decode cL_way 124 = .ok (.iload 10, 2) := by decide +kernel
theorem dL_way_126 : decode cL_way 126 = .ok (.iaload, 1) := by decide +kernel
theorem dL_way_127 : decode cL_way 127 = .ok (.aload_n 2, 1) := by decide +kernel
theorem dL_way_128 : decode cL_way 128 = .ok (.iconst 0, 1) := by decide +kernel
theorem dL_way_129 : decode cL_way 129 = .ok (.iaload, 1) := by decide +kernel
theorem dL_way_130 : decode cL_way 130 = .ok (.if_icmp .eq 15, 3) := by decide +kernel
theorem dL_way_133 : decode cL_way 133 = .ok (.iload 9, 2) := by decide +kernel
theorem dL_way_135 : decode cL_way 135 = .ok (.ifCond .lt 16, 3) := by decide +kernel
theorem dL_way_138 : decode cL_way 138 = .ok (.iload 11, 2) := by decide +kernel
theorem dL_way_140 : decode cL_way 140 = .ok (.iload 9, 2) := by decide +kernel
theorem dL_way_142 : decode cL_way 142 = .ok (.if_icmp .lt 9, 3) := by decide +kernel
theorem dL_way_145 : decode cL_way 145 = .ok (.iinc 10 (-1), 3) := by decide +kernel
theorem dL_way_148 : decode cL_way 148 = .ok (.goto (-119), 3) := by decide +kernel
theorem dL_way_151 : decode cL_way 151 = .ok (.aload 7, 2) := by decide +kernel
theorem dL_way_153 : decode cL_way 153 = .ok (.iload 10, 2) := by decide +kernel
theorem dL_way_155 : decode cL_way 155 = .ok (.iaload, 1) := by decide +kernel
theorem dL_way_156 : decode cL_way 156 = .ok (.istore 12, 2) := by decide +kernel
theorem dL_way_158 : decode cL_way 158 = .ok (.aload 7, 2) := by decide +kernel
theorem dL_way_160 : decode cL_way 160 = .ok (.iload 10, 2) := by decide +kernel
theorem dL_way_162 : decode cL_way 162 = .ok (.dup2, 1) := by decide +kernel
theorem dL_way_163 : decode cL_way 163 = .ok (.iaload, 1) := by decide +kernel
theorem dL_way_164 : decode cL_way 164 = .ok (.iconst 1, 1) := by decide +kernel
theorem dL_way_165 : decode cL_way 165 = .ok (.iadd, 1) := by decide +kernel
theorem dL_way_166 : decode cL_way 166 = .ok (.iastore, 1) := by decide +kernel
theorem dL_way_167 : decode cL_way 167 = .ok (.aload_n 0, 1) := by decide +kernel
theorem dL_way_168 : decode cL_way 168 = .ok (.iload 12, 2) := by decide +kernel
theorem dL_way_170 : decode cL_way 170 = .ok (.iaload, 1) := by decide +kernel
theorem dL_way_171 : decode cL_way 171 = .ok (.bipush 8, 2) := by decide +kernel
theorem dL_way_173 : decode cL_way 173 = .ok (.irem, 1) := by decide +kernel
theorem dL_way_174 : decode cL_way 174 = .ok (.aload 6, 2) := by decide +kernel
theorem dL_way_176 : decode cL_way 176 = .ok (.iload 10, 2) := by decide +kernel
theorem dL_way_178 : decode cL_way 178 = .ok (.iaload, 1) := by decide +kernel
theorem dL_way_179 : decode cL_way 179 = .ok (.if_icmp .ne 16, 3) := by decide +kernel
theorem dL_way_182 : decode cL_way 182 = .ok (.aload_n 0, 1) := by decide +kernel
theorem dL_way_183 : decode cL_way 183 = .ok (.iload 12, 2) := by decide +kernel
theorem dL_way_185 : decode cL_way 185 = .ok (.iaload, 1) := by decide +kernel
theorem dL_way_186 : decode cL_way 186 = .ok (.bipush 8, 2) := by decide +kernel
theorem dL_way_188 : decode cL_way 188 = .ok (.idiv, 1) := by decide +kernel
theorem dL_way_189 : decode cL_way 189 = .ok (.bipush 8, 2) := by decide +kernel
theorem dL_way_191 : decode cL_way 191 = .ok (.irem, 1) := by decide +kernel
theorem dL_way_192 : decode cL_way 192 = .ok (.goto 32, 3) := by decide +kernel
theorem dL_way_195 : decode cL_way 195 = .ok (.aload_n 0, 1) := by decide +kernel
theorem dL_way_196 : decode cL_way 196 = .ok (.iload 12, 2) := by decide +kernel
theorem dL_way_198 : decode cL_way 198 = .ok (.iaload, 1) := by decide +kernel
theorem dL_way_199 : decode cL_way 199 = .ok (.bipush 8, 2) := by decide +kernel
theorem dL_way_201 : decode cL_way 201 = .ok (.idiv, 1) := by decide +kernel
theorem dL_way_202 : decode cL_way 202 = .ok (.bipush 8, 2) := by decide +kernel
theorem dL_way_204 : decode cL_way 204 = .ok (.irem, 1) := by decide +kernel
theorem dL_way_205 : decode cL_way 205 = .ok (.aload 6, 2) := by decide +kernel
theorem dL_way_207 : decode cL_way 207 = .ok (.iload 10, 2) := by decide +kernel
theorem dL_way_209 : decode cL_way 209 = .ok (.iaload, 1) := by decide +kernel
theorem dL_way_210 : decode cL_way 210 = .ok (.if_icmp .ne 13, 3) := by decide +kernel
theorem dL_way_213 : decode cL_way 213 = .ok (.aload_n 0, 1) := by decide +kernel
theorem dL_way_214 : decode cL_way 214 = .ok (.iload 12, 2) := by decide +kernel
theorem dL_way_216 : decode cL_way 216 = .ok (.iaload, 1) := by decide +kernel
theorem dL_way_217 : decode cL_way 217 = .ok (.bipush 8, 2) := by decide +kernel
theorem dL_way_219 : decode cL_way 219 = .ok (.irem, 1) := by decide +kernel
theorem dL_way_220 : decode cL_way 220 = .ok (.goto 4, 3) := by decide +kernel
theorem dL_way_223 : decode cL_way 223 = .ok (.iconst (-1), 1) := by decide +kernel
theorem dL_way_224 : decode cL_way 224 = .ok (.istore 13, 2) := by decide +kernel
theorem dL_way_226 : decode cL_way 226 = .ok (.iload 13, 2) := by decide +kernel
theorem dL_way_228 : decode cL_way 228 = .ok (.ifCond .lt 14, 3) := by decide +kernel
theorem dL_way_231 : decode cL_way 231 = .ok (.aload_n 1, 1) := by decide +kernel
theorem dL_way_232 : decode cL_way 232 = .ok (.iload 12, 2) := by decide +kernel
theorem dL_way_234 : decode cL_way 234 = .ok (.iaload, 1) := by decide +kernel
theorem dL_way_235 : decode cL_way 235 = .ok (.ifCond .le 7, 3) := by decide +kernel
theorem dL_way_238 : decode cL_way 238 = .ok (.iconst 1, 1) := by decide +kernel
theorem dL_way_239 : decode cL_way 239 = .ok (.goto 4, 3) := by decide +kernel
theorem dL_way_242 : decode cL_way 242 = .ok (.iconst 0, 1) := by decide +kernel
theorem dL_way_243 : decode cL_way 243 = .ok (.istore 14, 2) := by decide +kernel
theorem dL_way_245 : decode cL_way 245 = .ok (.iconst 0, 1) := by decide +kernel
theorem dL_way_246 : decode cL_way 246 = .ok (.istore 15, 2) := by decide +kernel
theorem dL_way_248 : decode cL_way 248 = .ok (.iload 15, 2) := by decide +kernel
theorem dL_way_250 : decode cL_way 250 = .ok (.iload 10, 2) := by decide +kernel
theorem dL_way_252 : decode cL_way 252 = .ok (.if_icmp .gt 31, 3) := by decide +kernel
theorem dL_way_255 : decode cL_way 255 = .ok (.iload 14, 2) := by decide +kernel
theorem dL_way_257 : decode cL_way 257 = .ok (.ifCond .eq 17, 3) := by decide +kernel
theorem dL_way_260 : decode cL_way 260 = .ok (.aload 6, 2) := by decide +kernel
theorem dL_way_262 : decode cL_way 262 = .ok (.iload 15, 2) := by decide +kernel
theorem dL_way_264 : decode cL_way 264 = .ok (.iaload, 1) := by decide +kernel
theorem dL_way_265 : decode cL_way 265 = .ok (.iload 13, 2) := by decide +kernel
theorem dL_way_267 : decode cL_way 267 = .ok (.if_icmp .eq 7, 3) := by decide +kernel
theorem dL_way_270 : decode cL_way 270 = .ok (.iconst 1, 1) := by decide +kernel
theorem dL_way_271 : decode cL_way 271 = .ok (.goto 4, 3) := by decide +kernel
theorem dL_way_274 : decode cL_way 274 = .ok (.iconst 0, 1) := by decide +kernel
theorem dL_way_275 : decode cL_way 275 = .ok (.istore 14, 2) := by decide +kernel
theorem dL_way_277 : decode cL_way 277 = .ok (.iinc 15 1, 3) := by decide +kernel
theorem dL_way_280 : decode cL_way 280 = .ok (.goto (-32), 3) := by decide +kernel
theorem dL_way_283 : decode cL_way 283 = .ok (.iload 14, 2) := by decide +kernel
theorem dL_way_285 : decode cL_way 285 = .ok (.ifCond .eq 39, 3) := by decide +kernel
theorem dL_way_288 : decode cL_way 288 = .ok (.aload 8, 2) := by decide +kernel
theorem dL_way_290 : decode cL_way 290 = .ok (.iload 10, 2) := by decide +kernel
theorem dL_way_292 : decode cL_way 292 = .ok (.iconst 1, 1) := by decide +kernel
theorem dL_way_293 : decode cL_way 293 = .ok (.iadd, 1) := by decide +kernel
theorem dL_way_294 : decode cL_way 294 = .ok (.aload 8, 2) := by decide +kernel
theorem dL_way_296 : decode cL_way 296 = .ok (.iload 10, 2) := by decide +kernel
theorem dL_way_298 : decode cL_way 298 = .ok (.iaload, 1) := by decide +kernel
theorem dL_way_299 : decode cL_way 299 = .ok (.aload_n 0, 1) := by decide +kernel
theorem dL_way_300 : decode cL_way 300 = .ok (.iload 12, 2) := by decide +kernel
theorem dL_way_302 : decode cL_way 302 = .ok (.iaload, 1) := by decide +kernel
theorem dL_way_303 : decode cL_way 303 = .ok (.bipush 64, 2) := by decide +kernel
theorem dL_way_305 : decode cL_way 305 = .ok (.idiv, 1) := by decide +kernel
theorem dL_way_306 : decode cL_way 306 = .ok (.iadd, 1) := by decide +kernel
theorem dL_way_307 : decode cL_way 307 = .ok (.iastore, 1) := by decide +kernel
theorem dL_way_308 : decode cL_way 308 = .ok (.iinc 10 1, 3) := by decide +kernel
theorem dL_way_311 : decode cL_way 311 = .ok (.aload 6, 2) := by decide +kernel
theorem dL_way_313 : decode cL_way 313 = .ok (.iload 10, 2) := by decide +kernel
theorem dL_way_315 : decode cL_way 315 = .ok (.iload 13, 2) := by decide +kernel
theorem dL_way_317 : decode cL_way 317 = .ok (.iastore, 1) := by decide +kernel
theorem dL_way_318 : decode cL_way 318 = .ok (.aload 7, 2) := by decide +kernel
theorem dL_way_320 : decode cL_way 320 = .ok (.iload 10, 2) := by decide +kernel
theorem dL_way_322 : decode cL_way 322 = .ok (.iconst 0, 1) := by decide +kernel
theorem dL_way_323 : decode cL_way 323 = .ok (.iastore, 1) := by decide +kernel
theorem dL_way_324 : decode cL_way 324 = .ok (.goto (-295), 3) := by decide +kernel
theorem dL_way_327 : decode cL_way 327 = .ok (.iload 9, 2) := by decide +kernel
theorem dL_way_329 : decode cL_way 329 = .ok (.ireturn, 1) := by decide +kernel
theorem dL_isHarness_0 : decode cL_isHarness 0 = .ok (.iload 7, 2) := by decide +kernel
theorem dL_isHarness_2 : decode cL_isHarness 2 = .ok (.ifCond .ne 261, 3) := by decide +kernel
theorem dL_isHarness_5 : decode cL_isHarness 5 = .ok (.aload 6, 2) := by decide +kernel
theorem dL_isHarness_7 : decode cL_isHarness 7 = .ok (.iconst 0, 1) := by decide +kernel
theorem dL_isHarness_8 : decode cL_isHarness 8 = .ok (.iaload, 1) := by decide +kernel
theorem dL_isHarness_9 : decode cL_isHarness 9 = .ok (.bipush 16, 2) := by decide +kernel
theorem dL_isHarness_11 : decode cL_isHarness 11 = .ok (.if_icmp .ge 252, 3) := by decide +kernel
theorem dL_isHarness_14 : decode cL_isHarness 14 = .ok (.iload 8, 2) := by decide +kernel
theorem dL_isHarness_16 : decode cL_isHarness 16 = .ok (.bipush 9, 2) := by decide +kernel
theorem dL_isHarness_18 : decode cL_isHarness 18 = .ok (.irem, 1) := by decide +kernel
theorem dL_isHarness_19 : decode cL_isHarness 19 = .ok (.istore 10, 2) := by decide +kernel
theorem dL_isHarness_21 : decode cL_isHarness 21 = .ok (.iload 9, 2) := by decide +kernel
theorem dL_isHarness_23 : decode cL_isHarness 23 = .ok (.bipush 9, 2) := by decide +kernel
theorem dL_isHarness_25 : decode cL_isHarness 25 = .ok (.irem, 1) := by decide +kernel
theorem dL_isHarness_26 : decode cL_isHarness 26 = .ok (.istore 11, 2) := by decide +kernel
theorem dL_isHarness_28 : decode cL_isHarness 28 = .ok (.iload 8, 2) := by decide +kernel
theorem dL_isHarness_30 : decode cL_isHarness 30 = .ok (.bipush 9, 2) := by decide +kernel
theorem dL_isHarness_32 : decode cL_isHarness 32 = .ok (.idiv, 1) := by decide +kernel
theorem dL_isHarness_33 : decode cL_isHarness 33 = .ok (.bipush 9, 2) := by decide +kernel
theorem dL_isHarness_35 : decode cL_isHarness 35 = .ok (.irem, 1) := by decide +kernel
theorem dL_isHarness_36 : decode cL_isHarness 36 = .ok (.ifCond .ne 15, 3) := by decide +kernel
theorem dL_isHarness_39 : decode cL_isHarness 39 = .ok (.iload 8, 2) := by decide +kernel
theorem dL_isHarness_41 : decode cL_isHarness 41 = .ok (.bipush 81, 2) := by decide +kernel
theorem dL_isHarness_43 : decode cL_isHarness 43 = .ok (.idiv, 1) := by decide +kernel
theorem dL_isHarness_44 : decode cL_isHarness 44 = .ok (.sipush 1001, 3) := by decide +kernel
theorem dL_isHarness_47 : decode cL_isHarness 47 = .ok (.irem, 1) := by decide +kernel
theorem dL_isHarness_48 : decode cL_isHarness 48 = .ok (.goto 13, 3) := by decide +kernel
theorem dL_isHarness_51 : decode cL_isHarness 51 = .ok (.iconst 1, 1) := by decide +kernel
theorem dL_isHarness_52 : decode cL_isHarness 52 = .ok (.iload 8, 2) := by decide +kernel
theorem dL_isHarness_54 : decode cL_isHarness 54 = .ok (.bipush 81, 2) := by decide +kernel
theorem dL_isHarness_56 : decode cL_isHarness 56 = .ok (.idiv, 1) := by decide +kernel
theorem dL_isHarness_57 : decode cL_isHarness 57 = .ok (.bipush 12, 2) := by decide +kernel
theorem dL_isHarness_59 : decode cL_isHarness 59 = .ok (.irem, 1) := by decide +kernel
theorem dL_isHarness_60 : decode cL_isHarness 60 = .ok (.iadd, 1) := by decide +kernel
theorem dL_isHarness_61 : decode cL_isHarness 61 = .ok (.istore 12, 2) := by decide +kernel
theorem dL_isHarness_63 : decode cL_isHarness 63 = .ok (.iload 9, 2) := by decide +kernel
theorem dL_isHarness_65 : decode cL_isHarness 65 = .ok (.bipush 9, 2) := by decide +kernel
theorem dL_isHarness_67 : decode cL_isHarness 67 = .ok (.idiv, 1) := by decide +kernel
theorem dL_isHarness_68 : decode cL_isHarness 68 = .ok (.bipush 9, 2) := by decide +kernel
theorem dL_isHarness_70 : decode cL_isHarness 70 = .ok (.irem, 1) := by decide +kernel
theorem dL_isHarness_71 : decode cL_isHarness 71 = .ok (.ifCond .ne 14, 3) := by decide +kernel
theorem dL_isHarness_74 : decode cL_isHarness 74 = .ok (.iload 9, 2) := by decide +kernel
theorem dL_isHarness_76 : decode cL_isHarness 76 = .ok (.bipush 81, 2) := by decide +kernel
theorem dL_isHarness_78 : decode cL_isHarness 78 = .ok (.idiv, 1) := by decide +kernel
theorem dL_isHarness_79 : decode cL_isHarness 79 = .ok (.bipush 26, 2) := by decide +kernel
theorem dL_isHarness_81 : decode cL_isHarness 81 = .ok (.irem, 1) := by decide +kernel
theorem dL_isHarness_82 : decode cL_isHarness 82 = .ok (.goto 12, 3) := by decide +kernel
theorem dL_isHarness_85 : decode cL_isHarness 85 = .ok (.iconst 1, 1) := by decide +kernel
theorem dL_isHarness_86 : decode cL_isHarness 86 = .ok (.iload 9, 2) := by decide +kernel
theorem dL_isHarness_88 : decode cL_isHarness 88 = .ok (.bipush 81, 2) := by decide +kernel
theorem dL_isHarness_90 : decode cL_isHarness 90 = .ok (.idiv, 1) := by decide +kernel
theorem dL_isHarness_91 : decode cL_isHarness 91 = .ok (.iconst 3, 1) := by decide +kernel
theorem dL_isHarness_92 : decode cL_isHarness 92 = .ok (.irem, 1) := by decide +kernel
theorem dL_isHarness_93 : decode cL_isHarness 93 = .ok (.iadd, 1) := by decide +kernel
theorem dL_isHarness_94 : decode cL_isHarness 94 = .ok (.istore 13, 2) := by decide +kernel
theorem dL_isHarness_96 : decode cL_isHarness 96 = .ok (.iload 10, 2) := by decide +kernel
theorem dL_isHarness_98 : decode cL_isHarness 98 = .ok (.bipush 8, 2) := by decide +kernel
theorem dL_isHarness_100 : decode cL_isHarness 100 = .ok (.if_icmp .ge 14, 3) := by decide +kernel
theorem dL_isHarness_103 : decode cL_isHarness 103 = .ok (.iload 11, 2) := by decide +kernel
theorem dL_isHarness_105 : decode cL_isHarness 105 = .ok (.bipush 8, 2) := by decide +kernel
theorem dL_isHarness_107 : decode cL_isHarness 107 = .ok (.if_icmp .ge 7, 3) := by decide +kernel
theorem dL_isHarness_110 : decode cL_isHarness 110 = .ok (.iconst 1, 1) := by decide +kernel
theorem dL_isHarness_111 : decode cL_isHarness 111 = .ok (.goto 4, 3) := by decide +kernel
theorem dL_isHarness_114 : decode cL_isHarness 114 = .ok (.iconst 0, 1) := by decide +kernel
theorem dL_isHarness_115 : decode cL_isHarness 115 = .ok (.istore 14, 2) := by decide +kernel
theorem dL_isHarness_117 : decode cL_isHarness 117 = .ok (.iload 10, 2) := by decide +kernel
theorem dL_isHarness_119 : decode cL_isHarness 119 = .ok (.iload 11, 2) := by decide +kernel
theorem dL_isHarness_121 : decode cL_isHarness 121 = .ok (.if_icmp .eq 32, 3) := by decide +kernel
theorem dL_isHarness_124 : decode cL_isHarness 124 = .ok (.iload 12, 2) := by decide +kernel
theorem dL_isHarness_126 : decode cL_isHarness 126 = .ok (.ifCond .le 27, 3) := by decide +kernel
theorem dL_isHarness_129 : decode cL_isHarness 129 = .ok (.iload 12, 2) := by decide +kernel
theorem dL_isHarness_131 : decode cL_isHarness 131 = .ok (.sipush 1000, 3) := by decide +kernel
theorem dL_isHarness_134 : decode cL_isHarness 134 = .ok (.if_icmp .ge 19, 3) := by decide +kernel
theorem dL_isHarness_137 : decode cL_isHarness 137 = .ok (.iload 13, 2) := by decide +kernel
theorem dL_isHarness_139 : decode cL_isHarness 139 = .ok (.ifCond .le 14, 3) := by decide +kernel
theorem dL_isHarness_142 : decode cL_isHarness 142 = .ok (.iload 13, 2) := by decide +kernel
theorem dL_isHarness_144 : decode cL_isHarness 144 = .ok (.bipush 25, 2) := by decide +kernel
theorem dL_isHarness_146 : decode cL_isHarness 146 = .ok (.if_icmp .ge 7, 3) := by decide +kernel
theorem dL_isHarness_149 : decode cL_isHarness 149 = .ok (.iconst 1, 1) := by decide +kernel
theorem dL_isHarness_150 : decode cL_isHarness 150 = .ok (.goto 4, 3) := by decide +kernel
theorem dL_isHarness_153 : decode cL_isHarness 153 = .ok (.iconst 0, 1) := by decide +kernel
theorem dL_isHarness_154 : decode cL_isHarness 154 = .ok (.istore 15, 2) := by decide +kernel
theorem dL_isHarness_156 : decode cL_isHarness 156 = .ok (.iload 14, 2) := by decide +kernel
theorem dL_isHarness_158 : decode cL_isHarness 158 = .ok (.ifCond .eq 12, 3) := by decide +kernel
theorem dL_isHarness_161 : decode cL_isHarness 161 = .ok (.iload 15, 2) := by decide +kernel
theorem dL_isHarness_163 : decode cL_isHarness 163 = .ok (.ifCond .eq 7, 3) := by decide +kernel
theorem dL_isHarness_166 : decode cL_isHarness 166 = .ok (.iconst 1, 1) := by decide +kernel
theorem dL_isHarness_167 : decode cL_isHarness 167 = .ok (.goto 4, 3) := by decide +kernel
theorem dL_isHarness_170 : decode cL_isHarness 170 = .ok (.iconst 0, 1) := by decide +kernel
theorem dL_isHarness_171 : decode cL_isHarness 171 = .ok (.istore 16, 2) := by decide +kernel
theorem dL_isHarness_173 : decode cL_isHarness 173 = .ok (.iload 16, 2) := by decide +kernel
theorem dL_isHarness_175 : decode cL_isHarness 175 = .ok (.ifCond .eq 39, 3) := by decide +kernel
theorem dL_isHarness_178 : decode cL_isHarness 178 = .ok (.aload_n 1, 1) := by decide +kernel
theorem dL_isHarness_179 : decode cL_isHarness 179 = .ok (.aload 6, 2) := by decide +kernel
theorem dL_isHarness_181 : decode cL_isHarness 181 = .ok (.iconst 0, 1) := by decide +kernel
theorem dL_isHarness_182 : decode cL_isHarness 182 = .ok (.iaload, 1) := by decide +kernel
theorem dL_isHarness_183 : decode cL_isHarness 183 = .ok (.iload 10, 2) := by decide +kernel
theorem dL_isHarness_185 : decode cL_isHarness 185 = .ok (.bipush 8, 2) := by decide +kernel
theorem dL_isHarness_187 : decode cL_isHarness 187 = .ok (.iload 11, 2) := by decide +kernel
theorem dL_isHarness_189 : decode cL_isHarness 189 = .ok (.imul, 1) := by decide +kernel
theorem dL_isHarness_190 : decode cL_isHarness 190 = .ok (.iadd, 1) := by decide +kernel
theorem dL_isHarness_191 : decode cL_isHarness 191 = .ok (.bipush 64, 2) := by decide +kernel
theorem dL_isHarness_193 : decode cL_isHarness 193 = .ok (.iload 12, 2) := by decide +kernel
theorem dL_isHarness_195 : decode cL_isHarness 195 = .ok (.imul, 1) := by decide +kernel
theorem dL_isHarness_196 : decode cL_isHarness 196 = .ok (.iadd, 1) := by decide +kernel
theorem dL_isHarness_197 : decode cL_isHarness 197 = .ok (.iastore, 1) := by decide +kernel
theorem dL_isHarness_198 : decode cL_isHarness 198 = .ok (.aload_n 2, 1) := by decide +kernel
theorem dL_isHarness_199 : decode cL_isHarness 199 = .ok (.aload 6, 2) := by decide +kernel
theorem dL_isHarness_201 : decode cL_isHarness 201 = .ok (.iconst 0, 1) := by decide +kernel
theorem dL_isHarness_202 : decode cL_isHarness 202 = .ok (.iaload, 1) := by decide +kernel
theorem dL_isHarness_203 : decode cL_isHarness 203 = .ok (.iload 13, 2) := by decide +kernel
theorem dL_isHarness_205 : decode cL_isHarness 205 = .ok (.iastore, 1) := by decide +kernel
theorem dL_isHarness_206 : decode cL_isHarness 206 = .ok (.aload 6, 2) := by decide +kernel
theorem dL_isHarness_208 : decode cL_isHarness 208 = .ok (.iconst 0, 1) := by decide +kernel
theorem dL_isHarness_209 : decode cL_isHarness 209 = .ok (.dup2, 1) := by decide +kernel
theorem dL_isHarness_210 : decode cL_isHarness 210 = .ok (.iaload, 1) := by decide +kernel
theorem dL_isHarness_211 : decode cL_isHarness 211 = .ok (.iconst 1, 1) := by decide +kernel
theorem dL_isHarness_212 : decode cL_isHarness 212 = .ok (.iadd, 1) := by decide +kernel
theorem dL_isHarness_213 : decode cL_isHarness 213 = .ok (.iastore, 1) := by decide +kernel
theorem dL_isHarness_214 : decode cL_isHarness 214 = .ok (.aload_n 0, 1) := by decide +kernel
theorem dL_isHarness_215 : decode cL_isHarness 215 = .ok (.iconst 0, 1) := by decide +kernel
theorem dL_isHarness_216 : decode cL_isHarness 216 = .ok (.iload 10, 2) := by decide +kernel
theorem dL_isHarness_218 : decode cL_isHarness 218 = .ok (.iload 11, 2) := by decide +kernel
theorem dL_isHarness_220 : decode cL_isHarness 220 = .ok (.iload 12, 2) := by decide +kernel
theorem dL_isHarness_222 : decode cL_isHarness 222 = .ok (.iload 13, 2) := by decide +kernel
theorem dL_isHarness_224 : decode cL_isHarness 224 = .ok (.iconst 0, 1) := by decide +kernel
theorem dL_isHarness_225 : decode cL_isHarness 225 = .ok (.invokestatic 128, 3) := by decide +kernel
theorem dL_isHarness_228 : decode cL_isHarness 228 = .ok (.iload 14, 2) := by decide +kernel
theorem dL_isHarness_230 : decode cL_isHarness 230 = .ok (.ifCond .ne 8, 3) := by decide +kernel
theorem dL_isHarness_233 : decode cL_isHarness 233 = .ok (.ldc 93, 2) := by decide +kernel
theorem dL_isHarness_235 : decode cL_isHarness 235 = .ok (.goto 19, 3) := by decide +kernel
theorem dL_isHarness_238 : decode cL_isHarness 238 = .ok (.iload 16, 2) := by decide +kernel
theorem dL_isHarness_240 : decode cL_isHarness 240 = .ok (.ifCond .eq 12, 3) := by decide +kernel
theorem dL_isHarness_243 : decode cL_isHarness 243 = .ok (.aload 6, 2) := by decide +kernel
theorem dL_isHarness_245 : decode cL_isHarness 245 = .ok (.iconst 0, 1) := by decide +kernel
theorem dL_isHarness_246 : decode cL_isHarness 246 = .ok (.iaload, 1) := by decide +kernel
theorem dL_isHarness_247 : decode cL_isHarness 247 = .ok (.iconst 1, 1) := by decide +kernel
theorem dL_isHarness_248 : decode cL_isHarness 248 = .ok (.isub, 1) := by decide +kernel
theorem dL_isHarness_249 : decode cL_isHarness 249 = .ok (.goto 5, 3) := by decide +kernel
theorem dL_isHarness_252 : decode cL_isHarness 252 = .ok (.ldc 96, 2) := by decide +kernel
theorem dL_isHarness_254 : decode cL_isHarness 254 = .ok (.if_icmp .ne 7, 3) := by decide +kernel
theorem dL_isHarness_257 : decode cL_isHarness 257 = .ok (.iconst 1, 1) := by decide +kernel
theorem dL_isHarness_258 : decode cL_isHarness 258 = .ok (.goto 4, 3) := by decide +kernel
theorem dL_isHarness_261 : decode cL_isHarness 261 = .ok (.iconst 0, 1) := by decide +kernel
theorem dL_isHarness_262 : decode cL_isHarness 262 = .ok (.ireturn, 1) := by decide +kernel
theorem dL_isHarness_263 : decode cL_isHarness 263 = .ok (.iload 7, 2) := by decide +kernel
theorem dL_isHarness_265 : decode cL_isHarness 265 = .ok (.iconst 2, 1) := by decide +kernel
theorem dL_isHarness_266 : decode cL_isHarness 266 = .ok (.if_icmp .ge 206, 3) := by decide +kernel
theorem dL_isHarness_269 : decode cL_isHarness 269 = .ok (.aload 6, 2) := by decide +kernel
theorem dL_isHarness_271 : decode cL_isHarness 271 = .ok (.iconst 1, 1) := by decide +kernel
theorem dL_isHarness_272 : decode cL_isHarness 272 = .ok (.iaload, 1) := by decide +kernel
theorem dL_isHarness_273 : decode cL_isHarness 273 = .ok (.bipush 8, 2) := by decide +kernel
theorem dL_isHarness_275 : decode cL_isHarness 275 = .ok (.if_icmp .ge 197, 3) := by decide +kernel
theorem dL_isHarness_278 : decode cL_isHarness 278 = .ok (.iload 8, 2) := by decide +kernel
theorem dL_isHarness_280 : decode cL_isHarness 280 = .ok (.bipush 9, 2) := by decide +kernel
theorem dL_isHarness_282 : decode cL_isHarness 282 = .ok (.irem, 1) := by decide +kernel
theorem dL_isHarness_283 : decode cL_isHarness 283 = .ok (.istore 10, 2) := by decide +kernel
theorem dL_isHarness_285 : decode cL_isHarness 285 = .ok (.iload 8, 2) := by decide +kernel
theorem dL_isHarness_287 : decode cL_isHarness 287 = .ok (.bipush 9, 2) := by decide +kernel
theorem dL_isHarness_289 : decode cL_isHarness 289 = .ok (.idiv, 1) := by decide +kernel
theorem dL_isHarness_290 : decode cL_isHarness 290 = .ok (.bipush 9, 2) := by decide +kernel
theorem dL_isHarness_292 : decode cL_isHarness 292 = .ok (.irem, 1) := by decide +kernel
theorem dL_isHarness_293 : decode cL_isHarness 293 = .ok (.ifCond .ne 14, 3) := by decide +kernel
theorem dL_isHarness_296 : decode cL_isHarness 296 = .ok (.iload 8, 2) := by decide +kernel
theorem dL_isHarness_298 : decode cL_isHarness 298 = .ok (.bipush 81, 2) := by decide +kernel
theorem dL_isHarness_300 : decode cL_isHarness 300 = .ok (.idiv, 1) := by decide +kernel
theorem dL_isHarness_301 : decode cL_isHarness 301 = .ok (.bipush 10, 2) := by decide +kernel
theorem dL_isHarness_303 : decode cL_isHarness 303 = .ok (.irem, 1) := by decide +kernel
theorem dL_isHarness_304 : decode cL_isHarness 304 = .ok (.goto 12, 3) := by decide +kernel
theorem dL_isHarness_307 : decode cL_isHarness 307 = .ok (.iconst 4, 1) := by decide +kernel
theorem dL_isHarness_308 : decode cL_isHarness 308 = .ok (.iload 8, 2) := by decide +kernel
theorem dL_isHarness_310 : decode cL_isHarness 310 = .ok (.bipush 9, 2) := by decide +kernel
theorem dL_isHarness_312 : decode cL_isHarness 312 = .ok (.idiv, 1) := by decide +kernel
theorem dL_isHarness_313 : decode cL_isHarness 313 = .ok (.iconst 2, 1) := by decide +kernel
theorem dL_isHarness_314 : decode cL_isHarness 314 = .ok (.irem, 1) := by decide +kernel
theorem dL_isHarness_315 : decode cL_isHarness 315 = .ok (.iadd, 1) := by decide +kernel
theorem dL_isHarness_316 : decode cL_isHarness 316 = .ok (.istore 11, 2) := by decide +kernel
theorem dL_isHarness_318 : decode cL_isHarness 318 = .ok (.iload 9, 2) := by decide +kernel
theorem dL_isHarness_320 : decode cL_isHarness 320 = .ok (.bipush 9, 2) := by decide +kernel
theorem dL_isHarness_322 : decode cL_isHarness 322 = .ok (.irem, 1) := by decide +kernel
theorem dL_isHarness_323 : decode cL_isHarness 323 = .ok (.ifCond .ne 14, 3) := by decide +kernel
theorem dL_isHarness_326 : decode cL_isHarness 326 = .ok (.iload 9, 2) := by decide +kernel
theorem dL_isHarness_328 : decode cL_isHarness 328 = .ok (.bipush 9, 2) := by decide +kernel
theorem dL_isHarness_330 : decode cL_isHarness 330 = .ok (.idiv, 1) := by decide +kernel
theorem dL_isHarness_331 : decode cL_isHarness 331 = .ok (.bipush 11, 2) := by decide +kernel
theorem dL_isHarness_333 : decode cL_isHarness 333 = .ok (.irem, 1) := by decide +kernel
theorem dL_isHarness_334 : decode cL_isHarness 334 = .ok (.goto 7, 3) := by decide +kernel
theorem dL_isHarness_337 : decode cL_isHarness 337 = .ok (.iload 9, 2) := by decide +kernel
theorem dL_isHarness_339 : decode cL_isHarness 339 = .ok (.iconst 2, 1) := by decide +kernel
theorem dL_isHarness_340 : decode cL_isHarness 340 = .ok (.irem, 1) := by decide +kernel
theorem dL_isHarness_341 : decode cL_isHarness 341 = .ok (.istore 12, 2) := by decide +kernel
theorem dL_isHarness_343 : decode cL_isHarness 343 = .ok (.iload 11, 2) := by decide +kernel
theorem dL_isHarness_345 : decode cL_isHarness 345 = .ok (.ifCond .le 21, 3) := by decide +kernel
theorem dL_isHarness_348 : decode cL_isHarness 348 = .ok (.iload 11, 2) := by decide +kernel
theorem dL_isHarness_350 : decode cL_isHarness 350 = .ok (.bipush 9, 2) := by decide +kernel
theorem dL_isHarness_352 : decode cL_isHarness 352 = .ok (.if_icmp .ge 14, 3) := by decide +kernel
theorem dL_isHarness_355 : decode cL_isHarness 355 = .ok (.iload 12, 2) := by decide +kernel
theorem dL_isHarness_357 : decode cL_isHarness 357 = .ok (.bipush 10, 2) := by decide +kernel
theorem dL_isHarness_359 : decode cL_isHarness 359 = .ok (.if_icmp .ge 7, 3) := by decide +kernel
theorem dL_isHarness_362 : decode cL_isHarness 362 = .ok (.iconst 1, 1) := by decide +kernel
theorem dL_isHarness_363 : decode cL_isHarness 363 = .ok (.goto 4, 3) := by decide +kernel
theorem dL_isHarness_366 : decode cL_isHarness 366 = .ok (.iconst 0, 1) := by decide +kernel
theorem dL_isHarness_367 : decode cL_isHarness 367 = .ok (.istore 13, 2) := by decide +kernel
theorem dL_isHarness_369 : decode cL_isHarness 369 = .ok (.iload 10, 2) := by decide +kernel
theorem dL_isHarness_371 : decode cL_isHarness 371 = .ok (.bipush 8, 2) := by decide +kernel
theorem dL_isHarness_373 : decode cL_isHarness 373 = .ok (.if_icmp .ge 12, 3) := by decide +kernel
theorem dL_isHarness_376 : decode cL_isHarness 376 = .ok (.iload 13, 2) := by decide +kernel
theorem dL_isHarness_378 : decode cL_isHarness 378 = .ok (.ifCond .eq 7, 3) := by decide +kernel
theorem dL_isHarness_381 : decode cL_isHarness 381 = .ok (.iconst 1, 1) := by decide +kernel
theorem dL_isHarness_382 : decode cL_isHarness 382 = .ok (.goto 4, 3) := by decide +kernel
theorem dL_isHarness_385 : decode cL_isHarness 385 = .ok (.iconst 0, 1) := by decide +kernel
theorem dL_isHarness_386 : decode cL_isHarness 386 = .ok (.istore 14, 2) := by decide +kernel
theorem dL_isHarness_388 : decode cL_isHarness 388 = .ok (.iload 14, 2) := by decide +kernel
theorem dL_isHarness_390 : decode cL_isHarness 390 = .ok (.ifCond .eq 32, 3) := by decide +kernel
theorem dL_isHarness_393 : decode cL_isHarness 393 = .ok (.aload_n 3, 1) := by decide +kernel
theorem dL_isHarness_394 : decode cL_isHarness 394 = .ok (.aload 6, 2) := by decide +kernel
theorem dL_isHarness_396 : decode cL_isHarness 396 = .ok (.iconst 1, 1) := by decide +kernel
theorem dL_isHarness_397 : decode cL_isHarness 397 = .ok (.iaload, 1) := by decide +kernel
theorem dL_isHarness_398 : decode cL_isHarness 398 = .ok (.iload 10, 2) := by decide +kernel
theorem dL_isHarness_400 : decode cL_isHarness 400 = .ok (.bipush 8, 2) := by decide +kernel
theorem dL_isHarness_402 : decode cL_isHarness 402 = .ok (.iload 11, 2) := by decide +kernel
theorem dL_isHarness_404 : decode cL_isHarness 404 = .ok (.imul, 1) := by decide +kernel
theorem dL_isHarness_405 : decode cL_isHarness 405 = .ok (.iadd, 1) := by decide +kernel
theorem dL_isHarness_406 : decode cL_isHarness 406 = .ok (.sipush 128, 3) := by decide +kernel
theorem dL_isHarness_409 : decode cL_isHarness 409 = .ok (.iload 12, 2) := by decide +kernel
theorem dL_isHarness_411 : decode cL_isHarness 411 = .ok (.imul, 1) := by decide +kernel
theorem dL_isHarness_412 : decode cL_isHarness 412 = .ok (.iadd, 1) := by decide +kernel
theorem dL_isHarness_413 : decode cL_isHarness 413 = .ok (.iastore, 1) := by decide +kernel
theorem dL_isHarness_414 : decode cL_isHarness 414 = .ok (.aload 6, 2) := by decide +kernel
theorem dL_isHarness_416 : decode cL_isHarness 416 = .ok (.iconst 1, 1) := by decide +kernel
theorem dL_isHarness_417 : decode cL_isHarness 417 = .ok (.dup2, 1) := by decide +kernel
theorem dL_isHarness_418 : decode cL_isHarness 418 = .ok (.iaload, 1) := by decide +kernel
theorem dL_isHarness_419 : decode cL_isHarness 419 = .ok (.iconst 1, 1) := by decide +kernel
theorem dL_isHarness_420 : decode cL_isHarness 420 = .ok (.iadd, 1) := by decide +kernel
theorem dL_isHarness_421 : decode cL_isHarness 421 = .ok (.iastore, 1) := by decide +kernel
theorem dL_isHarness_422 : decode cL_isHarness 422 = .ok (.aload_n 0, 1) := by decide +kernel
theorem dL_isHarness_423 : decode cL_isHarness 423 = .ok (.iconst 1, 1) := by decide +kernel
theorem dL_isHarness_424 : decode cL_isHarness 424 = .ok (.iload 10, 2) := by decide +kernel
theorem dL_isHarness_426 : decode cL_isHarness 426 = .ok (.iload 11, 2) := by decide +kernel
theorem dL_isHarness_428 : decode cL_isHarness 428 = .ok (.iload 12, 2) := by decide +kernel
theorem dL_isHarness_430 : decode cL_isHarness 430 = .ok (.iconst 0, 1) := by decide +kernel
theorem dL_isHarness_431 : decode cL_isHarness 431 = .ok (.iconst 0, 1) := by decide +kernel
theorem dL_isHarness_432 : decode cL_isHarness 432 = .ok (.invokestatic 128, 3) := by decide +kernel
theorem dL_isHarness_435 : decode cL_isHarness 435 = .ok (.iload 10, 2) := by decide +kernel
theorem dL_isHarness_437 : decode cL_isHarness 437 = .ok (.bipush 8, 2) := by decide +kernel
theorem dL_isHarness_439 : decode cL_isHarness 439 = .ok (.if_icmp .ne 8, 3) := by decide +kernel
theorem dL_isHarness_442 : decode cL_isHarness 442 = .ok (.ldc 93, 2) := by decide +kernel
theorem dL_isHarness_444 : decode cL_isHarness 444 = .ok (.goto 19, 3) := by decide +kernel
theorem dL_isHarness_447 : decode cL_isHarness 447 = .ok (.iload 14, 2) := by decide +kernel
theorem dL_isHarness_449 : decode cL_isHarness 449 = .ok (.ifCond .eq 12, 3) := by decide +kernel
theorem dL_isHarness_452 : decode cL_isHarness 452 = .ok (.aload 6, 2) := by decide +kernel
theorem dL_isHarness_454 : decode cL_isHarness 454 = .ok (.iconst 1, 1) := by decide +kernel
theorem dL_isHarness_455 : decode cL_isHarness 455 = .ok (.iaload, 1) := by decide +kernel
theorem dL_isHarness_456 : decode cL_isHarness 456 = .ok (.iconst 1, 1) := by decide +kernel
theorem dL_isHarness_457 : decode cL_isHarness 457 = .ok (.isub, 1) := by decide +kernel
theorem dL_isHarness_458 : decode cL_isHarness 458 = .ok (.goto 5, 3) := by decide +kernel
theorem dL_isHarness_461 : decode cL_isHarness 461 = .ok (.ldc 96, 2) := by decide +kernel
theorem dL_isHarness_463 : decode cL_isHarness 463 = .ok (.if_icmp .ne 7, 3) := by decide +kernel
theorem dL_isHarness_466 : decode cL_isHarness 466 = .ok (.iconst 1, 1) := by decide +kernel
theorem dL_isHarness_467 : decode cL_isHarness 467 = .ok (.goto 4, 3) := by decide +kernel
theorem dL_isHarness_470 : decode cL_isHarness 470 = .ok (.iconst 0, 1) := by decide +kernel
theorem dL_isHarness_471 : decode cL_isHarness 471 = .ok (.ireturn, 1) := by decide +kernel
theorem dL_isHarness_472 : decode cL_isHarness 472 = .ok (.iload 8, 2) := by decide +kernel
theorem dL_isHarness_474 : decode cL_isHarness 474 = .ok (.aload 6, 2) := by decide +kernel
theorem dL_isHarness_476 : decode cL_isHarness 476 = .ok (.iconst 1, 1) := by decide +kernel
theorem dL_isHarness_477 : decode cL_isHarness 477 = .ok (.iaload, 1) := by decide +kernel
theorem dL_isHarness_478 : decode cL_isHarness 478 = .ok (.iconst 1, 1) := by decide +kernel
theorem dL_isHarness_479 : decode cL_isHarness 479 = .ok (.iadd, 1) := by decide +kernel
theorem dL_isHarness_480 : decode cL_isHarness 480 = .ok (.irem, 1) := by decide +kernel
theorem dL_isHarness_481 : decode cL_isHarness 481 = .ok (.istore 10, 2) := by decide +kernel
theorem dL_isHarness_483 : decode cL_isHarness 483 = .ok (.iload 9, 2) := by decide +kernel
theorem dL_isHarness_485 : decode cL_isHarness 485 = .ok (.aload 6, 2) := by decide +kernel
theorem dL_isHarness_487 : decode cL_isHarness 487 = .ok (.iconst 1, 1) := by decide +kernel
theorem dL_isHarness_488 : decode cL_isHarness 488 = .ok (.iaload, 1) := by decide +kernel
theorem dL_isHarness_489 : decode cL_isHarness 489 = .ok (.iconst 1, 1) := by decide +kernel
theorem dL_isHarness_490 : decode cL_isHarness 490 = .ok (.iadd, 1) := by decide +kernel
theorem dL_isHarness_491 : decode cL_isHarness 491 = .ok (.irem, 1) := by decide +kernel
theorem dL_isHarness_492 : decode cL_isHarness 492 = .ok (.istore 11, 2) := by decide +kernel
theorem dL_isHarness_494 : decode cL_isHarness 494 = .ok (.iload 10, 2) := by decide +kernel
theorem dL_isHarness_496 : decode cL_isHarness 496 = .ok (.aload 6, 2) := by decide +kernel
theorem dL_isHarness_498 : decode cL_isHarness 498 = .ok (.iconst 1, 1) := by decide +kernel
theorem dL_isHarness_499 : decode cL_isHarness 499 = .ok (.iaload, 1) := by decide +kernel
theorem dL_isHarness_500 : decode cL_isHarness 500 = .ok (.if_icmp .ge 16, 3) := by decide +kernel
theorem dL_isHarness_503 : decode cL_isHarness 503 = .ok (.iload 11, 2) := by decide +kernel
theorem dL_isHarness_505 : decode cL_isHarness 505 = .ok (.aload 6, 2) := by decide +kernel
theorem dL_isHarness_507 : decode cL_isHarness 507 = .ok (.iconst 1, 1) := by decide +kernel
theorem dL_isHarness_508 : decode cL_isHarness 508 = .ok (.iaload, 1) := by decide +kernel
theorem dL_isHarness_509 : decode cL_isHarness 509 = .ok (.if_icmp .ge 7, 3) := by decide +kernel
theorem dL_isHarness_512 : decode cL_isHarness 512 = .ok (.iconst 1, 1) := by decide +kernel
theorem dL_isHarness_513 : decode cL_isHarness 513 = .ok (.goto 4, 3) := by decide +kernel
theorem dL_isHarness_516 : decode cL_isHarness 516 = .ok (.iconst 0, 1) := by decide +kernel
theorem dL_isHarness_517 : decode cL_isHarness 517 = .ok (.istore 12, 2) := by decide +kernel
theorem dL_isHarness_519 : decode cL_isHarness 519 = .ok (.iload 7, 2) := by decide +kernel
theorem dL_isHarness_521 : decode cL_isHarness 521 = .ok (.iconst 3, 1) := by decide +kernel
theorem dL_isHarness_522 : decode cL_isHarness 522 = .ok (.if_icmp .ge 143, 3) := by decide +kernel
theorem dL_isHarness_525 : decode cL_isHarness 525 = .ok (.iload 12, 2) := by decide +kernel
theorem dL_isHarness_527 : decode cL_isHarness 527 = .ok (.ifCond .eq 41, 3) := by decide +kernel
theorem dL_isHarness_530 : decode cL_isHarness 530 = .ok (.iload 10, 2) := by decide +kernel
theorem dL_isHarness_532 : decode cL_isHarness 532 = .ok (.iload 11, 2) := by decide +kernel
theorem dL_isHarness_534 : decode cL_isHarness 534 = .ok (.if_icmp .eq 34, 3) := by decide +kernel
theorem dL_isHarness_537 : decode cL_isHarness 537 = .ok (.aload_n 3, 1) := by decide +kernel
theorem dL_isHarness_538 : decode cL_isHarness 538 = .ok (.iload 10, 2) := by decide +kernel
theorem dL_isHarness_540 : decode cL_isHarness 540 = .ok (.iaload, 1) := by decide +kernel
theorem dL_isHarness_541 : decode cL_isHarness 541 = .ok (.bipush 8, 2) := by decide +kernel
theorem dL_isHarness_543 : decode cL_isHarness 543 = .ok (.idiv, 1) := by decide +kernel
theorem dL_isHarness_544 : decode cL_isHarness 544 = .ok (.aload_n 3, 1) := by decide +kernel
theorem dL_isHarness_545 : decode cL_isHarness 545 = .ok (.iload 11, 2) := by decide +kernel
theorem dL_isHarness_547 : decode cL_isHarness 547 = .ok (.iaload, 1) := by decide +kernel
theorem dL_isHarness_548 : decode cL_isHarness 548 = .ok (.bipush 8, 2) := by decide +kernel
theorem dL_isHarness_550 : decode cL_isHarness 550 = .ok (.idiv, 1) := by decide +kernel
theorem dL_isHarness_551 : decode cL_isHarness 551 = .ok (.if_icmp .ne 17, 3) := by decide +kernel
theorem dL_isHarness_554 : decode cL_isHarness 554 = .ok (.aload_n 3, 1) := by decide +kernel
theorem dL_isHarness_555 : decode cL_isHarness 555 = .ok (.iload 10, 2) := by decide +kernel
theorem dL_isHarness_557 : decode cL_isHarness 557 = .ok (.iaload, 1) := by decide +kernel
theorem dL_isHarness_558 : decode cL_isHarness 558 = .ok (.sipush 2048, 3) := by decide +kernel
theorem dL_isHarness_561 : decode cL_isHarness 561 = .ok (.if_icmp .ge 7, 3) := by decide +kernel
theorem dL_isHarness_564 : decode cL_isHarness 564 = .ok (.iconst 1, 1) := by decide +kernel
theorem dL_isHarness_565 : decode cL_isHarness 565 = .ok (.goto 4, 3) := by decide +kernel
theorem dL_isHarness_568 : decode cL_isHarness 568 = .ok (.iconst 0, 1) := by decide +kernel
theorem dL_isHarness_569 : decode cL_isHarness 569 = .ok (.istore 13, 2) := by decide +kernel
theorem dL_isHarness_571 : decode cL_isHarness 571 = .ok (.iload 13, 2) := by decide +kernel
theorem dL_isHarness_573 : decode cL_isHarness 573 = .ok (.ifCond .eq 33, 3) := by decide +kernel
theorem dL_isHarness_576 : decode cL_isHarness 576 = .ok (.aload_n 3, 1) := by decide +kernel
theorem dL_isHarness_577 : decode cL_isHarness 577 = .ok (.iload 10, 2) := by decide +kernel
theorem dL_isHarness_579 : decode cL_isHarness 579 = .ok (.dup2, 1) := by decide +kernel
theorem dL_isHarness_580 : decode cL_isHarness 580 = .ok (.iaload, 1) := by decide +kernel
theorem dL_isHarness_581 : decode cL_isHarness 581 = .ok (.sipush 2048, 3) := by decide +kernel
theorem dL_isHarness_584 : decode cL_isHarness 584 = .ok (.iload 11, 2) := by decide +kernel
theorem dL_isHarness_586 : decode cL_isHarness 586 = .ok (.iconst 1, 1) := by decide +kernel
theorem dL_isHarness_587 : decode cL_isHarness 587 = .ok (.iadd, 1) := by decide +kernel
theorem dL_isHarness_588 : decode cL_isHarness 588 = .ok (.imul, 1) := by decide +kernel
theorem dL_isHarness_589 : decode cL_isHarness 589 = .ok (.iadd, 1) := by decide +kernel
theorem dL_isHarness_590 : decode cL_isHarness 590 = .ok (.iastore, 1) := by decide +kernel
theorem dL_isHarness_591 : decode cL_isHarness 591 = .ok (.aload_n 3, 1) := by decide +kernel
theorem dL_isHarness_592 : decode cL_isHarness 592 = .ok (.iload 11, 2) := by decide +kernel
theorem dL_isHarness_594 : decode cL_isHarness 594 = .ok (.dup2, 1) := by decide +kernel
theorem dL_isHarness_595 : decode cL_isHarness 595 = .ok (.iaload, 1) := by decide +kernel
theorem dL_isHarness_596 : decode cL_isHarness 596 = .ok (.sipush 2048, 3) := by decide +kernel
theorem dL_isHarness_599 : decode cL_isHarness 599 = .ok (.iload 10, 2) := by decide +kernel
theorem dL_isHarness_601 : decode cL_isHarness 601 = .ok (.iconst 1, 1) := by decide +kernel
theorem dL_isHarness_602 : decode cL_isHarness 602 = .ok (.iadd, 1) := by decide +kernel
theorem dL_isHarness_603 : decode cL_isHarness 603 = .ok (.imul, 1) := by decide +kernel
theorem dL_isHarness_604 : decode cL_isHarness 604 = .ok (.iadd, 1) := by decide +kernel
theorem dL_isHarness_605 : decode cL_isHarness 605 = .ok (.iastore, 1) := by decide +kernel
theorem dL_isHarness_606 : decode cL_isHarness 606 = .ok (.aload_n 0, 1) := by decide +kernel
theorem dL_isHarness_607 : decode cL_isHarness 607 = .ok (.iconst 2, 1) := by decide +kernel
theorem dL_isHarness_608 : decode cL_isHarness 608 = .ok (.iload 10, 2) := by decide +kernel
theorem dL_isHarness_610 : decode cL_isHarness 610 = .ok (.iload 11, 2) := by decide +kernel
theorem dL_isHarness_612 : decode cL_isHarness 612 = .ok (.iconst 0, 1) := by decide +kernel
theorem dL_isHarness_613 : decode cL_isHarness 613 = .ok (.iconst 0, 1) := by decide +kernel
theorem dL_isHarness_614 : decode cL_isHarness 614 = .ok (.iconst 0, 1) := by decide +kernel
theorem dL_isHarness_615 : decode cL_isHarness 615 = .ok (.invokestatic 128, 3) := by decide +kernel
theorem dL_isHarness_618 : decode cL_isHarness 618 = .ok (.iload 12, 2) := by decide +kernel
theorem dL_isHarness_620 : decode cL_isHarness 620 = .ok (.ifCond .ne 8, 3) := by decide +kernel
theorem dL_isHarness_623 : decode cL_isHarness 623 = .ok (.ldc 93, 2) := by decide +kernel
theorem dL_isHarness_625 : decode cL_isHarness 625 = .ok (.goto 31, 3) := by decide +kernel
theorem dL_isHarness_628 : decode cL_isHarness 628 = .ok (.iload 10, 2) := by decide +kernel
theorem dL_isHarness_630 : decode cL_isHarness 630 = .ok (.iload 11, 2) := by decide +kernel
theorem dL_isHarness_632 : decode cL_isHarness 632 = .ok (.if_icmp .ne 8, 3) := by decide +kernel
theorem dL_isHarness_635 : decode cL_isHarness 635 = .ok (.ldc 96, 2) := by decide +kernel
theorem dL_isHarness_637 : decode cL_isHarness 637 = .ok (.goto 19, 3) := by decide +kernel
theorem dL_isHarness_640 : decode cL_isHarness 640 = .ok (.iload 13, 2) := by decide +kernel
theorem dL_isHarness_642 : decode cL_isHarness 642 = .ok (.ifCond .eq 12, 3) := by decide +kernel
theorem dL_isHarness_645 : decode cL_isHarness 645 = .ok (.aload_n 3, 1) := by decide +kernel
theorem dL_isHarness_646 : decode cL_isHarness 646 = .ok (.aload 6, 2) := by decide +kernel
theorem dL_isHarness_648 : decode cL_isHarness 648 = .ok (.invokestatic 132, 3) := by decide +kernel
theorem dL_isHarness_651 : decode cL_isHarness 651 = .ok (.goto 5, 3) := by decide +kernel
theorem dL_isHarness_654 : decode cL_isHarness 654 = .ok (.ldc 99, 2) := by decide +kernel
theorem dL_isHarness_656 : decode cL_isHarness 656 = .ok (.if_icmp .ne 7, 3) := by decide +kernel
theorem dL_isHarness_659 : decode cL_isHarness 659 = .ok (.iconst 1, 1) := by decide +kernel
theorem dL_isHarness_660 : decode cL_isHarness 660 = .ok (.goto 4, 3) := by decide +kernel
theorem dL_isHarness_663 : decode cL_isHarness 663 = .ok (.iconst 0, 1) := by decide +kernel
theorem dL_isHarness_664 : decode cL_isHarness 664 = .ok (.ireturn, 1) := by decide +kernel
theorem dL_isHarness_665 : decode cL_isHarness 665 = .ok (.iload 7, 2) := by decide +kernel
theorem dL_isHarness_667 : decode cL_isHarness 667 = .ok (.iconst 3, 1) := by decide +kernel
theorem dL_isHarness_668 : decode cL_isHarness 668 = .ok (.if_icmp .ne 495, 3) := by decide +kernel
theorem dL_isHarness_671 : decode cL_isHarness 671 = .ok (.aload 6, 2) := by decide +kernel
theorem dL_isHarness_673 : decode cL_isHarness 673 = .ok (.iconst 2, 1) := by decide +kernel
theorem dL_isHarness_674 : decode cL_isHarness 674 = .ok (.iaload, 1) := by decide +kernel
theorem dL_isHarness_675 : decode cL_isHarness 675 = .ok (.bipush 24, 2) := by decide +kernel
theorem dL_isHarness_677 : decode cL_isHarness 677 = .ok (.if_icmp .ge 486, 3) := by decide +kernel
theorem dL_isHarness_680 : decode cL_isHarness 680 = .ok (.iload 8, 2) := by decide +kernel
theorem dL_isHarness_682 : decode cL_isHarness 682 = .ok (.bipush 9, 2) := by decide +kernel
theorem dL_isHarness_684 : decode cL_isHarness 684 = .ok (.idiv, 1) := by decide +kernel
theorem dL_isHarness_685 : decode cL_isHarness 685 = .ok (.bipush 6, 2) := by decide +kernel
theorem dL_isHarness_687 : decode cL_isHarness 687 = .ok (.irem, 1) := by decide +kernel
theorem dL_isHarness_688 : decode cL_isHarness 688 = .ok (.istore 13, 2) := by decide +kernel
theorem dL_isHarness_690 : decode cL_isHarness 690 = .ok (.iload 9, 2) := by decide +kernel
theorem dL_isHarness_692 : decode cL_isHarness 692 = .ok (.bipush 9, 2) := by decide +kernel
theorem dL_isHarness_694 : decode cL_isHarness 694 = .ok (.idiv, 1) := by decide +kernel
theorem dL_isHarness_695 : decode cL_isHarness 695 = .ok (.bipush 6, 2) := by decide +kernel
theorem dL_isHarness_697 : decode cL_isHarness 697 = .ok (.irem, 1) := by decide +kernel
theorem dL_isHarness_698 : decode cL_isHarness 698 = .ok (.istore 14, 2) := by decide +kernel
theorem dL_isHarness_700 : decode cL_isHarness 700 = .ok (.iload 9, 2) := by decide +kernel
theorem dL_isHarness_702 : decode cL_isHarness 702 = .ok (.bipush 54, 2) := by decide +kernel
theorem dL_isHarness_704 : decode cL_isHarness 704 = .ok (.idiv, 1) := by decide +kernel
theorem dL_isHarness_705 : decode cL_isHarness 705 = .ok (.bipush 9, 2) := by decide +kernel
theorem dL_isHarness_707 : decode cL_isHarness 707 = .ok (.irem, 1) := by decide +kernel
theorem dL_isHarness_708 : decode cL_isHarness 708 = .ok (.istore 15, 2) := by decide +kernel
theorem dL_isHarness_710 : decode cL_isHarness 710 = .ok (.iload 12, 2) := by decide +kernel
theorem dL_isHarness_712 : decode cL_isHarness 712 = .ok (.ifCond .eq 37, 3) := by decide +kernel
theorem dL_isHarness_715 : decode cL_isHarness 715 = .ok (.iload 13, 2) := by decide +kernel
theorem dL_isHarness_717 : decode cL_isHarness 717 = .ok (.aload_n 3, 1) := by decide +kernel
theorem dL_isHarness_718 : decode cL_isHarness 718 = .ok (.iload 10, 2) := by decide +kernel
theorem dL_isHarness_720 : decode cL_isHarness 720 = .ok (.iaload, 1) := by decide +kernel
theorem dL_isHarness_721 : decode cL_isHarness 721 = .ok (.bipush 8, 2) := by decide +kernel
theorem dL_isHarness_723 : decode cL_isHarness 723 = .ok (.idiv, 1) := by decide +kernel
theorem dL_isHarness_724 : decode cL_isHarness 724 = .ok (.bipush 16, 2) := by decide +kernel
theorem dL_isHarness_726 : decode cL_isHarness 726 = .ok (.irem, 1) := by decide +kernel
theorem dL_isHarness_727 : decode cL_isHarness 727 = .ok (.if_icmp .ge 22, 3) := by decide +kernel
theorem dL_isHarness_730 : decode cL_isHarness 730 = .ok (.iload 14, 2) := by decide +kernel
theorem dL_isHarness_732 : decode cL_isHarness 732 = .ok (.aload_n 3, 1) := by decide +kernel
theorem dL_isHarness_733 : decode cL_isHarness 733 = .ok (.iload 11, 2) := by decide +kernel
theorem dL_isHarness_735 : decode cL_isHarness 735 = .ok (.iaload, 1) := by decide +kernel
theorem dL_isHarness_736 : decode cL_isHarness 736 = .ok (.bipush 8, 2) := by decide +kernel
theorem dL_isHarness_738 : decode cL_isHarness 738 = .ok (.idiv, 1) := by decide +kernel
theorem dL_isHarness_739 : decode cL_isHarness 739 = .ok (.bipush 16, 2) := by decide +kernel
theorem dL_isHarness_741 : decode cL_isHarness 741 = .ok (.irem, 1) := by decide +kernel
theorem dL_isHarness_742 : decode cL_isHarness 742 = .ok (.if_icmp .ge 7, 3) := by decide +kernel
theorem dL_isHarness_745 : decode cL_isHarness 745 = .ok (.iconst 1, 1) := by decide +kernel
theorem dL_isHarness_746 : decode cL_isHarness 746 = .ok (.goto 4, 3) := by decide +kernel
theorem dL_isHarness_749 : decode cL_isHarness 749 = .ok (.iconst 0, 1) := by decide +kernel
theorem dL_isHarness_750 : decode cL_isHarness 750 = .ok (.istore 12, 2) := by decide +kernel
theorem dL_isHarness_752 : decode cL_isHarness 752 = .ok (.iload 10, 2) := by decide +kernel
theorem dL_isHarness_754 : decode cL_isHarness 754 = .ok (.iload 11, 2) := by decide +kernel
theorem dL_isHarness_756 : decode cL_isHarness 756 = .ok (.if_icmp .eq 14, 3) := by decide +kernel
theorem dL_isHarness_759 : decode cL_isHarness 759 = .ok (.iload 15, 2) := by decide +kernel
theorem dL_isHarness_761 : decode cL_isHarness 761 = .ok (.bipush 8, 2) := by decide +kernel
theorem dL_isHarness_763 : decode cL_isHarness 763 = .ok (.if_icmp .ge 7, 3) := by decide +kernel
theorem dL_isHarness_766 : decode cL_isHarness 766 = .ok (.iconst 1, 1) := by decide +kernel
theorem dL_isHarness_767 : decode cL_isHarness 767 = .ok (.goto 4, 3) := by decide +kernel
theorem dL_isHarness_770 : decode cL_isHarness 770 = .ok (.iconst 0, 1) := by decide +kernel
theorem dL_isHarness_771 : decode cL_isHarness 771 = .ok (.istore 16, 2) := by decide +kernel
theorem dL_isHarness_773 : decode cL_isHarness 773 = .ok (.bipush 8, 2) := by decide +kernel
theorem dL_isHarness_775 : decode cL_isHarness 775 = .ok (.iload 10, 2) := by decide +kernel
theorem dL_isHarness_777 : decode cL_isHarness 777 = .ok (.imul, 1) := by decide +kernel
theorem dL_isHarness_778 : decode cL_isHarness 778 = .ok (.iload 13, 2) := by decide +kernel
theorem dL_isHarness_780 : decode cL_isHarness 780 = .ok (.iadd, 1) := by decide +kernel
theorem dL_isHarness_781 : decode cL_isHarness 781 = .ok (.istore 17, 2) := by decide +kernel
theorem dL_isHarness_783 : decode cL_isHarness 783 = .ok (.bipush 8, 2) := by decide +kernel
theorem dL_isHarness_785 : decode cL_isHarness 785 = .ok (.iload 11, 2) := by decide +kernel
theorem dL_isHarness_787 : decode cL_isHarness 787 = .ok (.imul, 1) := by decide +kernel
theorem dL_isHarness_788 : decode cL_isHarness 788 = .ok (.iload 14, 2) := by decide +kernel
theorem dL_isHarness_790 : decode cL_isHarness 790 = .ok (.iadd, 1) := by decide +kernel
theorem dL_isHarness_791 : decode cL_isHarness 791 = .ok (.istore 18, 2) := by decide +kernel
theorem dL_isHarness_793 : decode cL_isHarness 793 = .ok (.iconst 1, 1) := by decide +kernel
theorem dL_isHarness_794 : decode cL_isHarness 794 = .ok (.istore 19, 2) := by decide +kernel
theorem dL_isHarness_796 : decode cL_isHarness 796 = .ok (.iconst 0, 1) := by decide +kernel
theorem dL_isHarness_797 : decode cL_isHarness 797 = .ok (.istore 20, 2) := by decide +kernel
theorem dL_isHarness_799 : decode cL_isHarness 799 = .ok (.iload 20, 2) := by decide +kernel
theorem dL_isHarness_801 : decode cL_isHarness 801 = .ok (.aload 6, 2) := by decide +kernel
theorem dL_isHarness_803 : decode cL_isHarness 803 = .ok (.iconst 2, 1) := by decide +kernel
theorem dL_isHarness_804 : decode cL_isHarness 804 = .ok (.iaload, 1) := by decide +kernel
theorem dL_isHarness_805 : decode cL_isHarness 805 = .ok (.if_icmp .ge 90, 3) := by decide +kernel
theorem dL_isHarness_808 : decode cL_isHarness 808 = .ok (.iload 19, 2) := by decide +kernel
theorem dL_isHarness_810 : decode cL_isHarness 810 = .ok (.ifCond .eq 76, 3) := by decide +kernel
theorem dL_isHarness_813 : decode cL_isHarness 813 = .ok (.aload 4, 2) := by decide +kernel
theorem dL_isHarness_815 : decode cL_isHarness 815 = .ok (.iload 20, 2) := by decide +kernel
theorem dL_isHarness_817 : decode cL_isHarness 817 = .ok (.iaload, 1) := by decide +kernel
theorem dL_isHarness_818 : decode cL_isHarness 818 = .ok (.sipush 32767, 3) := by decide +kernel
theorem dL_isHarness_821 : decode cL_isHarness 821 = .ok (.if_icmp .gt 61, 3) := by decide +kernel
theorem dL_isHarness_824 : decode cL_isHarness 824 = .ok (.aload 4, 2) := by decide +kernel
theorem dL_isHarness_826 : decode cL_isHarness 826 = .ok (.iload 20, 2) := by decide +kernel
theorem dL_isHarness_828 : decode cL_isHarness 828 = .ok (.iaload, 1) := by decide +kernel
theorem dL_isHarness_829 : decode cL_isHarness 829 = .ok (.bipush 64, 2) := by decide +kernel
theorem dL_isHarness_831 : decode cL_isHarness 831 = .ok (.irem, 1) := by decide +kernel
theorem dL_isHarness_832 : decode cL_isHarness 832 = .ok (.iload 17, 2) := by decide +kernel
theorem dL_isHarness_834 : decode cL_isHarness 834 = .ok (.if_icmp .eq 52, 3) := by decide +kernel
theorem dL_isHarness_837 : decode cL_isHarness 837 = .ok (.aload 4, 2) := by decide +kernel
theorem dL_isHarness_839 : decode cL_isHarness 839 = .ok (.iload 20, 2) := by decide +kernel
theorem dL_isHarness_841 : decode cL_isHarness 841 = .ok (.iaload, 1) := by decide +kernel
theorem dL_isHarness_842 : decode cL_isHarness 842 = .ok (.bipush 64, 2) := by decide +kernel
theorem dL_isHarness_844 : decode cL_isHarness 844 = .ok (.irem, 1) := by decide +kernel
theorem dL_isHarness_845 : decode cL_isHarness 845 = .ok (.iload 18, 2) := by decide +kernel
theorem dL_isHarness_847 : decode cL_isHarness 847 = .ok (.if_icmp .eq 39, 3) := by decide +kernel
theorem dL_isHarness_850 : decode cL_isHarness 850 = .ok (.aload 4, 2) := by decide +kernel
theorem dL_isHarness_852 : decode cL_isHarness 852 = .ok (.iload 20, 2) := by decide +kernel
theorem dL_isHarness_854 : decode cL_isHarness 854 = .ok (.iaload, 1) := by decide +kernel
theorem dL_isHarness_855 : decode cL_isHarness 855 = .ok (.bipush 64, 2) := by decide +kernel
theorem dL_isHarness_857 : decode cL_isHarness 857 = .ok (.idiv, 1) := by decide +kernel
theorem dL_isHarness_858 : decode cL_isHarness 858 = .ok (.bipush 64, 2) := by decide +kernel
theorem dL_isHarness_860 : decode cL_isHarness 860 = .ok (.irem, 1) := by decide +kernel
theorem dL_isHarness_861 : decode cL_isHarness 861 = .ok (.iload 17, 2) := by decide +kernel
theorem dL_isHarness_863 : decode cL_isHarness 863 = .ok (.if_icmp .eq 23, 3) := by decide +kernel
theorem dL_isHarness_866 : decode cL_isHarness 866 = .ok (.aload 4, 2) := by decide +kernel
theorem dL_isHarness_868 : decode cL_isHarness 868 = .ok (.iload 20, 2) := by decide +kernel
theorem dL_isHarness_870 : decode cL_isHarness 870 = .ok (.iaload, 1) := by decide +kernel
theorem dL_isHarness_871 : decode cL_isHarness 871 = .ok (.bipush 64, 2) := by decide +kernel
theorem dL_isHarness_873 : decode cL_isHarness 873 = .ok (.idiv, 1) := by decide +kernel
theorem dL_isHarness_874 : decode cL_isHarness 874 = .ok (.bipush 64, 2) := by decide +kernel
theorem dL_isHarness_876 : decode cL_isHarness 876 = .ok (.irem, 1) := by decide +kernel
theorem dL_isHarness_877 : decode cL_isHarness 877 = .ok (.iload 18, 2) := by decide +kernel
theorem dL_isHarness_879 : decode cL_isHarness 879 = .ok (.if_icmp .eq 7, 3) := by decide +kernel
theorem dL_isHarness_882 : decode cL_isHarness 882 = .ok (.iconst 1, 1) := by decide +kernel
theorem dL_isHarness_883 : decode cL_isHarness 883 = .ok (.goto 4, 3) := by decide +kernel
theorem dL_isHarness_886 : decode cL_isHarness 886 = .ok (.iconst 0, 1) := by decide +kernel
theorem dL_isHarness_887 : decode cL_isHarness 887 = .ok (.istore 19, 2) := by decide +kernel
theorem dL_isHarness_889 : decode cL_isHarness 889 = .ok (.iinc 20 1, 3) := by decide +kernel
theorem dL_isHarness_892 : decode cL_isHarness 892 = .ok (.goto (-93), 3) := by decide +kernel
theorem dL_isHarness_895 : decode cL_isHarness 895 = .ok (.bipush 8, 2) := by decide +kernel
theorem dL_isHarness_897 : decode cL_isHarness 897 = .ok (.newarray .int, 2) := by decide +kernel
theorem dL_isHarness_899 : decode cL_isHarness 899 = .ok (.astore 20, 2) := by decide +kernel
theorem dL_isHarness_901 : decode cL_isHarness 901 = .ok (.iload 12, 2) := by decide +kernel
theorem dL_isHarness_903 : decode cL_isHarness 903 = .ok (.ifCond .eq 39, 3) := by decide +kernel
theorem dL_isHarness_906 : decode cL_isHarness 906 = .ok (.iload 16, 2) := by decide +kernel
theorem dL_isHarness_908 : decode cL_isHarness 908 = .ok (.ifCond .eq 34, 3) := by decide +kernel
theorem dL_isHarness_911 : decode cL_isHarness 911 = .ok (.iload 19, 2) := by decide +kernel
theorem dL_isHarness_913 : decode cL_isHarness 913 = .ok (.ifCond .eq 29, 3) := by decide +kernel
theorem dL_isHarness_916 : decode cL_isHarness 916 = .ok (.aload_n 1, 1) := by decide +kernel
theorem dL_isHarness_917 : decode cL_isHarness 917 = .ok (.aload_n 2, 1) := by decide +kernel
theorem dL_isHarness_918 : decode cL_isHarness 918 = .ok (.aload 6, 2) := by decide +kernel
theorem dL_isHarness_920 : decode cL_isHarness 920 = .ok (.aload_n 3, 1) := by decide +kernel
theorem dL_isHarness_921 : decode cL_isHarness 921 = .ok (.iload 10, 2) := by decide +kernel
theorem dL_isHarness_923 : decode cL_isHarness 923 = .ok (.iaload, 1) := by decide +kernel
theorem dL_isHarness_924 : decode cL_isHarness 924 = .ok (.bipush 8, 2) := by decide +kernel
theorem dL_isHarness_926 : decode cL_isHarness 926 = .ok (.irem, 1) := by decide +kernel
theorem dL_isHarness_927 : decode cL_isHarness 927 = .ok (.aload_n 3, 1) := by decide +kernel
theorem dL_isHarness_928 : decode cL_isHarness 928 = .ok (.iload 11, 2) := by decide +kernel
theorem dL_isHarness_930 : decode cL_isHarness 930 = .ok (.iaload, 1) := by decide +kernel
theorem dL_isHarness_931 : decode cL_isHarness 931 = .ok (.bipush 8, 2) := by decide +kernel
theorem dL_isHarness_933 : decode cL_isHarness 933 = .ok (.irem, 1) := by decide +kernel
theorem dL_isHarness_934 : decode cL_isHarness 934 = .ok (.aload 20, 2) := by decide +kernel
theorem dL_isHarness_936 : decode cL_isHarness 936 = .ok (.invokestatic 135, 3) := by decide +kernel
theorem dL_isHarness_939 : decode cL_isHarness 939 = .ok (.goto 4, 3) := by decide +kernel
theorem dL_isHarness_942 : decode cL_isHarness 942 = .ok (.iconst (-1), 1) := by decide +kernel
theorem dL_isHarness_943 : decode cL_isHarness 943 = .ok (.istore 21, 2) := by decide +kernel
theorem dL_isHarness_945 : decode cL_isHarness 945 = .ok (.aload_n 0, 1) := by decide +kernel
theorem dL_isHarness_946 : decode cL_isHarness 946 = .ok (.iconst 3, 1) := by decide +kernel
theorem dL_isHarness_947 : decode cL_isHarness 947 = .ok (.iload 10, 2) := by decide +kernel
theorem dL_isHarness_949 : decode cL_isHarness 949 = .ok (.iload 13, 2) := by decide +kernel
theorem dL_isHarness_951 : decode cL_isHarness 951 = .ok (.iload 11, 2) := by decide +kernel
theorem dL_isHarness_953 : decode cL_isHarness 953 = .ok (.iload 14, 2) := by decide +kernel
theorem dL_isHarness_955 : decode cL_isHarness 955 = .ok (.iload 15, 2) := by decide +kernel
theorem dL_isHarness_957 : decode cL_isHarness 957 = .ok (.invokestatic 128, 3) := by decide +kernel
theorem dL_isHarness_960 : decode cL_isHarness 960 = .ok (.iload 12, 2) := by decide +kernel
theorem dL_isHarness_962 : decode cL_isHarness 962 = .ok (.ifCond .ne 8, 3) := by decide +kernel
theorem dL_isHarness_965 : decode cL_isHarness 965 = .ok (.ldc 93, 2) := by decide +kernel
theorem dL_isHarness_967 : decode cL_isHarness 967 = .ok (.goto 27, 3) := by decide +kernel
theorem dL_isHarness_970 : decode cL_isHarness 970 = .ok (.iload 16, 2) := by decide +kernel
theorem dL_isHarness_972 : decode cL_isHarness 972 = .ok (.ifCond .ne 8, 3) := by decide +kernel
theorem dL_isHarness_975 : decode cL_isHarness 975 = .ok (.ldc 96, 2) := by decide +kernel
theorem dL_isHarness_977 : decode cL_isHarness 977 = .ok (.goto 17, 3) := by decide +kernel
theorem dL_isHarness_980 : decode cL_isHarness 980 = .ok (.iload 21, 2) := by decide +kernel
theorem dL_isHarness_982 : decode cL_isHarness 982 = .ok (.ifCond .ge 8, 3) := by decide +kernel
theorem dL_isHarness_985 : decode cL_isHarness 985 = .ok (.ldc 99, 2) := by decide +kernel
theorem dL_isHarness_987 : decode cL_isHarness 987 = .ok (.goto 7, 3) := by decide +kernel
theorem dL_isHarness_990 : decode cL_isHarness 990 = .ok (.aload 6, 2) := by decide +kernel
theorem dL_isHarness_992 : decode cL_isHarness 992 = .ok (.iconst 2, 1) := by decide +kernel
theorem dL_isHarness_993 : decode cL_isHarness 993 = .ok (.iaload, 1) := by decide +kernel
theorem dL_isHarness_994 : decode cL_isHarness 994 = .ok (.if_icmp .eq 5, 3) := by decide +kernel
theorem dL_isHarness_997 : decode cL_isHarness 997 = .ok (.iconst 0, 1) := by decide +kernel
theorem dL_isHarness_998 : decode cL_isHarness 998 = .ok (.ireturn, 1) := by decide +kernel
theorem dL_isHarness_999 : decode cL_isHarness 999 = .ok (.iconst 1, 1) := by decide +kernel
theorem dL_isHarness_1000 : decode cL_isHarness 1000 = .ok (.istore 22, 2) := by decide +kernel
theorem dL_isHarness_1002 : decode cL_isHarness 1002 = .ok (.iconst 0, 1) := by decide +kernel
theorem dL_isHarness_1003 : decode cL_isHarness 1003 = .ok (.istore 23, 2) := by decide +kernel
theorem dL_isHarness_1005 : decode cL_isHarness 1005 = .ok (.iload 23, 2) := by decide +kernel
theorem dL_isHarness_1007 : decode cL_isHarness 1007 = .ok (.bipush 8, 2) := by decide +kernel
theorem dL_isHarness_1009 : decode cL_isHarness 1009 = .ok (.if_icmp .ge 101, 3) := by decide +kernel
theorem dL_isHarness_1012 : decode cL_isHarness 1012 = .ok (.iload 21, 2) := by decide +kernel
theorem dL_isHarness_1014 : decode cL_isHarness 1014 = .ok (.ifCond .lt 96, 3) := by decide +kernel
theorem dL_isHarness_1017 : decode cL_isHarness 1017 = .ok (.iload 22, 2) := by decide +kernel
theorem dL_isHarness_1019 : decode cL_isHarness 1019 = .ok (.ifCond .eq 91, 3) := by decide +kernel
theorem dL_isHarness_1022 : decode cL_isHarness 1022 = .ok (.aload_n 0, 1) := by decide +kernel
theorem dL_isHarness_1023 : decode cL_isHarness 1023 = .ok (.iconst 5, 1) := by decide +kernel
theorem dL_isHarness_1024 : decode cL_isHarness 1024 = .ok (.aload 6, 2) := by decide +kernel
theorem dL_isHarness_1026 : decode cL_isHarness 1026 = .ok (.iconst 2, 1) := by decide +kernel
theorem dL_isHarness_1027 : decode cL_isHarness 1027 = .ok (.iaload, 1) := by decide +kernel
theorem dL_isHarness_1028 : decode cL_isHarness 1028 = .ok (.iload 23, 2) := by decide +kernel
theorem dL_isHarness_1030 : decode cL_isHarness 1030 = .ok (.iconst 0, 1) := by decide +kernel
theorem dL_isHarness_1031 : decode cL_isHarness 1031 = .ok (.iconst 0, 1) := by decide +kernel
theorem dL_isHarness_1032 : decode cL_isHarness 1032 = .ok (.iconst 0, 1) := by decide +kernel
theorem dL_isHarness_1033 : decode cL_isHarness 1033 = .ok (.invokestatic 128, 3) := by decide +kernel
theorem dL_isHarness_1036 : decode cL_isHarness 1036 = .ok (.aload 20, 2) := by decide +kernel
theorem dL_isHarness_1038 : decode cL_isHarness 1038 = .ok (.iload 23, 2) := by decide +kernel
theorem dL_isHarness_1040 : decode cL_isHarness 1040 = .ok (.iaload, 1) := by decide +kernel
theorem dL_isHarness_1041 : decode cL_isHarness 1041 = .ok (.if_icmp .ne 7, 3) := by decide +kernel
theorem dL_isHarness_1044 : decode cL_isHarness 1044 = .ok (.iconst 1, 1) := by decide +kernel
theorem dL_isHarness_1045 : decode cL_isHarness 1045 = .ok (.goto 4, 3) := by decide +kernel
theorem dL_isHarness_1048 : decode cL_isHarness 1048 = .ok (.iconst 0, 1) := by decide +kernel
theorem dL_isHarness_1049 : decode cL_isHarness 1049 = .ok (.istore 22, 2) := by decide +kernel
theorem dL_isHarness_1051 : decode cL_isHarness 1051 = .ok (.aload 5, 2) := by decide +kernel
theorem dL_isHarness_1053 : decode cL_isHarness 1053 = .ok (.aload 6, 2) := by decide +kernel
theorem dL_isHarness_1055 : decode cL_isHarness 1055 = .ok (.iconst 2, 1) := by decide +kernel
theorem dL_isHarness_1056 : decode cL_isHarness 1056 = .ok (.iaload, 1) := by decide +kernel
theorem dL_isHarness_1057 : decode cL_isHarness 1057 = .ok (.dup2, 1) := by decide +kernel
theorem dL_isHarness_1058 : decode cL_isHarness 1058 = .ok (.iaload, 1) := by decide +kernel
theorem dL_isHarness_1059 : decode cL_isHarness 1059 = .ok (.aload 20, 2) := by decide +kernel
theorem dL_isHarness_1061 : decode cL_isHarness 1061 = .ok (.iload 23, 2) := by decide +kernel
theorem dL_isHarness_1063 : decode cL_isHarness 1063 = .ok (.iaload, 1) := by decide +kernel
theorem dL_isHarness_1064 : decode cL_isHarness 1064 = .ok (.ifCond .ge 7, 3) := by decide +kernel
theorem dL_isHarness_1067 : decode cL_isHarness 1067 = .ok (.iconst 0, 1) := by decide +kernel
theorem dL_isHarness_1068 : decode cL_isHarness 1068 = .ok (.goto 10, 3) := by decide +kernel
theorem dL_isHarness_1071 : decode cL_isHarness 1071 = .ok (.iconst 1, 1) := by decide +kernel
theorem dL_isHarness_1072 : decode cL_isHarness 1072 = .ok (.aload 20, 2) := by decide +kernel
theorem dL_isHarness_1074 : decode cL_isHarness 1074 = .ok (.iload 23, 2) := by decide +kernel
theorem dL_isHarness_1076 : decode cL_isHarness 1076 = .ok (.iaload, 1) := by decide +kernel
theorem dL_isHarness_1077 : decode cL_isHarness 1077 = .ok (.ishl, 1) := by decide +kernel
theorem dL_isHarness_1078 : decode cL_isHarness 1078 = .ok (.ior, 1) := by decide +kernel
theorem dL_isHarness_1079 : decode cL_isHarness 1079 = .ok (.iastore, 1) := by decide +kernel
theorem dL_isHarness_1080 : decode cL_isHarness 1080 = .ok (.aload_n 2, 1) := by decide +kernel
theorem dL_isHarness_1081 : decode cL_isHarness 1081 = .ok (.aload 20, 2) := by decide +kernel
theorem dL_isHarness_1083 : decode cL_isHarness 1083 = .ok (.iload 23, 2) := by decide +kernel
theorem dL_isHarness_1085 : decode cL_isHarness 1085 = .ok (.iaload, 1) := by decide +kernel
theorem dL_isHarness_1086 : decode cL_isHarness 1086 = .ok (.ifCond .ge 8, 3) := by decide +kernel
theorem dL_isHarness_1089 : decode cL_isHarness 1089 = .ok (.bipush 16, 2) := by decide +kernel
theorem dL_isHarness_1091 : decode cL_isHarness 1091 = .ok (.goto 8, 3) := by decide +kernel
theorem dL_isHarness_1094 : decode cL_isHarness 1094 = .ok (.aload 20, 2) := by decide +kernel
theorem dL_isHarness_1096 : decode cL_isHarness 1096 = .ok (.iload 23, 2) := by decide +kernel
theorem dL_isHarness_1098 : decode cL_isHarness 1098 = .ok (.iaload, 1) := by decide +kernel
theorem dL_isHarness_1099 : decode cL_isHarness 1099 = .ok (.dup2, 1) := by decide +kernel
theorem dL_isHarness_1100 : decode cL_isHarness 1100 = .ok (.iaload, 1) := by decide +kernel
theorem dL_isHarness_1101 : decode cL_isHarness 1101 = .ok (.iconst 1, 1) := by decide +kernel
theorem dL_isHarness_1102 : decode cL_isHarness 1102 = .ok (.isub, 1) := by decide +kernel
theorem dL_isHarness_1103 : decode cL_isHarness 1103 = .ok (.iastore, 1) := by decide +kernel
theorem dL_isHarness_1104 : decode cL_isHarness 1104 = .ok (.iinc 23 1, 3) := by decide +kernel
theorem dL_isHarness_1107 : decode cL_isHarness 1107 = .ok (.goto (-102), 3) := by decide +kernel
theorem dL_isHarness_1110 : decode cL_isHarness 1110 = .ok (.iload 21, 2) := by decide +kernel
theorem dL_isHarness_1112 : decode cL_isHarness 1112 = .ok (.ifCond .lt 48, 3) := by decide +kernel
theorem dL_isHarness_1115 : decode cL_isHarness 1115 = .ok (.aload 4, 2) := by decide +kernel
theorem dL_isHarness_1117 : decode cL_isHarness 1117 = .ok (.aload 6, 2) := by decide +kernel
theorem dL_isHarness_1119 : decode cL_isHarness 1119 = .ok (.iconst 2, 1) := by decide +kernel
theorem dL_isHarness_1120 : decode cL_isHarness 1120 = .ok (.iaload, 1) := by decide +kernel
theorem dL_isHarness_1121 : decode cL_isHarness 1121 = .ok (.iload 17, 2) := by decide +kernel
theorem dL_isHarness_1123 : decode cL_isHarness 1123 = .ok (.bipush 64, 2) := by decide +kernel
theorem dL_isHarness_1125 : decode cL_isHarness 1125 = .ok (.iload 18, 2) := by decide +kernel
theorem dL_isHarness_1127 : decode cL_isHarness 1127 = .ok (.imul, 1) := by decide +kernel
theorem dL_isHarness_1128 : decode cL_isHarness 1128 = .ok (.iadd, 1) := by decide +kernel
theorem dL_isHarness_1129 : decode cL_isHarness 1129 = .ok (.sipush 4096, 3) := by decide +kernel
theorem dL_isHarness_1132 : decode cL_isHarness 1132 = .ok (.iload 15, 2) := by decide +kernel
theorem dL_isHarness_1134 : decode cL_isHarness 1134 = .ok (.imul, 1) := by decide +kernel
theorem dL_isHarness_1135 : decode cL_isHarness 1135 = .ok (.iadd, 1) := by decide +kernel
theorem dL_isHarness_1136 : decode cL_isHarness 1136 = .ok (.iastore, 1) := by decide +kernel
theorem dL_isHarness_1137 : decode cL_isHarness 1137 = .ok (.aload 5, 2) := by decide +kernel
theorem dL_isHarness_1139 : decode cL_isHarness 1139 = .ok (.bipush 24, 2) := by decide +kernel
theorem dL_isHarness_1141 : decode cL_isHarness 1141 = .ok (.aload 6, 2) := by decide +kernel
theorem dL_isHarness_1143 : decode cL_isHarness 1143 = .ok (.iconst 2, 1) := by decide +kernel
theorem dL_isHarness_1144 : decode cL_isHarness 1144 = .ok (.iaload, 1) := by decide +kernel
theorem dL_isHarness_1145 : decode cL_isHarness 1145 = .ok (.iadd, 1) := by decide +kernel
theorem dL_isHarness_1146 : decode cL_isHarness 1146 = .ok (.iload 21, 2) := by decide +kernel
theorem dL_isHarness_1148 : decode cL_isHarness 1148 = .ok (.bipush 8, 2) := by decide +kernel
theorem dL_isHarness_1150 : decode cL_isHarness 1150 = .ok (.idiv, 1) := by decide +kernel
theorem dL_isHarness_1151 : decode cL_isHarness 1151 = .ok (.iastore, 1) := by decide +kernel
theorem dL_isHarness_1152 : decode cL_isHarness 1152 = .ok (.aload 6, 2) := by decide +kernel
theorem dL_isHarness_1154 : decode cL_isHarness 1154 = .ok (.iconst 2, 1) := by decide +kernel
theorem dL_isHarness_1155 : decode cL_isHarness 1155 = .ok (.dup2, 1) := by decide +kernel
theorem dL_isHarness_1156 : decode cL_isHarness 1156 = .ok (.iaload, 1) := by decide +kernel
theorem dL_isHarness_1157 : decode cL_isHarness 1157 = .ok (.iconst 1, 1) := by decide +kernel
theorem dL_isHarness_1158 : decode cL_isHarness 1158 = .ok (.iadd, 1) := by decide +kernel
theorem dL_isHarness_1159 : decode cL_isHarness 1159 = .ok (.iastore, 1) := by decide +kernel
theorem dL_isHarness_1160 : decode cL_isHarness 1160 = .ok (.iload 22, 2) := by decide +kernel
theorem dL_isHarness_1162 : decode cL_isHarness 1162 = .ok (.ireturn, 1) := by decide +kernel
theorem dL_isHarness_1163 : decode cL_isHarness 1163 = .ok (.iload 8, 2) := by decide +kernel
theorem dL_isHarness_1165 : decode cL_isHarness 1165 = .ok (.aload 6, 2) := by decide +kernel
theorem dL_isHarness_1167 : decode cL_isHarness 1167 = .ok (.iconst 2, 1) := by decide +kernel
theorem dL_isHarness_1168 : decode cL_isHarness 1168 = .ok (.iaload, 1) := by decide +kernel
theorem dL_isHarness_1169 : decode cL_isHarness 1169 = .ok (.iconst 1, 1) := by decide +kernel
theorem dL_isHarness_1170 : decode cL_isHarness 1170 = .ok (.iadd, 1) := by decide +kernel
theorem dL_isHarness_1171 : decode cL_isHarness 1171 = .ok (.irem, 1) := by decide +kernel
theorem dL_isHarness_1172 : decode cL_isHarness 1172 = .ok (.istore 13, 2) := by decide +kernel
theorem dL_isHarness_1174 : decode cL_isHarness 1174 = .ok (.iload 13, 2) := by decide +kernel
theorem dL_isHarness_1176 : decode cL_isHarness 1176 = .ok (.aload 6, 2) := by decide +kernel
theorem dL_isHarness_1178 : decode cL_isHarness 1178 = .ok (.iconst 2, 1) := by decide +kernel
theorem dL_isHarness_1179 : decode cL_isHarness 1179 = .ok (.iaload, 1) := by decide +kernel
theorem dL_isHarness_1180 : decode cL_isHarness 1180 = .ok (.if_icmp .ge 7, 3) := by decide +kernel
theorem dL_isHarness_1183 : decode cL_isHarness 1183 = .ok (.iconst 1, 1) := by decide +kernel
theorem dL_isHarness_1184 : decode cL_isHarness 1184 = .ok (.goto 4, 3) := by decide +kernel
theorem dL_isHarness_1187 : decode cL_isHarness 1187 = .ok (.iconst 0, 1) := by decide +kernel
theorem dL_isHarness_1188 : decode cL_isHarness 1188 = .ok (.istore 14, 2) := by decide +kernel
theorem dL_isHarness_1190 : decode cL_isHarness 1190 = .ok (.iload 14, 2) := by decide +kernel
theorem dL_isHarness_1192 : decode cL_isHarness 1192 = .ok (.ifCond .eq 17, 3) := by decide +kernel
theorem dL_isHarness_1195 : decode cL_isHarness 1195 = .ok (.aload 4, 2) := by decide +kernel
theorem dL_isHarness_1197 : decode cL_isHarness 1197 = .ok (.iload 13, 2) := by decide +kernel
theorem dL_isHarness_1199 : decode cL_isHarness 1199 = .ok (.iaload, 1) := by decide +kernel
theorem dL_isHarness_1200 : decode cL_isHarness 1200 = .ok (.ldc 108, 2) := by decide +kernel
theorem dL_isHarness_1202 : decode cL_isHarness 1202 = .ok (.if_icmp .ge 7, 3) := by decide +kernel
theorem dL_isHarness_1205 : decode cL_isHarness 1205 = .ok (.iconst 1, 1) := by decide +kernel
theorem dL_isHarness_1206 : decode cL_isHarness 1206 = .ok (.goto 4, 3) := by decide +kernel
theorem dL_isHarness_1209 : decode cL_isHarness 1209 = .ok (.iconst 0, 1) := by decide +kernel
theorem dL_isHarness_1210 : decode cL_isHarness 1210 = .ok (.istore 15, 2) := by decide +kernel
theorem dL_isHarness_1212 : decode cL_isHarness 1212 = .ok (.iconst 0, 1) := by decide +kernel
theorem dL_isHarness_1213 : decode cL_isHarness 1213 = .ok (.istore 16, 2) := by decide +kernel
theorem dL_isHarness_1215 : decode cL_isHarness 1215 = .ok (.iload 16, 2) := by decide +kernel
theorem dL_isHarness_1217 : decode cL_isHarness 1217 = .ok (.bipush 16, 2) := by decide +kernel
theorem dL_isHarness_1219 : decode cL_isHarness 1219 = .ok (.if_icmp .ge 31, 3) := by decide +kernel
theorem dL_isHarness_1222 : decode cL_isHarness 1222 = .ok (.iload 15, 2) := by decide +kernel
theorem dL_isHarness_1224 : decode cL_isHarness 1224 = .ok (.ifCond .eq 26, 3) := by decide +kernel
theorem dL_isHarness_1227 : decode cL_isHarness 1227 = .ok (.aload_n 2, 1) := by decide +kernel
theorem dL_isHarness_1228 : decode cL_isHarness 1228 = .ok (.iload 16, 2) := by decide +kernel
theorem dL_isHarness_1230 : decode cL_isHarness 1230 = .ok (.dup2, 1) := by decide +kernel
theorem dL_isHarness_1231 : decode cL_isHarness 1231 = .ok (.iaload, 1) := by decide +kernel
theorem dL_isHarness_1232 : decode cL_isHarness 1232 = .ok (.aload 5, 2) := by decide +kernel
theorem dL_isHarness_1234 : decode cL_isHarness 1234 = .ok (.iload 13, 2) := by decide +kernel
theorem dL_isHarness_1236 : decode cL_isHarness 1236 = .ok (.iaload, 1) := by decide +kernel
theorem dL_isHarness_1237 : decode cL_isHarness 1237 = .ok (.iload 16, 2) := by decide +kernel
theorem dL_isHarness_1239 : decode cL_isHarness 1239 = .ok (.ishr, 1) := by decide +kernel
theorem dL_isHarness_1240 : decode cL_isHarness 1240 = .ok (.iconst 1, 1) := by decide +kernel
theorem dL_isHarness_1241 : decode cL_isHarness 1241 = .ok (.iand, 1) := by decide +kernel
theorem dL_isHarness_1242 : decode cL_isHarness 1242 = .ok (.iadd, 1) := by decide +kernel
theorem dL_isHarness_1243 : decode cL_isHarness 1243 = .ok (.iastore, 1) := by decide +kernel
theorem dL_isHarness_1244 : decode cL_isHarness 1244 = .ok (.iinc 16 1, 3) := by decide +kernel
theorem dL_isHarness_1247 : decode cL_isHarness 1247 = .ok (.goto (-32), 3) := by decide +kernel
theorem dL_isHarness_1250 : decode cL_isHarness 1250 = .ok (.aload 4, 2) := by decide +kernel
theorem dL_isHarness_1252 : decode cL_isHarness 1252 = .ok (.iload 15, 2) := by decide +kernel
theorem dL_isHarness_1254 : decode cL_isHarness 1254 = .ok (.ifCond .eq 8, 3) := by decide +kernel
theorem dL_isHarness_1257 : decode cL_isHarness 1257 = .ok (.iload 13, 2) := by decide +kernel
theorem dL_isHarness_1259 : decode cL_isHarness 1259 = .ok (.goto 5, 3) := by decide +kernel
theorem dL_isHarness_1262 : decode cL_isHarness 1262 = .ok (.bipush 24, 2) := by decide +kernel
theorem dL_isHarness_1264 : decode cL_isHarness 1264 = .ok (.dup2, 1) := by decide +kernel
theorem dL_isHarness_1265 : decode cL_isHarness 1265 = .ok (.iaload, 1) := by decide +kernel
theorem dL_isHarness_1266 : decode cL_isHarness 1266 = .ok (.iload 15, 2) := by decide +kernel
theorem dL_isHarness_1268 : decode cL_isHarness 1268 = .ok (.ifCond .eq 8, 3) := by decide +kernel
theorem dL_isHarness_1271 : decode cL_isHarness 1271 = .ok (.ldc 108, 2) := by decide +kernel
theorem dL_isHarness_1273 : decode cL_isHarness 1273 = .ok (.goto 4, 3) := by decide +kernel
theorem dL_isHarness_1276 : decode cL_isHarness 1276 = .ok (.iconst 0, 1) := by decide +kernel
theorem dL_isHarness_1277 : decode cL_isHarness 1277 = .ok (.iadd, 1) := by decide +kernel
theorem dL_isHarness_1278 : decode cL_isHarness 1278 = .ok (.iastore, 1) := by decide +kernel
theorem dL_isHarness_1279 : decode cL_isHarness 1279 = .ok (.aload_n 0, 1) := by decide +kernel
theorem dL_isHarness_1280 : decode cL_isHarness 1280 = .ok (.iconst 4, 1) := by decide +kernel
theorem dL_isHarness_1281 : decode cL_isHarness 1281 = .ok (.iload 13, 2) := by decide +kernel
theorem dL_isHarness_1283 : decode cL_isHarness 1283 = .ok (.iconst 0, 1) := by decide +kernel
theorem dL_isHarness_1284 : decode cL_isHarness 1284 = .ok (.iconst 0, 1) := by decide +kernel
theorem dL_isHarness_1285 : decode cL_isHarness 1285 = .ok (.iconst 0, 1) := by decide +kernel
theorem dL_isHarness_1286 : decode cL_isHarness 1286 = .ok (.iconst 0, 1) := by decide +kernel
theorem dL_isHarness_1287 : decode cL_isHarness 1287 = .ok (.invokestatic 128, 3) := by decide +kernel
theorem dL_isHarness_1290 : decode cL_isHarness 1290 = .ok (.iload 14, 2) := by decide +kernel
theorem dL_isHarness_1292 : decode cL_isHarness 1292 = .ok (.ifCond .ne 8, 3) := by decide +kernel
theorem dL_isHarness_1295 : decode cL_isHarness 1295 = .ok (.ldc 93, 2) := by decide +kernel
theorem dL_isHarness_1297 : decode cL_isHarness 1297 = .ok (.goto 21, 3) := by decide +kernel
theorem dL_isHarness_1300 : decode cL_isHarness 1300 = .ok (.iload 15, 2) := by decide +kernel
theorem dL_isHarness_1302 : decode cL_isHarness 1302 = .ok (.ifCond .eq 14, 3) := by decide +kernel
theorem dL_isHarness_1305 : decode cL_isHarness 1305 = .ok (.aload 5, 2) := by decide +kernel
theorem dL_isHarness_1307 : decode cL_isHarness 1307 = .ok (.bipush 24, 2) := by decide +kernel
theorem dL_isHarness_1309 : decode cL_isHarness 1309 = .ok (.iload 13, 2) := by decide +kernel
theorem dL_isHarness_1311 : decode cL_isHarness 1311 = .ok (.iadd, 1) := by decide +kernel
theorem dL_isHarness_1312 : decode cL_isHarness 1312 = .ok (.iaload, 1) := by decide +kernel
theorem dL_isHarness_1313 : decode cL_isHarness 1313 = .ok (.goto 5, 3) := by decide +kernel
theorem dL_isHarness_1316 : decode cL_isHarness 1316 = .ok (.ldc 99, 2) := by decide +kernel
theorem dL_isHarness_1318 : decode cL_isHarness 1318 = .ok (.if_icmp .ne 7, 3) := by decide +kernel
theorem dL_isHarness_1321 : decode cL_isHarness 1321 = .ok (.iconst 1, 1) := by decide +kernel
theorem dL_isHarness_1322 : decode cL_isHarness 1322 = .ok (.goto 4, 3) := by decide +kernel
theorem dL_isHarness_1325 : decode cL_isHarness 1325 = .ok (.iconst 0, 1) := by decide +kernel
theorem dL_isHarness_1326 : decode cL_isHarness 1326 = .ok (.ireturn, 1) := by decide +kernel
theorem dL_window_0 : decode cL_window 0 = .ok (.aload_n 1, 1) := by decide +kernel
theorem dL_window_1 : decode cL_window 1 = .ok (.bipush 7, 2) := by decide +kernel
theorem dL_window_3 : decode cL_window 3 = .ok (.iaload, 1) := by decide +kernel
theorem dL_window_4 : decode cL_window 4 = .ok (.bipush 8, 2) := by decide +kernel
theorem dL_window_6 : decode cL_window 6 = .ok (.if_icmp .ge 10, 3) := by decide +kernel
theorem dL_window_9 : decode cL_window 9 = .ok (.aload_n 1, 1) := by decide +kernel
theorem dL_window_10 : decode cL_window 10 = .ok (.bipush 7, 2) := by decide +kernel
theorem dL_window_12 : decode cL_window 12 = .ok (.iaload, 1) := by decide +kernel
theorem dL_window_13 : decode cL_window 13 = .ok (.goto 5, 3) := by decide +kernel
theorem dL_window_16 : decode cL_window 16 = .ok (.bipush 8, 2) := by decide +kernel
theorem dL_window_18 : decode cL_window 18 = .ok (.istore_n 2, 1) := by decide +kernel
theorem dL_window_19 : decode cL_window 19 = .ok (.iconst 0, 1) := by decide +kernel
theorem dL_window_20 : decode cL_window 20 = .ok (.istore_n 3, 1) := by decide +kernel
theorem dL_window_21 : decode cL_window 21 = .ok (.iconst 0, 1) := by decide +kernel
theorem dL_window_22 : decode cL_window 22 = .ok (.istore 4, 2) := by decide +kernel
theorem dL_window_24 : decode cL_window 24 = .ok (.iload 4, 2) := by decide +kernel
theorem dL_window_26 : decode cL_window 26 = .ok (.iload_n 2, 1) := by decide +kernel
theorem dL_window_27 : decode cL_window 27 = .ok (.if_icmp .ge 16, 3) := by decide +kernel
theorem dL_window_30 : decode cL_window 30 = .ok (.iload_n 3, 1) := by decide +kernel
theorem dL_window_31 : decode cL_window 31 = .ok (.aload_n 0, 1) := by decide +kernel
theorem dL_window_32 : decode cL_window 32 = .ok (.iload 4, 2) := by decide +kernel
theorem dL_window_34 : decode cL_window 34 = .ok (.iaload, 1) := by decide +kernel
theorem dL_window_35 : decode cL_window 35 = .ok (.iadd, 1) := by decide +kernel
theorem dL_window_36 : decode cL_window 36 = .ok (.istore_n 3, 1) := by decide +kernel
theorem dL_window_37 : decode cL_window 37 = .ok (.iinc 4 1, 3) := by decide +kernel
theorem dL_window_40 : decode cL_window 40 = .ok (.goto (-16), 3) := by decide +kernel
theorem dL_window_43 : decode cL_window 43 = .ok (.aload_n 1, 1) := by decide +kernel
theorem dL_window_44 : decode cL_window 44 = .ok (.bipush 7, 2) := by decide +kernel
theorem dL_window_46 : decode cL_window 46 = .ok (.iaload, 1) := by decide +kernel
theorem dL_window_47 : decode cL_window 47 = .ok (.iconst 3, 1) := by decide +kernel
theorem dL_window_48 : decode cL_window 48 = .ok (.if_icmp .ge 7, 3) := by decide +kernel
theorem dL_window_51 : decode cL_window 51 = .ok (.iconst 0, 1) := by decide +kernel
theorem dL_window_52 : decode cL_window 52 = .ok (.goto 6, 3) := by decide +kernel
theorem dL_window_55 : decode cL_window 55 = .ok (.iload_n 3, 1) := by decide +kernel
theorem dL_window_56 : decode cL_window 56 = .ok (.iload_n 2, 1) := by decide +kernel
theorem dL_window_57 : decode cL_window 57 = .ok (.idiv, 1) := by decide +kernel
theorem dL_window_58 : decode cL_window 58 = .ok (.ireturn, 1) := by decide +kernel
theorem dL_isReel_0 : decode cL_isReel 0 = .ok (.iload 7, 2) := by decide +kernel
theorem dL_isReel_2 : decode cL_isReel 2 = .ok (.ifCond .ne 245, 3) := by decide +kernel
theorem dL_isReel_5 : decode cL_isReel 5 = .ok (.aload 6, 2) := by decide +kernel
theorem dL_isReel_7 : decode cL_isReel 7 = .ok (.iconst 4, 1) := by decide +kernel
theorem dL_isReel_8 : decode cL_isReel 8 = .ok (.iaload, 1) := by decide +kernel
theorem dL_isReel_9 : decode cL_isReel 9 = .ok (.bipush 12, 2) := by decide +kernel
theorem dL_isReel_11 : decode cL_isReel 11 = .ok (.if_icmp .ge 236, 3) := by decide +kernel
theorem dL_isReel_14 : decode cL_isReel 14 = .ok (.iload 8, 2) := by decide +kernel
theorem dL_isReel_16 : decode cL_isReel 16 = .ok (.bipush 9, 2) := by decide +kernel
theorem dL_isReel_18 : decode cL_isReel 18 = .ok (.irem, 1) := by decide +kernel
theorem dL_isReel_19 : decode cL_isReel 19 = .ok (.bipush 8, 2) := by decide +kernel
theorem dL_isReel_21 : decode cL_isReel 21 = .ok (.if_icmp .ne 8, 3) := by decide +kernel
theorem dL_isReel_24 : decode cL_isReel 24 = .ok (.bipush 6, 2) := by decide +kernel
theorem dL_isReel_26 : decode cL_isReel 26 = .ok (.goto 7, 3) := by decide +kernel
theorem dL_isReel_29 : decode cL_isReel 29 = .ok (.iload 8, 2) := by decide +kernel
theorem dL_isReel_31 : decode cL_isReel 31 = .ok (.iconst 3, 1) := by decide +kernel
theorem dL_isReel_32 : decode cL_isReel 32 = .ok (.irem, 1) := by decide +kernel
theorem dL_isReel_33 : decode cL_isReel 33 = .ok (.istore 10, 2) := by decide +kernel
theorem dL_isReel_35 : decode cL_isReel 35 = .ok (.iload 8, 2) := by decide +kernel
theorem dL_isReel_37 : decode cL_isReel 37 = .ok (.bipush 9, 2) := by decide +kernel
theorem dL_isReel_39 : decode cL_isReel 39 = .ok (.idiv, 1) := by decide +kernel
theorem dL_isReel_40 : decode cL_isReel 40 = .ok (.bipush 9, 2) := by decide +kernel
theorem dL_isReel_42 : decode cL_isReel 42 = .ok (.irem, 1) := by decide +kernel
theorem dL_isReel_43 : decode cL_isReel 43 = .ok (.ifCond .ne 14, 3) := by decide +kernel
theorem dL_isReel_46 : decode cL_isReel 46 = .ok (.iload 8, 2) := by decide +kernel
theorem dL_isReel_48 : decode cL_isReel 48 = .ok (.bipush 81, 2) := by decide +kernel
theorem dL_isReel_50 : decode cL_isReel 50 = .ok (.idiv, 1) := by decide +kernel
theorem dL_isReel_51 : decode cL_isReel 51 = .ok (.bipush 101, 2) := by decide +kernel
theorem dL_isReel_53 : decode cL_isReel 53 = .ok (.irem, 1) := by decide +kernel
theorem dL_isReel_54 : decode cL_isReel 54 = .ok (.goto 13, 3) := by decide +kernel
theorem dL_isReel_57 : decode cL_isReel 57 = .ok (.iconst 1, 1) := by decide +kernel
theorem dL_isReel_58 : decode cL_isReel 58 = .ok (.iload 8, 2) := by decide +kernel
theorem dL_isReel_60 : decode cL_isReel 60 = .ok (.bipush 81, 2) := by decide +kernel
theorem dL_isReel_62 : decode cL_isReel 62 = .ok (.idiv, 1) := by decide +kernel
theorem dL_isReel_63 : decode cL_isReel 63 = .ok (.bipush 9, 2) := by decide +kernel
theorem dL_isReel_65 : decode cL_isReel 65 = .ok (.irem, 1) := by decide +kernel
theorem dL_isReel_66 : decode cL_isReel 66 = .ok (.iadd, 1) := by decide +kernel
theorem dL_isReel_67 : decode cL_isReel 67 = .ok (.istore 11, 2) := by decide +kernel
theorem dL_isReel_69 : decode cL_isReel 69 = .ok (.iload 9, 2) := by decide +kernel
theorem dL_isReel_71 : decode cL_isReel 71 = .ok (.bipush 9, 2) := by decide +kernel
theorem dL_isReel_73 : decode cL_isReel 73 = .ok (.irem, 1) := by decide +kernel
theorem dL_isReel_74 : decode cL_isReel 74 = .ok (.ifCond .ne 15, 3) := by decide +kernel
theorem dL_isReel_77 : decode cL_isReel 77 = .ok (.iload 9, 2) := by decide +kernel
theorem dL_isReel_79 : decode cL_isReel 79 = .ok (.bipush 9, 2) := by decide +kernel
theorem dL_isReel_81 : decode cL_isReel 81 = .ok (.idiv, 1) := by decide +kernel
theorem dL_isReel_82 : decode cL_isReel 82 = .ok (.sipush 5002, 3) := by decide +kernel
theorem dL_isReel_85 : decode cL_isReel 85 = .ok (.irem, 1) := by decide +kernel
theorem dL_isReel_86 : decode cL_isReel 86 = .ok (.goto 15, 3) := by decide +kernel
theorem dL_isReel_89 : decode cL_isReel 89 = .ok (.bipush 20, 2) := by decide +kernel
theorem dL_isReel_91 : decode cL_isReel 91 = .ok (.iload 9, 2) := by decide +kernel
theorem dL_isReel_93 : decode cL_isReel 93 = .ok (.bipush 9, 2) := by decide +kernel
theorem dL_isReel_95 : decode cL_isReel 95 = .ok (.idiv, 1) := by decide +kernel
theorem dL_isReel_96 : decode cL_isReel 96 = .ok (.sipush 400, 3) := by decide +kernel
theorem dL_isReel_99 : decode cL_isReel 99 = .ok (.irem, 1) := by decide +kernel
theorem dL_isReel_100 : decode cL_isReel 100 = .ok (.iadd, 1) := by decide +kernel
theorem dL_isReel_101 : decode cL_isReel 101 = .ok (.istore 12, 2) := by decide +kernel
theorem dL_isReel_103 : decode cL_isReel 103 = .ok (.iload 11, 2) := by decide +kernel
theorem dL_isReel_105 : decode cL_isReel 105 = .ok (.ifCond .le 27, 3) := by decide +kernel
theorem dL_isReel_108 : decode cL_isReel 108 = .ok (.iload 11, 2) := by decide +kernel
theorem dL_isReel_110 : decode cL_isReel 110 = .ok (.bipush 100, 2) := by decide +kernel
theorem dL_isReel_112 : decode cL_isReel 112 = .ok (.if_icmp .ge 20, 3) := by decide +kernel
theorem dL_isReel_115 : decode cL_isReel 115 = .ok (.iload 12, 2) := by decide +kernel
theorem dL_isReel_117 : decode cL_isReel 117 = .ok (.ifCond .le 15, 3) := by decide +kernel
theorem dL_isReel_120 : decode cL_isReel 120 = .ok (.iload 12, 2) := by decide +kernel
theorem dL_isReel_122 : decode cL_isReel 122 = .ok (.sipush 5001, 3) := by decide +kernel
theorem dL_isReel_125 : decode cL_isReel 125 = .ok (.if_icmp .ge 7, 3) := by decide +kernel
theorem dL_isReel_128 : decode cL_isReel 128 = .ok (.iconst 1, 1) := by decide +kernel
theorem dL_isReel_129 : decode cL_isReel 129 = .ok (.goto 4, 3) := by decide +kernel
theorem dL_isReel_132 : decode cL_isReel 132 = .ok (.iconst 0, 1) := by decide +kernel
theorem dL_isReel_133 : decode cL_isReel 133 = .ok (.istore 13, 2) := by decide +kernel
theorem dL_isReel_135 : decode cL_isReel 135 = .ok (.iload 10, 2) := by decide +kernel
theorem dL_isReel_137 : decode cL_isReel 137 = .ok (.bipush 6, 2) := by decide +kernel
theorem dL_isReel_139 : decode cL_isReel 139 = .ok (.if_icmp .ge 12, 3) := by decide +kernel
theorem dL_isReel_142 : decode cL_isReel 142 = .ok (.iload 13, 2) := by decide +kernel
theorem dL_isReel_144 : decode cL_isReel 144 = .ok (.ifCond .eq 7, 3) := by decide +kernel
theorem dL_isReel_147 : decode cL_isReel 147 = .ok (.iconst 1, 1) := by decide +kernel
theorem dL_isReel_148 : decode cL_isReel 148 = .ok (.goto 4, 3) := by decide +kernel
theorem dL_isReel_151 : decode cL_isReel 151 = .ok (.iconst 0, 1) := by decide +kernel
theorem dL_isReel_152 : decode cL_isReel 152 = .ok (.istore 14, 2) := by decide +kernel
theorem dL_isReel_154 : decode cL_isReel 154 = .ok (.iload 14, 2) := by decide +kernel
theorem dL_isReel_156 : decode cL_isReel 156 = .ok (.ifCond .eq 40, 3) := by decide +kernel
theorem dL_isReel_159 : decode cL_isReel 159 = .ok (.aload_n 1, 1) := by decide +kernel
theorem dL_isReel_160 : decode cL_isReel 160 = .ok (.aload 6, 2) := by decide +kernel
theorem dL_isReel_162 : decode cL_isReel 162 = .ok (.iconst 4, 1) := by decide +kernel
theorem dL_isReel_163 : decode cL_isReel 163 = .ok (.iaload, 1) := by decide +kernel
theorem dL_isReel_164 : decode cL_isReel 164 = .ok (.iload 10, 2) := by decide +kernel
theorem dL_isReel_166 : decode cL_isReel 166 = .ok (.bipush 8, 2) := by decide +kernel
theorem dL_isReel_168 : decode cL_isReel 168 = .ok (.iload 12, 2) := by decide +kernel
theorem dL_isReel_170 : decode cL_isReel 170 = .ok (.imul, 1) := by decide +kernel
theorem dL_isReel_171 : decode cL_isReel 171 = .ok (.iadd, 1) := by decide +kernel
theorem dL_isReel_172 : decode cL_isReel 172 = .ok (.iastore, 1) := by decide +kernel
theorem dL_isReel_173 : decode cL_isReel 173 = .ok (.aload_n 2, 1) := by decide +kernel
theorem dL_isReel_174 : decode cL_isReel 174 = .ok (.aload 6, 2) := by decide +kernel
theorem dL_isReel_176 : decode cL_isReel 176 = .ok (.iconst 4, 1) := by decide +kernel
theorem dL_isReel_177 : decode cL_isReel 177 = .ok (.iaload, 1) := by decide +kernel
theorem dL_isReel_178 : decode cL_isReel 178 = .ok (.iload 11, 2) := by decide +kernel
theorem dL_isReel_180 : decode cL_isReel 180 = .ok (.iastore, 1) := by decide +kernel
theorem dL_isReel_181 : decode cL_isReel 181 = .ok (.aload_n 3, 1) := by decide +kernel
theorem dL_isReel_182 : decode cL_isReel 182 = .ok (.aload 6, 2) := by decide +kernel
theorem dL_isReel_184 : decode cL_isReel 184 = .ok (.iconst 4, 1) := by decide +kernel
theorem dL_isReel_185 : decode cL_isReel 185 = .ok (.iaload, 1) := by decide +kernel
theorem dL_isReel_186 : decode cL_isReel 186 = .ok (.iconst (-1), 1) := by decide +kernel
theorem dL_isReel_187 : decode cL_isReel 187 = .ok (.iastore, 1) := by decide +kernel
theorem dL_isReel_188 : decode cL_isReel 188 = .ok (.aload 6, 2) := by decide +kernel
theorem dL_isReel_190 : decode cL_isReel 190 = .ok (.iconst 4, 1) := by decide +kernel
theorem dL_isReel_191 : decode cL_isReel 191 = .ok (.dup2, 1) := by decide +kernel
theorem dL_isReel_192 : decode cL_isReel 192 = .ok (.iaload, 1) := by decide +kernel
theorem dL_isReel_193 : decode cL_isReel 193 = .ok (.iconst 1, 1) := by decide +kernel
theorem dL_isReel_194 : decode cL_isReel 194 = .ok (.iadd, 1) := by decide +kernel
theorem dL_isReel_195 : decode cL_isReel 195 = .ok (.iastore, 1) := by decide +kernel
theorem dL_isReel_196 : decode cL_isReel 196 = .ok (.aload_n 0, 1) := by decide +kernel
theorem dL_isReel_197 : decode cL_isReel 197 = .ok (.bipush 8, 2) := by decide +kernel
theorem dL_isReel_199 : decode cL_isReel 199 = .ok (.iload 10, 2) := by decide +kernel
theorem dL_isReel_201 : decode cL_isReel 201 = .ok (.iload 11, 2) := by decide +kernel
theorem dL_isReel_203 : decode cL_isReel 203 = .ok (.iload 12, 2) := by decide +kernel
theorem dL_isReel_205 : decode cL_isReel 205 = .ok (.iconst 0, 1) := by decide +kernel
theorem dL_isReel_206 : decode cL_isReel 206 = .ok (.iconst 0, 1) := by decide +kernel
theorem dL_isReel_207 : decode cL_isReel 207 = .ok (.invokestatic 128, 3) := by decide +kernel
theorem dL_isReel_210 : decode cL_isReel 210 = .ok (.iload 10, 2) := by decide +kernel
theorem dL_isReel_212 : decode cL_isReel 212 = .ok (.bipush 6, 2) := by decide +kernel
theorem dL_isReel_214 : decode cL_isReel 214 = .ok (.if_icmp .ne 8, 3) := by decide +kernel
theorem dL_isReel_217 : decode cL_isReel 217 = .ok (.ldc 93, 2) := by decide +kernel
theorem dL_isReel_219 : decode cL_isReel 219 = .ok (.goto 19, 3) := by decide +kernel
theorem dL_isReel_222 : decode cL_isReel 222 = .ok (.iload 14, 2) := by decide +kernel
theorem dL_isReel_224 : decode cL_isReel 224 = .ok (.ifCond .eq 12, 3) := by decide +kernel
theorem dL_isReel_227 : decode cL_isReel 227 = .ok (.aload 6, 2) := by decide +kernel
theorem dL_isReel_229 : decode cL_isReel 229 = .ok (.iconst 4, 1) := by decide +kernel
theorem dL_isReel_230 : decode cL_isReel 230 = .ok (.iaload, 1) := by decide +kernel
theorem dL_isReel_231 : decode cL_isReel 231 = .ok (.iconst 1, 1) := by decide +kernel
theorem dL_isReel_232 : decode cL_isReel 232 = .ok (.isub, 1) := by decide +kernel
theorem dL_isReel_233 : decode cL_isReel 233 = .ok (.goto 5, 3) := by decide +kernel
theorem dL_isReel_236 : decode cL_isReel 236 = .ok (.ldc 96, 2) := by decide +kernel
theorem dL_isReel_238 : decode cL_isReel 238 = .ok (.if_icmp .ne 7, 3) := by decide +kernel
theorem dL_isReel_241 : decode cL_isReel 241 = .ok (.iconst 1, 1) := by decide +kernel
theorem dL_isReel_242 : decode cL_isReel 242 = .ok (.goto 4, 3) := by decide +kernel
theorem dL_isReel_245 : decode cL_isReel 245 = .ok (.iconst 0, 1) := by decide +kernel
theorem dL_isReel_246 : decode cL_isReel 246 = .ok (.ireturn, 1) := by decide +kernel
theorem dL_isReel_247 : decode cL_isReel 247 = .ok (.iload 7, 2) := by decide +kernel
theorem dL_isReel_249 : decode cL_isReel 249 = .ok (.iconst 2, 1) := by decide +kernel
theorem dL_isReel_250 : decode cL_isReel 250 = .ok (.if_icmp .ge 144, 3) := by decide +kernel
theorem dL_isReel_253 : decode cL_isReel 253 = .ok (.iload 8, 2) := by decide +kernel
theorem dL_isReel_255 : decode cL_isReel 255 = .ok (.aload 6, 2) := by decide +kernel
theorem dL_isReel_257 : decode cL_isReel 257 = .ok (.iconst 4, 1) := by decide +kernel
theorem dL_isReel_258 : decode cL_isReel 258 = .ok (.iaload, 1) := by decide +kernel
theorem dL_isReel_259 : decode cL_isReel 259 = .ok (.iconst 1, 1) := by decide +kernel
theorem dL_isReel_260 : decode cL_isReel 260 = .ok (.iadd, 1) := by decide +kernel
theorem dL_isReel_261 : decode cL_isReel 261 = .ok (.irem, 1) := by decide +kernel
theorem dL_isReel_262 : decode cL_isReel 262 = .ok (.istore 10, 2) := by decide +kernel
theorem dL_isReel_264 : decode cL_isReel 264 = .ok (.iload 9, 2) := by decide +kernel
theorem dL_isReel_266 : decode cL_isReel 266 = .ok (.iconst 3, 1) := by decide +kernel
theorem dL_isReel_267 : decode cL_isReel 267 = .ok (.irem, 1) := by decide +kernel
theorem dL_isReel_268 : decode cL_isReel 268 = .ok (.ifCond .ne 7, 3) := by decide +kernel
theorem dL_isReel_271 : decode cL_isReel 271 = .ok (.iconst 1, 1) := by decide +kernel
theorem dL_isReel_272 : decode cL_isReel 272 = .ok (.goto 4, 3) := by decide +kernel
theorem dL_isReel_275 : decode cL_isReel 275 = .ok (.iconst 0, 1) := by decide +kernel
theorem dL_isReel_276 : decode cL_isReel 276 = .ok (.istore 11, 2) := by decide +kernel
theorem dL_isReel_278 : decode cL_isReel 278 = .ok (.iload 10, 2) := by decide +kernel
theorem dL_isReel_280 : decode cL_isReel 280 = .ok (.aload 6, 2) := by decide +kernel
theorem dL_isReel_282 : decode cL_isReel 282 = .ok (.iconst 4, 1) := by decide +kernel
theorem dL_isReel_283 : decode cL_isReel 283 = .ok (.iaload, 1) := by decide +kernel
theorem dL_isReel_284 : decode cL_isReel 284 = .ok (.if_icmp .ge 7, 3) := by decide +kernel
theorem dL_isReel_287 : decode cL_isReel 287 = .ok (.iconst 1, 1) := by decide +kernel
theorem dL_isReel_288 : decode cL_isReel 288 = .ok (.goto 4, 3) := by decide +kernel
theorem dL_isReel_291 : decode cL_isReel 291 = .ok (.iconst 0, 1) := by decide +kernel
theorem dL_isReel_292 : decode cL_isReel 292 = .ok (.istore 12, 2) := by decide +kernel
theorem dL_isReel_294 : decode cL_isReel 294 = .ok (.iload 12, 2) := by decide +kernel
theorem dL_isReel_296 : decode cL_isReel 296 = .ok (.ifCond .eq 19, 3) := by decide +kernel
theorem dL_isReel_299 : decode cL_isReel 299 = .ok (.aload_n 3, 1) := by decide +kernel
theorem dL_isReel_300 : decode cL_isReel 300 = .ok (.iload 10, 2) := by decide +kernel
theorem dL_isReel_302 : decode cL_isReel 302 = .ok (.iaload, 1) := by decide +kernel
theorem dL_isReel_303 : decode cL_isReel 303 = .ok (.ifCond .lt 8, 3) := by decide +kernel
theorem dL_isReel_306 : decode cL_isReel 306 = .ok (.iload 11, 2) := by decide +kernel
theorem dL_isReel_308 : decode cL_isReel 308 = .ok (.ifCond .eq 7, 3) := by decide +kernel
theorem dL_isReel_311 : decode cL_isReel 311 = .ok (.iconst 1, 1) := by decide +kernel
theorem dL_isReel_312 : decode cL_isReel 312 = .ok (.goto 4, 3) := by decide +kernel
theorem dL_isReel_315 : decode cL_isReel 315 = .ok (.iconst 0, 1) := by decide +kernel
theorem dL_isReel_316 : decode cL_isReel 316 = .ok (.istore 13, 2) := by decide +kernel
theorem dL_isReel_318 : decode cL_isReel 318 = .ok (.aload_n 3, 1) := by decide +kernel
theorem dL_isReel_319 : decode cL_isReel 319 = .ok (.iload 13, 2) := by decide +kernel
theorem dL_isReel_321 : decode cL_isReel 321 = .ok (.ifCond .eq 8, 3) := by decide +kernel
theorem dL_isReel_324 : decode cL_isReel 324 = .ok (.iload 10, 2) := by decide +kernel
theorem dL_isReel_326 : decode cL_isReel 326 = .ok (.goto 5, 3) := by decide +kernel
theorem dL_isReel_329 : decode cL_isReel 329 = .ok (.bipush 12, 2) := by decide +kernel
theorem dL_isReel_331 : decode cL_isReel 331 = .ok (.aload 4, 2) := by decide +kernel
theorem dL_isReel_333 : decode cL_isReel 333 = .ok (.bipush 17, 2) := by decide +kernel
theorem dL_isReel_335 : decode cL_isReel 335 = .ok (.iaload, 1) := by decide +kernel
theorem dL_isReel_336 : decode cL_isReel 336 = .ok (.iastore, 1) := by decide +kernel
theorem dL_isReel_337 : decode cL_isReel 337 = .ok (.aload_n 0, 1) := by decide +kernel
theorem dL_isReel_338 : decode cL_isReel 338 = .ok (.bipush 9, 2) := by decide +kernel
theorem dL_isReel_340 : decode cL_isReel 340 = .ok (.iload 10, 2) := by decide +kernel
theorem dL_isReel_342 : decode cL_isReel 342 = .ok (.iload 11, 2) := by decide +kernel
theorem dL_isReel_344 : decode cL_isReel 344 = .ok (.ifCond .eq 7, 3) := by decide +kernel
theorem dL_isReel_347 : decode cL_isReel 347 = .ok (.iconst 1, 1) := by decide +kernel
theorem dL_isReel_348 : decode cL_isReel 348 = .ok (.goto 4, 3) := by decide +kernel
theorem dL_isReel_351 : decode cL_isReel 351 = .ok (.iconst 0, 1) := by decide +kernel
theorem dL_isReel_352 : decode cL_isReel 352 = .ok (.iconst 0, 1) := by decide +kernel
theorem dL_isReel_353 : decode cL_isReel 353 = .ok (.iconst 0, 1) := by decide +kernel
theorem dL_isReel_354 : decode cL_isReel 354 = .ok (.iconst 0, 1) := by decide +kernel
theorem dL_isReel_355 : decode cL_isReel 355 = .ok (.invokestatic 128, 3) := by decide +kernel
theorem dL_isReel_358 : decode cL_isReel 358 = .ok (.iload 12, 2) := by decide +kernel
theorem dL_isReel_360 : decode cL_isReel 360 = .ok (.ifCond .ne 8, 3) := by decide +kernel
theorem dL_isReel_363 : decode cL_isReel 363 = .ok (.ldc 93, 2) := by decide +kernel
theorem dL_isReel_365 : decode cL_isReel 365 = .ok (.goto 20, 3) := by decide +kernel
theorem dL_isReel_368 : decode cL_isReel 368 = .ok (.iload 13, 2) := by decide +kernel
theorem dL_isReel_370 : decode cL_isReel 370 = .ok (.ifCond .eq 13, 3) := by decide +kernel
theorem dL_isReel_373 : decode cL_isReel 373 = .ok (.aload_n 1, 1) := by decide +kernel
theorem dL_isReel_374 : decode cL_isReel 374 = .ok (.iload 10, 2) := by decide +kernel
theorem dL_isReel_376 : decode cL_isReel 376 = .ok (.iaload, 1) := by decide +kernel
theorem dL_isReel_377 : decode cL_isReel 377 = .ok (.bipush 8, 2) := by decide +kernel
theorem dL_isReel_379 : decode cL_isReel 379 = .ok (.idiv, 1) := by decide +kernel
theorem dL_isReel_380 : decode cL_isReel 380 = .ok (.goto 5, 3) := by decide +kernel
theorem dL_isReel_383 : decode cL_isReel 383 = .ok (.ldc 99, 2) := by decide +kernel
theorem dL_isReel_385 : decode cL_isReel 385 = .ok (.if_icmp .ne 7, 3) := by decide +kernel
theorem dL_isReel_388 : decode cL_isReel 388 = .ok (.iconst 1, 1) := by decide +kernel
theorem dL_isReel_389 : decode cL_isReel 389 = .ok (.goto 4, 3) := by decide +kernel
theorem dL_isReel_392 : decode cL_isReel 392 = .ok (.iconst 0, 1) := by decide +kernel
theorem dL_isReel_393 : decode cL_isReel 393 = .ok (.ireturn, 1) := by decide +kernel
theorem dL_isReel_394 : decode cL_isReel 394 = .ok (.iload 8, 2) := by decide +kernel
theorem dL_isReel_396 : decode cL_isReel 396 = .ok (.bipush 9, 2) := by decide +kernel
theorem dL_isReel_398 : decode cL_isReel 398 = .ok (.irem, 1) := by decide +kernel
theorem dL_isReel_399 : decode cL_isReel 399 = .ok (.ifCond .ne 12, 3) := by decide +kernel
theorem dL_isReel_402 : decode cL_isReel 402 = .ok (.iload 9, 2) := by decide +kernel
theorem dL_isReel_404 : decode cL_isReel 404 = .ok (.sipush 10001, 3) := by decide +kernel
theorem dL_isReel_407 : decode cL_isReel 407 = .ok (.irem, 1) := by decide +kernel
theorem dL_isReel_408 : decode cL_isReel 408 = .ok (.goto 12, 3) := by decide +kernel
theorem dL_isReel_411 : decode cL_isReel 411 = .ok (.sipush 450, 3) := by decide +kernel
theorem dL_isReel_414 : decode cL_isReel 414 = .ok (.iload 9, 2) := by decide +kernel
theorem dL_isReel_416 : decode cL_isReel 416 = .ok (.bipush 120, 2) := by decide +kernel
theorem dL_isReel_418 : decode cL_isReel 418 = .ok (.irem, 1) := by decide +kernel
theorem dL_isReel_419 : decode cL_isReel 419 = .ok (.iadd, 1) := by decide +kernel
theorem dL_isReel_420 : decode cL_isReel 420 = .ok (.istore 10, 2) := by decide +kernel
theorem dL_isReel_422 : decode cL_isReel 422 = .ok (.iload 10, 2) := by decide +kernel
theorem dL_isReel_424 : decode cL_isReel 424 = .ok (.ifCond .le 15, 3) := by decide +kernel
theorem dL_isReel_427 : decode cL_isReel 427 = .ok (.iload 10, 2) := by decide +kernel
theorem dL_isReel_429 : decode cL_isReel 429 = .ok (.sipush 10000, 3) := by decide +kernel
theorem dL_isReel_432 : decode cL_isReel 432 = .ok (.if_icmp .ge 7, 3) := by decide +kernel
theorem dL_isReel_435 : decode cL_isReel 435 = .ok (.iconst 1, 1) := by decide +kernel
theorem dL_isReel_436 : decode cL_isReel 436 = .ok (.goto 4, 3) := by decide +kernel
theorem dL_isReel_439 : decode cL_isReel 439 = .ok (.iconst 0, 1) := by decide +kernel
theorem dL_isReel_440 : decode cL_isReel 440 = .ok (.istore 11, 2) := by decide +kernel
theorem dL_isReel_442 : decode cL_isReel 442 = .ok (.iload 10, 2) := by decide +kernel
theorem dL_isReel_444 : decode cL_isReel 444 = .ok (.aload 5, 2) := by decide +kernel
theorem dL_isReel_446 : decode cL_isReel 446 = .ok (.aload 6, 2) := by decide +kernel
theorem dL_isReel_448 : decode cL_isReel 448 = .ok (.invokestatic 116, 3) := by decide +kernel
theorem dL_isReel_451 : decode cL_isReel 451 = .ok (.isub, 1) := by decide +kernel
theorem dL_isReel_452 : decode cL_isReel 452 = .ok (.istore 12, 2) := by decide +kernel
theorem dL_isReel_454 : decode cL_isReel 454 = .ok (.aload 6, 2) := by decide +kernel
theorem dL_isReel_456 : decode cL_isReel 456 = .ok (.bipush 7, 2) := by decide +kernel
theorem dL_isReel_458 : decode cL_isReel 458 = .ok (.iaload, 1) := by decide +kernel
theorem dL_isReel_459 : decode cL_isReel 459 = .ok (.iconst 3, 1) := by decide +kernel
theorem dL_isReel_460 : decode cL_isReel 460 = .ok (.if_icmp .lt 29, 3) := by decide +kernel
theorem dL_isReel_463 : decode cL_isReel 463 = .ok (.bipush 10, 2) := by decide +kernel
theorem dL_isReel_465 : decode cL_isReel 465 = .ok (.iload 12, 2) := by decide +kernel
theorem dL_isReel_467 : decode cL_isReel 467 = .ok (.ifCond .ge 9, 3) := by decide +kernel
theorem dL_isReel_470 : decode cL_isReel 470 = .ok (.iload 12, 2) := by decide +kernel
theorem dL_isReel_472 : decode cL_isReel 472 = .ok (.ineg, 1) := by decide +kernel
theorem dL_isReel_473 : decode cL_isReel 473 = .ok (.goto 5, 3) := by decide +kernel
theorem dL_isReel_476 : decode cL_isReel 476 = .ok (.iload 12, 2) := by decide +kernel
theorem dL_isReel_478 : decode cL_isReel 478 = .ok (.imul, 1) := by decide +kernel
theorem dL_isReel_479 : decode cL_isReel 479 = .ok (.aload 5, 2) := by decide +kernel
theorem dL_isReel_481 : decode cL_isReel 481 = .ok (.aload 6, 2) := by decide +kernel
theorem dL_isReel_483 : decode cL_isReel 483 = .ok (.invokestatic 116, 3) := by decide +kernel
theorem dL_isReel_486 : decode cL_isReel 486 = .ok (.if_icmp .gt 7, 3) := by decide +kernel
theorem dL_isReel_489 : decode cL_isReel 489 = .ok (.iconst 1, 1) := by decide +kernel
theorem dL_isReel_490 : decode cL_isReel 490 = .ok (.goto 4, 3) := by decide +kernel
theorem dL_isReel_493 : decode cL_isReel 493 = .ok (.iconst 0, 1) := by decide +kernel
theorem dL_isReel_494 : decode cL_isReel 494 = .ok (.istore 13, 2) := by decide +kernel
theorem dL_isReel_496 : decode cL_isReel 496 = .ok (.aload 6, 2) := by decide +kernel
theorem dL_isReel_498 : decode cL_isReel 498 = .ok (.bipush 6, 2) := by decide +kernel
theorem dL_isReel_500 : decode cL_isReel 500 = .ok (.dup2, 1) := by decide +kernel
theorem dL_isReel_501 : decode cL_isReel 501 = .ok (.iaload, 1) := by decide +kernel
theorem dL_isReel_502 : decode cL_isReel 502 = .ok (.iload 11, 2) := by decide +kernel
theorem dL_isReel_504 : decode cL_isReel 504 = .ok (.ifCond .eq 7, 3) := by decide +kernel
theorem dL_isReel_507 : decode cL_isReel 507 = .ok (.iconst 1, 1) := by decide +kernel
theorem dL_isReel_508 : decode cL_isReel 508 = .ok (.goto 4, 3) := by decide +kernel
theorem dL_isReel_511 : decode cL_isReel 511 = .ok (.iconst 0, 1) := by decide +kernel
theorem dL_isReel_512 : decode cL_isReel 512 = .ok (.iadd, 1) := by decide +kernel
theorem dL_isReel_513 : decode cL_isReel 513 = .ok (.iastore, 1) := by decide +kernel
theorem dL_isReel_514 : decode cL_isReel 514 = .ok (.iload 11, 2) := by decide +kernel
theorem dL_isReel_516 : decode cL_isReel 516 = .ok (.ifCond .eq 30, 3) := by decide +kernel
theorem dL_isReel_519 : decode cL_isReel 519 = .ok (.iload 13, 2) := by decide +kernel
theorem dL_isReel_521 : decode cL_isReel 521 = .ok (.ifCond .eq 25, 3) := by decide +kernel
theorem dL_isReel_524 : decode cL_isReel 524 = .ok (.aload 5, 2) := by decide +kernel
theorem dL_isReel_526 : decode cL_isReel 526 = .ok (.aload 6, 2) := by decide +kernel
theorem dL_isReel_528 : decode cL_isReel 528 = .ok (.bipush 7, 2) := by decide +kernel
theorem dL_isReel_530 : decode cL_isReel 530 = .ok (.iaload, 1) := by decide +kernel
theorem dL_isReel_531 : decode cL_isReel 531 = .ok (.bipush 8, 2) := by decide +kernel
theorem dL_isReel_533 : decode cL_isReel 533 = .ok (.irem, 1) := by decide +kernel
theorem dL_isReel_534 : decode cL_isReel 534 = .ok (.iload 10, 2) := by decide +kernel
theorem dL_isReel_536 : decode cL_isReel 536 = .ok (.iastore, 1) := by decide +kernel
theorem dL_isReel_537 : decode cL_isReel 537 = .ok (.aload 6, 2) := by decide +kernel
theorem dL_isReel_539 : decode cL_isReel 539 = .ok (.bipush 7, 2) := by decide +kernel
theorem dL_isReel_541 : decode cL_isReel 541 = .ok (.dup2, 1) := by decide +kernel
theorem dL_isReel_542 : decode cL_isReel 542 = .ok (.iaload, 1) := by decide +kernel
theorem dL_isReel_543 : decode cL_isReel 543 = .ok (.iconst 1, 1) := by decide +kernel
theorem dL_isReel_544 : decode cL_isReel 544 = .ok (.iadd, 1) := by decide +kernel
theorem dL_isReel_545 : decode cL_isReel 545 = .ok (.iastore, 1) := by decide +kernel
theorem dL_isReel_546 : decode cL_isReel 546 = .ok (.aload_n 0, 1) := by decide +kernel
theorem dL_isReel_547 : decode cL_isReel 547 = .ok (.bipush 7, 2) := by decide +kernel
theorem dL_isReel_549 : decode cL_isReel 549 = .ok (.iload 10, 2) := by decide +kernel
theorem dL_isReel_551 : decode cL_isReel 551 = .ok (.iconst 0, 1) := by decide +kernel
theorem dL_isReel_552 : decode cL_isReel 552 = .ok (.iconst 0, 1) := by decide +kernel
theorem dL_isReel_553 : decode cL_isReel 553 = .ok (.iconst 0, 1) := by decide +kernel
theorem dL_isReel_554 : decode cL_isReel 554 = .ok (.iconst 0, 1) := by decide +kernel
theorem dL_isReel_555 : decode cL_isReel 555 = .ok (.invokestatic 128, 3) := by decide +kernel
theorem dL_isReel_558 : decode cL_isReel 558 = .ok (.iload 11, 2) := by decide +kernel
theorem dL_isReel_560 : decode cL_isReel 560 = .ok (.ifCond .ne 8, 3) := by decide +kernel
theorem dL_isReel_563 : decode cL_isReel 563 = .ok (.ldc 96, 2) := by decide +kernel
theorem dL_isReel_565 : decode cL_isReel 565 = .ok (.goto 13, 3) := by decide +kernel
theorem dL_isReel_568 : decode cL_isReel 568 = .ok (.iload 13, 2) := by decide +kernel
theorem dL_isReel_570 : decode cL_isReel 570 = .ok (.ifCond .eq 7, 3) := by decide +kernel
theorem dL_isReel_573 : decode cL_isReel 573 = .ok (.iconst 1, 1) := by decide +kernel
theorem dL_isReel_574 : decode cL_isReel 574 = .ok (.goto 4, 3) := by decide +kernel
theorem dL_isReel_577 : decode cL_isReel 577 = .ok (.iconst 0, 1) := by decide +kernel
theorem dL_isReel_578 : decode cL_isReel 578 = .ok (.if_icmp .ne 7, 3) := by decide +kernel
theorem dL_isReel_581 : decode cL_isReel 581 = .ok (.iconst 1, 1) := by decide +kernel
theorem dL_isReel_582 : decode cL_isReel 582 = .ok (.goto 4, 3) := by decide +kernel
theorem dL_isReel_585 : decode cL_isReel 585 = .ok (.iconst 0, 1) := by decide +kernel
theorem dL_isReel_586 : decode cL_isReel 586 = .ok (.ireturn, 1) := by decide +kernel
theorem dL_runs_0 : decode cL_runs 0 = .ok (.aload_n 1, 1) := by decide +kernel
theorem dL_runs_1 : decode cL_runs 1 = .ok (.iload_n 3, 1) := by decide +kernel
theorem dL_runs_2 : decode cL_runs 2 = .ok (.iaload, 1) := by decide +kernel
theorem dL_runs_3 : decode cL_runs 3 = .ok (.ifCond .ge 7, 3) := by decide +kernel
theorem dL_runs_6 : decode cL_runs 6 = .ok (.iconst (-1), 1) := by decide +kernel
theorem dL_runs_7 : decode cL_runs 7 = .ok (.goto 18, 3) := by decide +kernel
theorem dL_runs_10 : decode cL_runs 10 = .ok (.aload_n 0, 1) := by decide +kernel
theorem dL_runs_11 : decode cL_runs 11 = .ok (.iload_n 3, 1) := by decide +kernel
theorem dL_runs_12 : decode cL_runs 12 = .ok (.iaload, 1) := by decide +kernel
theorem dL_runs_13 : decode cL_runs 13 = .ok (.bipush 8, 2) := by decide +kernel
theorem dL_runs_15 : decode cL_runs 15 = .ok (.idiv, 1) := by decide +kernel
theorem dL_runs_16 : decode cL_runs 16 = .ok (.aload_n 2, 1) := by decide +kernel
theorem dL_runs_17 : decode cL_runs 17 = .ok (.bipush 17, 2) := by decide +kernel
theorem dL_runs_19 : decode cL_runs 19 = .ok (.iaload, 1) := by decide +kernel
theorem dL_runs_20 : decode cL_runs 20 = .ok (.aload_n 1, 1) := by decide +kernel
theorem dL_runs_21 : decode cL_runs 21 = .ok (.iload_n 3, 1) := by decide +kernel
theorem dL_runs_22 : decode cL_runs 22 = .ok (.iaload, 1) := by decide +kernel
theorem dL_runs_23 : decode cL_runs 23 = .ok (.isub, 1) := by decide +kernel
theorem dL_runs_24 : decode cL_runs 24 = .ok (.isub, 1) := by decide +kernel
theorem dL_runs_25 : decode cL_runs 25 = .ok (.istore 4, 2) := by decide +kernel
theorem dL_runs_27 : decode cL_runs 27 = .ok (.iload 4, 2) := by decide +kernel
theorem dL_runs_29 : decode cL_runs 29 = .ok (.ifCond .ge 7, 3) := by decide +kernel
theorem dL_runs_32 : decode cL_runs 32 = .ok (.iconst (-1), 1) := by decide +kernel
theorem dL_runs_33 : decode cL_runs 33 = .ok (.goto 5, 3) := by decide +kernel
theorem dL_runs_36 : decode cL_runs 36 = .ok (.iload 4, 2) := by decide +kernel
theorem dL_runs_38 : decode cL_runs 38 = .ok (.ireturn, 1) := by decide +kernel
theorem dL_gives_0 : decode cL_gives 0 = .ok (.aload_n 0, 1) := by decide +kernel
theorem dL_gives_1 : decode cL_gives 1 = .ok (.aload_n 2, 1) := by decide +kernel
theorem dL_gives_2 : decode cL_gives 2 = .ok (.aload_n 3, 1) := by decide +kernel
theorem dL_gives_3 : decode cL_gives 3 = .ok (.iload 4, 2) := by decide +kernel
theorem dL_gives_5 : decode cL_gives 5 = .ok (.invokestatic 109, 3) := by decide +kernel
theorem dL_gives_8 : decode cL_gives 8 = .ok (.ifCond .lt 14, 3) := by decide +kernel
theorem dL_gives_11 : decode cL_gives 11 = .ok (.aload_n 1, 1) := by decide +kernel
theorem dL_gives_12 : decode cL_gives 12 = .ok (.iload 4, 2) := by decide +kernel
theorem dL_gives_14 : decode cL_gives 14 = .ok (.iaload, 1) := by decide +kernel
theorem dL_gives_15 : decode cL_gives 15 = .ok (.ifCond .le 7, 3) := by decide +kernel
theorem dL_gives_18 : decode cL_gives 18 = .ok (.iconst 1, 1) := by decide +kernel
theorem dL_gives_19 : decode cL_gives 19 = .ok (.goto 4, 3) := by decide +kernel
theorem dL_gives_22 : decode cL_gives 22 = .ok (.iconst 0, 1) := by decide +kernel
theorem dL_gives_23 : decode cL_gives 23 = .ok (.ireturn, 1) := by decide +kernel
theorem dL_soldered_0 : decode cL_soldered 0 = .ok (.iconst 2, 1) := by decide +kernel
theorem dL_soldered_1 : decode cL_soldered 1 = .ok (.istore 4, 2) := by decide +kernel
theorem dL_soldered_3 : decode cL_soldered 3 = .ok (.bipush 8, 2) := by decide +kernel
theorem dL_soldered_5 : decode cL_soldered 5 = .ok (.iload_n 3, 1) := by decide +kernel
theorem dL_soldered_6 : decode cL_soldered 6 = .ok (.imul, 1) := by decide +kernel
theorem dL_soldered_7 : decode cL_soldered 7 = .ok (.istore 5, 2) := by decide +kernel
theorem dL_soldered_9 : decode cL_soldered 9 = .ok (.iload 5, 2) := by decide +kernel
theorem dL_soldered_11 : decode cL_soldered 11 = .ok (.bipush 8, 2) := by decide +kernel
theorem dL_soldered_13 : decode cL_soldered 13 = .ok (.iload_n 3, 1) := by decide +kernel
theorem dL_soldered_14 : decode cL_soldered 14 = .ok (.imul, 1) := by decide +kernel
theorem dL_soldered_15 : decode cL_soldered 15 = .ok (.bipush 8, 2) := by decide +kernel
theorem dL_soldered_17 : decode cL_soldered 17 = .ok (.iadd, 1) := by decide +kernel
theorem dL_soldered_18 : decode cL_soldered 18 = .ok (.if_icmp .ge 29, 3) := by decide +kernel
theorem dL_soldered_21 : decode cL_soldered 21 = .ok (.iload 4, 2) := by decide +kernel
theorem dL_soldered_23 : decode cL_soldered 23 = .ok (.aload_n 2, 1) := by decide +kernel
theorem dL_soldered_24 : decode cL_soldered 24 = .ok (.iload 5, 2) := by decide +kernel
theorem dL_soldered_26 : decode cL_soldered 26 = .ok (.iaload, 1) := by decide +kernel
theorem dL_soldered_27 : decode cL_soldered 27 = .ok (.bipush 64, 2) := by decide +kernel
theorem dL_soldered_29 : decode cL_soldered 29 = .ok (.irem, 1) := by decide +kernel
theorem dL_soldered_30 : decode cL_soldered 30 = .ok (.ifCond .le 7, 3) := by decide +kernel
theorem dL_soldered_33 : decode cL_soldered 33 = .ok (.iconst 1, 1) := by decide +kernel
theorem dL_soldered_34 : decode cL_soldered 34 = .ok (.goto 4, 3) := by decide +kernel
theorem dL_soldered_37 : decode cL_soldered 37 = .ok (.iconst 0, 1) := by decide +kernel
theorem dL_soldered_38 : decode cL_soldered 38 = .ok (.iadd, 1) := by decide +kernel
theorem dL_soldered_39 : decode cL_soldered 39 = .ok (.istore 4, 2) := by decide +kernel
theorem dL_soldered_41 : decode cL_soldered 41 = .ok (.iinc 5 1, 3) := by decide +kernel
theorem dL_soldered_44 : decode cL_soldered 44 = .ok (.goto (-35), 3) := by decide +kernel
theorem dL_soldered_47 : decode cL_soldered 47 = .ok (.bipush 25, 2) := by decide +kernel
theorem dL_soldered_49 : decode cL_soldered 49 = .ok (.istore 5, 2) := by decide +kernel
theorem dL_soldered_51 : decode cL_soldered 51 = .ok (.sipush (-1000), 3) := by decide +kernel
theorem dL_soldered_54 : decode cL_soldered 54 = .ok (.istore 6, 2) := by decide +kernel
theorem dL_soldered_56 : decode cL_soldered 56 = .ok (.iconst 0, 1) := by decide +kernel
theorem dL_soldered_57 : decode cL_soldered 57 = .ok (.istore 7, 2) := by decide +kernel
theorem dL_soldered_59 : decode cL_soldered 59 = .ok (.iload 7, 2) := by decide +kernel
theorem dL_soldered_61 : decode cL_soldered 61 = .ok (.bipush 12, 2) := by decide +kernel
theorem dL_soldered_63 : decode cL_soldered 63 = .ok (.if_icmp .ge 66, 3) := by decide +kernel
theorem dL_soldered_66 : decode cL_soldered 66 = .ok (.aload_n 1, 1) := by decide +kernel
theorem dL_soldered_67 : decode cL_soldered 67 = .ok (.iload 7, 2) := by decide +kernel
theorem dL_soldered_69 : decode cL_soldered 69 = .ok (.iconst 3, 1) := by decide +kernel
theorem dL_soldered_70 : decode cL_soldered 70 = .ok (.idiv, 1) := by decide +kernel
theorem dL_soldered_71 : decode cL_soldered 71 = .ok (.iaload, 1) := by decide +kernel
theorem dL_soldered_72 : decode cL_soldered 72 = .ok (.iload 5, 2) := by decide +kernel
theorem dL_soldered_74 : decode cL_soldered 74 = .ok (.isub, 1) := by decide +kernel
theorem dL_soldered_75 : decode cL_soldered 75 = .ok (.istore 8, 2) := by decide +kernel
theorem dL_soldered_77 : decode cL_soldered 77 = .ok (.iload 5, 2) := by decide +kernel
theorem dL_soldered_79 : decode cL_soldered 79 = .ok (.iload 8, 2) := by decide +kernel
theorem dL_soldered_81 : decode cL_soldered 81 = .ok (.ifCond .ge 18, 3) := by decide +kernel
theorem dL_soldered_84 : decode cL_soldered 84 = .ok (.iload 8, 2) := by decide +kernel
theorem dL_soldered_86 : decode cL_soldered 86 = .ok (.ineg, 1) := by decide +kernel
theorem dL_soldered_87 : decode cL_soldered 87 = .ok (.iload 4, 2) := by decide +kernel
theorem dL_soldered_89 : decode cL_soldered 89 = .ok (.iadd, 1) := by decide +kernel
theorem dL_soldered_90 : decode cL_soldered 90 = .ok (.iconst 1, 1) := by decide +kernel
theorem dL_soldered_91 : decode cL_soldered 91 = .ok (.isub, 1) := by decide +kernel
theorem dL_soldered_92 : decode cL_soldered 92 = .ok (.iload 4, 2) := by decide +kernel
theorem dL_soldered_94 : decode cL_soldered 94 = .ok (.idiv, 1) := by decide +kernel
theorem dL_soldered_95 : decode cL_soldered 95 = .ok (.ineg, 1) := by decide +kernel
theorem dL_soldered_96 : decode cL_soldered 96 = .ok (.goto 8, 3) := by decide +kernel
theorem dL_soldered_99 : decode cL_soldered 99 = .ok (.iload 8, 2) := by decide +kernel
theorem dL_soldered_101 : decode cL_soldered 101 = .ok (.iload 4, 2) := by decide +kernel
theorem dL_soldered_103 : decode cL_soldered 103 = .ok (.idiv, 1) := by decide +kernel
theorem dL_soldered_104 : decode cL_soldered 104 = .ok (.iadd, 1) := by decide +kernel
theorem dL_soldered_105 : decode cL_soldered 105 = .ok (.istore 5, 2) := by decide +kernel
theorem dL_soldered_107 : decode cL_soldered 107 = .ok (.iload 5, 2) := by decide +kernel
theorem dL_soldered_109 : decode cL_soldered 109 = .ok (.iload 6, 2) := by decide +kernel
theorem dL_soldered_111 : decode cL_soldered 111 = .ok (.if_icmp .le 8, 3) := by decide +kernel
theorem dL_soldered_114 : decode cL_soldered 114 = .ok (.iload 5, 2) := by decide +kernel
theorem dL_soldered_116 : decode cL_soldered 116 = .ok (.goto 5, 3) := by decide +kernel
theorem dL_soldered_119 : decode cL_soldered 119 = .ok (.iload 6, 2) := by decide +kernel
theorem dL_soldered_121 : decode cL_soldered 121 = .ok (.istore 6, 2) := by decide +kernel
theorem dL_soldered_123 : decode cL_soldered 123 = .ok (.iinc 7 1, 3) := by decide +kernel
theorem dL_soldered_126 : decode cL_soldered 126 = .ok (.goto (-67), 3) := by decide +kernel
theorem dL_soldered_129 : decode cL_soldered 129 = .ok (.bipush 8, 2) := by decide +kernel
theorem dL_soldered_131 : decode cL_soldered 131 = .ok (.iload_n 3, 1) := by decide +kernel
theorem dL_soldered_132 : decode cL_soldered 132 = .ok (.imul, 1) := by decide +kernel
theorem dL_soldered_133 : decode cL_soldered 133 = .ok (.istore 7, 2) := by decide +kernel
theorem dL_soldered_135 : decode cL_soldered 135 = .ok (.iload 7, 2) := by decide +kernel
theorem dL_soldered_137 : decode cL_soldered 137 = .ok (.bipush 8, 2) := by decide +kernel
theorem dL_soldered_139 : decode cL_soldered 139 = .ok (.iload_n 3, 1) := by decide +kernel
theorem dL_soldered_140 : decode cL_soldered 140 = .ok (.imul, 1) := by decide +kernel
theorem dL_soldered_141 : decode cL_soldered 141 = .ok (.bipush 8, 2) := by decide +kernel
theorem dL_soldered_143 : decode cL_soldered 143 = .ok (.iadd, 1) := by decide +kernel
theorem dL_soldered_144 : decode cL_soldered 144 = .ok (.if_icmp .ge 90, 3) := by decide +kernel
theorem dL_soldered_147 : decode cL_soldered 147 = .ok (.aload_n 2, 1) := by decide +kernel
theorem dL_soldered_148 : decode cL_soldered 148 = .ok (.iload 7, 2) := by decide +kernel
theorem dL_soldered_150 : decode cL_soldered 150 = .ok (.iaload, 1) := by decide +kernel
theorem dL_soldered_151 : decode cL_soldered 151 = .ok (.bipush 64, 2) := by decide +kernel
theorem dL_soldered_153 : decode cL_soldered 153 = .ok (.irem, 1) := by decide +kernel
theorem dL_soldered_154 : decode cL_soldered 154 = .ok (.ifCond .le 74, 3) := by decide +kernel
theorem dL_soldered_157 : decode cL_soldered 157 = .ok (.aload_n 0, 1) := by decide +kernel
theorem dL_soldered_158 : decode cL_soldered 158 = .ok (.aload_n 2, 1) := by decide +kernel
theorem dL_soldered_159 : decode cL_soldered 159 = .ok (.iload 7, 2) := by decide +kernel
theorem dL_soldered_161 : decode cL_soldered 161 = .ok (.iaload, 1) := by decide +kernel
theorem dL_soldered_162 : decode cL_soldered 162 = .ok (.bipush 64, 2) := by decide +kernel
theorem dL_soldered_164 : decode cL_soldered 164 = .ok (.irem, 1) := by decide +kernel
theorem dL_soldered_165 : decode cL_soldered 165 = .ok (.iconst 1, 1) := by decide +kernel
theorem dL_soldered_166 : decode cL_soldered 166 = .ok (.isub, 1) := by decide +kernel
theorem dL_soldered_167 : decode cL_soldered 167 = .ok (.iaload, 1) := by decide +kernel
theorem dL_soldered_168 : decode cL_soldered 168 = .ok (.bipush 8, 2) := by decide +kernel
theorem dL_soldered_170 : decode cL_soldered 170 = .ok (.irem, 1) := by decide +kernel
theorem dL_soldered_171 : decode cL_soldered 171 = .ok (.istore 8, 2) := by decide +kernel
theorem dL_soldered_173 : decode cL_soldered 173 = .ok (.aload_n 1, 1) := by decide +kernel
theorem dL_soldered_174 : decode cL_soldered 174 = .ok (.iconst 4, 1) := by decide +kernel
theorem dL_soldered_175 : decode cL_soldered 175 = .ok (.iload 8, 2) := by decide +kernel
theorem dL_soldered_177 : decode cL_soldered 177 = .ok (.iadd, 1) := by decide +kernel
theorem dL_soldered_178 : decode cL_soldered 178 = .ok (.iaload, 1) := by decide +kernel
theorem dL_soldered_179 : decode cL_soldered 179 = .ok (.iload 6, 2) := by decide +kernel
theorem dL_soldered_181 : decode cL_soldered 181 = .ok (.if_icmp .le 7, 3) := by decide +kernel
theorem dL_soldered_184 : decode cL_soldered 184 = .ok (.iconst 1, 1) := by decide +kernel
theorem dL_soldered_185 : decode cL_soldered 185 = .ok (.goto 20, 3) := by decide +kernel
theorem dL_soldered_188 : decode cL_soldered 188 = .ok (.aload_n 1, 1) := by decide +kernel
theorem dL_soldered_189 : decode cL_soldered 189 = .ok (.bipush 10, 2) := by decide +kernel
theorem dL_soldered_191 : decode cL_soldered 191 = .ok (.iload 8, 2) := by decide +kernel
theorem dL_soldered_193 : decode cL_soldered 193 = .ok (.iadd, 1) := by decide +kernel
theorem dL_soldered_194 : decode cL_soldered 194 = .ok (.iaload, 1) := by decide +kernel
theorem dL_soldered_195 : decode cL_soldered 195 = .ok (.iload 6, 2) := by decide +kernel
theorem dL_soldered_197 : decode cL_soldered 197 = .ok (.if_icmp .ge 7, 3) := by decide +kernel
theorem dL_soldered_200 : decode cL_soldered 200 = .ok (.iconst 2, 1) := by decide +kernel
theorem dL_soldered_201 : decode cL_soldered 201 = .ok (.goto 4, 3) := by decide +kernel
theorem dL_soldered_204 : decode cL_soldered 204 = .ok (.iconst 0, 1) := by decide +kernel
theorem dL_soldered_205 : decode cL_soldered 205 = .ok (.istore 9, 2) := by decide +kernel
theorem dL_soldered_207 : decode cL_soldered 207 = .ok (.aload_n 2, 1) := by decide +kernel
theorem dL_soldered_208 : decode cL_soldered 208 = .ok (.iload 7, 2) := by decide +kernel
theorem dL_soldered_210 : decode cL_soldered 210 = .ok (.dup2, 1) := by decide +kernel
theorem dL_soldered_211 : decode cL_soldered 211 = .ok (.iaload, 1) := by decide +kernel
theorem dL_soldered_212 : decode cL_soldered 212 = .ok (.bipush 64, 2) := by decide +kernel
theorem dL_soldered_214 : decode cL_soldered 214 = .ok (.iload 9, 2) := by decide +kernel
theorem dL_soldered_216 : decode cL_soldered 216 = .ok (.imul, 1) := by decide +kernel
theorem dL_soldered_217 : decode cL_soldered 217 = .ok (.sipush 2048, 3) := by decide +kernel
theorem dL_soldered_220 : decode cL_soldered 220 = .ok (.iload 9, 2) := by decide +kernel
theorem dL_soldered_222 : decode cL_soldered 222 = .ok (.iconst 1, 1) := by decide +kernel
theorem dL_soldered_223 : decode cL_soldered 223 = .ok (.iadd, 1) := by decide +kernel
theorem dL_soldered_224 : decode cL_soldered 224 = .ok (.imul, 1) := by decide +kernel
theorem dL_soldered_225 : decode cL_soldered 225 = .ok (.iadd, 1) := by decide +kernel
theorem dL_soldered_226 : decode cL_soldered 226 = .ok (.iadd, 1) := by decide +kernel
theorem dL_soldered_227 : decode cL_soldered 227 = .ok (.iastore, 1) := by decide +kernel
theorem dL_soldered_228 : decode cL_soldered 228 = .ok (.iinc 7 1, 3) := by decide +kernel
theorem dL_soldered_231 : decode cL_soldered 231 = .ok (.goto (-96), 3) := by decide +kernel
theorem dL_soldered_234 : decode cL_soldered 234 = .ok (.iload 6, 2) := by decide +kernel
theorem dL_soldered_236 : decode cL_soldered 236 = .ok (.ireturn, 1) := by decide +kernel
theorem dL_faults_0 : decode cL_faults 0 = .ok (.iconst 0, 1) := by decide +kernel
theorem dL_faults_1 : decode cL_faults 1 = .ok (.istore_n 3, 1) := by decide +kernel
theorem dL_faults_2 : decode cL_faults 2 = .ok (.bipush 8, 2) := by decide +kernel
theorem dL_faults_4 : decode cL_faults 4 = .ok (.iload_n 1, 1) := by decide +kernel
theorem dL_faults_5 : decode cL_faults 5 = .ok (.imul, 1) := by decide +kernel
theorem dL_faults_6 : decode cL_faults 6 = .ok (.istore 4, 2) := by decide +kernel
theorem dL_faults_8 : decode cL_faults 8 = .ok (.iload 4, 2) := by decide +kernel
theorem dL_faults_10 : decode cL_faults 10 = .ok (.bipush 8, 2) := by decide +kernel
theorem dL_faults_12 : decode cL_faults 12 = .ok (.iload_n 1, 1) := by decide +kernel
theorem dL_faults_13 : decode cL_faults 13 = .ok (.imul, 1) := by decide +kernel
theorem dL_faults_14 : decode cL_faults 14 = .ok (.bipush 8, 2) := by decide +kernel
theorem dL_faults_16 : decode cL_faults 16 = .ok (.iadd, 1) := by decide +kernel
theorem dL_faults_17 : decode cL_faults 17 = .ok (.if_icmp .ge 46, 3) := by decide +kernel
theorem dL_faults_20 : decode cL_faults 20 = .ok (.aload_n 0, 1) := by decide +kernel
theorem dL_faults_21 : decode cL_faults 21 = .ok (.iload 4, 2) := by decide +kernel
theorem dL_faults_23 : decode cL_faults 23 = .ok (.iaload, 1) := by decide +kernel
theorem dL_faults_24 : decode cL_faults 24 = .ok (.bipush 64, 2) := by decide +kernel
theorem dL_faults_26 : decode cL_faults 26 = .ok (.idiv, 1) := by decide +kernel
theorem dL_faults_27 : decode cL_faults 27 = .ok (.bipush 32, 2) := by decide +kernel
theorem dL_faults_29 : decode cL_faults 29 = .ok (.irem, 1) := by decide +kernel
theorem dL_faults_30 : decode cL_faults 30 = .ok (.istore 5, 2) := by decide +kernel
theorem dL_faults_32 : decode cL_faults 32 = .ok (.iload_n 3, 1) := by decide +kernel
theorem dL_faults_33 : decode cL_faults 33 = .ok (.iload 5, 2) := by decide +kernel
theorem dL_faults_35 : decode cL_faults 35 = .ok (.iconst 4, 1) := by decide +kernel
theorem dL_faults_36 : decode cL_faults 36 = .ok (.irem, 1) := by decide +kernel
theorem dL_faults_37 : decode cL_faults 37 = .ok (.ifCond .le 17, 3) := by decide +kernel
theorem dL_faults_40 : decode cL_faults 40 = .ok (.iload 5, 2) := by decide +kernel
theorem dL_faults_42 : decode cL_faults 42 = .ok (.iconst 4, 1) := by decide +kernel
theorem dL_faults_43 : decode cL_faults 43 = .ok (.idiv, 1) := by decide +kernel
theorem dL_faults_44 : decode cL_faults 44 = .ok (.iconst 2, 1) := by decide +kernel
theorem dL_faults_45 : decode cL_faults 45 = .ok (.irem, 1) := by decide +kernel
theorem dL_faults_46 : decode cL_faults 46 = .ok (.iload_n 2, 1) := by decide +kernel
theorem dL_faults_47 : decode cL_faults 47 = .ok (.if_icmp .ne 7, 3) := by decide +kernel
theorem dL_faults_50 : decode cL_faults 50 = .ok (.iconst 1, 1) := by decide +kernel
theorem dL_faults_51 : decode cL_faults 51 = .ok (.goto 4, 3) := by decide +kernel
theorem dL_faults_54 : decode cL_faults 54 = .ok (.iconst 0, 1) := by decide +kernel
theorem dL_faults_55 : decode cL_faults 55 = .ok (.iadd, 1) := by decide +kernel
theorem dL_faults_56 : decode cL_faults 56 = .ok (.istore_n 3, 1) := by decide +kernel
theorem dL_faults_57 : decode cL_faults 57 = .ok (.iinc 4 1, 3) := by decide +kernel
theorem dL_faults_60 : decode cL_faults 60 = .ok (.goto (-52), 3) := by decide +kernel
theorem dL_faults_63 : decode cL_faults 63 = .ok (.iload_n 3, 1) := by decide +kernel
theorem dL_faults_64 : decode cL_faults 64 = .ok (.ireturn, 1) := by decide +kernel
theorem dL_isBoard_0 : decode cL_isBoard 0 = .ok (.iload 9, 2) := by decide +kernel
theorem dL_isBoard_2 : decode cL_isBoard 2 = .ok (.ifCond .ne 45, 3) := by decide +kernel
theorem dL_isBoard_5 : decode cL_isBoard 5 = .ok (.aload 8, 2) := by decide +kernel
theorem dL_isBoard_7 : decode cL_isBoard 7 = .ok (.iconst 5, 1) := by decide +kernel
theorem dL_isBoard_8 : decode cL_isBoard 8 = .ok (.iaload, 1) := by decide +kernel
theorem dL_isBoard_9 : decode cL_isBoard 9 = .ok (.iconst 4, 1) := by decide +kernel
theorem dL_isBoard_10 : decode cL_isBoard 10 = .ok (.if_icmp .ge 37, 3) := by decide +kernel
theorem dL_isBoard_13 : decode cL_isBoard 13 = .ok (.aload 8, 2) := by decide +kernel
theorem dL_isBoard_15 : decode cL_isBoard 15 = .ok (.iconst 5, 1) := by decide +kernel
theorem dL_isBoard_16 : decode cL_isBoard 16 = .ok (.dup2, 1) := by decide +kernel
theorem dL_isBoard_17 : decode cL_isBoard 17 = .ok (.iaload, 1) := by decide +kernel
theorem dL_isBoard_18 : decode cL_isBoard 18 = .ok (.iconst 1, 1) := by decide +kernel
theorem dL_isBoard_19 : decode cL_isBoard 19 = .ok (.iadd, 1) := by decide +kernel
theorem dL_isBoard_20 : decode cL_isBoard 20 = .ok (.iastore, 1) := by decide +kernel
theorem dL_isBoard_21 : decode cL_isBoard 21 = .ok (.aload_n 0, 1) := by decide +kernel
theorem dL_isBoard_22 : decode cL_isBoard 22 = .ok (.bipush 11, 2) := by decide +kernel
theorem dL_isBoard_24 : decode cL_isBoard 24 = .ok (.iconst 0, 1) := by decide +kernel
theorem dL_isBoard_25 : decode cL_isBoard 25 = .ok (.iconst 0, 1) := by decide +kernel
theorem dL_isBoard_26 : decode cL_isBoard 26 = .ok (.iconst 0, 1) := by decide +kernel
theorem dL_isBoard_27 : decode cL_isBoard 27 = .ok (.iconst 0, 1) := by decide +kernel
theorem dL_isBoard_28 : decode cL_isBoard 28 = .ok (.iconst 0, 1) := by decide +kernel
theorem dL_isBoard_29 : decode cL_isBoard 29 = .ok (.invokestatic 128, 3) := by decide +kernel
theorem dL_isBoard_32 : decode cL_isBoard 32 = .ok (.aload 8, 2) := by decide +kernel
theorem dL_isBoard_34 : decode cL_isBoard 34 = .ok (.iconst 5, 1) := by decide +kernel
theorem dL_isBoard_35 : decode cL_isBoard 35 = .ok (.iaload, 1) := by decide +kernel
theorem dL_isBoard_36 : decode cL_isBoard 36 = .ok (.iconst 1, 1) := by decide +kernel
theorem dL_isBoard_37 : decode cL_isBoard 37 = .ok (.isub, 1) := by decide +kernel
theorem dL_isBoard_38 : decode cL_isBoard 38 = .ok (.if_icmp .ne 7, 3) := by decide +kernel
theorem dL_isBoard_41 : decode cL_isBoard 41 = .ok (.iconst 1, 1) := by decide +kernel
theorem dL_isBoard_42 : decode cL_isBoard 42 = .ok (.goto 4, 3) := by decide +kernel
theorem dL_isBoard_45 : decode cL_isBoard 45 = .ok (.iconst 0, 1) := by decide +kernel
theorem dL_isBoard_46 : decode cL_isBoard 46 = .ok (.ireturn, 1) := by decide +kernel
theorem dL_isBoard_47 : decode cL_isBoard 47 = .ok (.iload 10, 2) := by decide +kernel
theorem dL_isBoard_49 : decode cL_isBoard 49 = .ok (.aload 8, 2) := by decide +kernel
theorem dL_isBoard_51 : decode cL_isBoard 51 = .ok (.iconst 5, 1) := by decide +kernel
theorem dL_isBoard_52 : decode cL_isBoard 52 = .ok (.iaload, 1) := by decide +kernel
theorem dL_isBoard_53 : decode cL_isBoard 53 = .ok (.iconst 1, 1) := by decide +kernel
theorem dL_isBoard_54 : decode cL_isBoard 54 = .ok (.iadd, 1) := by decide +kernel
theorem dL_isBoard_55 : decode cL_isBoard 55 = .ok (.irem, 1) := by decide +kernel
theorem dL_isBoard_56 : decode cL_isBoard 56 = .ok (.istore 12, 2) := by decide +kernel
theorem dL_isBoard_58 : decode cL_isBoard 58 = .ok (.iload 11, 2) := by decide +kernel
theorem dL_isBoard_60 : decode cL_isBoard 60 = .ok (.bipush 9, 2) := by decide +kernel
theorem dL_isBoard_62 : decode cL_isBoard 62 = .ok (.irem, 1) := by decide +kernel
theorem dL_isBoard_63 : decode cL_isBoard 63 = .ok (.bipush 8, 2) := by decide +kernel
theorem dL_isBoard_65 : decode cL_isBoard 65 = .ok (.if_icmp .ne 8, 3) := by decide +kernel
theorem dL_isBoard_68 : decode cL_isBoard 68 = .ok (.bipush 8, 2) := by decide +kernel
theorem dL_isBoard_70 : decode cL_isBoard 70 = .ok (.goto 7, 3) := by decide +kernel
theorem dL_isBoard_73 : decode cL_isBoard 73 = .ok (.iload 11, 2) := by decide +kernel
theorem dL_isBoard_75 : decode cL_isBoard 75 = .ok (.iconst 4, 1) := by decide +kernel
theorem dL_isBoard_76 : decode cL_isBoard 76 = .ok (.irem, 1) := by decide +kernel
theorem dL_isBoard_77 : decode cL_isBoard 77 = .ok (.istore 13, 2) := by decide +kernel
theorem dL_isBoard_79 : decode cL_isBoard 79 = .ok (.iload 11, 2) := by decide +kernel
theorem dL_isBoard_81 : decode cL_isBoard 81 = .ok (.bipush 9, 2) := by decide +kernel
theorem dL_isBoard_83 : decode cL_isBoard 83 = .ok (.idiv, 1) := by decide +kernel
theorem dL_isBoard_84 : decode cL_isBoard 84 = .ok (.aload 8, 2) := by decide +kernel
theorem dL_isBoard_86 : decode cL_isBoard 86 = .ok (.iconst 4, 1) := by decide +kernel
theorem dL_isBoard_87 : decode cL_isBoard 87 = .ok (.iaload, 1) := by decide +kernel
theorem dL_isBoard_88 : decode cL_isBoard 88 = .ok (.iconst 1, 1) := by decide +kernel
theorem dL_isBoard_89 : decode cL_isBoard 89 = .ok (.iadd, 1) := by decide +kernel
theorem dL_isBoard_90 : decode cL_isBoard 90 = .ok (.irem, 1) := by decide +kernel
theorem dL_isBoard_91 : decode cL_isBoard 91 = .ok (.istore 14, 2) := by decide +kernel
theorem dL_isBoard_93 : decode cL_isBoard 93 = .ok (.iload 12, 2) := by decide +kernel
theorem dL_isBoard_95 : decode cL_isBoard 95 = .ok (.aload 8, 2) := by decide +kernel
theorem dL_isBoard_97 : decode cL_isBoard 97 = .ok (.iconst 5, 1) := by decide +kernel
theorem dL_isBoard_98 : decode cL_isBoard 98 = .ok (.iaload, 1) := by decide +kernel
theorem dL_isBoard_99 : decode cL_isBoard 99 = .ok (.if_icmp .ge 7, 3) := by decide +kernel
theorem dL_isBoard_102 : decode cL_isBoard 102 = .ok (.iconst 1, 1) := by decide +kernel
theorem dL_isBoard_103 : decode cL_isBoard 103 = .ok (.goto 4, 3) := by decide +kernel
theorem dL_isBoard_106 : decode cL_isBoard 106 = .ok (.iconst 0, 1) := by decide +kernel
theorem dL_isBoard_107 : decode cL_isBoard 107 = .ok (.istore 15, 2) := by decide +kernel
theorem dL_isBoard_109 : decode cL_isBoard 109 = .ok (.iload 15, 2) := by decide +kernel
theorem dL_isBoard_111 : decode cL_isBoard 111 = .ok (.ifCond .eq 14, 3) := by decide +kernel
theorem dL_isBoard_114 : decode cL_isBoard 114 = .ok (.iload 13, 2) := by decide +kernel
theorem dL_isBoard_116 : decode cL_isBoard 116 = .ok (.bipush 8, 2) := by decide +kernel
theorem dL_isBoard_118 : decode cL_isBoard 118 = .ok (.if_icmp .ge 7, 3) := by decide +kernel
theorem dL_isBoard_121 : decode cL_isBoard 121 = .ok (.iconst 1, 1) := by decide +kernel
theorem dL_isBoard_122 : decode cL_isBoard 122 = .ok (.goto 4, 3) := by decide +kernel
theorem dL_isBoard_125 : decode cL_isBoard 125 = .ok (.iconst 0, 1) := by decide +kernel
theorem dL_isBoard_126 : decode cL_isBoard 126 = .ok (.istore 16, 2) := by decide +kernel
theorem dL_isBoard_128 : decode cL_isBoard 128 = .ok (.iload 16, 2) := by decide +kernel
theorem dL_isBoard_130 : decode cL_isBoard 130 = .ok (.ifCond .eq 16, 3) := by decide +kernel
theorem dL_isBoard_133 : decode cL_isBoard 133 = .ok (.iload 14, 2) := by decide +kernel
theorem dL_isBoard_135 : decode cL_isBoard 135 = .ok (.aload 8, 2) := by decide +kernel
theorem dL_isBoard_137 : decode cL_isBoard 137 = .ok (.iconst 4, 1) := by decide +kernel
theorem dL_isBoard_138 : decode cL_isBoard 138 = .ok (.iaload, 1) := by decide +kernel
theorem dL_isBoard_139 : decode cL_isBoard 139 = .ok (.if_icmp .ge 7, 3) := by decide +kernel
theorem dL_isBoard_142 : decode cL_isBoard 142 = .ok (.iconst 1, 1) := by decide +kernel
theorem dL_isBoard_143 : decode cL_isBoard 143 = .ok (.goto 4, 3) := by decide +kernel
theorem dL_isBoard_146 : decode cL_isBoard 146 = .ok (.iconst 0, 1) := by decide +kernel
theorem dL_isBoard_147 : decode cL_isBoard 147 = .ok (.istore 17, 2) := by decide +kernel
theorem dL_isBoard_149 : decode cL_isBoard 149 = .ok (.iload 16, 2) := by decide +kernel
theorem dL_isBoard_151 : decode cL_isBoard 151 = .ok (.ifCond .eq 14, 3) := by decide +kernel
theorem dL_isBoard_154 : decode cL_isBoard 154 = .ok (.bipush 8, 2) := by decide +kernel
theorem dL_isBoard_156 : decode cL_isBoard 156 = .ok (.iload 12, 2) := by decide +kernel
theorem dL_isBoard_158 : decode cL_isBoard 158 = .ok (.imul, 1) := by decide +kernel
theorem dL_isBoard_159 : decode cL_isBoard 159 = .ok (.iload 13, 2) := by decide +kernel
theorem dL_isBoard_161 : decode cL_isBoard 161 = .ok (.iadd, 1) := by decide +kernel
theorem dL_isBoard_162 : decode cL_isBoard 162 = .ok (.goto 4, 3) := by decide +kernel
theorem dL_isBoard_165 : decode cL_isBoard 165 = .ok (.iconst 0, 1) := by decide +kernel
theorem dL_isBoard_166 : decode cL_isBoard 166 = .ok (.istore 18, 2) := by decide +kernel
theorem dL_isBoard_168 : decode cL_isBoard 168 = .ok (.iload 9, 2) := by decide +kernel
theorem dL_isBoard_170 : decode cL_isBoard 170 = .ok (.iconst 2, 1) := by decide +kernel
theorem dL_isBoard_171 : decode cL_isBoard 171 = .ok (.if_icmp .ge 123, 3) := by decide +kernel
theorem dL_isBoard_174 : decode cL_isBoard 174 = .ok (.iload 17, 2) := by decide +kernel
theorem dL_isBoard_176 : decode cL_isBoard 176 = .ok (.ifCond .eq 36, 3) := by decide +kernel
theorem dL_isBoard_179 : decode cL_isBoard 179 = .ok (.aload 7, 2) := by decide +kernel
theorem dL_isBoard_181 : decode cL_isBoard 181 = .ok (.iload 12, 2) := by decide +kernel
theorem dL_isBoard_183 : decode cL_isBoard 183 = .ok (.iaload, 1) := by decide +kernel
theorem dL_isBoard_184 : decode cL_isBoard 184 = .ok (.ifCond .ne 28, 3) := by decide +kernel
theorem dL_isBoard_187 : decode cL_isBoard 187 = .ok (.aload 5, 2) := by decide +kernel
theorem dL_isBoard_189 : decode cL_isBoard 189 = .ok (.iload 18, 2) := by decide +kernel
theorem dL_isBoard_191 : decode cL_isBoard 191 = .ok (.iaload, 1) := by decide +kernel
theorem dL_isBoard_192 : decode cL_isBoard 192 = .ok (.ifCond .ne 20, 3) := by decide +kernel
theorem dL_isBoard_195 : decode cL_isBoard 195 = .ok (.aload_n 1, 1) := by decide +kernel
theorem dL_isBoard_196 : decode cL_isBoard 196 = .ok (.aload_n 2, 1) := by decide +kernel
theorem dL_isBoard_197 : decode cL_isBoard 197 = .ok (.aload_n 3, 1) := by decide +kernel
theorem dL_isBoard_198 : decode cL_isBoard 198 = .ok (.aload 4, 2) := by decide +kernel
theorem dL_isBoard_200 : decode cL_isBoard 200 = .ok (.iload 14, 2) := by decide +kernel
theorem dL_isBoard_202 : decode cL_isBoard 202 = .ok (.invokestatic 139, 3) := by decide +kernel
theorem dL_isBoard_205 : decode cL_isBoard 205 = .ok (.ifCond .eq 7, 3) := by decide +kernel
theorem dL_isBoard_208 : decode cL_isBoard 208 = .ok (.iconst 1, 1) := by decide +kernel
theorem dL_isBoard_209 : decode cL_isBoard 209 = .ok (.goto 4, 3) := by decide +kernel
theorem dL_isBoard_212 : decode cL_isBoard 212 = .ok (.iconst 0, 1) := by decide +kernel
theorem dL_isBoard_213 : decode cL_isBoard 213 = .ok (.istore 19, 2) := by decide +kernel
theorem dL_isBoard_215 : decode cL_isBoard 215 = .ok (.iload 19, 2) := by decide +kernel
theorem dL_isBoard_217 : decode cL_isBoard 217 = .ok (.ifCond .eq 30, 3) := by decide +kernel
theorem dL_isBoard_220 : decode cL_isBoard 220 = .ok (.aload 5, 2) := by decide +kernel
theorem dL_isBoard_222 : decode cL_isBoard 222 = .ok (.iload 18, 2) := by decide +kernel
theorem dL_isBoard_224 : decode cL_isBoard 224 = .ok (.iload 14, 2) := by decide +kernel
theorem dL_isBoard_226 : decode cL_isBoard 226 = .ok (.iconst 1, 1) := by decide +kernel
theorem dL_isBoard_227 : decode cL_isBoard 227 = .ok (.iadd, 1) := by decide +kernel
theorem dL_isBoard_228 : decode cL_isBoard 228 = .ok (.iastore, 1) := by decide +kernel
theorem dL_isBoard_229 : decode cL_isBoard 229 = .ok (.aload 6, 2) := by decide +kernel
theorem dL_isBoard_231 : decode cL_isBoard 231 = .ok (.iload 18, 2) := by decide +kernel
theorem dL_isBoard_233 : decode cL_isBoard 233 = .ok (.aload 4, 2) := by decide +kernel
theorem dL_isBoard_235 : decode cL_isBoard 235 = .ok (.bipush 17, 2) := by decide +kernel
theorem dL_isBoard_237 : decode cL_isBoard 237 = .ok (.iaload, 1) := by decide +kernel
theorem dL_isBoard_238 : decode cL_isBoard 238 = .ok (.iastore, 1) := by decide +kernel
theorem dL_isBoard_239 : decode cL_isBoard 239 = .ok (.aload_n 2, 1) := by decide +kernel
theorem dL_isBoard_240 : decode cL_isBoard 240 = .ok (.iload 14, 2) := by decide +kernel
theorem dL_isBoard_242 : decode cL_isBoard 242 = .ok (.dup2, 1) := by decide +kernel
theorem dL_isBoard_243 : decode cL_isBoard 243 = .ok (.iaload, 1) := by decide +kernel
theorem dL_isBoard_244 : decode cL_isBoard 244 = .ok (.iconst 1, 1) := by decide +kernel
theorem dL_isBoard_245 : decode cL_isBoard 245 = .ok (.isub, 1) := by decide +kernel
theorem dL_isBoard_246 : decode cL_isBoard 246 = .ok (.iastore, 1) := by decide +kernel
theorem dL_isBoard_247 : decode cL_isBoard 247 = .ok (.aload_n 0, 1) := by decide +kernel
theorem dL_isBoard_248 : decode cL_isBoard 248 = .ok (.bipush 12, 2) := by decide +kernel
theorem dL_isBoard_250 : decode cL_isBoard 250 = .ok (.iload 12, 2) := by decide +kernel
theorem dL_isBoard_252 : decode cL_isBoard 252 = .ok (.iload 13, 2) := by decide +kernel
theorem dL_isBoard_254 : decode cL_isBoard 254 = .ok (.iload 14, 2) := by decide +kernel
theorem dL_isBoard_256 : decode cL_isBoard 256 = .ok (.iconst 0, 1) := by decide +kernel
theorem dL_isBoard_257 : decode cL_isBoard 257 = .ok (.iconst 0, 1) := by decide +kernel
theorem dL_isBoard_258 : decode cL_isBoard 258 = .ok (.invokestatic 128, 3) := by decide +kernel
theorem dL_isBoard_261 : decode cL_isBoard 261 = .ok (.iload 17, 2) := by decide +kernel
theorem dL_isBoard_263 : decode cL_isBoard 263 = .ok (.ifCond .ne 8, 3) := by decide +kernel
theorem dL_isBoard_266 : decode cL_isBoard 266 = .ok (.ldc 93, 2) := by decide +kernel
theorem dL_isBoard_268 : decode cL_isBoard 268 = .ok (.goto 17, 3) := by decide +kernel
theorem dL_isBoard_271 : decode cL_isBoard 271 = .ok (.iload 19, 2) := by decide +kernel
theorem dL_isBoard_273 : decode cL_isBoard 273 = .ok (.ifCond .eq 10, 3) := by decide +kernel
theorem dL_isBoard_276 : decode cL_isBoard 276 = .ok (.aload_n 2, 1) := by decide +kernel
theorem dL_isBoard_277 : decode cL_isBoard 277 = .ok (.iload 14, 2) := by decide +kernel
theorem dL_isBoard_279 : decode cL_isBoard 279 = .ok (.iaload, 1) := by decide +kernel
theorem dL_isBoard_280 : decode cL_isBoard 280 = .ok (.goto 5, 3) := by decide +kernel
theorem dL_isBoard_283 : decode cL_isBoard 283 = .ok (.ldc 99, 2) := by decide +kernel
theorem dL_isBoard_285 : decode cL_isBoard 285 = .ok (.if_icmp .ne 7, 3) := by decide +kernel
theorem dL_isBoard_288 : decode cL_isBoard 288 = .ok (.iconst 1, 1) := by decide +kernel
theorem dL_isBoard_289 : decode cL_isBoard 289 = .ok (.goto 4, 3) := by decide +kernel
theorem dL_isBoard_292 : decode cL_isBoard 292 = .ok (.iconst 0, 1) := by decide +kernel
theorem dL_isBoard_293 : decode cL_isBoard 293 = .ok (.ireturn, 1) := by decide +kernel
theorem dL_isBoard_294 : decode cL_isBoard 294 = .ok (.iload 9, 2) := by decide +kernel
theorem dL_isBoard_296 : decode cL_isBoard 296 = .ok (.iconst 2, 1) := by decide +kernel
theorem dL_isBoard_297 : decode cL_isBoard 297 = .ok (.if_icmp .ne 102, 3) := by decide +kernel
theorem dL_isBoard_300 : decode cL_isBoard 300 = .ok (.iload 15, 2) := by decide +kernel
theorem dL_isBoard_302 : decode cL_isBoard 302 = .ok (.ifCond .eq 15, 3) := by decide +kernel
theorem dL_isBoard_305 : decode cL_isBoard 305 = .ok (.aload 7, 2) := by decide +kernel
theorem dL_isBoard_307 : decode cL_isBoard 307 = .ok (.iload 12, 2) := by decide +kernel
theorem dL_isBoard_309 : decode cL_isBoard 309 = .ok (.iaload, 1) := by decide +kernel
theorem dL_isBoard_310 : decode cL_isBoard 310 = .ok (.ifCond .ne 7, 3) := by decide +kernel
theorem dL_isBoard_313 : decode cL_isBoard 313 = .ok (.iconst 1, 1) := by decide +kernel
theorem dL_isBoard_314 : decode cL_isBoard 314 = .ok (.goto 4, 3) := by decide +kernel
theorem dL_isBoard_317 : decode cL_isBoard 317 = .ok (.iconst 0, 1) := by decide +kernel
theorem dL_isBoard_318 : decode cL_isBoard 318 = .ok (.istore 19, 2) := by decide +kernel
theorem dL_isBoard_320 : decode cL_isBoard 320 = .ok (.iload 19, 2) := by decide +kernel
theorem dL_isBoard_322 : decode cL_isBoard 322 = .ok (.ifCond .eq 16, 3) := by decide +kernel
theorem dL_isBoard_325 : decode cL_isBoard 325 = .ok (.aload_n 1, 1) := by decide +kernel
theorem dL_isBoard_326 : decode cL_isBoard 326 = .ok (.aload 4, 2) := by decide +kernel
theorem dL_isBoard_328 : decode cL_isBoard 328 = .ok (.aload 5, 2) := by decide +kernel
theorem dL_isBoard_330 : decode cL_isBoard 330 = .ok (.iload 12, 2) := by decide +kernel
theorem dL_isBoard_332 : decode cL_isBoard 332 = .ok (.invokestatic 143, 3) := by decide +kernel
theorem dL_isBoard_335 : decode cL_isBoard 335 = .ok (.goto 4, 3) := by decide +kernel
theorem dL_isBoard_338 : decode cL_isBoard 338 = .ok (.iconst 0, 1) := by decide +kernel
theorem dL_isBoard_339 : decode cL_isBoard 339 = .ok (.istore 20, 2) := by decide +kernel
theorem dL_isBoard_341 : decode cL_isBoard 341 = .ok (.aload 7, 2) := by decide +kernel
theorem dL_isBoard_343 : decode cL_isBoard 343 = .ok (.iload 19, 2) := by decide +kernel
theorem dL_isBoard_345 : decode cL_isBoard 345 = .ok (.ifCond .eq 8, 3) := by decide +kernel
theorem dL_isBoard_348 : decode cL_isBoard 348 = .ok (.iload 12, 2) := by decide +kernel
theorem dL_isBoard_350 : decode cL_isBoard 350 = .ok (.goto 4, 3) := by decide +kernel
theorem dL_isBoard_353 : decode cL_isBoard 353 = .ok (.iconst 4, 1) := by decide +kernel
theorem dL_isBoard_354 : decode cL_isBoard 354 = .ok (.iconst 1, 1) := by decide +kernel
theorem dL_isBoard_355 : decode cL_isBoard 355 = .ok (.iastore, 1) := by decide +kernel
theorem dL_isBoard_356 : decode cL_isBoard 356 = .ok (.aload_n 0, 1) := by decide +kernel
theorem dL_isBoard_357 : decode cL_isBoard 357 = .ok (.bipush 14, 2) := by decide +kernel
theorem dL_isBoard_359 : decode cL_isBoard 359 = .ok (.iload 12, 2) := by decide +kernel
theorem dL_isBoard_361 : decode cL_isBoard 361 = .ok (.iconst 0, 1) := by decide +kernel
theorem dL_isBoard_362 : decode cL_isBoard 362 = .ok (.iconst 0, 1) := by decide +kernel
theorem dL_isBoard_363 : decode cL_isBoard 363 = .ok (.iconst 0, 1) := by decide +kernel
theorem dL_isBoard_364 : decode cL_isBoard 364 = .ok (.iconst 0, 1) := by decide +kernel
theorem dL_isBoard_365 : decode cL_isBoard 365 = .ok (.invokestatic 128, 3) := by decide +kernel
theorem dL_isBoard_368 : decode cL_isBoard 368 = .ok (.iload 15, 2) := by decide +kernel
theorem dL_isBoard_370 : decode cL_isBoard 370 = .ok (.ifCond .ne 8, 3) := by decide +kernel
theorem dL_isBoard_373 : decode cL_isBoard 373 = .ok (.ldc 93, 2) := by decide +kernel
theorem dL_isBoard_375 : decode cL_isBoard 375 = .ok (.goto 15, 3) := by decide +kernel
theorem dL_isBoard_378 : decode cL_isBoard 378 = .ok (.iload 19, 2) := by decide +kernel
theorem dL_isBoard_380 : decode cL_isBoard 380 = .ok (.ifCond .eq 8, 3) := by decide +kernel
theorem dL_isBoard_383 : decode cL_isBoard 383 = .ok (.iload 20, 2) := by decide +kernel
theorem dL_isBoard_385 : decode cL_isBoard 385 = .ok (.goto 5, 3) := by decide +kernel
theorem dL_isBoard_388 : decode cL_isBoard 388 = .ok (.ldc 99, 2) := by decide +kernel
theorem dL_isBoard_390 : decode cL_isBoard 390 = .ok (.if_icmp .ne 7, 3) := by decide +kernel
theorem dL_isBoard_393 : decode cL_isBoard 393 = .ok (.iconst 1, 1) := by decide +kernel
theorem dL_isBoard_394 : decode cL_isBoard 394 = .ok (.goto 4, 3) := by decide +kernel
theorem dL_isBoard_397 : decode cL_isBoard 397 = .ok (.iconst 0, 1) := by decide +kernel
theorem dL_isBoard_398 : decode cL_isBoard 398 = .ok (.ireturn, 1) := by decide +kernel
theorem dL_isBoard_399 : decode cL_isBoard 399 = .ok (.iload 9, 2) := by decide +kernel
theorem dL_isBoard_401 : decode cL_isBoard 401 = .ok (.iconst 3, 1) := by decide +kernel
theorem dL_isBoard_402 : decode cL_isBoard 402 = .ok (.if_icmp .ne 118, 3) := by decide +kernel
theorem dL_isBoard_405 : decode cL_isBoard 405 = .ok (.iload 16, 2) := by decide +kernel
theorem dL_isBoard_407 : decode cL_isBoard 407 = .ok (.ifCond .eq 38, 3) := by decide +kernel
theorem dL_isBoard_410 : decode cL_isBoard 410 = .ok (.aload 7, 2) := by decide +kernel
theorem dL_isBoard_412 : decode cL_isBoard 412 = .ok (.iload 12, 2) := by decide +kernel
theorem dL_isBoard_414 : decode cL_isBoard 414 = .ok (.iaload, 1) := by decide +kernel
theorem dL_isBoard_415 : decode cL_isBoard 415 = .ok (.iconst 2, 1) := by decide +kernel
theorem dL_isBoard_416 : decode cL_isBoard 416 = .ok (.irem, 1) := by decide +kernel
theorem dL_isBoard_417 : decode cL_isBoard 417 = .ok (.iconst 1, 1) := by decide +kernel
theorem dL_isBoard_418 : decode cL_isBoard 418 = .ok (.if_icmp .ne 27, 3) := by decide +kernel
theorem dL_isBoard_421 : decode cL_isBoard 421 = .ok (.aload 7, 2) := by decide +kernel
theorem dL_isBoard_423 : decode cL_isBoard 423 = .ok (.iload 12, 2) := by decide +kernel
theorem dL_isBoard_425 : decode cL_isBoard 425 = .ok (.iaload, 1) := by decide +kernel
theorem dL_isBoard_426 : decode cL_isBoard 426 = .ok (.iconst 4, 1) := by decide +kernel
theorem dL_isBoard_427 : decode cL_isBoard 427 = .ok (.if_icmp .ge 18, 3) := by decide +kernel
theorem dL_isBoard_430 : decode cL_isBoard 430 = .ok (.aload 5, 2) := by decide +kernel
theorem dL_isBoard_432 : decode cL_isBoard 432 = .ok (.iload 18, 2) := by decide +kernel
theorem dL_isBoard_434 : decode cL_isBoard 434 = .ok (.iaload, 1) := by decide +kernel
theorem dL_isBoard_435 : decode cL_isBoard 435 = .ok (.bipush 64, 2) := by decide +kernel
theorem dL_isBoard_437 : decode cL_isBoard 437 = .ok (.irem, 1) := by decide +kernel
theorem dL_isBoard_438 : decode cL_isBoard 438 = .ok (.ifCond .le 7, 3) := by decide +kernel
theorem dL_isBoard_441 : decode cL_isBoard 441 = .ok (.iconst 1, 1) := by decide +kernel
theorem dL_isBoard_442 : decode cL_isBoard 442 = .ok (.goto 4, 3) := by decide +kernel
theorem dL_isBoard_445 : decode cL_isBoard 445 = .ok (.iconst 0, 1) := by decide +kernel
theorem dL_isBoard_446 : decode cL_isBoard 446 = .ok (.istore 19, 2) := by decide +kernel
theorem dL_isBoard_448 : decode cL_isBoard 448 = .ok (.iload 19, 2) := by decide +kernel
theorem dL_isBoard_450 : decode cL_isBoard 450 = .ok (.ifCond .eq 27, 3) := by decide +kernel
theorem dL_isBoard_453 : decode cL_isBoard 453 = .ok (.aload 5, 2) := by decide +kernel
theorem dL_isBoard_455 : decode cL_isBoard 455 = .ok (.iload 18, 2) := by decide +kernel
theorem dL_isBoard_457 : decode cL_isBoard 457 = .ok (.dup2, 1) := by decide +kernel
theorem dL_isBoard_458 : decode cL_isBoard 458 = .ok (.iaload, 1) := by decide +kernel
theorem dL_isBoard_459 : decode cL_isBoard 459 = .ok (.bipush 64, 2) := by decide +kernel
theorem dL_isBoard_461 : decode cL_isBoard 461 = .ok (.iconst 3, 1) := by decide +kernel
theorem dL_isBoard_462 : decode cL_isBoard 462 = .ok (.aload 5, 2) := by decide +kernel
theorem dL_isBoard_464 : decode cL_isBoard 464 = .ok (.iload 18, 2) := by decide +kernel
theorem dL_isBoard_466 : decode cL_isBoard 466 = .ok (.iaload, 1) := by decide +kernel
theorem dL_isBoard_467 : decode cL_isBoard 467 = .ok (.bipush 64, 2) := by decide +kernel
theorem dL_isBoard_469 : decode cL_isBoard 469 = .ok (.idiv, 1) := by decide +kernel
theorem dL_isBoard_470 : decode cL_isBoard 470 = .ok (.bipush 8, 2) := by decide +kernel
theorem dL_isBoard_472 : decode cL_isBoard 472 = .ok (.irem, 1) := by decide +kernel
theorem dL_isBoard_473 : decode cL_isBoard 473 = .ok (.isub, 1) := by decide +kernel
theorem dL_isBoard_474 : decode cL_isBoard 474 = .ok (.imul, 1) := by decide +kernel
theorem dL_isBoard_475 : decode cL_isBoard 475 = .ok (.iadd, 1) := by decide +kernel
theorem dL_isBoard_476 : decode cL_isBoard 476 = .ok (.iastore, 1) := by decide +kernel
theorem dL_isBoard_477 : decode cL_isBoard 477 = .ok (.aload_n 0, 1) := by decide +kernel
theorem dL_isBoard_478 : decode cL_isBoard 478 = .ok (.bipush 15, 2) := by decide +kernel
theorem dL_isBoard_480 : decode cL_isBoard 480 = .ok (.iload 12, 2) := by decide +kernel
theorem dL_isBoard_482 : decode cL_isBoard 482 = .ok (.iload 13, 2) := by decide +kernel
theorem dL_isBoard_484 : decode cL_isBoard 484 = .ok (.iconst 0, 1) := by decide +kernel
theorem dL_isBoard_485 : decode cL_isBoard 485 = .ok (.iconst 0, 1) := by decide +kernel
theorem dL_isBoard_486 : decode cL_isBoard 486 = .ok (.iconst 0, 1) := by decide +kernel
theorem dL_isBoard_487 : decode cL_isBoard 487 = .ok (.invokestatic 128, 3) := by decide +kernel
theorem dL_isBoard_490 : decode cL_isBoard 490 = .ok (.iload 16, 2) := by decide +kernel
theorem dL_isBoard_492 : decode cL_isBoard 492 = .ok (.ifCond .ne 8, 3) := by decide +kernel
theorem dL_isBoard_495 : decode cL_isBoard 495 = .ok (.ldc 93, 2) := by decide +kernel
theorem dL_isBoard_497 : decode cL_isBoard 497 = .ok (.goto 14, 3) := by decide +kernel
theorem dL_isBoard_500 : decode cL_isBoard 500 = .ok (.iload 19, 2) := by decide +kernel
theorem dL_isBoard_502 : decode cL_isBoard 502 = .ok (.ifCond .eq 7, 3) := by decide +kernel
theorem dL_isBoard_505 : decode cL_isBoard 505 = .ok (.iconst 0, 1) := by decide +kernel
theorem dL_isBoard_506 : decode cL_isBoard 506 = .ok (.goto 5, 3) := by decide +kernel
theorem dL_isBoard_509 : decode cL_isBoard 509 = .ok (.ldc 99, 2) := by decide +kernel
theorem dL_isBoard_511 : decode cL_isBoard 511 = .ok (.if_icmp .ne 7, 3) := by decide +kernel
theorem dL_isBoard_514 : decode cL_isBoard 514 = .ok (.iconst 1, 1) := by decide +kernel
theorem dL_isBoard_515 : decode cL_isBoard 515 = .ok (.goto 4, 3) := by decide +kernel
theorem dL_isBoard_518 : decode cL_isBoard 518 = .ok (.iconst 0, 1) := by decide +kernel
theorem dL_isBoard_519 : decode cL_isBoard 519 = .ok (.ireturn, 1) := by decide +kernel
theorem dL_isBoard_520 : decode cL_isBoard 520 = .ok (.iload 9, 2) := by decide +kernel
theorem dL_isBoard_522 : decode cL_isBoard 522 = .ok (.iconst 4, 1) := by decide +kernel
theorem dL_isBoard_523 : decode cL_isBoard 523 = .ok (.if_icmp .ne 185, 3) := by decide +kernel
theorem dL_isBoard_526 : decode cL_isBoard 526 = .ok (.iload 15, 2) := by decide +kernel
theorem dL_isBoard_528 : decode cL_isBoard 528 = .ok (.ifCond .eq 27, 3) := by decide +kernel
theorem dL_isBoard_531 : decode cL_isBoard 531 = .ok (.aload 7, 2) := by decide +kernel
theorem dL_isBoard_533 : decode cL_isBoard 533 = .ok (.iload 12, 2) := by decide +kernel
theorem dL_isBoard_535 : decode cL_isBoard 535 = .ok (.iaload, 1) := by decide +kernel
theorem dL_isBoard_536 : decode cL_isBoard 536 = .ok (.iconst 2, 1) := by decide +kernel
theorem dL_isBoard_537 : decode cL_isBoard 537 = .ok (.irem, 1) := by decide +kernel
theorem dL_isBoard_538 : decode cL_isBoard 538 = .ok (.iconst 1, 1) := by decide +kernel
theorem dL_isBoard_539 : decode cL_isBoard 539 = .ok (.if_icmp .ne 16, 3) := by decide +kernel
theorem dL_isBoard_542 : decode cL_isBoard 542 = .ok (.aload 7, 2) := by decide +kernel
theorem dL_isBoard_544 : decode cL_isBoard 544 = .ok (.iload 12, 2) := by decide +kernel
theorem dL_isBoard_546 : decode cL_isBoard 546 = .ok (.iaload, 1) := by decide +kernel
theorem dL_isBoard_547 : decode cL_isBoard 547 = .ok (.iconst 4, 1) := by decide +kernel
theorem dL_isBoard_548 : decode cL_isBoard 548 = .ok (.if_icmp .ge 7, 3) := by decide +kernel
theorem dL_isBoard_551 : decode cL_isBoard 551 = .ok (.iconst 1, 1) := by decide +kernel
theorem dL_isBoard_552 : decode cL_isBoard 552 = .ok (.goto 4, 3) := by decide +kernel
theorem dL_isBoard_555 : decode cL_isBoard 555 = .ok (.iconst 0, 1) := by decide +kernel
theorem dL_isBoard_556 : decode cL_isBoard 556 = .ok (.istore 19, 2) := by decide +kernel
theorem dL_isBoard_558 : decode cL_isBoard 558 = .ok (.iconst 0, 1) := by decide +kernel
theorem dL_isBoard_559 : decode cL_isBoard 559 = .ok (.istore 20, 2) := by decide +kernel
theorem dL_isBoard_561 : decode cL_isBoard 561 = .ok (.iload 20, 2) := by decide +kernel
theorem dL_isBoard_563 : decode cL_isBoard 563 = .ok (.bipush 8, 2) := by decide +kernel
theorem dL_isBoard_565 : decode cL_isBoard 565 = .ok (.if_icmp .ge 79, 3) := by decide +kernel
theorem dL_isBoard_568 : decode cL_isBoard 568 = .ok (.iload 19, 2) := by decide +kernel
theorem dL_isBoard_570 : decode cL_isBoard 570 = .ok (.ifCond .eq 74, 3) := by decide +kernel
theorem dL_isBoard_573 : decode cL_isBoard 573 = .ok (.aload 5, 2) := by decide +kernel
theorem dL_isBoard_575 : decode cL_isBoard 575 = .ok (.bipush 8, 2) := by decide +kernel
theorem dL_isBoard_577 : decode cL_isBoard 577 = .ok (.iload 12, 2) := by decide +kernel
theorem dL_isBoard_579 : decode cL_isBoard 579 = .ok (.imul, 1) := by decide +kernel
theorem dL_isBoard_580 : decode cL_isBoard 580 = .ok (.iload 20, 2) := by decide +kernel
theorem dL_isBoard_582 : decode cL_isBoard 582 = .ok (.iadd, 1) := by decide +kernel
theorem dL_isBoard_583 : decode cL_isBoard 583 = .ok (.iaload, 1) := by decide +kernel
theorem dL_isBoard_584 : decode cL_isBoard 584 = .ok (.bipush 64, 2) := by decide +kernel
theorem dL_isBoard_586 : decode cL_isBoard 586 = .ok (.idiv, 1) := by decide +kernel
theorem dL_isBoard_587 : decode cL_isBoard 587 = .ok (.bipush 8, 2) := by decide +kernel
theorem dL_isBoard_589 : decode cL_isBoard 589 = .ok (.irem, 1) := by decide +kernel
theorem dL_isBoard_590 : decode cL_isBoard 590 = .ok (.istore 21, 2) := by decide +kernel
theorem dL_isBoard_592 : decode cL_isBoard 592 = .ok (.aload 5, 2) := by decide +kernel
theorem dL_isBoard_594 : decode cL_isBoard 594 = .ok (.bipush 8, 2) := by decide +kernel
theorem dL_isBoard_596 : decode cL_isBoard 596 = .ok (.iload 12, 2) := by decide +kernel
theorem dL_isBoard_598 : decode cL_isBoard 598 = .ok (.imul, 1) := by decide +kernel
theorem dL_isBoard_599 : decode cL_isBoard 599 = .ok (.iload 20, 2) := by decide +kernel
theorem dL_isBoard_601 : decode cL_isBoard 601 = .ok (.iadd, 1) := by decide +kernel
theorem dL_isBoard_602 : decode cL_isBoard 602 = .ok (.dup2, 1) := by decide +kernel
theorem dL_isBoard_603 : decode cL_isBoard 603 = .ok (.iaload, 1) := by decide +kernel
theorem dL_isBoard_604 : decode cL_isBoard 604 = .ok (.iload 21, 2) := by decide +kernel
theorem dL_isBoard_606 : decode cL_isBoard 606 = .ok (.ifCond .le 29, 3) := by decide +kernel
theorem dL_isBoard_609 : decode cL_isBoard 609 = .ok (.iload 21, 2) := by decide +kernel
theorem dL_isBoard_611 : decode cL_isBoard 611 = .ok (.iconst 4, 1) := by decide +kernel
theorem dL_isBoard_612 : decode cL_isBoard 612 = .ok (.if_icmp .ge 23, 3) := by decide +kernel
theorem dL_isBoard_615 : decode cL_isBoard 615 = .ok (.aload 4, 2) := by decide +kernel
theorem dL_isBoard_617 : decode cL_isBoard 617 = .ok (.bipush 16, 2) := by decide +kernel
theorem dL_isBoard_619 : decode cL_isBoard 619 = .ok (.iaload, 1) := by decide +kernel
theorem dL_isBoard_620 : decode cL_isBoard 620 = .ok (.iload 20, 2) := by decide +kernel
theorem dL_isBoard_622 : decode cL_isBoard 622 = .ok (.ishr, 1) := by decide +kernel
theorem dL_isBoard_623 : decode cL_isBoard 623 = .ok (.iconst 1, 1) := by decide +kernel
theorem dL_isBoard_624 : decode cL_isBoard 624 = .ok (.iand, 1) := by decide +kernel
theorem dL_isBoard_625 : decode cL_isBoard 625 = .ok (.iconst 1, 1) := by decide +kernel
theorem dL_isBoard_626 : decode cL_isBoard 626 = .ok (.if_icmp .ne 9, 3) := by decide +kernel
theorem dL_isBoard_629 : decode cL_isBoard 629 = .ok (.sipush 256, 3) := by decide +kernel
theorem dL_isBoard_632 : decode cL_isBoard 632 = .ok (.goto 4, 3) := by decide +kernel
theorem dL_isBoard_635 : decode cL_isBoard 635 = .ok (.iconst 0, 1) := by decide +kernel
theorem dL_isBoard_636 : decode cL_isBoard 636 = .ok (.iadd, 1) := by decide +kernel
theorem dL_isBoard_637 : decode cL_isBoard 637 = .ok (.iastore, 1) := by decide +kernel
theorem dL_isBoard_638 : decode cL_isBoard 638 = .ok (.iinc 20 1, 3) := by decide +kernel
theorem dL_isBoard_641 : decode cL_isBoard 641 = .ok (.goto (-80), 3) := by decide +kernel
theorem dL_isBoard_644 : decode cL_isBoard 644 = .ok (.aload 7, 2) := by decide +kernel
theorem dL_isBoard_646 : decode cL_isBoard 646 = .ok (.iload 19, 2) := by decide +kernel
theorem dL_isBoard_648 : decode cL_isBoard 648 = .ok (.ifCond .eq 8, 3) := by decide +kernel
theorem dL_isBoard_651 : decode cL_isBoard 651 = .ok (.iload 12, 2) := by decide +kernel
theorem dL_isBoard_653 : decode cL_isBoard 653 = .ok (.goto 4, 3) := by decide +kernel
theorem dL_isBoard_656 : decode cL_isBoard 656 = .ok (.iconst 4, 1) := by decide +kernel
theorem dL_isBoard_657 : decode cL_isBoard 657 = .ok (.iconst 3, 1) := by decide +kernel
theorem dL_isBoard_658 : decode cL_isBoard 658 = .ok (.iastore, 1) := by decide +kernel
theorem dL_isBoard_659 : decode cL_isBoard 659 = .ok (.aload_n 0, 1) := by decide +kernel
theorem dL_isBoard_660 : decode cL_isBoard 660 = .ok (.bipush 17, 2) := by decide +kernel
theorem dL_isBoard_662 : decode cL_isBoard 662 = .ok (.iload 12, 2) := by decide +kernel
theorem dL_isBoard_664 : decode cL_isBoard 664 = .ok (.iconst 0, 1) := by decide +kernel
theorem dL_isBoard_665 : decode cL_isBoard 665 = .ok (.iconst 0, 1) := by decide +kernel
theorem dL_isBoard_666 : decode cL_isBoard 666 = .ok (.iconst 0, 1) := by decide +kernel
theorem dL_isBoard_667 : decode cL_isBoard 667 = .ok (.iconst 0, 1) := by decide +kernel
theorem dL_isBoard_668 : decode cL_isBoard 668 = .ok (.invokestatic 128, 3) := by decide +kernel
theorem dL_isBoard_671 : decode cL_isBoard 671 = .ok (.iload 15, 2) := by decide +kernel
theorem dL_isBoard_673 : decode cL_isBoard 673 = .ok (.ifCond .ne 8, 3) := by decide +kernel
theorem dL_isBoard_676 : decode cL_isBoard 676 = .ok (.ldc 93, 2) := by decide +kernel
theorem dL_isBoard_678 : decode cL_isBoard 678 = .ok (.goto 21, 3) := by decide +kernel
theorem dL_isBoard_681 : decode cL_isBoard 681 = .ok (.iload 19, 2) := by decide +kernel
theorem dL_isBoard_683 : decode cL_isBoard 683 = .ok (.ifCond .eq 14, 3) := by decide +kernel
theorem dL_isBoard_686 : decode cL_isBoard 686 = .ok (.aload 5, 2) := by decide +kernel
theorem dL_isBoard_688 : decode cL_isBoard 688 = .ok (.iload 12, 2) := by decide +kernel
theorem dL_isBoard_690 : decode cL_isBoard 690 = .ok (.iconst 1, 1) := by decide +kernel
theorem dL_isBoard_691 : decode cL_isBoard 691 = .ok (.invokestatic 146, 3) := by decide +kernel
theorem dL_isBoard_694 : decode cL_isBoard 694 = .ok (.goto 5, 3) := by decide +kernel
theorem dL_isBoard_697 : decode cL_isBoard 697 = .ok (.ldc 99, 2) := by decide +kernel
theorem dL_isBoard_699 : decode cL_isBoard 699 = .ok (.if_icmp .ne 7, 3) := by decide +kernel
theorem dL_isBoard_702 : decode cL_isBoard 702 = .ok (.iconst 1, 1) := by decide +kernel
theorem dL_isBoard_703 : decode cL_isBoard 703 = .ok (.goto 4, 3) := by decide +kernel
theorem dL_isBoard_706 : decode cL_isBoard 706 = .ok (.iconst 0, 1) := by decide +kernel
theorem dL_isBoard_707 : decode cL_isBoard 707 = .ok (.ireturn, 1) := by decide +kernel
theorem dL_isBoard_708 : decode cL_isBoard 708 = .ok (.iload 9, 2) := by decide +kernel
theorem dL_isBoard_710 : decode cL_isBoard 710 = .ok (.iconst 5, 1) := by decide +kernel
theorem dL_isBoard_711 : decode cL_isBoard 711 = .ok (.if_icmp .ne 204, 3) := by decide +kernel
theorem dL_isBoard_714 : decode cL_isBoard 714 = .ok (.iload 17, 2) := by decide +kernel
theorem dL_isBoard_716 : decode cL_isBoard 716 = .ok (.ifCond .eq 89, 3) := by decide +kernel
theorem dL_isBoard_719 : decode cL_isBoard 719 = .ok (.aload 5, 2) := by decide +kernel
theorem dL_isBoard_721 : decode cL_isBoard 721 = .ok (.iload 18, 2) := by decide +kernel
theorem dL_isBoard_723 : decode cL_isBoard 723 = .ok (.iaload, 1) := by decide +kernel
theorem dL_isBoard_724 : decode cL_isBoard 724 = .ok (.sipush 256, 3) := by decide +kernel
theorem dL_isBoard_727 : decode cL_isBoard 727 = .ok (.idiv, 1) := by decide +kernel
theorem dL_isBoard_728 : decode cL_isBoard 728 = .ok (.iconst 2, 1) := by decide +kernel
theorem dL_isBoard_729 : decode cL_isBoard 729 = .ok (.irem, 1) := by decide +kernel
theorem dL_isBoard_730 : decode cL_isBoard 730 = .ok (.iconst 1, 1) := by decide +kernel
theorem dL_isBoard_731 : decode cL_isBoard 731 = .ok (.if_icmp .ne 74, 3) := by decide +kernel
theorem dL_isBoard_734 : decode cL_isBoard 734 = .ok (.aload 5, 2) := by decide +kernel
theorem dL_isBoard_736 : decode cL_isBoard 736 = .ok (.iload 18, 2) := by decide +kernel
theorem dL_isBoard_738 : decode cL_isBoard 738 = .ok (.iaload, 1) := by decide +kernel
theorem dL_isBoard_739 : decode cL_isBoard 739 = .ok (.sipush 512, 3) := by decide +kernel
theorem dL_isBoard_742 : decode cL_isBoard 742 = .ok (.idiv, 1) := by decide +kernel
theorem dL_isBoard_743 : decode cL_isBoard 743 = .ok (.iconst 2, 1) := by decide +kernel
theorem dL_isBoard_744 : decode cL_isBoard 744 = .ok (.irem, 1) := by decide +kernel
theorem dL_isBoard_745 : decode cL_isBoard 745 = .ok (.ifCond .ne 60, 3) := by decide +kernel
theorem dL_isBoard_748 : decode cL_isBoard 748 = .ok (.aload_n 1, 1) := by decide +kernel
theorem dL_isBoard_749 : decode cL_isBoard 749 = .ok (.iload 14, 2) := by decide +kernel
theorem dL_isBoard_751 : decode cL_isBoard 751 = .ok (.iaload, 1) := by decide +kernel
theorem dL_isBoard_752 : decode cL_isBoard 752 = .ok (.bipush 8, 2) := by decide +kernel
theorem dL_isBoard_754 : decode cL_isBoard 754 = .ok (.irem, 1) := by decide +kernel
theorem dL_isBoard_755 : decode cL_isBoard 755 = .ok (.aload_n 1, 1) := by decide +kernel
theorem dL_isBoard_756 : decode cL_isBoard 756 = .ok (.aload 5, 2) := by decide +kernel
theorem dL_isBoard_758 : decode cL_isBoard 758 = .ok (.iload 18, 2) := by decide +kernel
theorem dL_isBoard_760 : decode cL_isBoard 760 = .ok (.iaload, 1) := by decide +kernel
theorem dL_isBoard_761 : decode cL_isBoard 761 = .ok (.bipush 64, 2) := by decide +kernel
theorem dL_isBoard_763 : decode cL_isBoard 763 = .ok (.irem, 1) := by decide +kernel
theorem dL_isBoard_764 : decode cL_isBoard 764 = .ok (.ifCond .ne 7, 3) := by decide +kernel
theorem dL_isBoard_767 : decode cL_isBoard 767 = .ok (.iconst 0, 1) := by decide +kernel
theorem dL_isBoard_768 : decode cL_isBoard 768 = .ok (.goto 13, 3) := by decide +kernel
theorem dL_isBoard_771 : decode cL_isBoard 771 = .ok (.aload 5, 2) := by decide +kernel
theorem dL_isBoard_773 : decode cL_isBoard 773 = .ok (.iload 18, 2) := by decide +kernel
theorem dL_isBoard_775 : decode cL_isBoard 775 = .ok (.iaload, 1) := by decide +kernel
theorem dL_isBoard_776 : decode cL_isBoard 776 = .ok (.bipush 64, 2) := by decide +kernel
theorem dL_isBoard_778 : decode cL_isBoard 778 = .ok (.irem, 1) := by decide +kernel
theorem dL_isBoard_779 : decode cL_isBoard 779 = .ok (.iconst 1, 1) := by decide +kernel
theorem dL_isBoard_780 : decode cL_isBoard 780 = .ok (.isub, 1) := by decide +kernel
theorem dL_isBoard_781 : decode cL_isBoard 781 = .ok (.iaload, 1) := by decide +kernel
theorem dL_isBoard_782 : decode cL_isBoard 782 = .ok (.bipush 8, 2) := by decide +kernel
theorem dL_isBoard_784 : decode cL_isBoard 784 = .ok (.irem, 1) := by decide +kernel
theorem dL_isBoard_785 : decode cL_isBoard 785 = .ok (.if_icmp .ne 20, 3) := by decide +kernel
theorem dL_isBoard_788 : decode cL_isBoard 788 = .ok (.aload_n 1, 1) := by decide +kernel
theorem dL_isBoard_789 : decode cL_isBoard 789 = .ok (.aload_n 2, 1) := by decide +kernel
theorem dL_isBoard_790 : decode cL_isBoard 790 = .ok (.aload_n 3, 1) := by decide +kernel
theorem dL_isBoard_791 : decode cL_isBoard 791 = .ok (.aload 4, 2) := by decide +kernel
theorem dL_isBoard_793 : decode cL_isBoard 793 = .ok (.iload 14, 2) := by decide +kernel
theorem dL_isBoard_795 : decode cL_isBoard 795 = .ok (.invokestatic 139, 3) := by decide +kernel
theorem dL_isBoard_798 : decode cL_isBoard 798 = .ok (.ifCond .eq 7, 3) := by decide +kernel
theorem dL_isBoard_801 : decode cL_isBoard 801 = .ok (.iconst 1, 1) := by decide +kernel
theorem dL_isBoard_802 : decode cL_isBoard 802 = .ok (.goto 4, 3) := by decide +kernel
theorem dL_isBoard_805 : decode cL_isBoard 805 = .ok (.iconst 0, 1) := by decide +kernel
theorem dL_isBoard_806 : decode cL_isBoard 806 = .ok (.istore 19, 2) := by decide +kernel
theorem dL_isBoard_808 : decode cL_isBoard 808 = .ok (.iload 19, 2) := by decide +kernel
theorem dL_isBoard_810 : decode cL_isBoard 810 = .ok (.ifCond .eq 54, 3) := by decide +kernel
theorem dL_isBoard_813 : decode cL_isBoard 813 = .ok (.aload 5, 2) := by decide +kernel
theorem dL_isBoard_815 : decode cL_isBoard 815 = .ok (.iload 18, 2) := by decide +kernel
theorem dL_isBoard_817 : decode cL_isBoard 817 = .ok (.aload 5, 2) := by decide +kernel
theorem dL_isBoard_819 : decode cL_isBoard 819 = .ok (.iload 18, 2) := by decide +kernel
theorem dL_isBoard_821 : decode cL_isBoard 821 = .ok (.iaload, 1) := by decide +kernel
theorem dL_isBoard_822 : decode cL_isBoard 822 = .ok (.sipush 2048, 3) := by decide +kernel
theorem dL_isBoard_825 : decode cL_isBoard 825 = .ok (.idiv, 1) := by decide +kernel
theorem dL_isBoard_826 : decode cL_isBoard 826 = .ok (.sipush 2048, 3) := by decide +kernel
theorem dL_isBoard_829 : decode cL_isBoard 829 = .ok (.imul, 1) := by decide +kernel
theorem dL_isBoard_830 : decode cL_isBoard 830 = .ok (.sipush 512, 3) := by decide +kernel
theorem dL_isBoard_833 : decode cL_isBoard 833 = .ok (.iadd, 1) := by decide +kernel
theorem dL_isBoard_834 : decode cL_isBoard 834 = .ok (.iload 14, 2) := by decide +kernel
theorem dL_isBoard_836 : decode cL_isBoard 836 = .ok (.iadd, 1) := by decide +kernel
theorem dL_isBoard_837 : decode cL_isBoard 837 = .ok (.iconst 1, 1) := by decide +kernel
theorem dL_isBoard_838 : decode cL_isBoard 838 = .ok (.iadd, 1) := by decide +kernel
theorem dL_isBoard_839 : decode cL_isBoard 839 = .ok (.iastore, 1) := by decide +kernel
theorem dL_isBoard_840 : decode cL_isBoard 840 = .ok (.aload 6, 2) := by decide +kernel
theorem dL_isBoard_842 : decode cL_isBoard 842 = .ok (.iload 18, 2) := by decide +kernel
theorem dL_isBoard_844 : decode cL_isBoard 844 = .ok (.aload 4, 2) := by decide +kernel
theorem dL_isBoard_846 : decode cL_isBoard 846 = .ok (.bipush 17, 2) := by decide +kernel
theorem dL_isBoard_848 : decode cL_isBoard 848 = .ok (.iaload, 1) := by decide +kernel
theorem dL_isBoard_849 : decode cL_isBoard 849 = .ok (.iastore, 1) := by decide +kernel
theorem dL_isBoard_850 : decode cL_isBoard 850 = .ok (.aload_n 2, 1) := by decide +kernel
theorem dL_isBoard_851 : decode cL_isBoard 851 = .ok (.iload 14, 2) := by decide +kernel
theorem dL_isBoard_853 : decode cL_isBoard 853 = .ok (.dup2, 1) := by decide +kernel
theorem dL_isBoard_854 : decode cL_isBoard 854 = .ok (.iaload, 1) := by decide +kernel
theorem dL_isBoard_855 : decode cL_isBoard 855 = .ok (.iconst 1, 1) := by decide +kernel
theorem dL_isBoard_856 : decode cL_isBoard 856 = .ok (.isub, 1) := by decide +kernel
theorem dL_isBoard_857 : decode cL_isBoard 857 = .ok (.iastore, 1) := by decide +kernel
theorem dL_isBoard_858 : decode cL_isBoard 858 = .ok (.aload 7, 2) := by decide +kernel
theorem dL_isBoard_860 : decode cL_isBoard 860 = .ok (.iload 12, 2) := by decide +kernel
theorem dL_isBoard_862 : decode cL_isBoard 862 = .ok (.iconst 1, 1) := by decide +kernel
theorem dL_isBoard_863 : decode cL_isBoard 863 = .ok (.iastore, 1) := by decide +kernel
theorem dL_isBoard_864 : decode cL_isBoard 864 = .ok (.aload_n 0, 1) := by decide +kernel
theorem dL_isBoard_865 : decode cL_isBoard 865 = .ok (.bipush 18, 2) := by decide +kernel
theorem dL_isBoard_867 : decode cL_isBoard 867 = .ok (.iload 12, 2) := by decide +kernel
theorem dL_isBoard_869 : decode cL_isBoard 869 = .ok (.iload 13, 2) := by decide +kernel
theorem dL_isBoard_871 : decode cL_isBoard 871 = .ok (.iload 14, 2) := by decide +kernel
theorem dL_isBoard_873 : decode cL_isBoard 873 = .ok (.iconst 0, 1) := by decide +kernel
theorem dL_isBoard_874 : decode cL_isBoard 874 = .ok (.iconst 0, 1) := by decide +kernel
theorem dL_isBoard_875 : decode cL_isBoard 875 = .ok (.invokestatic 128, 3) := by decide +kernel
theorem dL_isBoard_878 : decode cL_isBoard 878 = .ok (.iload 17, 2) := by decide +kernel
theorem dL_isBoard_880 : decode cL_isBoard 880 = .ok (.ifCond .ne 8, 3) := by decide +kernel
theorem dL_isBoard_883 : decode cL_isBoard 883 = .ok (.ldc 93, 2) := by decide +kernel
theorem dL_isBoard_885 : decode cL_isBoard 885 = .ok (.goto 21, 3) := by decide +kernel
theorem dL_isBoard_888 : decode cL_isBoard 888 = .ok (.iload 19, 2) := by decide +kernel
theorem dL_isBoard_890 : decode cL_isBoard 890 = .ok (.ifCond .eq 14, 3) := by decide +kernel
theorem dL_isBoard_893 : decode cL_isBoard 893 = .ok (.aload 5, 2) := by decide +kernel
theorem dL_isBoard_895 : decode cL_isBoard 895 = .ok (.iload 12, 2) := by decide +kernel
theorem dL_isBoard_897 : decode cL_isBoard 897 = .ok (.iconst 1, 1) := by decide +kernel
theorem dL_isBoard_898 : decode cL_isBoard 898 = .ok (.invokestatic 146, 3) := by decide +kernel
theorem dL_isBoard_901 : decode cL_isBoard 901 = .ok (.goto 5, 3) := by decide +kernel
theorem dL_isBoard_904 : decode cL_isBoard 904 = .ok (.ldc 99, 2) := by decide +kernel
theorem dL_isBoard_906 : decode cL_isBoard 906 = .ok (.if_icmp .ne 7, 3) := by decide +kernel
theorem dL_isBoard_909 : decode cL_isBoard 909 = .ok (.iconst 1, 1) := by decide +kernel
theorem dL_isBoard_910 : decode cL_isBoard 910 = .ok (.goto 4, 3) := by decide +kernel
theorem dL_isBoard_913 : decode cL_isBoard 913 = .ok (.iconst 0, 1) := by decide +kernel
theorem dL_isBoard_914 : decode cL_isBoard 914 = .ok (.ireturn, 1) := by decide +kernel
theorem dL_isBoard_915 : decode cL_isBoard 915 = .ok (.iload 15, 2) := by decide +kernel
theorem dL_isBoard_917 : decode cL_isBoard 917 = .ok (.ifCond .eq 27, 3) := by decide +kernel
theorem dL_isBoard_920 : decode cL_isBoard 920 = .ok (.aload 7, 2) := by decide +kernel
theorem dL_isBoard_922 : decode cL_isBoard 922 = .ok (.iload 12, 2) := by decide +kernel
theorem dL_isBoard_924 : decode cL_isBoard 924 = .ok (.iaload, 1) := by decide +kernel
theorem dL_isBoard_925 : decode cL_isBoard 925 = .ok (.iconst 3, 1) := by decide +kernel
theorem dL_isBoard_926 : decode cL_isBoard 926 = .ok (.if_icmp .ne 18, 3) := by decide +kernel
theorem dL_isBoard_929 : decode cL_isBoard 929 = .ok (.aload 5, 2) := by decide +kernel
theorem dL_isBoard_931 : decode cL_isBoard 931 = .ok (.iload 12, 2) := by decide +kernel
theorem dL_isBoard_933 : decode cL_isBoard 933 = .ok (.iconst 1, 1) := by decide +kernel
theorem dL_isBoard_934 : decode cL_isBoard 934 = .ok (.invokestatic 146, 3) := by decide +kernel
theorem dL_isBoard_937 : decode cL_isBoard 937 = .ok (.ifCond .ne 7, 3) := by decide +kernel
theorem dL_isBoard_940 : decode cL_isBoard 940 = .ok (.iconst 1, 1) := by decide +kernel
theorem dL_isBoard_941 : decode cL_isBoard 941 = .ok (.goto 4, 3) := by decide +kernel
theorem dL_isBoard_944 : decode cL_isBoard 944 = .ok (.iconst 0, 1) := by decide +kernel
theorem dL_isBoard_945 : decode cL_isBoard 945 = .ok (.istore 19, 2) := by decide +kernel
theorem dL_isBoard_947 : decode cL_isBoard 947 = .ok (.aload 7, 2) := by decide +kernel
theorem dL_isBoard_949 : decode cL_isBoard 949 = .ok (.iload 19, 2) := by decide +kernel
theorem dL_isBoard_951 : decode cL_isBoard 951 = .ok (.ifCond .eq 8, 3) := by decide +kernel
theorem dL_isBoard_954 : decode cL_isBoard 954 = .ok (.iload 12, 2) := by decide +kernel
theorem dL_isBoard_956 : decode cL_isBoard 956 = .ok (.goto 4, 3) := by decide +kernel
theorem dL_isBoard_959 : decode cL_isBoard 959 = .ok (.iconst 4, 1) := by decide +kernel
theorem dL_isBoard_960 : decode cL_isBoard 960 = .ok (.bipush 7, 2) := by decide +kernel
theorem dL_isBoard_962 : decode cL_isBoard 962 = .ok (.iastore, 1) := by decide +kernel
theorem dL_isBoard_963 : decode cL_isBoard 963 = .ok (.aload_n 0, 1) := by decide +kernel
theorem dL_isBoard_964 : decode cL_isBoard 964 = .ok (.bipush 19, 2) := by decide +kernel
theorem dL_isBoard_966 : decode cL_isBoard 966 = .ok (.iload 12, 2) := by decide +kernel
theorem dL_isBoard_968 : decode cL_isBoard 968 = .ok (.iconst 0, 1) := by decide +kernel
theorem dL_isBoard_969 : decode cL_isBoard 969 = .ok (.iconst 0, 1) := by decide +kernel
theorem dL_isBoard_970 : decode cL_isBoard 970 = .ok (.iconst 0, 1) := by decide +kernel
theorem dL_isBoard_971 : decode cL_isBoard 971 = .ok (.iconst 0, 1) := by decide +kernel
theorem dL_isBoard_972 : decode cL_isBoard 972 = .ok (.invokestatic 128, 3) := by decide +kernel
theorem dL_isBoard_975 : decode cL_isBoard 975 = .ok (.iload 15, 2) := by decide +kernel
theorem dL_isBoard_977 : decode cL_isBoard 977 = .ok (.ifCond .ne 8, 3) := by decide +kernel
theorem dL_isBoard_980 : decode cL_isBoard 980 = .ok (.ldc 93, 2) := by decide +kernel
theorem dL_isBoard_982 : decode cL_isBoard 982 = .ok (.goto 21, 3) := by decide +kernel
theorem dL_isBoard_985 : decode cL_isBoard 985 = .ok (.iload 19, 2) := by decide +kernel
theorem dL_isBoard_987 : decode cL_isBoard 987 = .ok (.ifCond .eq 14, 3) := by decide +kernel
theorem dL_isBoard_990 : decode cL_isBoard 990 = .ok (.aload 5, 2) := by decide +kernel
theorem dL_isBoard_992 : decode cL_isBoard 992 = .ok (.iload 12, 2) := by decide +kernel
theorem dL_isBoard_994 : decode cL_isBoard 994 = .ok (.iconst 0, 1) := by decide +kernel
theorem dL_isBoard_995 : decode cL_isBoard 995 = .ok (.invokestatic 146, 3) := by decide +kernel
theorem dL_isBoard_998 : decode cL_isBoard 998 = .ok (.goto 5, 3) := by decide +kernel
theorem dL_isBoard_1001 : decode cL_isBoard 1001 = .ok (.ldc 99, 2) := by decide +kernel
theorem dL_isBoard_1003 : decode cL_isBoard 1003 = .ok (.if_icmp .ne 7, 3) := by decide +kernel
theorem dL_isBoard_1006 : decode cL_isBoard 1006 = .ok (.iconst 1, 1) := by decide +kernel
theorem dL_isBoard_1007 : decode cL_isBoard 1007 = .ok (.goto 4, 3) := by decide +kernel
theorem dL_isBoard_1010 : decode cL_isBoard 1010 = .ok (.iconst 0, 1) := by decide +kernel
theorem dL_isBoard_1011 : decode cL_isBoard 1011 = .ok (.ireturn, 1) := by decide +kernel
theorem dL_isTold_0 : decode cL_isTold 0 = .ok (.iload_n 3, 1) := by decide +kernel
theorem dL_isTold_1 : decode cL_isTold 1 = .ok (.ifCond .ne 277, 3) := by decide +kernel
theorem dL_isTold_4 : decode cL_isTold 4 = .ok (.iload 4, 2) := by decide +kernel
theorem dL_isTold_6 : decode cL_isTold 6 = .ok (.iconst 2, 1) := by decide +kernel
theorem dL_isTold_7 : decode cL_isTold 7 = .ok (.irem, 1) := by decide +kernel
theorem dL_isTold_8 : decode cL_isTold 8 = .ok (.iconst 1, 1) := by decide +kernel
theorem dL_isTold_9 : decode cL_isTold 9 = .ok (.if_icmp .ne 7, 3) := by decide +kernel
theorem dL_isTold_12 : decode cL_isTold 12 = .ok (.iconst 1, 1) := by decide +kernel
theorem dL_isTold_13 : decode cL_isTold 13 = .ok (.goto 4, 3) := by decide +kernel
theorem dL_isTold_16 : decode cL_isTold 16 = .ok (.iconst 0, 1) := by decide +kernel
theorem dL_isTold_17 : decode cL_isTold 17 = .ok (.istore 6, 2) := by decide +kernel
theorem dL_isTold_19 : decode cL_isTold 19 = .ok (.iload 4, 2) := by decide +kernel
theorem dL_isTold_21 : decode cL_isTold 21 = .ok (.iconst 2, 1) := by decide +kernel
theorem dL_isTold_22 : decode cL_isTold 22 = .ok (.idiv, 1) := by decide +kernel
theorem dL_isTold_23 : decode cL_isTold 23 = .ok (.bipush 9, 2) := by decide +kernel
theorem dL_isTold_25 : decode cL_isTold 25 = .ok (.irem, 1) := by decide +kernel
theorem dL_isTold_26 : decode cL_isTold 26 = .ok (.bipush 8, 2) := by decide +kernel
theorem dL_isTold_28 : decode cL_isTold 28 = .ok (.if_icmp .ne 8, 3) := by decide +kernel
theorem dL_isTold_31 : decode cL_isTold 31 = .ok (.bipush 6, 2) := by decide +kernel
theorem dL_isTold_33 : decode cL_isTold 33 = .ok (.goto 9, 3) := by decide +kernel
theorem dL_isTold_36 : decode cL_isTold 36 = .ok (.iload 4, 2) := by decide +kernel
theorem dL_isTold_38 : decode cL_isTold 38 = .ok (.iconst 2, 1) := by decide +kernel
theorem dL_isTold_39 : decode cL_isTold 39 = .ok (.idiv, 1) := by decide +kernel
theorem dL_isTold_40 : decode cL_isTold 40 = .ok (.iconst 3, 1) := by decide +kernel
theorem dL_isTold_41 : decode cL_isTold 41 = .ok (.irem, 1) := by decide +kernel
theorem dL_isTold_42 : decode cL_isTold 42 = .ok (.istore 7, 2) := by decide +kernel
theorem dL_isTold_44 : decode cL_isTold 44 = .ok (.iload 5, 2) := by decide +kernel
theorem dL_isTold_46 : decode cL_isTold 46 = .ok (.iconst 5, 1) := by decide +kernel
theorem dL_isTold_47 : decode cL_isTold 47 = .ok (.irem, 1) := by decide +kernel
theorem dL_isTold_48 : decode cL_isTold 48 = .ok (.ifCond .ne 16, 3) := by decide +kernel
theorem dL_isTold_51 : decode cL_isTold 51 = .ok (.iload 5, 2) := by decide +kernel
theorem dL_isTold_53 : decode cL_isTold 53 = .ok (.iconst 5, 1) := by decide +kernel
theorem dL_isTold_54 : decode cL_isTold 54 = .ok (.idiv, 1) := by decide +kernel
theorem dL_isTold_55 : decode cL_isTold 55 = .ok (.sipush 403, 3) := by decide +kernel
theorem dL_isTold_58 : decode cL_isTold 58 = .ok (.irem, 1) := by decide +kernel
theorem dL_isTold_59 : decode cL_isTold 59 = .ok (.iconst 1, 1) := by decide +kernel
theorem dL_isTold_60 : decode cL_isTold 60 = .ok (.isub, 1) := by decide +kernel
theorem dL_isTold_61 : decode cL_isTold 61 = .ok (.goto 14, 3) := by decide +kernel
theorem dL_isTold_64 : decode cL_isTold 64 = .ok (.sipush 140, 3) := by decide +kernel
theorem dL_isTold_67 : decode cL_isTold 67 = .ok (.iload 5, 2) := by decide +kernel
theorem dL_isTold_69 : decode cL_isTold 69 = .ok (.iconst 5, 1) := by decide +kernel
theorem dL_isTold_70 : decode cL_isTold 70 = .ok (.idiv, 1) := by decide +kernel
theorem dL_isTold_71 : decode cL_isTold 71 = .ok (.bipush 110, 2) := by decide +kernel
theorem dL_isTold_73 : decode cL_isTold 73 = .ok (.irem, 1) := by decide +kernel
theorem dL_isTold_74 : decode cL_isTold 74 = .ok (.iadd, 1) := by decide +kernel
theorem dL_isTold_75 : decode cL_isTold 75 = .ok (.istore 8, 2) := by decide +kernel
theorem dL_isTold_77 : decode cL_isTold 77 = .ok (.iload 4, 2) := by decide +kernel
theorem dL_isTold_79 : decode cL_isTold 79 = .ok (.bipush 18, 2) := by decide +kernel
theorem dL_isTold_81 : decode cL_isTold 81 = .ok (.idiv, 1) := by decide +kernel
theorem dL_isTold_82 : decode cL_isTold 82 = .ok (.iconst 5, 1) := by decide +kernel
theorem dL_isTold_83 : decode cL_isTold 83 = .ok (.irem, 1) := by decide +kernel
theorem dL_isTold_84 : decode cL_isTold 84 = .ok (.ifCond .ne 18, 3) := by decide +kernel
theorem dL_isTold_87 : decode cL_isTold 87 = .ok (.iload 8, 2) := by decide +kernel
theorem dL_isTold_89 : decode cL_isTold 89 = .ok (.iconst 1, 1) := by decide +kernel
theorem dL_isTold_90 : decode cL_isTold 90 = .ok (.isub, 1) := by decide +kernel
theorem dL_isTold_91 : decode cL_isTold 91 = .ok (.iload 4, 2) := by decide +kernel
theorem dL_isTold_93 : decode cL_isTold 93 = .ok (.bipush 90, 2) := by decide +kernel
theorem dL_isTold_95 : decode cL_isTold 95 = .ok (.idiv, 1) := by decide +kernel
theorem dL_isTold_96 : decode cL_isTold 96 = .ok (.iconst 3, 1) := by decide +kernel
theorem dL_isTold_97 : decode cL_isTold 97 = .ok (.irem, 1) := by decide +kernel
theorem dL_isTold_98 : decode cL_isTold 98 = .ok (.iadd, 1) := by decide +kernel
theorem dL_isTold_99 : decode cL_isTold 99 = .ok (.goto 14, 3) := by decide +kernel
theorem dL_isTold_102 : decode cL_isTold 102 = .ok (.iload 8, 2) := by decide +kernel
theorem dL_isTold_104 : decode cL_isTold 104 = .ok (.iload 4, 2) := by decide +kernel
theorem dL_isTold_106 : decode cL_isTold 106 = .ok (.bipush 90, 2) := by decide +kernel
theorem dL_isTold_108 : decode cL_isTold 108 = .ok (.idiv, 1) := by decide +kernel
theorem dL_isTold_109 : decode cL_isTold 109 = .ok (.bipush 60, 2) := by decide +kernel
theorem dL_isTold_111 : decode cL_isTold 111 = .ok (.irem, 1) := by decide +kernel
theorem dL_isTold_112 : decode cL_isTold 112 = .ok (.iadd, 1) := by decide +kernel
theorem dL_isTold_113 : decode cL_isTold 113 = .ok (.istore 9, 2) := by decide +kernel
theorem dL_isTold_115 : decode cL_isTold 115 = .ok (.iload 7, 2) := by decide +kernel
theorem dL_isTold_117 : decode cL_isTold 117 = .ok (.iload 6, 2) := by decide +kernel
theorem dL_isTold_119 : decode cL_isTold 119 = .ok (.ifCond .eq 7, 3) := by decide +kernel
theorem dL_isTold_122 : decode cL_isTold 122 = .ok (.iconst 4, 1) := by decide +kernel
theorem dL_isTold_123 : decode cL_isTold 123 = .ok (.goto 5, 3) := by decide +kernel
theorem dL_isTold_126 : decode cL_isTold 126 = .ok (.bipush 6, 2) := by decide +kernel
theorem dL_isTold_128 : decode cL_isTold 128 = .ok (.if_icmp .ge 7, 3) := by decide +kernel
theorem dL_isTold_131 : decode cL_isTold 131 = .ok (.iconst 1, 1) := by decide +kernel
theorem dL_isTold_132 : decode cL_isTold 132 = .ok (.goto 4, 3) := by decide +kernel
theorem dL_isTold_135 : decode cL_isTold 135 = .ok (.iconst 0, 1) := by decide +kernel
theorem dL_isTold_136 : decode cL_isTold 136 = .ok (.istore 10, 2) := by decide +kernel
theorem dL_isTold_138 : decode cL_isTold 138 = .ok (.iload 8, 2) := by decide +kernel
theorem dL_isTold_140 : decode cL_isTold 140 = .ok (.ifCond .lt 35, 3) := by decide +kernel
theorem dL_isTold_143 : decode cL_isTold 143 = .ok (.iload 8, 2) := by decide +kernel
theorem dL_isTold_145 : decode cL_isTold 145 = .ok (.sipush 401, 3) := by decide +kernel
theorem dL_isTold_148 : decode cL_isTold 148 = .ok (.if_icmp .ge 27, 3) := by decide +kernel
theorem dL_isTold_151 : decode cL_isTold 151 = .ok (.iload 6, 2) := by decide +kernel
theorem dL_isTold_153 : decode cL_isTold 153 = .ok (.ifCond .ne 18, 3) := by decide +kernel
theorem dL_isTold_156 : decode cL_isTold 156 = .ok (.iload 9, 2) := by decide +kernel
theorem dL_isTold_158 : decode cL_isTold 158 = .ok (.iload 8, 2) := by decide +kernel
theorem dL_isTold_160 : decode cL_isTold 160 = .ok (.if_icmp .lt 15, 3) := by decide +kernel
theorem dL_isTold_163 : decode cL_isTold 163 = .ok (.iload 9, 2) := by decide +kernel
theorem dL_isTold_165 : decode cL_isTold 165 = .ok (.sipush 401, 3) := by decide +kernel
theorem dL_isTold_168 : decode cL_isTold 168 = .ok (.if_icmp .ge 7, 3) := by decide +kernel
theorem dL_isTold_171 : decode cL_isTold 171 = .ok (.iconst 1, 1) := by decide +kernel
theorem dL_isTold_172 : decode cL_isTold 172 = .ok (.goto 4, 3) := by decide +kernel
theorem dL_isTold_175 : decode cL_isTold 175 = .ok (.iconst 0, 1) := by decide +kernel
theorem dL_isTold_176 : decode cL_isTold 176 = .ok (.istore 11, 2) := by decide +kernel
theorem dL_isTold_178 : decode cL_isTold 178 = .ok (.iload 10, 2) := by decide +kernel
theorem dL_isTold_180 : decode cL_isTold 180 = .ok (.ifCond .eq 45, 3) := by decide +kernel
theorem dL_isTold_183 : decode cL_isTold 183 = .ok (.iload 11, 2) := by decide +kernel
theorem dL_isTold_185 : decode cL_isTold 185 = .ok (.ifCond .eq 40, 3) := by decide +kernel
theorem dL_isTold_188 : decode cL_isTold 188 = .ok (.aload_n 1, 1) := by decide +kernel
theorem dL_isTold_189 : decode cL_isTold 189 = .ok (.iload 6, 2) := by decide +kernel
theorem dL_isTold_191 : decode cL_isTold 191 = .ok (.ifCond .eq 8, 3) := by decide +kernel
theorem dL_isTold_194 : decode cL_isTold 194 = .ok (.iload 7, 2) := by decide +kernel
theorem dL_isTold_196 : decode cL_isTold 196 = .ok (.goto 7, 3) := by decide +kernel
theorem dL_isTold_199 : decode cL_isTold 199 = .ok (.iconst 4, 1) := by decide +kernel
theorem dL_isTold_200 : decode cL_isTold 200 = .ok (.iload 7, 2) := by decide +kernel
theorem dL_isTold_202 : decode cL_isTold 202 = .ok (.iadd, 1) := by decide +kernel
theorem dL_isTold_203 : decode cL_isTold 203 = .ok (.iload 8, 2) := by decide +kernel
theorem dL_isTold_205 : decode cL_isTold 205 = .ok (.iastore, 1) := by decide +kernel
theorem dL_isTold_206 : decode cL_isTold 206 = .ok (.aload_n 1, 1) := by decide +kernel
theorem dL_isTold_207 : decode cL_isTold 207 = .ok (.iload 6, 2) := by decide +kernel
theorem dL_isTold_209 : decode cL_isTold 209 = .ok (.ifCond .eq 8, 3) := by decide +kernel
theorem dL_isTold_212 : decode cL_isTold 212 = .ok (.bipush 18, 2) := by decide +kernel
theorem dL_isTold_214 : decode cL_isTold 214 = .ok (.goto 8, 3) := by decide +kernel
theorem dL_isTold_217 : decode cL_isTold 217 = .ok (.bipush 10, 2) := by decide +kernel
theorem dL_isTold_219 : decode cL_isTold 219 = .ok (.iload 7, 2) := by decide +kernel
theorem dL_isTold_221 : decode cL_isTold 221 = .ok (.iadd, 1) := by decide +kernel
theorem dL_isTold_222 : decode cL_isTold 222 = .ok (.iload 9, 2) := by decide +kernel
theorem dL_isTold_224 : decode cL_isTold 224 = .ok (.iastore, 1) := by decide +kernel
theorem dL_isTold_225 : decode cL_isTold 225 = .ok (.aload_n 0, 1) := by decide +kernel
theorem dL_isTold_226 : decode cL_isTold 226 = .ok (.bipush 13, 2) := by decide +kernel
theorem dL_isTold_228 : decode cL_isTold 228 = .ok (.iload 6, 2) := by decide +kernel
theorem dL_isTold_230 : decode cL_isTold 230 = .ok (.ifCond .eq 7, 3) := by decide +kernel
theorem dL_isTold_233 : decode cL_isTold 233 = .ok (.iconst 1, 1) := by decide +kernel
theorem dL_isTold_234 : decode cL_isTold 234 = .ok (.goto 4, 3) := by decide +kernel
theorem dL_isTold_237 : decode cL_isTold 237 = .ok (.iconst 0, 1) := by decide +kernel
theorem dL_isTold_238 : decode cL_isTold 238 = .ok (.iload 7, 2) := by decide +kernel
theorem dL_isTold_240 : decode cL_isTold 240 = .ok (.iload 8, 2) := by decide +kernel
theorem dL_isTold_242 : decode cL_isTold 242 = .ok (.iload 9, 2) := by decide +kernel
theorem dL_isTold_244 : decode cL_isTold 244 = .ok (.iconst 0, 1) := by decide +kernel
theorem dL_isTold_245 : decode cL_isTold 245 = .ok (.invokestatic 128, 3) := by decide +kernel
theorem dL_isTold_248 : decode cL_isTold 248 = .ok (.iload 10, 2) := by decide +kernel
theorem dL_isTold_250 : decode cL_isTold 250 = .ok (.ifCond .ne 8, 3) := by decide +kernel
theorem dL_isTold_253 : decode cL_isTold 253 = .ok (.ldc 93, 2) := by decide +kernel
theorem dL_isTold_255 : decode cL_isTold 255 = .ok (.goto 14, 3) := by decide +kernel
theorem dL_isTold_258 : decode cL_isTold 258 = .ok (.iload 11, 2) := by decide +kernel
theorem dL_isTold_260 : decode cL_isTold 260 = .ok (.ifCond .eq 7, 3) := by decide +kernel
theorem dL_isTold_263 : decode cL_isTold 263 = .ok (.iconst 0, 1) := by decide +kernel
theorem dL_isTold_264 : decode cL_isTold 264 = .ok (.goto 5, 3) := by decide +kernel
theorem dL_isTold_267 : decode cL_isTold 267 = .ok (.ldc 96, 2) := by decide +kernel
theorem dL_isTold_269 : decode cL_isTold 269 = .ok (.if_icmp .ne 7, 3) := by decide +kernel
theorem dL_isTold_272 : decode cL_isTold 272 = .ok (.iconst 1, 1) := by decide +kernel
theorem dL_isTold_273 : decode cL_isTold 273 = .ok (.goto 4, 3) := by decide +kernel
theorem dL_isTold_276 : decode cL_isTold 276 = .ok (.iconst 0, 1) := by decide +kernel
theorem dL_isTold_277 : decode cL_isTold 277 = .ok (.ireturn, 1) := by decide +kernel
theorem dL_isTold_278 : decode cL_isTold 278 = .ok (.iload_n 3, 1) := by decide +kernel
theorem dL_isTold_279 : decode cL_isTold 279 = .ok (.iconst 1, 1) := by decide +kernel
theorem dL_isTold_280 : decode cL_isTold 280 = .ok (.if_icmp .ne 147, 3) := by decide +kernel
theorem dL_isTold_283 : decode cL_isTold 283 = .ok (.iload 4, 2) := by decide +kernel
theorem dL_isTold_285 : decode cL_isTold 285 = .ok (.bipush 9, 2) := by decide +kernel
theorem dL_isTold_287 : decode cL_isTold 287 = .ok (.irem, 1) := by decide +kernel
theorem dL_isTold_288 : decode cL_isTold 288 = .ok (.istore 6, 2) := by decide +kernel
theorem dL_isTold_290 : decode cL_isTold 290 = .ok (.iload 5, 2) := by decide +kernel
theorem dL_isTold_292 : decode cL_isTold 292 = .ok (.iconst 3, 1) := by decide +kernel
theorem dL_isTold_293 : decode cL_isTold 293 = .ok (.irem, 1) := by decide +kernel
theorem dL_isTold_294 : decode cL_isTold 294 = .ok (.ifCond .le 7, 3) := by decide +kernel
theorem dL_isTold_297 : decode cL_isTold 297 = .ok (.iconst 1, 1) := by decide +kernel
theorem dL_isTold_298 : decode cL_isTold 298 = .ok (.goto 4, 3) := by decide +kernel
theorem dL_isTold_301 : decode cL_isTold 301 = .ok (.iconst 0, 1) := by decide +kernel
theorem dL_isTold_302 : decode cL_isTold 302 = .ok (.istore 7, 2) := by decide +kernel
theorem dL_isTold_304 : decode cL_isTold 304 = .ok (.aload_n 1, 1) := by decide +kernel
theorem dL_isTold_305 : decode cL_isTold 305 = .ok (.bipush 16, 2) := by decide +kernel
theorem dL_isTold_307 : decode cL_isTold 307 = .ok (.iload 6, 2) := by decide +kernel
theorem dL_isTold_309 : decode cL_isTold 309 = .ok (.bipush 8, 2) := by decide +kernel
theorem dL_isTold_311 : decode cL_isTold 311 = .ok (.if_icmp .ne 10, 3) := by decide +kernel
theorem dL_isTold_314 : decode cL_isTold 314 = .ok (.aload_n 1, 1) := by decide +kernel
theorem dL_isTold_315 : decode cL_isTold 315 = .ok (.bipush 16, 2) := by decide +kernel
theorem dL_isTold_317 : decode cL_isTold 317 = .ok (.iaload, 1) := by decide +kernel
theorem dL_isTold_318 : decode cL_isTold 318 = .ok (.goto 31, 3) := by decide +kernel
theorem dL_isTold_321 : decode cL_isTold 321 = .ok (.iload 7, 2) := by decide +kernel
theorem dL_isTold_323 : decode cL_isTold 323 = .ok (.ifCond .eq 15, 3) := by decide +kernel
theorem dL_isTold_326 : decode cL_isTold 326 = .ok (.aload_n 1, 1) := by decide +kernel
theorem dL_isTold_327 : decode cL_isTold 327 = .ok (.bipush 16, 2) := by decide +kernel
theorem dL_isTold_329 : decode cL_isTold 329 = .ok (.iaload, 1) := by decide +kernel
theorem dL_isTold_330 : decode cL_isTold 330 = .ok (.iconst 1, 1) := by decide +kernel
theorem dL_isTold_331 : decode cL_isTold 331 = .ok (.iload 6, 2) := by decide +kernel
theorem dL_isTold_333 : decode cL_isTold 333 = .ok (.ishl, 1) := by decide +kernel
theorem dL_isTold_334 : decode cL_isTold 334 = .ok (.ior, 1) := by decide +kernel
theorem dL_isTold_335 : decode cL_isTold 335 = .ok (.goto 14, 3) := by decide +kernel
theorem dL_isTold_338 : decode cL_isTold 338 = .ok (.aload_n 1, 1) := by decide +kernel
theorem dL_isTold_339 : decode cL_isTold 339 = .ok (.bipush 16, 2) := by decide +kernel
theorem dL_isTold_341 : decode cL_isTold 341 = .ok (.iaload, 1) := by decide +kernel
theorem dL_isTold_342 : decode cL_isTold 342 = .ok (.iconst 1, 1) := by decide +kernel
theorem dL_isTold_343 : decode cL_isTold 343 = .ok (.iload 6, 2) := by decide +kernel
theorem dL_isTold_345 : decode cL_isTold 345 = .ok (.ishl, 1) := by decide +kernel
theorem dL_isTold_346 : decode cL_isTold 346 = .ok (.iconst (-1), 1) := by decide +kernel
theorem dL_isTold_347 : decode cL_isTold 347 = .ok (.ixor, 1) := by decide +kernel
theorem dL_isTold_348 : decode cL_isTold 348 = .ok (.iand, 1) := by decide +kernel
theorem dL_isTold_349 : decode cL_isTold 349 = .ok (.iastore, 1) := by decide +kernel
theorem dL_isTold_350 : decode cL_isTold 350 = .ok (.iconst 0, 1) := by decide +kernel
theorem dL_isTold_351 : decode cL_isTold 351 = .ok (.istore 8, 2) := by decide +kernel
theorem dL_isTold_353 : decode cL_isTold 353 = .ok (.iconst 0, 1) := by decide +kernel
theorem dL_isTold_354 : decode cL_isTold 354 = .ok (.istore 9, 2) := by decide +kernel
theorem dL_isTold_356 : decode cL_isTold 356 = .ok (.iload 9, 2) := by decide +kernel
theorem dL_isTold_358 : decode cL_isTold 358 = .ok (.bipush 8, 2) := by decide +kernel
theorem dL_isTold_360 : decode cL_isTold 360 = .ok (.if_icmp .ge 23, 3) := by decide +kernel
theorem dL_isTold_363 : decode cL_isTold 363 = .ok (.iload 8, 2) := by decide +kernel
theorem dL_isTold_365 : decode cL_isTold 365 = .ok (.aload_n 1, 1) := by decide +kernel
theorem dL_isTold_366 : decode cL_isTold 366 = .ok (.bipush 16, 2) := by decide +kernel
theorem dL_isTold_368 : decode cL_isTold 368 = .ok (.iaload, 1) := by decide +kernel
theorem dL_isTold_369 : decode cL_isTold 369 = .ok (.iload 9, 2) := by decide +kernel
theorem dL_isTold_371 : decode cL_isTold 371 = .ok (.ishr, 1) := by decide +kernel
theorem dL_isTold_372 : decode cL_isTold 372 = .ok (.iconst 1, 1) := by decide +kernel
theorem dL_isTold_373 : decode cL_isTold 373 = .ok (.iand, 1) := by decide +kernel
theorem dL_isTold_374 : decode cL_isTold 374 = .ok (.iadd, 1) := by decide +kernel
theorem dL_isTold_375 : decode cL_isTold 375 = .ok (.istore 8, 2) := by decide +kernel
theorem dL_isTold_377 : decode cL_isTold 377 = .ok (.iinc 9 1, 3) := by decide +kernel
theorem dL_isTold_380 : decode cL_isTold 380 = .ok (.goto (-24), 3) := by decide +kernel
theorem dL_isTold_383 : decode cL_isTold 383 = .ok (.aload_n 0, 1) := by decide +kernel
theorem dL_isTold_384 : decode cL_isTold 384 = .ok (.bipush 16, 2) := by decide +kernel
theorem dL_isTold_386 : decode cL_isTold 386 = .ok (.iload 6, 2) := by decide +kernel
theorem dL_isTold_388 : decode cL_isTold 388 = .ok (.iload 7, 2) := by decide +kernel
theorem dL_isTold_390 : decode cL_isTold 390 = .ok (.ifCond .eq 7, 3) := by decide +kernel
theorem dL_isTold_393 : decode cL_isTold 393 = .ok (.iconst 1, 1) := by decide +kernel
theorem dL_isTold_394 : decode cL_isTold 394 = .ok (.goto 4, 3) := by decide +kernel
theorem dL_isTold_397 : decode cL_isTold 397 = .ok (.iconst 0, 1) := by decide +kernel
theorem dL_isTold_398 : decode cL_isTold 398 = .ok (.iconst 0, 1) := by decide +kernel
theorem dL_isTold_399 : decode cL_isTold 399 = .ok (.iconst 0, 1) := by decide +kernel
theorem dL_isTold_400 : decode cL_isTold 400 = .ok (.iconst 0, 1) := by decide +kernel
theorem dL_isTold_401 : decode cL_isTold 401 = .ok (.invokestatic 128, 3) := by decide +kernel
theorem dL_isTold_404 : decode cL_isTold 404 = .ok (.iload 6, 2) := by decide +kernel
theorem dL_isTold_406 : decode cL_isTold 406 = .ok (.bipush 8, 2) := by decide +kernel
theorem dL_isTold_408 : decode cL_isTold 408 = .ok (.if_icmp .ne 8, 3) := by decide +kernel
theorem dL_isTold_411 : decode cL_isTold 411 = .ok (.ldc 93, 2) := by decide +kernel
theorem dL_isTold_413 : decode cL_isTold 413 = .ok (.goto 5, 3) := by decide +kernel
theorem dL_isTold_416 : decode cL_isTold 416 = .ok (.iload 8, 2) := by decide +kernel
theorem dL_isTold_418 : decode cL_isTold 418 = .ok (.if_icmp .ne 7, 3) := by decide +kernel
theorem dL_isTold_421 : decode cL_isTold 421 = .ok (.iconst 1, 1) := by decide +kernel
theorem dL_isTold_422 : decode cL_isTold 422 = .ok (.goto 4, 3) := by decide +kernel
theorem dL_isTold_425 : decode cL_isTold 425 = .ok (.iconst 0, 1) := by decide +kernel
theorem dL_isTold_426 : decode cL_isTold 426 = .ok (.ireturn, 1) := by decide +kernel
theorem dL_isTold_427 : decode cL_isTold 427 = .ok (.iload 4, 2) := by decide +kernel
theorem dL_isTold_429 : decode cL_isTold 429 = .ok (.bipush 6, 2) := by decide +kernel
theorem dL_isTold_431 : decode cL_isTold 431 = .ok (.irem, 1) := by decide +kernel
theorem dL_isTold_432 : decode cL_isTold 432 = .ok (.ifCond .ne 12, 3) := by decide +kernel
theorem dL_isTold_435 : decode cL_isTold 435 = .ok (.iload 4, 2) := by decide +kernel
theorem dL_isTold_437 : decode cL_isTold 437 = .ok (.sipush 1001, 3) := by decide +kernel
theorem dL_isTold_440 : decode cL_isTold 440 = .ok (.irem, 1) := by decide +kernel
theorem dL_isTold_441 : decode cL_isTold 441 = .ok (.goto 10, 3) := by decide +kernel
theorem dL_isTold_444 : decode cL_isTold 444 = .ok (.iconst 1, 1) := by decide +kernel
theorem dL_isTold_445 : decode cL_isTold 445 = .ok (.iload 4, 2) := by decide +kernel
theorem dL_isTold_447 : decode cL_isTold 447 = .ok (.bipush 60, 2) := by decide +kernel
theorem dL_isTold_449 : decode cL_isTold 449 = .ok (.irem, 1) := by decide +kernel
theorem dL_isTold_450 : decode cL_isTold 450 = .ok (.iadd, 1) := by decide +kernel
theorem dL_isTold_451 : decode cL_isTold 451 = .ok (.istore 6, 2) := by decide +kernel
theorem dL_isTold_453 : decode cL_isTold 453 = .ok (.iload 6, 2) := by decide +kernel
theorem dL_isTold_455 : decode cL_isTold 455 = .ok (.ifCond .le 15, 3) := by decide +kernel
theorem dL_isTold_458 : decode cL_isTold 458 = .ok (.iload 6, 2) := by decide +kernel
theorem dL_isTold_460 : decode cL_isTold 460 = .ok (.sipush 1000, 3) := by decide +kernel
theorem dL_isTold_463 : decode cL_isTold 463 = .ok (.if_icmp .ge 7, 3) := by decide +kernel
theorem dL_isTold_466 : decode cL_isTold 466 = .ok (.iconst 1, 1) := by decide +kernel
theorem dL_isTold_467 : decode cL_isTold 467 = .ok (.goto 4, 3) := by decide +kernel
theorem dL_isTold_470 : decode cL_isTold 470 = .ok (.iconst 0, 1) := by decide +kernel
theorem dL_isTold_471 : decode cL_isTold 471 = .ok (.istore 7, 2) := by decide +kernel
theorem dL_isTold_473 : decode cL_isTold 473 = .ok (.iload 7, 2) := by decide +kernel
theorem dL_isTold_475 : decode cL_isTold 475 = .ok (.ifCond .eq 20, 3) := by decide +kernel
theorem dL_isTold_478 : decode cL_isTold 478 = .ok (.aload_n 1, 1) := by decide +kernel
theorem dL_isTold_479 : decode cL_isTold 479 = .ok (.bipush 17, 2) := by decide +kernel
theorem dL_isTold_481 : decode cL_isTold 481 = .ok (.iaload, 1) := by decide +kernel
theorem dL_isTold_482 : decode cL_isTold 482 = .ok (.iload 6, 2) := by decide +kernel
theorem dL_isTold_484 : decode cL_isTold 484 = .ok (.iadd, 1) := by decide +kernel
theorem dL_isTold_485 : decode cL_isTold 485 = .ok (.sipush 10000, 3) := by decide +kernel
theorem dL_isTold_488 : decode cL_isTold 488 = .ok (.if_icmp .ge 7, 3) := by decide +kernel
theorem dL_isTold_491 : decode cL_isTold 491 = .ok (.iconst 1, 1) := by decide +kernel
theorem dL_isTold_492 : decode cL_isTold 492 = .ok (.goto 4, 3) := by decide +kernel
theorem dL_isTold_495 : decode cL_isTold 495 = .ok (.iconst 0, 1) := by decide +kernel
theorem dL_isTold_496 : decode cL_isTold 496 = .ok (.istore 8, 2) := by decide +kernel
theorem dL_isTold_498 : decode cL_isTold 498 = .ok (.aload_n 1, 1) := by decide +kernel
theorem dL_isTold_499 : decode cL_isTold 499 = .ok (.bipush 17, 2) := by decide +kernel
theorem dL_isTold_501 : decode cL_isTold 501 = .ok (.dup2, 1) := by decide +kernel
theorem dL_isTold_502 : decode cL_isTold 502 = .ok (.iaload, 1) := by decide +kernel
theorem dL_isTold_503 : decode cL_isTold 503 = .ok (.iload 8, 2) := by decide +kernel
theorem dL_isTold_505 : decode cL_isTold 505 = .ok (.ifCond .eq 8, 3) := by decide +kernel
theorem dL_isTold_508 : decode cL_isTold 508 = .ok (.iload 6, 2) := by decide +kernel
theorem dL_isTold_510 : decode cL_isTold 510 = .ok (.goto 4, 3) := by decide +kernel
theorem dL_isTold_513 : decode cL_isTold 513 = .ok (.iconst 0, 1) := by decide +kernel
theorem dL_isTold_514 : decode cL_isTold 514 = .ok (.iadd, 1) := by decide +kernel
theorem dL_isTold_515 : decode cL_isTold 515 = .ok (.iastore, 1) := by decide +kernel
theorem dL_isTold_516 : decode cL_isTold 516 = .ok (.aload_n 0, 1) := by decide +kernel
theorem dL_isTold_517 : decode cL_isTold 517 = .ok (.bipush 20, 2) := by decide +kernel
theorem dL_isTold_519 : decode cL_isTold 519 = .ok (.iload 6, 2) := by decide +kernel
theorem dL_isTold_521 : decode cL_isTold 521 = .ok (.iconst 0, 1) := by decide +kernel
theorem dL_isTold_522 : decode cL_isTold 522 = .ok (.iconst 0, 1) := by decide +kernel
theorem dL_isTold_523 : decode cL_isTold 523 = .ok (.iconst 0, 1) := by decide +kernel
theorem dL_isTold_524 : decode cL_isTold 524 = .ok (.iconst 0, 1) := by decide +kernel
theorem dL_isTold_525 : decode cL_isTold 525 = .ok (.invokestatic 128, 3) := by decide +kernel
theorem dL_isTold_528 : decode cL_isTold 528 = .ok (.iload 7, 2) := by decide +kernel
theorem dL_isTold_530 : decode cL_isTold 530 = .ok (.ifCond .ne 8, 3) := by decide +kernel
theorem dL_isTold_533 : decode cL_isTold 533 = .ok (.ldc 96, 2) := by decide +kernel
theorem dL_isTold_535 : decode cL_isTold 535 = .ok (.goto 17, 3) := by decide +kernel
theorem dL_isTold_538 : decode cL_isTold 538 = .ok (.iload 8, 2) := by decide +kernel
theorem dL_isTold_540 : decode cL_isTold 540 = .ok (.ifCond .eq 10, 3) := by decide +kernel
theorem dL_isTold_543 : decode cL_isTold 543 = .ok (.aload_n 1, 1) := by decide +kernel
theorem dL_isTold_544 : decode cL_isTold 544 = .ok (.bipush 17, 2) := by decide +kernel
theorem dL_isTold_546 : decode cL_isTold 546 = .ok (.iaload, 1) := by decide +kernel
theorem dL_isTold_547 : decode cL_isTold 547 = .ok (.goto 5, 3) := by decide +kernel
theorem dL_isTold_550 : decode cL_isTold 550 = .ok (.ldc 99, 2) := by decide +kernel
theorem dL_isTold_552 : decode cL_isTold 552 = .ok (.if_icmp .ne 7, 3) := by decide +kernel
theorem dL_isTold_555 : decode cL_isTold 555 = .ok (.iconst 1, 1) := by decide +kernel
theorem dL_isTold_556 : decode cL_isTold 556 = .ok (.goto 4, 3) := by decide +kernel
theorem dL_isTold_559 : decode cL_isTold 559 = .ok (.iconst 0, 1) := by decide +kernel
theorem dL_isTold_560 : decode cL_isTold 560 = .ok (.ireturn, 1) := by decide +kernel
theorem dX11_crimps_0 : decode cX11_crimps 0 = .ok (.iload_n 1, 1) := by decide +kernel
theorem dX11_crimps_1 : decode cX11_crimps 1 = .ok (.iconst 0, 1) := by decide +kernel
theorem dX11_crimps_2 : decode cX11_crimps 2 = .ok (.iconst 2, 1) := by decide +kernel
theorem dX11_crimps_3 : decode cX11_crimps 3 = .ok (.invokestatic 62, 3) := by decide +kernel
theorem dX11_crimps_6 : decode cX11_crimps 6 = .ok (.invokestatic 66, 3) := by decide +kernel
theorem dX11_crimps_9 : decode cX11_crimps 9 = .ok (.iload_n 1, 1) := by decide +kernel
theorem dX11_crimps_10 : decode cX11_crimps 10 = .ok (.ifCond .ne 11, 3) := by decide +kernel
theorem dX11_crimps_13 : decode cX11_crimps 13 = .ok (.aload_n 0, 1) := by decide +kernel
theorem dX11_crimps_14 : decode cX11_crimps 14 = .ok (.getfield 26, 3) := by decide +kernel
theorem dX11_crimps_17 : decode cX11_crimps 17 = .ok (.getfield 169, 3) := by decide +kernel
theorem dX11_crimps_20 : decode cX11_crimps 20 = .ok (.ireturn, 1) := by decide +kernel
theorem dX11_crimps_21 : decode cX11_crimps 21 = .ok (.iload_n 1, 1) := by decide +kernel
theorem dX11_crimps_22 : decode cX11_crimps 22 = .ok (.iconst 1, 1) := by decide +kernel
theorem dX11_crimps_23 : decode cX11_crimps 23 = .ok (.if_icmp .ne 13, 3) := by decide +kernel
theorem dX11_crimps_26 : decode cX11_crimps 26 = .ok (.aload_n 0, 1) := by decide +kernel
theorem dX11_crimps_27 : decode cX11_crimps 27 = .ok (.getfield 26, 3) := by decide +kernel
theorem dX11_crimps_30 : decode cX11_crimps 30 = .ok (.getfield 170, 3) := by decide +kernel
theorem dX11_crimps_33 : decode cX11_crimps 33 = .ok (.goto 10, 3) := by decide +kernel
theorem dX11_crimps_36 : decode cX11_crimps 36 = .ok (.aload_n 0, 1) := by decide +kernel
theorem dX11_crimps_37 : decode cX11_crimps 37 = .ok (.getfield 26, 3) := by decide +kernel
theorem dX11_crimps_40 : decode cX11_crimps 40 = .ok (.invokevirtual 173, 3) := by decide +kernel
theorem dX11_crimps_43 : decode cX11_crimps 43 = .ok (.ireturn, 1) := by decide +kernel
theorem dX11_weight_0 : decode cX11_weight 0 = .ok (.iload_n 1, 1) := by decide +kernel
theorem dX11_weight_1 : decode cX11_weight 1 = .ok (.iconst 0, 1) := by decide +kernel
theorem dX11_weight_2 : decode cX11_weight 2 = .ok (.sipush 255, 3) := by decide +kernel
theorem dX11_weight_5 : decode cX11_weight 5 = .ok (.invokestatic 62, 3) := by decide +kernel
theorem dX11_weight_8 : decode cX11_weight 8 = .ok (.invokestatic 66, 3) := by decide +kernel
theorem dX11_weight_11 : decode cX11_weight 11 = .ok (.aload_n 0, 1) := by decide +kernel
theorem dX11_weight_12 : decode cX11_weight 12 = .ok (.getfield 10, 3) := by decide +kernel
theorem dX11_weight_15 : decode cX11_weight 15 = .ok (.iload_n 1, 1) := by decide +kernel
theorem dX11_weight_16 : decode cX11_weight 16 = .ok (.invokevirtual 149, 3) := by decide +kernel
theorem dX11_weight_19 : decode cX11_weight 19 = .ok (.ireturn, 1) := by decide +kernel
theorem dL_weight_0 : decode cL_weight 0 = .ok (.iconst 0, 1) := by decide +kernel
theorem dL_weight_1 : decode cL_weight 1 = .ok (.istore 4, 2) := by decide +kernel
theorem dL_weight_3 : decode cL_weight 3 = .ok (.iconst 0, 1) := by decide +kernel
theorem dL_weight_4 : decode cL_weight 4 = .ok (.istore 5, 2) := by decide +kernel
theorem dL_weight_6 : decode cL_weight 6 = .ok (.iload 5, 2) := by decide +kernel
theorem dL_weight_8 : decode cL_weight 8 = .ok (.aload_n 2, 1) := by decide +kernel
theorem dL_weight_9 : decode cL_weight 9 = .ok (.iconst 2, 1) := by decide +kernel
theorem dL_weight_10 : decode cL_weight 10 = .ok (.iaload, 1) := by decide +kernel
theorem dL_weight_11 : decode cL_weight 11 = .ok (.if_icmp .ge 50, 3) := by decide +kernel
theorem dL_weight_14 : decode cL_weight 14 = .ok (.iload 4, 2) := by decide +kernel
theorem dL_weight_16 : decode cL_weight 16 = .ok (.aload_n 0, 1) := by decide +kernel
theorem dL_weight_17 : decode cL_weight 17 = .ok (.iload 5, 2) := by decide +kernel
theorem dL_weight_19 : decode cL_weight 19 = .ok (.iaload, 1) := by decide +kernel
theorem dL_weight_20 : decode cL_weight 20 = .ok (.ldc 108, 2) := by decide +kernel
theorem dL_weight_22 : decode cL_weight 22 = .ok (.if_icmp .ge 29, 3) := by decide +kernel
theorem dL_weight_25 : decode cL_weight 25 = .ok (.iload_n 3, 1) := by decide +kernel
theorem dL_weight_26 : decode cL_weight 26 = .ok (.aload_n 0, 1) := by decide +kernel
theorem dL_weight_27 : decode cL_weight 27 = .ok (.iload 5, 2) := by decide +kernel
theorem dL_weight_29 : decode cL_weight 29 = .ok (.iaload, 1) := by decide +kernel
theorem dL_weight_30 : decode cL_weight 30 = .ok (.sipush 4096, 3) := by decide +kernel
theorem dL_weight_33 : decode cL_weight 33 = .ok (.idiv, 1) := by decide +kernel
theorem dL_weight_34 : decode cL_weight 34 = .ok (.ishr, 1) := by decide +kernel
theorem dL_weight_35 : decode cL_weight 35 = .ok (.iconst 1, 1) := by decide +kernel
theorem dL_weight_36 : decode cL_weight 36 = .ok (.iand, 1) := by decide +kernel
theorem dL_weight_37 : decode cL_weight 37 = .ok (.iconst 1, 1) := by decide +kernel
theorem dL_weight_38 : decode cL_weight 38 = .ok (.if_icmp .ne 13, 3) := by decide +kernel
theorem dL_weight_41 : decode cL_weight 41 = .ok (.aload_n 1, 1) := by decide +kernel
theorem dL_weight_42 : decode cL_weight 42 = .ok (.bipush 24, 2) := by decide +kernel
theorem dL_weight_44 : decode cL_weight 44 = .ok (.iload 5, 2) := by decide +kernel
theorem dL_weight_46 : decode cL_weight 46 = .ok (.iadd, 1) := by decide +kernel
theorem dL_weight_47 : decode cL_weight 47 = .ok (.iaload, 1) := by decide +kernel
theorem dL_weight_48 : decode cL_weight 48 = .ok (.goto 4, 3) := by decide +kernel
theorem dL_weight_51 : decode cL_weight 51 = .ok (.iconst 0, 1) := by decide +kernel
theorem dL_weight_52 : decode cL_weight 52 = .ok (.iadd, 1) := by decide +kernel
theorem dL_weight_53 : decode cL_weight 53 = .ok (.istore 4, 2) := by decide +kernel
theorem dL_weight_55 : decode cL_weight 55 = .ok (.iinc 5 1, 3) := by decide +kernel
theorem dL_weight_58 : decode cL_weight 58 = .ok (.goto (-52), 3) := by decide +kernel
theorem dL_weight_61 : decode cL_weight 61 = .ok (.iload 4, 2) := by decide +kernel
theorem dL_weight_63 : decode cL_weight 63 = .ok (.ireturn, 1) := by decide +kernel
theorem dX11_jointAnew_0 : decode cX11_jointAnew 0 = .ok (.aload_n 0, 1) := by decide +kernel
theorem dX11_jointAnew_1 : decode cX11_jointAnew 1 = .ok (.iload_n 1, 1) := by decide +kernel
theorem dX11_jointAnew_2 : decode cX11_jointAnew 2 = .ok (.invokevirtual 207, 3) := by decide +kernel
theorem dX11_jointAnew_5 : decode cX11_jointAnew 5 = .ok (.astore_n 3, 1) := by decide +kernel
theorem dX11_jointAnew_6 : decode cX11_jointAnew 6 = .ok (.aload_n 3, 1) := by decide +kernel
theorem dX11_jointAnew_7 : decode cX11_jointAnew 7 = .ok (.iload_n 2, 1) := by decide +kernel
theorem dX11_jointAnew_8 : decode cX11_jointAnew 8 = .ok (.invokevirtual 211, 3) := by decide +kernel
theorem dX11_jointAnew_11 : decode cX11_jointAnew 11 = .ok (.astore 4, 2) := by decide +kernel
theorem dX11_jointAnew_13 : decode cX11_jointAnew 13 = .ok (.aload_n 3, 1) := by decide +kernel
theorem dX11_jointAnew_14 : decode cX11_jointAnew 14 = .ok (.getfield 215, 3) := by decide +kernel
theorem dX11_jointAnew_17 : decode cX11_jointAnew 17 = .ok (.ifCond .eq 23, 3) := by decide +kernel
theorem dX11_jointAnew_20 : decode cX11_jointAnew 20 = .ok (.aload 4, 2) := by decide +kernel
theorem dX11_jointAnew_22 : decode cX11_jointAnew 22 = .ok (.invokevirtual 218, 3) := by decide +kernel
theorem dX11_jointAnew_25 : decode cX11_jointAnew 25 = .ok (.ifCond .eq 15, 3) := by decide +kernel
theorem dX11_jointAnew_28 : decode cX11_jointAnew 28 = .ok (.aload 4, 2) := by decide +kernel
theorem dX11_jointAnew_30 : decode cX11_jointAnew 30 = .ok (.aload_n 3, 1) := by decide +kernel
theorem dX11_jointAnew_31 : decode cX11_jointAnew 31 = .ok (.invokevirtual 286, 3) := by decide +kernel
theorem dX11_jointAnew_34 : decode cX11_jointAnew 34 = .ok (.invokevirtual 289, 3) := by decide +kernel
theorem dX11_jointAnew_37 : decode cX11_jointAnew 37 = .ok (.goto 4, 3) := by decide +kernel
theorem dX11_jointAnew_40 : decode cX11_jointAnew 40 = .ok (.iconst (-1), 1) := by decide +kernel
theorem dX11_jointAnew_41 : decode cX11_jointAnew 41 = .ok (.ireturn, 1) := by decide +kernel
theorem dL_isSo_0 : decode cL_isSo 0 = .ok (.aload_n 0, 1) := by decide +kernel
theorem dL_isSo_1 : decode cL_isSo 1 = .ok (.iconst 0, 1) := by decide +kernel
theorem dL_isSo_2 : decode cL_isSo 2 = .ok (.invokevirtual 113, 3) := by decide +kernel
theorem dL_isSo_5 : decode cL_isSo 5 = .ok (.aload 11, 2) := by decide +kernel
theorem dL_isSo_7 : decode cL_isSo 7 = .ok (.bipush 6, 2) := by decide +kernel
theorem dL_isSo_9 : decode cL_isSo 9 = .ok (.iaload, 1) := by decide +kernel
theorem dL_isSo_10 : decode cL_isSo 10 = .ok (.if_icmp .ne 81, 3) := by decide +kernel
theorem dL_isSo_13 : decode cL_isSo 13 = .ok (.aload_n 0, 1) := by decide +kernel
theorem dL_isSo_14 : decode cL_isSo 14 = .ok (.iconst 1, 1) := by decide +kernel
theorem dL_isSo_15 : decode cL_isSo 15 = .ok (.invokevirtual 113, 3) := by decide +kernel
theorem dL_isSo_18 : decode cL_isSo 18 = .ok (.aload 11, 2) := by decide +kernel
theorem dL_isSo_20 : decode cL_isSo 20 = .ok (.bipush 7, 2) := by decide +kernel
theorem dL_isSo_22 : decode cL_isSo 22 = .ok (.iaload, 1) := by decide +kernel
theorem dL_isSo_23 : decode cL_isSo 23 = .ok (.if_icmp .ne 68, 3) := by decide +kernel
theorem dL_isSo_26 : decode cL_isSo 26 = .ok (.aload_n 0, 1) := by decide +kernel
theorem dL_isSo_27 : decode cL_isSo 27 = .ok (.iconst 2, 1) := by decide +kernel
theorem dL_isSo_28 : decode cL_isSo 28 = .ok (.invokevirtual 113, 3) := by decide +kernel
theorem dL_isSo_31 : decode cL_isSo 31 = .ok (.aload 10, 2) := by decide +kernel
theorem dL_isSo_33 : decode cL_isSo 33 = .ok (.aload 11, 2) := by decide +kernel
theorem dL_isSo_35 : decode cL_isSo 35 = .ok (.invokestatic 116, 3) := by decide +kernel
theorem dL_isSo_38 : decode cL_isSo 38 = .ok (.if_icmp .ne 53, 3) := by decide +kernel
theorem dL_isSo_41 : decode cL_isSo 41 = .ok (.aload_n 0, 1) := by decide +kernel
theorem dL_isSo_42 : decode cL_isSo 42 = .ok (.sipush 255, 3) := by decide +kernel
theorem dL_isSo_45 : decode cL_isSo 45 = .ok (.invokevirtual 120, 3) := by decide +kernel
theorem dL_isSo_48 : decode cL_isSo 48 = .ok (.aload_n 1, 1) := by decide +kernel
theorem dL_isSo_49 : decode cL_isSo 49 = .ok (.aload_n 2, 1) := by decide +kernel
theorem dL_isSo_50 : decode cL_isSo 50 = .ok (.aload 11, 2) := by decide +kernel
theorem dL_isSo_52 : decode cL_isSo 52 = .ok (.sipush 255, 3) := by decide +kernel
theorem dL_isSo_55 : decode cL_isSo 55 = .ok (.invokestatic 123, 3) := by decide +kernel
theorem dL_isSo_58 : decode cL_isSo 58 = .ok (.if_icmp .ne 33, 3) := by decide +kernel
theorem dL_isSo_61 : decode cL_isSo 61 = .ok (.aload_n 0, 1) := by decide +kernel
theorem dL_isSo_62 : decode cL_isSo 62 = .ok (.iload 12, 2) := by decide +kernel
theorem dL_isSo_64 : decode cL_isSo 64 = .ok (.sipush 256, 3) := by decide +kernel
theorem dL_isSo_67 : decode cL_isSo 67 = .ok (.irem, 1) := by decide +kernel
theorem dL_isSo_68 : decode cL_isSo 68 = .ok (.invokevirtual 120, 3) := by decide +kernel
theorem dL_isSo_71 : decode cL_isSo 71 = .ok (.aload_n 1, 1) := by decide +kernel
theorem dL_isSo_72 : decode cL_isSo 72 = .ok (.aload_n 2, 1) := by decide +kernel
theorem dL_isSo_73 : decode cL_isSo 73 = .ok (.aload 11, 2) := by decide +kernel
theorem dL_isSo_75 : decode cL_isSo 75 = .ok (.iload 12, 2) := by decide +kernel
theorem dL_isSo_77 : decode cL_isSo 77 = .ok (.sipush 256, 3) := by decide +kernel
theorem dL_isSo_80 : decode cL_isSo 80 = .ok (.irem, 1) := by decide +kernel
theorem dL_isSo_81 : decode cL_isSo 81 = .ok (.invokestatic 123, 3) := by decide +kernel
theorem dL_isSo_84 : decode cL_isSo 84 = .ok (.if_icmp .ne 7, 3) := by decide +kernel
theorem dL_isSo_87 : decode cL_isSo 87 = .ok (.iconst 1, 1) := by decide +kernel
theorem dL_isSo_88 : decode cL_isSo 88 = .ok (.goto 4, 3) := by decide +kernel
theorem dL_isSo_91 : decode cL_isSo 91 = .ok (.iconst 0, 1) := by decide +kernel
theorem dL_isSo_92 : decode cL_isSo 92 = .ok (.istore 13, 2) := by decide +kernel
theorem dL_isSo_94 : decode cL_isSo 94 = .ok (.iconst 0, 1) := by decide +kernel
theorem dL_isSo_95 : decode cL_isSo 95 = .ok (.istore 14, 2) := by decide +kernel
theorem dL_isSo_97 : decode cL_isSo 97 = .ok (.iload 14, 2) := by decide +kernel
theorem dL_isSo_99 : decode cL_isSo 99 = .ok (.aload 11, 2) := by decide +kernel
theorem dL_isSo_101 : decode cL_isSo 101 = .ok (.iconst 2, 1) := by decide +kernel
theorem dL_isSo_102 : decode cL_isSo 102 = .ok (.iaload, 1) := by decide +kernel
theorem dL_isSo_103 : decode cL_isSo 103 = .ok (.if_icmp .ge 51, 3) := by decide +kernel
theorem dL_isSo_106 : decode cL_isSo 106 = .ok (.iload 13, 2) := by decide +kernel
theorem dL_isSo_108 : decode cL_isSo 108 = .ok (.ifCond .eq 46, 3) := by decide +kernel
theorem dL_isSo_111 : decode cL_isSo 111 = .ok (.aload_n 0, 1) := by decide +kernel
theorem dL_isSo_112 : decode cL_isSo 112 = .ok (.iload 14, 2) := by decide +kernel
theorem dL_isSo_114 : decode cL_isSo 114 = .ok (.iconst (-1), 1) := by decide +kernel
theorem dL_isSo_115 : decode cL_isSo 115 = .ok (.invokevirtual 30, 3) := by decide +kernel
theorem dL_isSo_118 : decode cL_isSo 118 = .ok (.aload_n 1, 1) := by decide +kernel
theorem dL_isSo_119 : decode cL_isSo 119 = .ok (.iload 14, 2) := by decide +kernel
theorem dL_isSo_121 : decode cL_isSo 121 = .ok (.iaload, 1) := by decide +kernel
theorem dL_isSo_122 : decode cL_isSo 122 = .ok (.ldc 108, 2) := by decide +kernel
theorem dL_isSo_124 : decode cL_isSo 124 = .ok (.if_icmp .ge 13, 3) := by decide +kernel
theorem dL_isSo_127 : decode cL_isSo 127 = .ok (.aload_n 2, 1) := by decide +kernel
theorem dL_isSo_128 : decode cL_isSo 128 = .ok (.bipush 24, 2) := by decide +kernel
theorem dL_isSo_130 : decode cL_isSo 130 = .ok (.iload 14, 2) := by decide +kernel
theorem dL_isSo_132 : decode cL_isSo 132 = .ok (.iadd, 1) := by decide +kernel
theorem dL_isSo_133 : decode cL_isSo 133 = .ok (.iaload, 1) := by decide +kernel
theorem dL_isSo_134 : decode cL_isSo 134 = .ok (.goto 4, 3) := by decide +kernel
theorem dL_isSo_137 : decode cL_isSo 137 = .ok (.iconst 0, 1) := by decide +kernel
theorem dL_isSo_138 : decode cL_isSo 138 = .ok (.if_icmp .ne 7, 3) := by decide +kernel
theorem dL_isSo_141 : decode cL_isSo 141 = .ok (.iconst 1, 1) := by decide +kernel
theorem dL_isSo_142 : decode cL_isSo 142 = .ok (.goto 4, 3) := by decide +kernel
theorem dL_isSo_145 : decode cL_isSo 145 = .ok (.iconst 0, 1) := by decide +kernel
theorem dL_isSo_146 : decode cL_isSo 146 = .ok (.istore 13, 2) := by decide +kernel
theorem dL_isSo_148 : decode cL_isSo 148 = .ok (.iinc 14 1, 3) := by decide +kernel
theorem dL_isSo_151 : decode cL_isSo 151 = .ok (.goto (-54), 3) := by decide +kernel
theorem dL_isSo_154 : decode cL_isSo 154 = .ok (.iconst 0, 1) := by decide +kernel
theorem dL_isSo_155 : decode cL_isSo 155 = .ok (.istore 14, 2) := by decide +kernel
theorem dL_isSo_157 : decode cL_isSo 157 = .ok (.iload 14, 2) := by decide +kernel
theorem dL_isSo_159 : decode cL_isSo 159 = .ok (.aload 11, 2) := by decide +kernel
theorem dL_isSo_161 : decode cL_isSo 161 = .ok (.iconst 4, 1) := by decide +kernel
theorem dL_isSo_162 : decode cL_isSo 162 = .ok (.iaload, 1) := by decide +kernel
theorem dL_isSo_163 : decode cL_isSo 163 = .ok (.if_icmp .ge 187, 3) := by decide +kernel
theorem dL_isSo_166 : decode cL_isSo 166 = .ok (.iload 13, 2) := by decide +kernel
theorem dL_isSo_168 : decode cL_isSo 168 = .ok (.ifCond .eq 182, 3) := by decide +kernel
theorem dL_isSo_171 : decode cL_isSo 171 = .ok (.iconst 0, 1) := by decide +kernel
theorem dL_isSo_172 : decode cL_isSo 172 = .ok (.istore 15, 2) := by decide +kernel
theorem dL_isSo_174 : decode cL_isSo 174 = .ok (.iconst 0, 1) := by decide +kernel
theorem dL_isSo_175 : decode cL_isSo 175 = .ok (.istore 16, 2) := by decide +kernel
theorem dL_isSo_177 : decode cL_isSo 177 = .ok (.iload 16, 2) := by decide +kernel
theorem dL_isSo_179 : decode cL_isSo 179 = .ok (.bipush 8, 2) := by decide +kernel
theorem dL_isSo_181 : decode cL_isSo 181 = .ok (.aload 11, 2) := by decide +kernel
theorem dL_isSo_183 : decode cL_isSo 183 = .ok (.iconst 5, 1) := by decide +kernel
theorem dL_isSo_184 : decode cL_isSo 184 = .ok (.iaload, 1) := by decide +kernel
theorem dL_isSo_185 : decode cL_isSo 185 = .ok (.imul, 1) := by decide +kernel
theorem dL_isSo_186 : decode cL_isSo 186 = .ok (.if_icmp .ge 88, 3) := by decide +kernel
theorem dL_isSo_189 : decode cL_isSo 189 = .ok (.iconst 0, 1) := by decide +kernel
theorem dL_isSo_190 : decode cL_isSo 190 = .ok (.istore 17, 2) := by decide +kernel
theorem dL_isSo_192 : decode cL_isSo 192 = .ok (.iload 16, 2) := by decide +kernel
theorem dL_isSo_194 : decode cL_isSo 194 = .ok (.istore 18, 2) := by decide +kernel
theorem dL_isSo_196 : decode cL_isSo 196 = .ok (.iload 18, 2) := by decide +kernel
theorem dL_isSo_198 : decode cL_isSo 198 = .ok (.iload 16, 2) := by decide +kernel
theorem dL_isSo_200 : decode cL_isSo 200 = .ok (.bipush 8, 2) := by decide +kernel
theorem dL_isSo_202 : decode cL_isSo 202 = .ok (.iadd, 1) := by decide +kernel
theorem dL_isSo_203 : decode cL_isSo 203 = .ok (.if_icmp .ge 36, 3) := by decide +kernel
theorem dL_isSo_206 : decode cL_isSo 206 = .ok (.iload 17, 2) := by decide +kernel
theorem dL_isSo_208 : decode cL_isSo 208 = .ok (.ifCond .ne 18, 3) := by decide +kernel
theorem dL_isSo_211 : decode cL_isSo 211 = .ok (.aload 7, 2) := by decide +kernel
theorem dL_isSo_213 : decode cL_isSo 213 = .ok (.iload 18, 2) := by decide +kernel
theorem dL_isSo_215 : decode cL_isSo 215 = .ok (.iaload, 1) := by decide +kernel
theorem dL_isSo_216 : decode cL_isSo 216 = .ok (.bipush 64, 2) := by decide +kernel
theorem dL_isSo_218 : decode cL_isSo 218 = .ok (.irem, 1) := by decide +kernel
theorem dL_isSo_219 : decode cL_isSo 219 = .ok (.iload 14, 2) := by decide +kernel
theorem dL_isSo_221 : decode cL_isSo 221 = .ok (.iconst 1, 1) := by decide +kernel
theorem dL_isSo_222 : decode cL_isSo 222 = .ok (.iadd, 1) := by decide +kernel
theorem dL_isSo_223 : decode cL_isSo 223 = .ok (.if_icmp .ne 7, 3) := by decide +kernel
theorem dL_isSo_226 : decode cL_isSo 226 = .ok (.iconst 1, 1) := by decide +kernel
theorem dL_isSo_227 : decode cL_isSo 227 = .ok (.goto 4, 3) := by decide +kernel
theorem dL_isSo_230 : decode cL_isSo 230 = .ok (.iconst 0, 1) := by decide +kernel
theorem dL_isSo_231 : decode cL_isSo 231 = .ok (.istore 17, 2) := by decide +kernel
theorem dL_isSo_233 : decode cL_isSo 233 = .ok (.iinc 18 1, 3) := by decide +kernel
theorem dL_isSo_236 : decode cL_isSo 236 = .ok (.goto (-40), 3) := by decide +kernel
theorem dL_isSo_239 : decode cL_isSo 239 = .ok (.iload 15, 2) := by decide +kernel
theorem dL_isSo_241 : decode cL_isSo 241 = .ok (.iload 17, 2) := by decide +kernel
theorem dL_isSo_243 : decode cL_isSo 243 = .ok (.ifCond .eq 21, 3) := by decide +kernel
theorem dL_isSo_246 : decode cL_isSo 246 = .ok (.aload 9, 2) := by decide +kernel
theorem dL_isSo_248 : decode cL_isSo 248 = .ok (.iload 16, 2) := by decide +kernel
theorem dL_isSo_250 : decode cL_isSo 250 = .ok (.bipush 8, 2) := by decide +kernel
theorem dL_isSo_252 : decode cL_isSo 252 = .ok (.idiv, 1) := by decide +kernel
theorem dL_isSo_253 : decode cL_isSo 253 = .ok (.iaload, 1) := by decide +kernel
theorem dL_isSo_254 : decode cL_isSo 254 = .ok (.iconst 4, 1) := by decide +kernel
theorem dL_isSo_255 : decode cL_isSo 255 = .ok (.idiv, 1) := by decide +kernel
theorem dL_isSo_256 : decode cL_isSo 256 = .ok (.iconst 1, 1) := by decide +kernel
theorem dL_isSo_257 : decode cL_isSo 257 = .ok (.if_icmp .ne 7, 3) := by decide +kernel
theorem dL_isSo_260 : decode cL_isSo 260 = .ok (.iconst 1, 1) := by decide +kernel
theorem dL_isSo_261 : decode cL_isSo 261 = .ok (.goto 4, 3) := by decide +kernel
theorem dL_isSo_264 : decode cL_isSo 264 = .ok (.iconst 0, 1) := by decide +kernel
theorem dL_isSo_265 : decode cL_isSo 265 = .ok (.iadd, 1) := by decide +kernel
theorem dL_isSo_266 : decode cL_isSo 266 = .ok (.istore 15, 2) := by decide +kernel
theorem dL_isSo_268 : decode cL_isSo 268 = .ok (.iinc 16 8, 3) := by decide +kernel
theorem dL_isSo_271 : decode cL_isSo 271 = .ok (.goto (-94), 3) := by decide +kernel
theorem dL_isSo_274 : decode cL_isSo 274 = .ok (.aload_n 0, 1) := by decide +kernel
theorem dL_isSo_275 : decode cL_isSo 275 = .ok (.iload 14, 2) := by decide +kernel
theorem dL_isSo_277 : decode cL_isSo 277 = .ok (.iconst 0, 1) := by decide +kernel
theorem dL_isSo_278 : decode cL_isSo 278 = .ok (.invokevirtual 47, 3) := by decide +kernel
theorem dL_isSo_281 : decode cL_isSo 281 = .ok (.aload_n 3, 1) := by decide +kernel
theorem dL_isSo_282 : decode cL_isSo 282 = .ok (.iload 14, 2) := by decide +kernel
theorem dL_isSo_284 : decode cL_isSo 284 = .ok (.iaload, 1) := by decide +kernel
theorem dL_isSo_285 : decode cL_isSo 285 = .ok (.bipush 8, 2) := by decide +kernel
theorem dL_isSo_287 : decode cL_isSo 287 = .ok (.irem, 1) := by decide +kernel
theorem dL_isSo_288 : decode cL_isSo 288 = .ok (.if_icmp .ne 53, 3) := by decide +kernel
theorem dL_isSo_291 : decode cL_isSo 291 = .ok (.aload_n 0, 1) := by decide +kernel
theorem dL_isSo_292 : decode cL_isSo 292 = .ok (.iload 14, 2) := by decide +kernel
theorem dL_isSo_294 : decode cL_isSo 294 = .ok (.iconst 1, 1) := by decide +kernel
theorem dL_isSo_295 : decode cL_isSo 295 = .ok (.invokevirtual 47, 3) := by decide +kernel
theorem dL_isSo_298 : decode cL_isSo 298 = .ok (.aload 4, 2) := by decide +kernel
theorem dL_isSo_300 : decode cL_isSo 300 = .ok (.iload 14, 2) := by decide +kernel
theorem dL_isSo_302 : decode cL_isSo 302 = .ok (.iaload, 1) := by decide +kernel
theorem dL_isSo_303 : decode cL_isSo 303 = .ok (.if_icmp .ne 38, 3) := by decide +kernel
theorem dL_isSo_306 : decode cL_isSo 306 = .ok (.aload_n 0, 1) := by decide +kernel
theorem dL_isSo_307 : decode cL_isSo 307 = .ok (.iload 14, 2) := by decide +kernel
theorem dL_isSo_309 : decode cL_isSo 309 = .ok (.iconst 2, 1) := by decide +kernel
theorem dL_isSo_310 : decode cL_isSo 310 = .ok (.invokevirtual 47, 3) := by decide +kernel
theorem dL_isSo_313 : decode cL_isSo 313 = .ok (.aload_n 3, 1) := by decide +kernel
theorem dL_isSo_314 : decode cL_isSo 314 = .ok (.aload 5, 2) := by decide +kernel
theorem dL_isSo_316 : decode cL_isSo 316 = .ok (.aload 6, 2) := by decide +kernel
theorem dL_isSo_318 : decode cL_isSo 318 = .ok (.iload 14, 2) := by decide +kernel
theorem dL_isSo_320 : decode cL_isSo 320 = .ok (.invokestatic 109, 3) := by decide +kernel
theorem dL_isSo_323 : decode cL_isSo 323 = .ok (.if_icmp .ne 18, 3) := by decide +kernel
theorem dL_isSo_326 : decode cL_isSo 326 = .ok (.aload_n 0, 1) := by decide +kernel
theorem dL_isSo_327 : decode cL_isSo 327 = .ok (.iload 14, 2) := by decide +kernel
theorem dL_isSo_329 : decode cL_isSo 329 = .ok (.invokevirtual 88, 3) := by decide +kernel
theorem dL_isSo_332 : decode cL_isSo 332 = .ok (.iload 15, 2) := by decide +kernel
theorem dL_isSo_334 : decode cL_isSo 334 = .ok (.if_icmp .ne 7, 3) := by decide +kernel
theorem dL_isSo_337 : decode cL_isSo 337 = .ok (.iconst 1, 1) := by decide +kernel
theorem dL_isSo_338 : decode cL_isSo 338 = .ok (.goto 4, 3) := by decide +kernel
theorem dL_isSo_341 : decode cL_isSo 341 = .ok (.iconst 0, 1) := by decide +kernel
theorem dL_isSo_342 : decode cL_isSo 342 = .ok (.istore 13, 2) := by decide +kernel
theorem dL_isSo_344 : decode cL_isSo 344 = .ok (.iinc 14 1, 3) := by decide +kernel
theorem dL_isSo_347 : decode cL_isSo 347 = .ok (.goto (-190), 3) := by decide +kernel
theorem dL_isSo_350 : decode cL_isSo 350 = .ok (.iconst 0, 1) := by decide +kernel
theorem dL_isSo_351 : decode cL_isSo 351 = .ok (.istore 14, 2) := by decide +kernel
theorem dL_isSo_353 : decode cL_isSo 353 = .ok (.iload 14, 2) := by decide +kernel
theorem dL_isSo_355 : decode cL_isSo 355 = .ok (.bipush 8, 2) := by decide +kernel
theorem dL_isSo_357 : decode cL_isSo 357 = .ok (.aload 11, 2) := by decide +kernel
theorem dL_isSo_359 : decode cL_isSo 359 = .ok (.iconst 5, 1) := by decide +kernel
theorem dL_isSo_360 : decode cL_isSo 360 = .ok (.iaload, 1) := by decide +kernel
theorem dL_isSo_361 : decode cL_isSo 361 = .ok (.imul, 1) := by decide +kernel
theorem dL_isSo_362 : decode cL_isSo 362 = .ok (.if_icmp .ge 184, 3) := by decide +kernel
theorem dL_isSo_365 : decode cL_isSo 365 = .ok (.iload 13, 2) := by decide +kernel
theorem dL_isSo_367 : decode cL_isSo 367 = .ok (.ifCond .eq 179, 3) := by decide +kernel
theorem dL_isSo_370 : decode cL_isSo 370 = .ok (.aload 7, 2) := by decide +kernel
theorem dL_isSo_372 : decode cL_isSo 372 = .ok (.iload 14, 2) := by decide +kernel
theorem dL_isSo_374 : decode cL_isSo 374 = .ok (.iaload, 1) := by decide +kernel
theorem dL_isSo_375 : decode cL_isSo 375 = .ok (.bipush 64, 2) := by decide +kernel
theorem dL_isSo_377 : decode cL_isSo 377 = .ok (.idiv, 1) := by decide +kernel
theorem dL_isSo_378 : decode cL_isSo 378 = .ok (.bipush 32, 2) := by decide +kernel
theorem dL_isSo_380 : decode cL_isSo 380 = .ok (.irem, 1) := by decide +kernel
theorem dL_isSo_381 : decode cL_isSo 381 = .ok (.istore 15, 2) := by decide +kernel
theorem dL_isSo_383 : decode cL_isSo 383 = .ok (.aload_n 0, 1) := by decide +kernel
theorem dL_isSo_384 : decode cL_isSo 384 = .ok (.iload 14, 2) := by decide +kernel
theorem dL_isSo_386 : decode cL_isSo 386 = .ok (.bipush 8, 2) := by decide +kernel
theorem dL_isSo_388 : decode cL_isSo 388 = .ok (.idiv, 1) := by decide +kernel
theorem dL_isSo_389 : decode cL_isSo 389 = .ok (.iload 14, 2) := by decide +kernel
theorem dL_isSo_391 : decode cL_isSo 391 = .ok (.bipush 8, 2) := by decide +kernel
theorem dL_isSo_393 : decode cL_isSo 393 = .ok (.irem, 1) := by decide +kernel
theorem dL_isSo_394 : decode cL_isSo 394 = .ok (.iconst 0, 1) := by decide +kernel
theorem dL_isSo_395 : decode cL_isSo 395 = .ok (.invokevirtual 85, 3) := by decide +kernel
theorem dL_isSo_398 : decode cL_isSo 398 = .ok (.aload 7, 2) := by decide +kernel
theorem dL_isSo_400 : decode cL_isSo 400 = .ok (.iload 14, 2) := by decide +kernel
theorem dL_isSo_402 : decode cL_isSo 402 = .ok (.iaload, 1) := by decide +kernel
theorem dL_isSo_403 : decode cL_isSo 403 = .ok (.bipush 64, 2) := by decide +kernel
theorem dL_isSo_405 : decode cL_isSo 405 = .ok (.irem, 1) := by decide +kernel
theorem dL_isSo_406 : decode cL_isSo 406 = .ok (.iconst 1, 1) := by decide +kernel
theorem dL_isSo_407 : decode cL_isSo 407 = .ok (.isub, 1) := by decide +kernel
theorem dL_isSo_408 : decode cL_isSo 408 = .ok (.if_icmp .ne 129, 3) := by decide +kernel
theorem dL_isSo_411 : decode cL_isSo 411 = .ok (.aload_n 0, 1) := by decide +kernel
theorem dL_isSo_412 : decode cL_isSo 412 = .ok (.iload 14, 2) := by decide +kernel
theorem dL_isSo_414 : decode cL_isSo 414 = .ok (.bipush 8, 2) := by decide +kernel
theorem dL_isSo_416 : decode cL_isSo 416 = .ok (.idiv, 1) := by decide +kernel
theorem dL_isSo_417 : decode cL_isSo 417 = .ok (.iload 14, 2) := by decide +kernel
theorem dL_isSo_419 : decode cL_isSo 419 = .ok (.bipush 8, 2) := by decide +kernel
theorem dL_isSo_421 : decode cL_isSo 421 = .ok (.irem, 1) := by decide +kernel
theorem dL_isSo_422 : decode cL_isSo 422 = .ok (.iconst 1, 1) := by decide +kernel
theorem dL_isSo_423 : decode cL_isSo 423 = .ok (.invokevirtual 85, 3) := by decide +kernel
theorem dL_isSo_426 : decode cL_isSo 426 = .ok (.aload 8, 2) := by decide +kernel
theorem dL_isSo_428 : decode cL_isSo 428 = .ok (.iload 14, 2) := by decide +kernel
theorem dL_isSo_430 : decode cL_isSo 430 = .ok (.iaload, 1) := by decide +kernel
theorem dL_isSo_431 : decode cL_isSo 431 = .ok (.if_icmp .ne 106, 3) := by decide +kernel
theorem dL_isSo_434 : decode cL_isSo 434 = .ok (.aload_n 0, 1) := by decide +kernel
theorem dL_isSo_435 : decode cL_isSo 435 = .ok (.iload 14, 2) := by decide +kernel
theorem dL_isSo_437 : decode cL_isSo 437 = .ok (.bipush 8, 2) := by decide +kernel
theorem dL_isSo_439 : decode cL_isSo 439 = .ok (.idiv, 1) := by decide +kernel
theorem dL_isSo_440 : decode cL_isSo 440 = .ok (.iload 14, 2) := by decide +kernel
theorem dL_isSo_442 : decode cL_isSo 442 = .ok (.bipush 8, 2) := by decide +kernel
theorem dL_isSo_444 : decode cL_isSo 444 = .ok (.irem, 1) := by decide +kernel
theorem dL_isSo_445 : decode cL_isSo 445 = .ok (.iconst 2, 1) := by decide +kernel
theorem dL_isSo_446 : decode cL_isSo 446 = .ok (.invokevirtual 85, 3) := by decide +kernel
theorem dL_isSo_449 : decode cL_isSo 449 = .ok (.iload 15, 2) := by decide +kernel
theorem dL_isSo_451 : decode cL_isSo 451 = .ok (.iconst 4, 1) := by decide +kernel
theorem dL_isSo_452 : decode cL_isSo 452 = .ok (.idiv, 1) := by decide +kernel
theorem dL_isSo_453 : decode cL_isSo 453 = .ok (.iconst 2, 1) := by decide +kernel
theorem dL_isSo_454 : decode cL_isSo 454 = .ok (.irem, 1) := by decide +kernel
theorem dL_isSo_455 : decode cL_isSo 455 = .ok (.iconst 1, 1) := by decide +kernel
theorem dL_isSo_456 : decode cL_isSo 456 = .ok (.if_icmp .ne 10, 3) := by decide +kernel
theorem dL_isSo_459 : decode cL_isSo 459 = .ok (.iload 15, 2) := by decide +kernel
theorem dL_isSo_461 : decode cL_isSo 461 = .ok (.iconst 4, 1) := by decide +kernel
theorem dL_isSo_462 : decode cL_isSo 462 = .ok (.irem, 1) := by decide +kernel
theorem dL_isSo_463 : decode cL_isSo 463 = .ok (.goto 4, 3) := by decide +kernel
theorem dL_isSo_466 : decode cL_isSo 466 = .ok (.iconst 0, 1) := by decide +kernel
theorem dL_isSo_467 : decode cL_isSo 467 = .ok (.if_icmp .ne 70, 3) := by decide +kernel
theorem dL_isSo_470 : decode cL_isSo 470 = .ok (.aload_n 0, 1) := by decide +kernel
theorem dL_isSo_471 : decode cL_isSo 471 = .ok (.iload 14, 2) := by decide +kernel
theorem dL_isSo_473 : decode cL_isSo 473 = .ok (.bipush 8, 2) := by decide +kernel
theorem dL_isSo_475 : decode cL_isSo 475 = .ok (.idiv, 1) := by decide +kernel
theorem dL_isSo_476 : decode cL_isSo 476 = .ok (.iload 14, 2) := by decide +kernel
theorem dL_isSo_478 : decode cL_isSo 478 = .ok (.bipush 8, 2) := by decide +kernel
theorem dL_isSo_480 : decode cL_isSo 480 = .ok (.irem, 1) := by decide +kernel
theorem dL_isSo_481 : decode cL_isSo 481 = .ok (.iconst 3, 1) := by decide +kernel
theorem dL_isSo_482 : decode cL_isSo 482 = .ok (.invokevirtual 85, 3) := by decide +kernel
theorem dL_isSo_485 : decode cL_isSo 485 = .ok (.iload 15, 2) := by decide +kernel
theorem dL_isSo_487 : decode cL_isSo 487 = .ok (.bipush 8, 2) := by decide +kernel
theorem dL_isSo_489 : decode cL_isSo 489 = .ok (.idiv, 1) := by decide +kernel
theorem dL_isSo_490 : decode cL_isSo 490 = .ok (.iconst 2, 1) := by decide +kernel
theorem dL_isSo_491 : decode cL_isSo 491 = .ok (.irem, 1) := by decide +kernel
theorem dL_isSo_492 : decode cL_isSo 492 = .ok (.if_icmp .ne 45, 3) := by decide +kernel
theorem dL_isSo_495 : decode cL_isSo 495 = .ok (.iload 14, 2) := by decide +kernel
theorem dL_isSo_497 : decode cL_isSo 497 = .ok (.iload 12, 2) := by decide +kernel
theorem dL_isSo_499 : decode cL_isSo 499 = .ok (.iadd, 1) := by decide +kernel
theorem dL_isSo_500 : decode cL_isSo 500 = .ok (.iconst 3, 1) := by decide +kernel
theorem dL_isSo_501 : decode cL_isSo 501 = .ok (.irem, 1) := by decide +kernel
theorem dL_isSo_502 : decode cL_isSo 502 = .ok (.ifCond .gt 31, 3) := by decide +kernel
theorem dL_isSo_505 : decode cL_isSo 505 = .ok (.aload_n 0, 1) := by decide +kernel
theorem dL_isSo_506 : decode cL_isSo 506 = .ok (.iload 14, 2) := by decide +kernel
theorem dL_isSo_508 : decode cL_isSo 508 = .ok (.bipush 8, 2) := by decide +kernel
theorem dL_isSo_510 : decode cL_isSo 510 = .ok (.idiv, 1) := by decide +kernel
theorem dL_isSo_511 : decode cL_isSo 511 = .ok (.iload 14, 2) := by decide +kernel
theorem dL_isSo_513 : decode cL_isSo 513 = .ok (.bipush 8, 2) := by decide +kernel
theorem dL_isSo_515 : decode cL_isSo 515 = .ok (.irem, 1) := by decide +kernel
theorem dL_isSo_516 : decode cL_isSo 516 = .ok (.invokevirtual 125, 3) := by decide +kernel
theorem dL_isSo_519 : decode cL_isSo 519 = .ok (.aload 7, 2) := by decide +kernel
theorem dL_isSo_521 : decode cL_isSo 521 = .ok (.iload 14, 2) := by decide +kernel
theorem dL_isSo_523 : decode cL_isSo 523 = .ok (.iaload, 1) := by decide +kernel
theorem dL_isSo_524 : decode cL_isSo 524 = .ok (.sipush 2048, 3) := by decide +kernel
theorem dL_isSo_527 : decode cL_isSo 527 = .ok (.idiv, 1) := by decide +kernel
theorem dL_isSo_528 : decode cL_isSo 528 = .ok (.iconst 1, 1) := by decide +kernel
theorem dL_isSo_529 : decode cL_isSo 529 = .ok (.isub, 1) := by decide +kernel
theorem dL_isSo_530 : decode cL_isSo 530 = .ok (.if_icmp .ne 7, 3) := by decide +kernel
theorem dL_isSo_533 : decode cL_isSo 533 = .ok (.iconst 1, 1) := by decide +kernel
theorem dL_isSo_534 : decode cL_isSo 534 = .ok (.goto 4, 3) := by decide +kernel
theorem dL_isSo_537 : decode cL_isSo 537 = .ok (.iconst 0, 1) := by decide +kernel
theorem dL_isSo_538 : decode cL_isSo 538 = .ok (.istore 13, 2) := by decide +kernel
theorem dL_isSo_540 : decode cL_isSo 540 = .ok (.iinc 14 1, 3) := by decide +kernel
theorem dL_isSo_543 : decode cL_isSo 543 = .ok (.goto (-190), 3) := by decide +kernel
theorem dL_isSo_546 : decode cL_isSo 546 = .ok (.iload 13, 2) := by decide +kernel
theorem dL_isSo_548 : decode cL_isSo 548 = .ok (.ifCond .eq 63, 3) := by decide +kernel
theorem dL_isSo_551 : decode cL_isSo 551 = .ok (.aload_n 0, 1) := by decide +kernel
theorem dL_isSo_552 : decode cL_isSo 552 = .ok (.iconst 5, 1) := by decide +kernel
theorem dL_isSo_553 : decode cL_isSo 553 = .ok (.aload 11, 2) := by decide +kernel
theorem dL_isSo_555 : decode cL_isSo 555 = .ok (.iconst 2, 1) := by decide +kernel
theorem dL_isSo_556 : decode cL_isSo 556 = .ok (.iaload, 1) := by decide +kernel
theorem dL_isSo_557 : decode cL_isSo 557 = .ok (.iconst (-1), 1) := by decide +kernel
theorem dL_isSo_558 : decode cL_isSo 558 = .ok (.iconst 0, 1) := by decide +kernel
theorem dL_isSo_559 : decode cL_isSo 559 = .ok (.iconst 0, 1) := by decide +kernel
theorem dL_isSo_560 : decode cL_isSo 560 = .ok (.iconst 0, 1) := by decide +kernel
theorem dL_isSo_561 : decode cL_isSo 561 = .ok (.invokestatic 128, 3) := by decide +kernel
theorem dL_isSo_564 : decode cL_isSo 564 = .ok (.ldc 93, 2) := by decide +kernel
theorem dL_isSo_566 : decode cL_isSo 566 = .ok (.if_icmp .ne 45, 3) := by decide +kernel
theorem dL_isSo_569 : decode cL_isSo 569 = .ok (.aload_n 0, 1) := by decide +kernel
theorem dL_isSo_570 : decode cL_isSo 570 = .ok (.bipush 10, 2) := by decide +kernel
theorem dL_isSo_572 : decode cL_isSo 572 = .ok (.aload 11, 2) := by decide +kernel
theorem dL_isSo_574 : decode cL_isSo 574 = .ok (.iconst 4, 1) := by decide +kernel
theorem dL_isSo_575 : decode cL_isSo 575 = .ok (.iaload, 1) := by decide +kernel
theorem dL_isSo_576 : decode cL_isSo 576 = .ok (.iconst 0, 1) := by decide +kernel
theorem dL_isSo_577 : decode cL_isSo 577 = .ok (.iconst 0, 1) := by decide +kernel
theorem dL_isSo_578 : decode cL_isSo 578 = .ok (.iconst 0, 1) := by decide +kernel
theorem dL_isSo_579 : decode cL_isSo 579 = .ok (.iconst 0, 1) := by decide +kernel
theorem dL_isSo_580 : decode cL_isSo 580 = .ok (.invokestatic 128, 3) := by decide +kernel
theorem dL_isSo_583 : decode cL_isSo 583 = .ok (.ldc 93, 2) := by decide +kernel
theorem dL_isSo_585 : decode cL_isSo 585 = .ok (.if_icmp .ne 26, 3) := by decide +kernel
theorem dL_isSo_588 : decode cL_isSo 588 = .ok (.aload_n 0, 1) := by decide +kernel
theorem dL_isSo_589 : decode cL_isSo 589 = .ok (.bipush 21, 2) := by decide +kernel
theorem dL_isSo_591 : decode cL_isSo 591 = .ok (.aload 11, 2) := by decide +kernel
theorem dL_isSo_593 : decode cL_isSo 593 = .ok (.iconst 5, 1) := by decide +kernel
theorem dL_isSo_594 : decode cL_isSo 594 = .ok (.iaload, 1) := by decide +kernel
theorem dL_isSo_595 : decode cL_isSo 595 = .ok (.iconst 0, 1) := by decide +kernel
theorem dL_isSo_596 : decode cL_isSo 596 = .ok (.iconst 0, 1) := by decide +kernel
theorem dL_isSo_597 : decode cL_isSo 597 = .ok (.iconst 0, 1) := by decide +kernel
theorem dL_isSo_598 : decode cL_isSo 598 = .ok (.iconst 0, 1) := by decide +kernel
theorem dL_isSo_599 : decode cL_isSo 599 = .ok (.invokestatic 128, 3) := by decide +kernel
theorem dL_isSo_602 : decode cL_isSo 602 = .ok (.ldc 93, 2) := by decide +kernel
theorem dL_isSo_604 : decode cL_isSo 604 = .ok (.if_icmp .ne 7, 3) := by decide +kernel
theorem dL_isSo_607 : decode cL_isSo 607 = .ok (.iconst 1, 1) := by decide +kernel
theorem dL_isSo_608 : decode cL_isSo 608 = .ok (.goto 4, 3) := by decide +kernel
theorem dL_isSo_611 : decode cL_isSo 611 = .ok (.iconst 0, 1) := by decide +kernel
theorem dL_isSo_612 : decode cL_isSo 612 = .ok (.ireturn, 1) := by decide +kernel
theorem dL_law_0 : decode cL_law 0 = .ok (.new 9, 3) := by decide +kernel
theorem dL_law_3 : decode cL_law 3 = .ok (.dup, 1) := by decide +kernel
theorem dL_law_4 : decode cL_law 4 = .ok (.invokespecial 150, 3) := by decide +kernel
theorem dL_law_7 : decode cL_law 7 = .ok (.astore_n 1, 1) := by decide +kernel
theorem dL_law_8 : decode cL_law 8 = .ok (.bipush 16, 2) := by decide +kernel
theorem dL_law_10 : decode cL_law 10 = .ok (.newarray .int, 2) := by decide +kernel
theorem dL_law_12 : decode cL_law 12 = .ok (.astore_n 2, 1) := by decide +kernel
theorem dL_law_13 : decode cL_law 13 = .ok (.bipush 17, 2) := by decide +kernel
theorem dL_law_15 : decode cL_law 15 = .ok (.newarray .int, 2) := by decide +kernel
theorem dL_law_17 : decode cL_law 17 = .ok (.astore_n 3, 1) := by decide +kernel
theorem dL_law_18 : decode cL_law 18 = .ok (.bipush 8, 2) := by decide +kernel
theorem dL_law_20 : decode cL_law 20 = .ok (.newarray .int, 2) := by decide +kernel
theorem dL_law_22 : decode cL_law 22 = .ok (.astore 4, 2) := by decide +kernel
theorem dL_law_24 : decode cL_law 24 = .ok (.bipush 25, 2) := by decide +kernel
theorem dL_law_26 : decode cL_law 26 = .ok (.newarray .int, 2) := by decide +kernel
theorem dL_law_28 : decode cL_law 28 = .ok (.astore 5, 2) := by decide +kernel
theorem dL_law_30 : decode cL_law 30 = .ok (.bipush 48, 2) := by decide +kernel
theorem dL_law_32 : decode cL_law 32 = .ok (.newarray .int, 2) := by decide +kernel
theorem dL_law_34 : decode cL_law 34 = .ok (.astore 6, 2) := by decide +kernel
theorem dL_law_36 : decode cL_law 36 = .ok (.bipush 12, 2) := by decide +kernel
theorem dL_law_38 : decode cL_law 38 = .ok (.newarray .int, 2) := by decide +kernel
theorem dL_law_40 : decode cL_law 40 = .ok (.astore 7, 2) := by decide +kernel
theorem dL_law_42 : decode cL_law 42 = .ok (.bipush 12, 2) := by decide +kernel
theorem dL_law_44 : decode cL_law 44 = .ok (.newarray .int, 2) := by decide +kernel
theorem dL_law_46 : decode cL_law 46 = .ok (.astore 8, 2) := by decide +kernel
theorem dL_law_48 : decode cL_law 48 = .ok (.bipush 13, 2) := by decide +kernel
theorem dL_law_50 : decode cL_law 50 = .ok (.newarray .int, 2) := by decide +kernel
theorem dL_law_52 : decode cL_law 52 = .ok (.astore 9, 2) := by decide +kernel
theorem dL_law_54 : decode cL_law 54 = .ok (.bipush 19, 2) := by decide +kernel
theorem dL_law_56 : decode cL_law 56 = .ok (.newarray .int, 2) := by decide +kernel
theorem dL_law_58 : decode cL_law 58 = .ok (.astore 10, 2) := by decide +kernel
theorem dL_law_60 : decode cL_law 60 = .ok (.bipush 32, 2) := by decide +kernel
theorem dL_law_62 : decode cL_law 62 = .ok (.newarray .int, 2) := by decide +kernel
theorem dL_law_64 : decode cL_law 64 = .ok (.astore 11, 2) := by decide +kernel
theorem dL_law_66 : decode cL_law 66 = .ok (.bipush 32, 2) := by decide +kernel
theorem dL_law_68 : decode cL_law 68 = .ok (.newarray .int, 2) := by decide +kernel
theorem dL_law_70 : decode cL_law 70 = .ok (.astore 12, 2) := by decide +kernel
theorem dL_law_72 : decode cL_law 72 = .ok (.iconst 5, 1) := by decide +kernel
theorem dL_law_73 : decode cL_law 73 = .ok (.newarray .int, 2) := by decide +kernel
theorem dL_law_75 : decode cL_law 75 = .ok (.astore 13, 2) := by decide +kernel
theorem dL_law_77 : decode cL_law 77 = .ok (.bipush 8, 2) := by decide +kernel
theorem dL_law_79 : decode cL_law 79 = .ok (.newarray .int, 2) := by decide +kernel
theorem dL_law_81 : decode cL_law 81 = .ok (.astore 14, 2) := by decide +kernel
theorem dL_law_83 : decode cL_law 83 = .ok (.bipush 8, 2) := by decide +kernel
theorem dL_law_85 : decode cL_law 85 = .ok (.newarray .int, 2) := by decide +kernel
theorem dL_law_87 : decode cL_law 87 = .ok (.astore 15, 2) := by decide +kernel
theorem dL_law_89 : decode cL_law 89 = .ok (.iconst 0, 1) := by decide +kernel
theorem dL_law_90 : decode cL_law 90 = .ok (.istore 16, 2) := by decide +kernel
theorem dL_law_92 : decode cL_law 92 = .ok (.iload 16, 2) := by decide +kernel
theorem dL_law_94 : decode cL_law 94 = .ok (.bipush 32, 2) := by decide +kernel
theorem dL_law_96 : decode cL_law 96 = .ok (.if_icmp .ge 15, 3) := by decide +kernel
theorem dL_law_99 : decode cL_law 99 = .ok (.aload 12, 2) := by decide +kernel
theorem dL_law_101 : decode cL_law 101 = .ok (.iload 16, 2) := by decide +kernel
theorem dL_law_103 : decode cL_law 103 = .ok (.iconst (-1), 1) := by decide +kernel
theorem dL_law_104 : decode cL_law 104 = .ok (.iastore, 1) := by decide +kernel
theorem dL_law_105 : decode cL_law 105 = .ok (.iinc 16 1, 3) := by decide +kernel
theorem dL_law_108 : decode cL_law 108 = .ok (.goto (-16), 3) := by decide +kernel
theorem dL_law_111 : decode cL_law 111 = .ok (.iconst 0, 1) := by decide +kernel
theorem dL_law_112 : decode cL_law 112 = .ok (.istore 16, 2) := by decide +kernel
theorem dL_law_114 : decode cL_law 114 = .ok (.iload 16, 2) := by decide +kernel
theorem dL_law_116 : decode cL_law 116 = .ok (.bipush 6, 2) := by decide +kernel
theorem dL_law_118 : decode cL_law 118 = .ok (.if_icmp .ge 30, 3) := by decide +kernel
theorem dL_law_121 : decode cL_law 121 = .ok (.aload 10, 2) := by decide +kernel
theorem dL_law_123 : decode cL_law 123 = .ok (.iconst 4, 1) := by decide +kernel
theorem dL_law_124 : decode cL_law 124 = .ok (.iload 16, 2) := by decide +kernel
theorem dL_law_126 : decode cL_law 126 = .ok (.iadd, 1) := by decide +kernel
theorem dL_law_127 : decode cL_law 127 = .ok (.sipush 180, 3) := by decide +kernel
theorem dL_law_130 : decode cL_law 130 = .ok (.iastore, 1) := by decide +kernel
theorem dL_law_131 : decode cL_law 131 = .ok (.aload 10, 2) := by decide +kernel
theorem dL_law_133 : decode cL_law 133 = .ok (.bipush 10, 2) := by decide +kernel
theorem dL_law_135 : decode cL_law 135 = .ok (.iload 16, 2) := by decide +kernel
theorem dL_law_137 : decode cL_law 137 = .ok (.iadd, 1) := by decide +kernel
theorem dL_law_138 : decode cL_law 138 = .ok (.sipush 260, 3) := by decide +kernel
theorem dL_law_141 : decode cL_law 141 = .ok (.iastore, 1) := by decide +kernel
theorem dL_law_142 : decode cL_law 142 = .ok (.iinc 16 1, 3) := by decide +kernel
theorem dL_law_145 : decode cL_law 145 = .ok (.goto (-31), 3) := by decide +kernel
theorem dL_law_148 : decode cL_law 148 = .ok (.aload 10, 2) := by decide +kernel
theorem dL_law_150 : decode cL_law 150 = .ok (.iconst 0, 1) := by decide +kernel
theorem dL_law_151 : decode cL_law 151 = .ok (.sipush 150, 3) := by decide +kernel
theorem dL_law_154 : decode cL_law 154 = .ok (.iastore, 1) := by decide +kernel
theorem dL_law_155 : decode cL_law 155 = .ok (.aload 10, 2) := by decide +kernel
theorem dL_law_157 : decode cL_law 157 = .ok (.iconst 1, 1) := by decide +kernel
theorem dL_law_158 : decode cL_law 158 = .ok (.sipush 200, 3) := by decide +kernel
theorem dL_law_161 : decode cL_law 161 = .ok (.iastore, 1) := by decide +kernel
theorem dL_law_162 : decode cL_law 162 = .ok (.aload 10, 2) := by decide +kernel
theorem dL_law_164 : decode cL_law 164 = .ok (.iconst 2, 1) := by decide +kernel
theorem dL_law_165 : decode cL_law 165 = .ok (.sipush 240, 3) := by decide +kernel
theorem dL_law_168 : decode cL_law 168 = .ok (.iastore, 1) := by decide +kernel
theorem dL_law_169 : decode cL_law 169 = .ok (.aload 10, 2) := by decide +kernel
theorem dL_law_171 : decode cL_law 171 = .ok (.iconst 3, 1) := by decide +kernel
theorem dL_law_172 : decode cL_law 172 = .ok (.bipush 100, 2) := by decide +kernel
theorem dL_law_174 : decode cL_law 174 = .ok (.iastore, 1) := by decide +kernel
theorem dL_law_175 : decode cL_law 175 = .ok (.aload 10, 2) := by decide +kernel
theorem dL_law_177 : decode cL_law 177 = .ok (.bipush 16, 2) := by decide +kernel
theorem dL_law_179 : decode cL_law 179 = .ok (.sipush 255, 3) := by decide +kernel
theorem dL_law_182 : decode cL_law 182 = .ok (.iastore, 1) := by decide +kernel
theorem dL_law_183 : decode cL_law 183 = .ok (.aload_n 1, 1) := by decide +kernel
theorem dL_law_184 : decode cL_law 184 = .ok (.iconst 0, 1) := by decide +kernel
theorem dL_law_185 : decode cL_law 185 = .ok (.bipush 8, 2) := by decide +kernel
theorem dL_law_187 : decode cL_law 187 = .ok (.iconst 0, 1) := by decide +kernel
theorem dL_law_188 : decode cL_law 188 = .ok (.iconst 1, 1) := by decide +kernel
theorem dL_law_189 : decode cL_law 189 = .ok (.iconst 1, 1) := by decide +kernel
theorem dL_law_190 : decode cL_law 190 = .ok (.iconst 0, 1) := by decide +kernel
theorem dL_law_191 : decode cL_law 191 = .ok (.invokestatic 128, 3) := by decide +kernel
theorem dL_law_194 : decode cL_law 194 = .ok (.ldc 93, 2) := by decide +kernel
theorem dL_law_196 : decode cL_law 196 = .ok (.if_icmp .ne 122, 3) := by decide +kernel
theorem dL_law_199 : decode cL_law 199 = .ok (.aload_n 1, 1) := by decide +kernel
theorem dL_law_200 : decode cL_law 200 = .ok (.bipush 6, 2) := by decide +kernel
theorem dL_law_202 : decode cL_law 202 = .ok (.sipush 256, 3) := by decide +kernel
theorem dL_law_205 : decode cL_law 205 = .ok (.iconst 1, 1) := by decide +kernel
theorem dL_law_206 : decode cL_law 206 = .ok (.iconst 0, 1) := by decide +kernel
theorem dL_law_207 : decode cL_law 207 = .ok (.iconst 0, 1) := by decide +kernel
theorem dL_law_208 : decode cL_law 208 = .ok (.iconst 0, 1) := by decide +kernel
theorem dL_law_209 : decode cL_law 209 = .ok (.invokestatic 128, 3) := by decide +kernel
theorem dL_law_212 : decode cL_law 212 = .ok (.ldc 96, 2) := by decide +kernel
theorem dL_law_214 : decode cL_law 214 = .ok (.if_icmp .ne 104, 3) := by decide +kernel
theorem dL_law_217 : decode cL_law 217 = .ok (.aload_n 1, 1) := by decide +kernel
theorem dL_law_218 : decode cL_law 218 = .ok (.bipush 20, 2) := by decide +kernel
theorem dL_law_220 : decode cL_law 220 = .ok (.sipush 1000, 3) := by decide +kernel
theorem dL_law_223 : decode cL_law 223 = .ok (.iconst 0, 1) := by decide +kernel
theorem dL_law_224 : decode cL_law 224 = .ok (.iconst 0, 1) := by decide +kernel
theorem dL_law_225 : decode cL_law 225 = .ok (.iconst 0, 1) := by decide +kernel
theorem dL_law_226 : decode cL_law 226 = .ok (.iconst 0, 1) := by decide +kernel
theorem dL_law_227 : decode cL_law 227 = .ok (.invokestatic 128, 3) := by decide +kernel
theorem dL_law_230 : decode cL_law 230 = .ok (.ldc 96, 2) := by decide +kernel
theorem dL_law_232 : decode cL_law 232 = .ok (.if_icmp .ne 86, 3) := by decide +kernel
theorem dL_law_235 : decode cL_law 235 = .ok (.aload_n 1, 1) := by decide +kernel
theorem dL_law_236 : decode cL_law 236 = .ok (.bipush 14, 2) := by decide +kernel
theorem dL_law_238 : decode cL_law 238 = .ok (.iconst 0, 1) := by decide +kernel
theorem dL_law_239 : decode cL_law 239 = .ok (.iconst 0, 1) := by decide +kernel
theorem dL_law_240 : decode cL_law 240 = .ok (.iconst 0, 1) := by decide +kernel
theorem dL_law_241 : decode cL_law 241 = .ok (.iconst 0, 1) := by decide +kernel
theorem dL_law_242 : decode cL_law 242 = .ok (.iconst 0, 1) := by decide +kernel
theorem dL_law_243 : decode cL_law 243 = .ok (.invokestatic 128, 3) := by decide +kernel
theorem dL_law_246 : decode cL_law 246 = .ok (.ldc 93, 2) := by decide +kernel
theorem dL_law_248 : decode cL_law 248 = .ok (.if_icmp .ne 70, 3) := by decide +kernel
theorem dL_law_251 : decode cL_law 251 = .ok (.aload_n 1, 1) := by decide +kernel
theorem dL_law_252 : decode cL_law 252 = .ok (.bipush 16, 2) := by decide +kernel
theorem dL_law_254 : decode cL_law 254 = .ok (.iconst (-1), 1) := by decide +kernel
theorem dL_law_255 : decode cL_law 255 = .ok (.iconst 0, 1) := by decide +kernel
theorem dL_law_256 : decode cL_law 256 = .ok (.iconst 0, 1) := by decide +kernel
theorem dL_law_257 : decode cL_law 257 = .ok (.iconst 0, 1) := by decide +kernel
theorem dL_law_258 : decode cL_law 258 = .ok (.iconst 0, 1) := by decide +kernel
theorem dL_law_259 : decode cL_law 259 = .ok (.invokestatic 128, 3) := by decide +kernel
theorem dL_law_262 : decode cL_law 262 = .ok (.ldc 93, 2) := by decide +kernel
theorem dL_law_264 : decode cL_law 264 = .ok (.if_icmp .ne 54, 3) := by decide +kernel
theorem dL_law_267 : decode cL_law 267 = .ok (.aload_n 1, 1) := by decide +kernel
theorem dL_law_268 : decode cL_law 268 = .ok (.bipush 22, 2) := by decide +kernel
theorem dL_law_270 : decode cL_law 270 = .ok (.iconst 0, 1) := by decide +kernel
theorem dL_law_271 : decode cL_law 271 = .ok (.iconst 0, 1) := by decide +kernel
theorem dL_law_272 : decode cL_law 272 = .ok (.iconst 0, 1) := by decide +kernel
theorem dL_law_273 : decode cL_law 273 = .ok (.iconst 0, 1) := by decide +kernel
theorem dL_law_274 : decode cL_law 274 = .ok (.iconst 0, 1) := by decide +kernel
theorem dL_law_275 : decode cL_law 275 = .ok (.invokestatic 128, 3) := by decide +kernel
theorem dL_law_278 : decode cL_law 278 = .ok (.ldc 93, 2) := by decide +kernel
theorem dL_law_280 : decode cL_law 280 = .ok (.if_icmp .ne 38, 3) := by decide +kernel
theorem dL_law_283 : decode cL_law 283 = .ok (.aload_n 1, 1) := by decide +kernel
theorem dL_law_284 : decode cL_law 284 = .ok (.iconst 5, 1) := by decide +kernel
theorem dL_law_285 : decode cL_law 285 = .ok (.iconst 0, 1) := by decide +kernel
theorem dL_law_286 : decode cL_law 286 = .ok (.iconst (-1), 1) := by decide +kernel
theorem dL_law_287 : decode cL_law 287 = .ok (.iconst 0, 1) := by decide +kernel
theorem dL_law_288 : decode cL_law 288 = .ok (.iconst 0, 1) := by decide +kernel
theorem dL_law_289 : decode cL_law 289 = .ok (.iconst 0, 1) := by decide +kernel
theorem dL_law_290 : decode cL_law 290 = .ok (.invokestatic 128, 3) := by decide +kernel
theorem dL_law_293 : decode cL_law 293 = .ok (.ldc 93, 2) := by decide +kernel
theorem dL_law_295 : decode cL_law 295 = .ok (.if_icmp .ne 23, 3) := by decide +kernel
theorem dL_law_298 : decode cL_law 298 = .ok (.aload_n 1, 1) := by decide +kernel
theorem dL_law_299 : decode cL_law 299 = .ok (.iconst 3, 1) := by decide +kernel
theorem dL_law_300 : decode cL_law 300 = .ok (.invokevirtual 151, 3) := by decide +kernel
theorem dL_law_303 : decode cL_law 303 = .ok (.ifCond .ne 15, 3) := by decide +kernel
theorem dL_law_306 : decode cL_law 306 = .ok (.aload_n 1, 1) := by decide +kernel
theorem dL_law_307 : decode cL_law 307 = .ok (.iconst 1, 1) := by decide +kernel
theorem dL_law_308 : decode cL_law 308 = .ok (.invokevirtual 154, 3) := by decide +kernel
theorem dL_law_311 : decode cL_law 311 = .ok (.ifCond .ne 7, 3) := by decide +kernel
theorem dL_law_314 : decode cL_law 314 = .ok (.iconst 1, 1) := by decide +kernel
theorem dL_law_315 : decode cL_law 315 = .ok (.goto 4, 3) := by decide +kernel
theorem dL_law_318 : decode cL_law 318 = .ok (.iconst 0, 1) := by decide +kernel
theorem dL_law_319 : decode cL_law 319 = .ok (.istore 16, 2) := by decide +kernel
theorem dL_law_321 : decode cL_law 321 = .ok (.iconst 0, 1) := by decide +kernel
theorem dL_law_322 : decode cL_law 322 = .ok (.istore 17, 2) := by decide +kernel
theorem dL_law_324 : decode cL_law 324 = .ok (.iload 17, 2) := by decide +kernel
theorem dL_law_326 : decode cL_law 326 = .ok (.bipush 64, 2) := by decide +kernel
theorem dL_law_328 : decode cL_law 328 = .ok (.if_icmp .ge 422, 3) := by decide +kernel
theorem dL_law_331 : decode cL_law 331 = .ok (.iload 16, 2) := by decide +kernel
theorem dL_law_333 : decode cL_law 333 = .ok (.ifCond .eq 417, 3) := by decide +kernel
theorem dL_law_336 : decode cL_law 336 = .ok (.iload 17, 2) := by decide +kernel
theorem dL_law_338 : decode cL_law 338 = .ok (.iconst 5, 1) := by decide +kernel
theorem dL_law_339 : decode cL_law 339 = .ok (.if_icmp .ge 7, 3) := by decide +kernel
theorem dL_law_342 : decode cL_law 342 = .ok (.iconst 0, 1) := by decide +kernel
theorem dL_law_343 : decode cL_law 343 = .ok (.goto 60, 3) := by decide +kernel
theorem dL_law_346 : decode cL_law 346 = .ok (.iload 17, 2) := by decide +kernel
theorem dL_law_348 : decode cL_law 348 = .ok (.bipush 8, 2) := by decide +kernel
theorem dL_law_350 : decode cL_law 350 = .ok (.if_icmp .ge 7, 3) := by decide +kernel
theorem dL_law_353 : decode cL_law 353 = .ok (.iconst 3, 1) := by decide +kernel
theorem dL_law_354 : decode cL_law 354 = .ok (.goto 49, 3) := by decide +kernel
theorem dL_law_357 : decode cL_law 357 = .ok (.iload 17, 2) := by decide +kernel
theorem dL_law_359 : decode cL_law 359 = .ok (.bipush 10, 2) := by decide +kernel
theorem dL_law_361 : decode cL_law 361 = .ok (.if_icmp .ge 8, 3) := by decide +kernel
theorem dL_law_364 : decode cL_law 364 = .ok (.bipush 9, 2) := by decide +kernel
theorem dL_law_366 : decode cL_law 366 = .ok (.goto 37, 3) := by decide +kernel
theorem dL_law_369 : decode cL_law 369 = .ok (.iload 17, 2) := by decide +kernel
theorem dL_law_371 : decode cL_law 371 = .ok (.bipush 11, 2) := by decide +kernel
theorem dL_law_373 : decode cL_law 373 = .ok (.if_icmp .ge 8, 3) := by decide +kernel
theorem dL_law_376 : decode cL_law 376 = .ok (.bipush 11, 2) := by decide +kernel
theorem dL_law_378 : decode cL_law 378 = .ok (.goto 25, 3) := by decide +kernel
theorem dL_law_381 : decode cL_law 381 = .ok (.iload 17, 2) := by decide +kernel
theorem dL_law_383 : decode cL_law 383 = .ok (.bipush 12, 2) := by decide +kernel
theorem dL_law_385 : decode cL_law 385 = .ok (.if_icmp .ge 8, 3) := by decide +kernel
theorem dL_law_388 : decode cL_law 388 = .ok (.bipush 15, 2) := by decide +kernel
theorem dL_law_390 : decode cL_law 390 = .ok (.goto 13, 3) := by decide +kernel
theorem dL_law_393 : decode cL_law 393 = .ok (.aload_n 0, 1) := by decide +kernel
theorem dL_law_394 : decode cL_law 394 = .ok (.iconst 3, 1) := by decide +kernel
theorem dL_law_395 : decode cL_law 395 = .ok (.iload 17, 2) := by decide +kernel
theorem dL_law_397 : decode cL_law 397 = .ok (.imul, 1) := by decide +kernel
theorem dL_law_398 : decode cL_law 398 = .ok (.bipush 48, 2) := by decide +kernel
theorem dL_law_400 : decode cL_law 400 = .ok (.invokestatic 157, 3) := by decide +kernel
theorem dL_law_403 : decode cL_law 403 = .ok (.istore 18, 2) := by decide +kernel
theorem dL_law_405 : decode cL_law 405 = .ok (.aload_n 0, 1) := by decide +kernel
theorem dL_law_406 : decode cL_law 406 = .ok (.iconst 3, 1) := by decide +kernel
theorem dL_law_407 : decode cL_law 407 = .ok (.iload 17, 2) := by decide +kernel
theorem dL_law_409 : decode cL_law 409 = .ok (.imul, 1) := by decide +kernel
theorem dL_law_410 : decode cL_law 410 = .ok (.iconst 1, 1) := by decide +kernel
theorem dL_law_411 : decode cL_law 411 = .ok (.iadd, 1) := by decide +kernel
theorem dL_law_412 : decode cL_law 412 = .ok (.ldc 160, 2) := by decide +kernel
theorem dL_law_414 : decode cL_law 414 = .ok (.invokestatic 157, 3) := by decide +kernel
theorem dL_law_417 : decode cL_law 417 = .ok (.istore 19, 2) := by decide +kernel
theorem dL_law_419 : decode cL_law 419 = .ok (.aload_n 0, 1) := by decide +kernel
theorem dL_law_420 : decode cL_law 420 = .ok (.iconst 3, 1) := by decide +kernel
theorem dL_law_421 : decode cL_law 421 = .ok (.iload 17, 2) := by decide +kernel
theorem dL_law_423 : decode cL_law 423 = .ok (.imul, 1) := by decide +kernel
theorem dL_law_424 : decode cL_law 424 = .ok (.iconst 2, 1) := by decide +kernel
theorem dL_law_425 : decode cL_law 425 = .ok (.iadd, 1) := by decide +kernel
theorem dL_law_426 : decode cL_law 426 = .ok (.ldc 160, 2) := by decide +kernel
theorem dL_law_428 : decode cL_law 428 = .ok (.invokestatic 157, 3) := by decide +kernel
theorem dL_law_431 : decode cL_law 431 = .ok (.istore 20, 2) := by decide +kernel
theorem dL_law_433 : decode cL_law 433 = .ok (.iload 18, 2) := by decide +kernel
theorem dL_law_435 : decode cL_law 435 = .ok (.bipush 9, 2) := by decide +kernel
theorem dL_law_437 : decode cL_law 437 = .ok (.if_icmp .ge 68, 3) := by decide +kernel
theorem dL_law_440 : decode cL_law 440 = .ok (.aload_n 1, 1) := by decide +kernel
theorem dL_law_441 : decode cL_law 441 = .ok (.aload_n 2, 1) := by decide +kernel
theorem dL_law_442 : decode cL_law 442 = .ok (.aload_n 3, 1) := by decide +kernel
theorem dL_law_443 : decode cL_law 443 = .ok (.aload 4, 2) := by decide +kernel
theorem dL_law_445 : decode cL_law 445 = .ok (.aload 5, 2) := by decide +kernel
theorem dL_law_447 : decode cL_law 447 = .ok (.aload 6, 2) := by decide +kernel
theorem dL_law_449 : decode cL_law 449 = .ok (.aload 15, 2) := by decide +kernel
theorem dL_law_451 : decode cL_law 451 = .ok (.iload 18, 2) := by decide +kernel
theorem dL_law_453 : decode cL_law 453 = .ok (.iconst 3, 1) := by decide +kernel
theorem dL_law_454 : decode cL_law 454 = .ok (.if_icmp .ge 7, 3) := by decide +kernel
theorem dL_law_457 : decode cL_law 457 = .ok (.iconst 0, 1) := by decide +kernel
theorem dL_law_458 : decode cL_law 458 = .ok (.goto 35, 3) := by decide +kernel
theorem dL_law_461 : decode cL_law 461 = .ok (.iload 18, 2) := by decide +kernel
theorem dL_law_463 : decode cL_law 463 = .ok (.iconst 3, 1) := by decide +kernel
theorem dL_law_464 : decode cL_law 464 = .ok (.if_icmp .ne 7, 3) := by decide +kernel
theorem dL_law_467 : decode cL_law 467 = .ok (.iconst 1, 1) := by decide +kernel
theorem dL_law_468 : decode cL_law 468 = .ok (.goto 25, 3) := by decide +kernel
theorem dL_law_471 : decode cL_law 471 = .ok (.iload 18, 2) := by decide +kernel
theorem dL_law_473 : decode cL_law 473 = .ok (.iconst 4, 1) := by decide +kernel
theorem dL_law_474 : decode cL_law 474 = .ok (.if_icmp .ne 7, 3) := by decide +kernel
theorem dL_law_477 : decode cL_law 477 = .ok (.iconst 2, 1) := by decide +kernel
theorem dL_law_478 : decode cL_law 478 = .ok (.goto 15, 3) := by decide +kernel
theorem dL_law_481 : decode cL_law 481 = .ok (.iload 18, 2) := by decide +kernel
theorem dL_law_483 : decode cL_law 483 = .ok (.bipush 8, 2) := by decide +kernel
theorem dL_law_485 : decode cL_law 485 = .ok (.if_icmp .ge 7, 3) := by decide +kernel
theorem dL_law_488 : decode cL_law 488 = .ok (.iconst 3, 1) := by decide +kernel
theorem dL_law_489 : decode cL_law 489 = .ok (.goto 4, 3) := by decide +kernel
theorem dL_law_492 : decode cL_law 492 = .ok (.iconst 4, 1) := by decide +kernel
theorem dL_law_493 : decode cL_law 493 = .ok (.iload 19, 2) := by decide +kernel
theorem dL_law_495 : decode cL_law 495 = .ok (.iload 20, 2) := by decide +kernel
theorem dL_law_497 : decode cL_law 497 = .ok (.invokestatic 161, 3) := by decide +kernel
theorem dL_law_500 : decode cL_law 500 = .ok (.istore 16, 2) := by decide +kernel
theorem dL_law_502 : decode cL_law 502 = .ok (.goto 199, 3) := by decide +kernel
theorem dL_law_505 : decode cL_law 505 = .ok (.iload 18, 2) := by decide +kernel
theorem dL_law_507 : decode cL_law 507 = .ok (.bipush 15, 2) := by decide +kernel
theorem dL_law_509 : decode cL_law 509 = .ok (.if_icmp .ge 51, 3) := by decide +kernel
theorem dL_law_512 : decode cL_law 512 = .ok (.aload_n 1, 1) := by decide +kernel
theorem dL_law_513 : decode cL_law 513 = .ok (.aload 7, 2) := by decide +kernel
theorem dL_law_515 : decode cL_law 515 = .ok (.aload 8, 2) := by decide +kernel
theorem dL_law_517 : decode cL_law 517 = .ok (.aload 9, 2) := by decide +kernel
theorem dL_law_519 : decode cL_law 519 = .ok (.aload 10, 2) := by decide +kernel
theorem dL_law_521 : decode cL_law 521 = .ok (.aload 14, 2) := by decide +kernel
theorem dL_law_523 : decode cL_law 523 = .ok (.aload 15, 2) := by decide +kernel
theorem dL_law_525 : decode cL_law 525 = .ok (.iload 18, 2) := by decide +kernel
theorem dL_law_527 : decode cL_law 527 = .ok (.bipush 9, 2) := by decide +kernel
theorem dL_law_529 : decode cL_law 529 = .ok (.if_icmp .ne 7, 3) := by decide +kernel
theorem dL_law_532 : decode cL_law 532 = .ok (.iconst 0, 1) := by decide +kernel
theorem dL_law_533 : decode cL_law 533 = .ok (.goto 15, 3) := by decide +kernel
theorem dL_law_536 : decode cL_law 536 = .ok (.iload 18, 2) := by decide +kernel
theorem dL_law_538 : decode cL_law 538 = .ok (.bipush 13, 2) := by decide +kernel
theorem dL_law_540 : decode cL_law 540 = .ok (.if_icmp .ge 7, 3) := by decide +kernel
theorem dL_law_543 : decode cL_law 543 = .ok (.iconst 1, 1) := by decide +kernel
theorem dL_law_544 : decode cL_law 544 = .ok (.goto 4, 3) := by decide +kernel
theorem dL_law_547 : decode cL_law 547 = .ok (.iconst 2, 1) := by decide +kernel
theorem dL_law_548 : decode cL_law 548 = .ok (.iload 19, 2) := by decide +kernel
theorem dL_law_550 : decode cL_law 550 = .ok (.iload 20, 2) := by decide +kernel
theorem dL_law_552 : decode cL_law 552 = .ok (.invokestatic 165, 3) := by decide +kernel
theorem dL_law_555 : decode cL_law 555 = .ok (.istore 16, 2) := by decide +kernel
theorem dL_law_557 : decode cL_law 557 = .ok (.goto 144, 3) := by decide +kernel
theorem dL_law_560 : decode cL_law 560 = .ok (.iload 18, 2) := by decide +kernel
theorem dL_law_562 : decode cL_law 562 = .ok (.bipush 42, 2) := by decide +kernel
theorem dL_law_564 : decode cL_law 564 = .ok (.if_icmp .ge 100, 3) := by decide +kernel
theorem dL_law_567 : decode cL_law 567 = .ok (.aload_n 1, 1) := by decide +kernel
theorem dL_law_568 : decode cL_law 568 = .ok (.aload 7, 2) := by decide +kernel
theorem dL_law_570 : decode cL_law 570 = .ok (.aload 8, 2) := by decide +kernel
theorem dL_law_572 : decode cL_law 572 = .ok (.aload 9, 2) := by decide +kernel
theorem dL_law_574 : decode cL_law 574 = .ok (.aload 10, 2) := by decide +kernel
theorem dL_law_576 : decode cL_law 576 = .ok (.aload 11, 2) := by decide +kernel
theorem dL_law_578 : decode cL_law 578 = .ok (.aload 12, 2) := by decide +kernel
theorem dL_law_580 : decode cL_law 580 = .ok (.aload 13, 2) := by decide +kernel
theorem dL_law_582 : decode cL_law 582 = .ok (.aload 15, 2) := by decide +kernel
theorem dL_law_584 : decode cL_law 584 = .ok (.iload 18, 2) := by decide +kernel
theorem dL_law_586 : decode cL_law 586 = .ok (.bipush 15, 2) := by decide +kernel
theorem dL_law_588 : decode cL_law 588 = .ok (.if_icmp .ne 7, 3) := by decide +kernel
theorem dL_law_591 : decode cL_law 591 = .ok (.iconst 0, 1) := by decide +kernel
theorem dL_law_592 : decode cL_law 592 = .ok (.goto 60, 3) := by decide +kernel
theorem dL_law_595 : decode cL_law 595 = .ok (.iload 18, 2) := by decide +kernel
theorem dL_law_597 : decode cL_law 597 = .ok (.bipush 25, 2) := by decide +kernel
theorem dL_law_599 : decode cL_law 599 = .ok (.if_icmp .ge 7, 3) := by decide +kernel
theorem dL_law_602 : decode cL_law 602 = .ok (.iconst 1, 1) := by decide +kernel
theorem dL_law_603 : decode cL_law 603 = .ok (.goto 49, 3) := by decide +kernel
theorem dL_law_606 : decode cL_law 606 = .ok (.iload 18, 2) := by decide +kernel
theorem dL_law_608 : decode cL_law 608 = .ok (.bipush 28, 2) := by decide +kernel
theorem dL_law_610 : decode cL_law 610 = .ok (.if_icmp .ge 7, 3) := by decide +kernel
theorem dL_law_613 : decode cL_law 613 = .ok (.iconst 2, 1) := by decide +kernel
theorem dL_law_614 : decode cL_law 614 = .ok (.goto 38, 3) := by decide +kernel
theorem dL_law_617 : decode cL_law 617 = .ok (.iload 18, 2) := by decide +kernel
theorem dL_law_619 : decode cL_law 619 = .ok (.bipush 31, 2) := by decide +kernel
theorem dL_law_621 : decode cL_law 621 = .ok (.if_icmp .ge 7, 3) := by decide +kernel
theorem dL_law_624 : decode cL_law 624 = .ok (.iconst 3, 1) := by decide +kernel
theorem dL_law_625 : decode cL_law 625 = .ok (.goto 27, 3) := by decide +kernel
theorem dL_law_628 : decode cL_law 628 = .ok (.iload 18, 2) := by decide +kernel
theorem dL_law_630 : decode cL_law 630 = .ok (.bipush 34, 2) := by decide +kernel
theorem dL_law_632 : decode cL_law 632 = .ok (.if_icmp .ge 7, 3) := by decide +kernel
theorem dL_law_635 : decode cL_law 635 = .ok (.iconst 4, 1) := by decide +kernel
theorem dL_law_636 : decode cL_law 636 = .ok (.goto 16, 3) := by decide +kernel
theorem dL_law_639 : decode cL_law 639 = .ok (.iload 18, 2) := by decide +kernel
theorem dL_law_641 : decode cL_law 641 = .ok (.bipush 38, 2) := by decide +kernel
theorem dL_law_643 : decode cL_law 643 = .ok (.if_icmp .ge 7, 3) := by decide +kernel
theorem dL_law_646 : decode cL_law 646 = .ok (.iconst 5, 1) := by decide +kernel
theorem dL_law_647 : decode cL_law 647 = .ok (.goto 5, 3) := by decide +kernel
theorem dL_law_650 : decode cL_law 650 = .ok (.bipush 6, 2) := by decide +kernel
theorem dL_law_652 : decode cL_law 652 = .ok (.iload 19, 2) := by decide +kernel
theorem dL_law_654 : decode cL_law 654 = .ok (.iload 20, 2) := by decide +kernel
theorem dL_law_656 : decode cL_law 656 = .ok (.invokestatic 168, 3) := by decide +kernel
theorem dL_law_659 : decode cL_law 659 = .ok (.istore 16, 2) := by decide +kernel
theorem dL_law_661 : decode cL_law 661 = .ok (.goto 40, 3) := by decide +kernel
theorem dL_law_664 : decode cL_law 664 = .ok (.aload_n 1, 1) := by decide +kernel
theorem dL_law_665 : decode cL_law 665 = .ok (.aload 10, 2) := by decide +kernel
theorem dL_law_667 : decode cL_law 667 = .ok (.aload 15, 2) := by decide +kernel
theorem dL_law_669 : decode cL_law 669 = .ok (.iload 18, 2) := by decide +kernel
theorem dL_law_671 : decode cL_law 671 = .ok (.bipush 44, 2) := by decide +kernel
theorem dL_law_673 : decode cL_law 673 = .ok (.if_icmp .ge 7, 3) := by decide +kernel
theorem dL_law_676 : decode cL_law 676 = .ok (.iconst 0, 1) := by decide +kernel
theorem dL_law_677 : decode cL_law 677 = .ok (.goto 15, 3) := by decide +kernel
theorem dL_law_680 : decode cL_law 680 = .ok (.iload 18, 2) := by decide +kernel
theorem dL_law_682 : decode cL_law 682 = .ok (.bipush 44, 2) := by decide +kernel
theorem dL_law_684 : decode cL_law 684 = .ok (.if_icmp .ne 7, 3) := by decide +kernel
theorem dL_law_687 : decode cL_law 687 = .ok (.iconst 1, 1) := by decide +kernel
theorem dL_law_688 : decode cL_law 688 = .ok (.goto 4, 3) := by decide +kernel
theorem dL_law_691 : decode cL_law 691 = .ok (.iconst 2, 1) := by decide +kernel
theorem dL_law_692 : decode cL_law 692 = .ok (.iload 19, 2) := by decide +kernel
theorem dL_law_694 : decode cL_law 694 = .ok (.iload 20, 2) := by decide +kernel
theorem dL_law_696 : decode cL_law 696 = .ok (.invokestatic 172, 3) := by decide +kernel
theorem dL_law_699 : decode cL_law 699 = .ok (.istore 16, 2) := by decide +kernel
theorem dL_law_701 : decode cL_law 701 = .ok (.iload 16, 2) := by decide +kernel
theorem dL_law_703 : decode cL_law 703 = .ok (.ifCond .eq 38, 3) := by decide +kernel
theorem dL_law_706 : decode cL_law 706 = .ok (.aload_n 1, 1) := by decide +kernel
theorem dL_law_707 : decode cL_law 707 = .ok (.aload 5, 2) := by decide +kernel
theorem dL_law_709 : decode cL_law 709 = .ok (.aload 6, 2) := by decide +kernel
theorem dL_law_711 : decode cL_law 711 = .ok (.aload 7, 2) := by decide +kernel
theorem dL_law_713 : decode cL_law 713 = .ok (.aload 8, 2) := by decide +kernel
theorem dL_law_715 : decode cL_law 715 = .ok (.aload 9, 2) := by decide +kernel
theorem dL_law_717 : decode cL_law 717 = .ok (.aload 10, 2) := by decide +kernel
theorem dL_law_719 : decode cL_law 719 = .ok (.aload 11, 2) := by decide +kernel
theorem dL_law_721 : decode cL_law 721 = .ok (.aload 12, 2) := by decide +kernel
theorem dL_law_723 : decode cL_law 723 = .ok (.aload 13, 2) := by decide +kernel
theorem dL_law_725 : decode cL_law 725 = .ok (.aload 14, 2) := by decide +kernel
theorem dL_law_727 : decode cL_law 727 = .ok (.aload 15, 2) := by decide +kernel
theorem dL_law_729 : decode cL_law 729 = .ok (.iload 19, 2) := by decide +kernel
theorem dL_law_731 : decode cL_law 731 = .ok (.invokestatic 176, 3) := by decide +kernel
theorem dL_law_734 : decode cL_law 734 = .ok (.ifCond .eq 7, 3) := by decide +kernel
theorem dL_law_737 : decode cL_law 737 = .ok (.iconst 1, 1) := by decide +kernel
theorem dL_law_738 : decode cL_law 738 = .ok (.goto 4, 3) := by decide +kernel
theorem dL_law_741 : decode cL_law 741 = .ok (.iconst 0, 1) := by decide +kernel
theorem dL_law_742 : decode cL_law 742 = .ok (.istore 16, 2) := by decide +kernel
theorem dL_law_744 : decode cL_law 744 = .ok (.iinc 17 1, 3) := by decide +kernel
theorem dL_law_747 : decode cL_law 747 = .ok (.goto (-423), 3) := by decide +kernel
theorem dL_law_750 : decode cL_law 750 = .ok (.iload 16, 2) := by decide +kernel
theorem dL_law_752 : decode cL_law 752 = .ok (.ireturn, 1) := by decide +kernel
