/-! SOUNDNESS, 6: the tables' words that the methods use, by their places; what is known of each method, by program -/
theorem zT_tbl {w : Cond} (h : w ∈ zT) : w ∈ lw_tbl := (List.mem_filter.mp h).1
theorem zsw_ho {pc : Nat} {offs : Array Int} {ts : List Nat} (h : offs.toList.map (fun o => (pc : Int) + o) = ts.map (fun (t : Nat) => (t : Int))) : ∀ (k t : Nat), ts[k]? = some t → ∃ off : Int, offs[k]? = some off ∧ (pc : Int) + off = (t : Int) := by
  intro k t ht
  have h1 : (ts.map (fun (t : Nat) => (t : Int)))[k]? = some (t : Int) := by rw [List.getElem?_map, ht]; rfl
  rw [← h, List.getElem?_map, Array.getElem?_toList] at h1
  cases ho : offs[k]? with
  | none => rw [ho] at h1; cases h1
  | some o => rw [ho] at h1; exact ⟨o, rfl, Option.some.inj h1⟩
set_option maxRecDepth 10000 in
theorem wd_1 : (Cond.selects "java/util/ArrayList" ⟨"java/util/ArrayList", "add", "(Ljava/lang/Object;[Ljava/lang/Object;I)V"⟩ ⟨"java/util/ArrayList", "add", "(Ljava/lang/Object;[Ljava/lang/Object;I)V"⟩) ∈ zT := zT_in 1 (by decide +kernel) rfl
set_option maxRecDepth 10000 in
theorem wd_2 : (Cond.selects "java/util/ArrayList" ⟨"java/util/ArrayList", "grow", "()[Ljava/lang/Object;"⟩ ⟨"java/util/ArrayList", "grow", "()[Ljava/lang/Object;"⟩) ∈ zT := zT_in 2 (by decide +kernel) rfl
set_option maxRecDepth 10000 in
theorem wd_3 : (Cond.selects "java/util/ArrayList" ⟨"java/util/ArrayList", "grow", "(I)[Ljava/lang/Object;"⟩ ⟨"java/util/ArrayList", "grow", "(I)[Ljava/lang/Object;"⟩) ∈ zT := zT_in 3 (by decide +kernel) rfl
set_option maxRecDepth 10000 in
theorem wd_4 : (Cond.selects "Sparkline" ⟨"Sparkline", "connectorAt", "(I)LSparkline$Connector;"⟩ ⟨"Sparkline", "connectorAt", "(I)LSparkline$Connector;"⟩) ∈ zT := zT_in 4 (by decide +kernel) rfl
set_option maxRecDepth 10000 in
theorem wd_5 : (Cond.selects "Sparkline$Harness" ⟨"Sparkline$Harness", "findCosts", "(I)V"⟩ ⟨"Sparkline$Harness", "findCosts", "(I)V"⟩) ∈ zT := zT_in 5 (by decide +kernel) rfl
set_option maxRecDepth 10000 in
theorem wd_6 : (Cond.selects "Sparkline$Harness" ⟨"Sparkline$Harness", "lowerCost", "(ILSparkline$Bundle;)V"⟩ ⟨"Sparkline$Harness", "lowerCost", "(ILSparkline$Bundle;)V"⟩) ∈ zT := zT_in 6 (by decide +kernel) rfl
set_option maxRecDepth 10000 in
theorem wd_7 : (Cond.selects "Sparkline$Harness" ⟨"Sparkline$Harness", "layAlong", "(LSparkline$Wire;)V"⟩ ⟨"Sparkline$Harness", "layAlong", "(LSparkline$Wire;)V"⟩) ∈ zT := zT_in 7 (by decide +kernel) rfl
set_option maxRecDepth 10000 in
theorem wd_8 : (Cond.selects "Sparkline$Harness" ⟨"Sparkline$Harness", "lowestOnward", "(I)LSparkline$Bundle;"⟩ ⟨"Sparkline$Harness", "lowestOnward", "(I)LSparkline$Bundle;"⟩) ∈ zT := zT_in 8 (by decide +kernel) rfl
set_option maxRecDepth 10000 in
theorem wd_9 : (Cond.selects "Sparkline" ⟨"Sparkline", "wireAt", "(I)LSparkline$Wire;"⟩ ⟨"Sparkline", "wireAt", "(I)LSparkline$Wire;"⟩) ∈ zT := zT_in 9 (by decide +kernel) rfl
set_option maxRecDepth 10000 in
theorem wd_10 : (Cond.selects "Sparkline$Orders" ⟨"Sparkline$Orders", "weighSets", "(LSparkline$Harness;)V"⟩ ⟨"Sparkline$Orders", "weighSets", "(LSparkline$Harness;)V"⟩) ∈ zT := zT_in 10 (by decide +kernel) rfl
set_option maxRecDepth 10000 in
theorem wd_11 : (Cond.selects "Sparkline$Orders" ⟨"Sparkline$Orders", "allOrders", "()I"⟩ ⟨"Sparkline$Orders", "allOrders", "()I"⟩) ∈ zT := zT_in 11 (by decide +kernel) rfl
set_option maxRecDepth 10000 in
theorem wd_12 : (Cond.selects "Sparkline$Orders" ⟨"Sparkline$Orders", "weightAsOne", "(LSparkline$Harness;I)I"⟩ ⟨"Sparkline$Orders", "weightAsOne", "(LSparkline$Harness;I)I"⟩) ∈ zT := zT_in 12 (by decide +kernel) rfl
set_option maxRecDepth 10000 in
theorem wd_13 : (Cond.selects "Sparkline$Orders" ⟨"Sparkline$Orders", "addFamily", "()V"⟩ ⟨"Sparkline$Orders", "addFamily", "()V"⟩) ∈ zT := zT_in 13 (by decide +kernel) rfl
set_option maxRecDepth 10000 in
theorem wd_14 : (Cond.selects "Sparkline$Orders" ⟨"Sparkline$Orders", "leastWithOneMore", "(I)I"⟩ ⟨"Sparkline$Orders", "leastWithOneMore", "(I)I"⟩) ∈ zT := zT_in 14 (by decide +kernel) rfl
set_option maxRecDepth 10000 in
theorem wd_15 : (Cond.selects "Sparkline" ⟨"Sparkline", "reelAt", "(I)LSparkline$Reel;"⟩ ⟨"Sparkline", "reelAt", "(I)LSparkline$Reel;"⟩) ∈ zT := zT_in 15 (by decide +kernel) rfl
set_option maxRecDepth 10000 in
theorem wd_16 : (Cond.selects "Sparkline" ⟨"Sparkline", "boardAt", "(I)LSparkline$Board;"⟩ ⟨"Sparkline", "boardAt", "(I)LSparkline$Board;"⟩) ∈ zT := zT_in 16 (by decide +kernel) rfl
set_option maxRecDepth 10000 in
theorem wd_17 : (Cond.selects "Sparkline$Board" ⟨"Sparkline$Board", "mass", "()I"⟩ ⟨"Sparkline$Board", "mass", "()I"⟩) ∈ zT := zT_in 17 (by decide +kernel) rfl
set_option maxRecDepth 10000 in
theorem wd_18 : (Cond.selects "SparklineModel" ⟨"SparklineModel", "fails", "(I)Z"⟩ ⟨"SparklineModel", "fails", "(I)Z"⟩) ∈ zT := zT_in 18 (by decide +kernel) rfl
set_option maxRecDepth 10000 in
theorem wd_19 : (Cond.selects "SparklineModel" ⟨"SparklineModel", "isConnector", "(I)Z"⟩ ⟨"SparklineModel", "isConnector", "(I)Z"⟩) ∈ zT := zT_in 19 (by decide +kernel) rfl
set_option maxRecDepth 10000 in
theorem wd_20 : (Cond.selects "SparklineModel" ⟨"SparklineModel", "fit", "(II)Z"⟩ ⟨"SparklineModel", "fit", "(II)Z"⟩) ∈ zT := zT_in 20 (by decide +kernel) rfl
set_option maxRecDepth 10000 in
theorem wd_21 : (Cond.selects "SparklineModel" ⟨"SparklineModel", "isCavity", "(II)Z"⟩ ⟨"SparklineModel", "isCavity", "(II)Z"⟩) ∈ zT := zT_in 21 (by decide +kernel) rfl
set_option maxRecDepth 10000 in
theorem wd_22 : (Cond.selects "SparklineModel" ⟨"SparklineModel", "finds", "(I)V"⟩ ⟨"SparklineModel", "finds", "(I)V"⟩) ∈ zT := zT_in 22 (by decide +kernel) rfl
set_option maxRecDepth 10000 in
theorem wd_23 : (Cond.selects "SparklineModel" ⟨"SparklineModel", "costOf", "(I)I"⟩ ⟨"SparklineModel", "costOf", "(I)I"⟩) ∈ zT := zT_in 23 (by decide +kernel) rfl
set_option maxRecDepth 10000 in
theorem wd_24 : (Cond.selects "SparklineModel" ⟨"SparklineModel", "isTaken", "(I)Z"⟩ ⟨"SparklineModel", "isTaken", "(I)Z"⟩) ∈ zT := zT_in 24 (by decide +kernel) rfl
set_option maxRecDepth 10000 in
theorem wd_25 : (Cond.selects "SparklineModel" ⟨"SparklineModel", "lays", "(II)V"⟩ ⟨"SparklineModel", "lays", "(II)V"⟩) ∈ zT := zT_in 25 (by decide +kernel) rfl
set_option maxRecDepth 10000 in
theorem wd_26 : (Cond.selects "SparklineModel" ⟨"SparklineModel", "across", "(II)I"⟩ ⟨"SparklineModel", "across", "(II)I"⟩) ∈ zT := zT_in 26 (by decide +kernel) rfl
set_option maxRecDepth 10000 in
theorem wd_27 : (Cond.selects "SparklineModel" ⟨"SparklineModel", "isWire", "(I)Z"⟩ ⟨"SparklineModel", "isWire", "(I)Z"⟩) ∈ zT := zT_in 27 (by decide +kernel) rfl
set_option maxRecDepth 10000 in
theorem wd_28 : (Cond.selects "SparklineModel" ⟨"SparklineModel", "lengthOf", "(I)I"⟩ ⟨"SparklineModel", "lengthOf", "(I)I"⟩) ∈ zT := zT_in 28 (by decide +kernel) rfl
set_option maxRecDepth 10000 in
theorem wd_29 : (Cond.selects "SparklineModel" ⟨"SparklineModel", "weighs", "(I)I"⟩ ⟨"SparklineModel", "weighs", "(I)I"⟩) ∈ zT := zT_in 29 (by decide +kernel) rfl
set_option maxRecDepth 10000 in
theorem wd_30 : (Cond.selects "SparklineModel" ⟨"SparklineModel", "leastOf", "(I)I"⟩ ⟨"SparklineModel", "leastOf", "(I)I"⟩) ∈ zT := zT_in 30 (by decide +kernel) rfl
set_option maxRecDepth 10000 in
theorem wd_31 : (Cond.selects "SparklineModel" ⟨"SparklineModel", "weightOfFamilies", "(I)I"⟩ ⟨"SparklineModel", "weightOfFamilies", "(I)I"⟩) ∈ zT := zT_in 31 (by decide +kernel) rfl
set_option maxRecDepth 10000 in
theorem wd_32 : (Cond.selects "SparklineModel" ⟨"SparklineModel", "window", "()I"⟩ ⟨"SparklineModel", "window", "()I"⟩) ∈ zT := zT_in 32 (by decide +kernel) rfl
set_option maxRecDepth 10000 in
theorem wd_33 : (Cond.selects "SparklineModel" ⟨"SparklineModel", "isReel", "(I)Z"⟩ ⟨"SparklineModel", "isReel", "(I)Z"⟩) ∈ zT := zT_in 33 (by decide +kernel) rfl
set_option maxRecDepth 10000 in
theorem wd_34 : (Cond.selects "SparklineModel" ⟨"SparklineModel", "runs", "(I)I"⟩ ⟨"SparklineModel", "runs", "(I)I"⟩) ∈ zT := zT_in 34 (by decide +kernel) rfl
set_option maxRecDepth 10000 in
theorem wd_35 : (Cond.selects "SparklineModel" ⟨"SparklineModel", "isBoard", "(I)Z"⟩ ⟨"SparklineModel", "isBoard", "(I)Z"⟩) ∈ zT := zT_in 35 (by decide +kernel) rfl
set_option maxRecDepth 10000 in
theorem wd_36 : (Cond.selects "SparklineModel" ⟨"SparklineModel", "gives", "(I)Z"⟩ ⟨"SparklineModel", "gives", "(I)Z"⟩) ∈ zT := zT_in 36 (by decide +kernel) rfl
set_option maxRecDepth 10000 in
theorem wd_37 : (Cond.selects "SparklineModel" ⟨"SparklineModel", "peakOf", "(I)I"⟩ ⟨"SparklineModel", "peakOf", "(I)I"⟩) ∈ zT := zT_in 37 (by decide +kernel) rfl
set_option maxRecDepth 10000 in
theorem wd_38 : (Cond.selects "SparklineModel" ⟨"SparklineModel", "faults", "(IZ)I"⟩ ⟨"SparklineModel", "faults", "(IZ)I"⟩) ∈ zT := zT_in 38 (by decide +kernel) rfl
set_option maxRecDepth 10000 in
theorem wd_39 : ((Jvm.Cond.initialized "SparklineLaw")) ∈ zT := zT_in 39 (by decide +kernel) rfl
set_option maxRecDepth 10000 in
theorem wd_40 : ((Jvm.Cond.initialized "Sparkline")) ∈ zT := zT_in 40 (by decide +kernel) rfl
set_option maxRecDepth 10000 in
theorem wd_41 : ((Jvm.Cond.initialized "Sparkline$Harness")) ∈ zT := zT_in 41 (by decide +kernel) rfl
set_option maxRecDepth 10000 in
theorem wd_42 : ((Jvm.Cond.initialized "java/util/AbstractCollection")) ∈ zT := zT_in 42 (by decide +kernel) rfl
set_option maxRecDepth 10000 in
theorem wd_43 : ((Jvm.Cond.initialized "java/util/AbstractList")) ∈ zT := zT_in 43 (by decide +kernel) rfl
set_option maxRecDepth 10000 in
theorem wd_44 : ((Jvm.Cond.initialized "java/util/ArrayList")) ∈ zT := zT_in 44 (by decide +kernel) rfl
set_option maxRecDepth 10000 in
theorem wd_45 : ((Jvm.Cond.initialized "Sparkline$Row")) ∈ zT := zT_in 45 (by decide +kernel) rfl
set_option maxRecDepth 10000 in
theorem wd_46 : ((Jvm.Cond.initialized "Sparkline$Orders")) ∈ zT := zT_in 46 (by decide +kernel) rfl
set_option maxRecDepth 10000 in
theorem wd_47 : ((Jvm.Cond.initialized "Sparkline$Crimper")) ∈ zT := zT_in 47 (by decide +kernel) rfl
set_option maxRecDepth 10000 in
theorem wd_48 : ((Jvm.Cond.initialized "Sparkline$Oven")) ∈ zT := zT_in 48 (by decide +kernel) rfl
set_option maxRecDepth 10000 in
theorem wd_49 : ((Jvm.Cond.initialized "SparklineModel")) ∈ zT := zT_in 49 (by decide +kernel) rfl
set_option maxRecDepth 10000 in
theorem wd_53 : ((Jvm.Cond.initialized "java/lang/IndexOutOfBoundsException")) ∈ zT := zT_in 53 (by decide +kernel) rfl
set_option maxRecDepth 10000 in
theorem wd_54 : ((Jvm.Cond.initialized "java/lang/IllegalArgumentException")) ∈ zT := zT_in 54 (by decide +kernel) rfl
set_option maxRecDepth 10000 in
theorem wd_55 : ((Jvm.Cond.initialized "java/lang/IllegalStateException")) ∈ zT := zT_in 55 (by decide +kernel) rfl
set_option maxRecDepth 10000 in
theorem wd_56 : ((Jvm.Cond.initialized "Sparkline$Bundle")) ∈ zT := zT_in 56 (by decide +kernel) rfl
set_option maxRecDepth 10000 in
theorem wd_57 : ((Jvm.Cond.initialized "jdk/internal/util/ArraysSupport")) ∈ zT := zT_in 57 (by decide +kernel) rfl
set_option maxRecDepth 10000 in
theorem wd_58 : ((Jvm.Cond.initialized "java/lang/Math")) ∈ zT := zT_in 58 (by decide +kernel) rfl
set_option maxRecDepth 10000 in
theorem wd_59 : ((Jvm.Cond.initialized "java/util/Arrays")) ∈ zT := zT_in 59 (by decide +kernel) rfl
set_option maxRecDepth 10000 in
theorem wd_60 : ((Jvm.Cond.initialized "java/lang/System")) ∈ zT := zT_in 60 (by decide +kernel) rfl
set_option maxRecDepth 10000 in
theorem wd_61 : ((Jvm.Cond.initialized "Sparkline$Connector")) ∈ zT := zT_in 61 (by decide +kernel) rfl
set_option maxRecDepth 10000 in
theorem wd_62 : ((Jvm.Cond.initialized "java/util/Objects")) ∈ zT := zT_in 62 (by decide +kernel) rfl
set_option maxRecDepth 10000 in
theorem wd_63 : ((Jvm.Cond.initialized "jdk/internal/util/Preconditions")) ∈ zT := zT_in 63 (by decide +kernel) rfl
set_option maxRecDepth 10000 in
theorem wd_64 : ((Jvm.Cond.initialized "Sparkline$Wire")) ∈ zT := zT_in 64 (by decide +kernel) rfl
set_option maxRecDepth 10000 in
theorem wd_65 : ((Jvm.Cond.initialized "Sparkline$Reel")) ∈ zT := zT_in 65 (by decide +kernel) rfl
set_option maxRecDepth 10000 in
theorem wd_66 : ((Jvm.Cond.initialized "Sparkline$Board")) ∈ zT := zT_in 66 (by decide +kernel) rfl
set_option maxRecDepth 10000 in
theorem wd_67 : ((Jvm.Cond.initialized "Sparkline$Slot")) ∈ zT := zT_in 67 (by decide +kernel) rfl
set_option maxRecDepth 10000 in
theorem wd_68 : ((Jvm.Cond.initialized "java/lang/Integer")) ∈ zT := zT_in 68 (by decide +kernel) rfl
set_option maxRecDepth 10000 in
theorem wd_69 : ((Jvm.Cond.classLink "SparklineLaw" (8 : Nat) "Sparkline")) ∈ zT := zT_in 69 (by decide +kernel) rfl
set_option maxRecDepth 10000 in
theorem wd_70 : ((Jvm.Cond.instantiable "Sparkline" (8 : Nat))) ∈ zT := zT_in 70 (by decide +kernel) rfl
set_option maxRecDepth 10000 in
theorem wd_71 : ((Jvm.Cond.methodLink "SparklineLaw" (109 : Nat) ({ cls := "Sparkline", name := "<init>", desc := "()V" } : Jvm.MethodName))) ∈ zT := zT_in 71 (by decide +kernel) rfl
set_option maxRecDepth 10000 in
theorem wd_72 : ((Jvm.Cond.instanceMethod ({ cls := "Sparkline", name := "<init>", desc := "()V" } : Jvm.MethodName))) ∈ zT := zT_in 72 (by decide +kernel) rfl
set_option maxRecDepth 10000 in
theorem wd_73 : ((Jvm.Cond.code ({ cls := "Sparkline", name := "<init>", desc := "()V" } : Jvm.MethodName) prog_1_method_1_code (1 : Nat) (Option.none : Option Jvm.ClassFile.FieldType))) ∈ zT := zT_in 73 (by decide +kernel) rfl
set_option maxRecDepth 10000 in
theorem wd_74 : ((Jvm.Cond.methodLink "Sparkline" (1 : Nat) ({ cls := "java/lang/Object", name := "<init>", desc := "()V" } : Jvm.MethodName))) ∈ zT := zT_in 74 (by decide +kernel) rfl
set_option maxRecDepth 10000 in
theorem wd_75 : ((Jvm.Cond.instanceMethod ({ cls := "java/lang/Object", name := "<init>", desc := "()V" } : Jvm.MethodName))) ∈ zT := zT_in 75 (by decide +kernel) rfl
set_option maxRecDepth 10000 in
theorem wd_76 : ((Jvm.Cond.code ({ cls := "java/lang/Object", name := "<init>", desc := "()V" } : Jvm.MethodName) object_method_1_code (1 : Nat) (Option.none : Option Jvm.ClassFile.FieldType))) ∈ zT := zT_in 76 (by decide +kernel) rfl
set_option maxRecDepth 10000 in
theorem wd_77 : ((Jvm.Cond.classLink "Sparkline" (7 : Nat) "Sparkline$Harness")) ∈ zT := zT_in 77 (by decide +kernel) rfl
set_option maxRecDepth 10000 in
theorem wd_78 : ((Jvm.Cond.instantiable "Sparkline$Harness" (4 : Nat))) ∈ zT := zT_in 78 (by decide +kernel) rfl
set_option maxRecDepth 10000 in
theorem wd_80 : ((Jvm.Cond.instanceMethod ({ cls := "Sparkline$Harness", name := "<init>", desc := "()V" } : Jvm.MethodName))) ∈ zT := zT_in 80 (by decide +kernel) rfl
set_option maxRecDepth 10000 in
theorem wd_81 : ((Jvm.Cond.code ({ cls := "Sparkline$Harness", name := "<init>", desc := "()V" } : Jvm.MethodName) prog_6_method_1_code (1 : Nat) (Option.none : Option Jvm.ClassFile.FieldType))) ∈ zT := zT_in 81 (by decide +kernel) rfl
set_option maxRecDepth 10000 in
theorem wd_82 : ((Jvm.Cond.methodLink "Sparkline$Harness" (3 : Nat) ({ cls := "java/lang/Object", name := "<init>", desc := "()V" } : Jvm.MethodName))) ∈ zT := zT_in 82 (by decide +kernel) rfl
set_option maxRecDepth 10000 in
theorem wd_83 : ((Jvm.Cond.classLink "Sparkline$Harness" (9 : Nat) "java/util/ArrayList")) ∈ zT := zT_in 83 (by decide +kernel) rfl
set_option maxRecDepth 10000 in
theorem wd_84 : ((Jvm.Cond.instantiable "java/util/ArrayList" (3 : Nat))) ∈ zT := zT_in 84 (by decide +kernel) rfl
set_option maxRecDepth 10000 in
theorem wd_85 : ((Jvm.Cond.methodLink "Sparkline$Harness" (11 : Nat) ({ cls := "java/util/ArrayList", name := "<init>", desc := "()V" } : Jvm.MethodName))) ∈ zT := zT_in 85 (by decide +kernel) rfl
set_option maxRecDepth 10000 in
theorem wd_86 : ((Jvm.Cond.instanceMethod ({ cls := "java/util/ArrayList", name := "<init>", desc := "()V" } : Jvm.MethodName))) ∈ zT := zT_in 86 (by decide +kernel) rfl
set_option maxRecDepth 10000 in
theorem wd_87 : ((Jvm.Cond.code ({ cls := "java/util/ArrayList", name := "<init>", desc := "()V" } : Jvm.MethodName) prog_29_method_2_code (1 : Nat) (Option.none : Option Jvm.ClassFile.FieldType))) ∈ zT := zT_in 87 (by decide +kernel) rfl
set_option maxRecDepth 10000 in
theorem wd_88 : ((Jvm.Cond.methodLink "java/util/ArrayList" (1 : Nat) ({ cls := "java/util/AbstractList", name := "<init>", desc := "()V" } : Jvm.MethodName))) ∈ zT := zT_in 88 (by decide +kernel) rfl
set_option maxRecDepth 10000 in
theorem wd_89 : ((Jvm.Cond.instanceMethod ({ cls := "java/util/AbstractList", name := "<init>", desc := "()V" } : Jvm.MethodName))) ∈ zT := zT_in 89 (by decide +kernel) rfl
set_option maxRecDepth 10000 in
theorem wd_90 : ((Jvm.Cond.code ({ cls := "java/util/AbstractList", name := "<init>", desc := "()V" } : Jvm.MethodName) prog_28_method_1_code (1 : Nat) (Option.none : Option Jvm.ClassFile.FieldType))) ∈ zT := zT_in 90 (by decide +kernel) rfl
set_option maxRecDepth 10000 in
theorem wd_91 : ((Jvm.Cond.methodLink "java/util/AbstractList" (1 : Nat) ({ cls := "java/util/AbstractCollection", name := "<init>", desc := "()V" } : Jvm.MethodName))) ∈ zT := zT_in 91 (by decide +kernel) rfl
set_option maxRecDepth 10000 in
theorem wd_92 : ((Jvm.Cond.instanceMethod ({ cls := "java/util/AbstractCollection", name := "<init>", desc := "()V" } : Jvm.MethodName))) ∈ zT := zT_in 92 (by decide +kernel) rfl
set_option maxRecDepth 10000 in
theorem wd_93 : ((Jvm.Cond.code ({ cls := "java/util/AbstractCollection", name := "<init>", desc := "()V" } : Jvm.MethodName) prog_27_method_1_code (1 : Nat) (Option.none : Option Jvm.ClassFile.FieldType))) ∈ zT := zT_in 93 (by decide +kernel) rfl
set_option maxRecDepth 10000 in
theorem wd_94 : ((Jvm.Cond.methodLink "java/util/AbstractCollection" (1 : Nat) ({ cls := "java/lang/Object", name := "<init>", desc := "()V" } : Jvm.MethodName))) ∈ zT := zT_in 94 (by decide +kernel) rfl
set_option maxRecDepth 10000 in
theorem wd_95 : ((Jvm.Cond.fieldLink "java/util/ArrayList" (39 : Nat) "java/util/ArrayList" "DEFAULTCAPACITY_EMPTY_ELEMENTDATA" "[Ljava/lang/Object;")) ∈ zT := zT_in 95 (by decide +kernel) rfl
set_option maxRecDepth 10000 in
theorem wd_97 : ((Jvm.Cond.fieldLink "java/util/ArrayList" (9 : Nat) "java/util/ArrayList" "elementData" "[Ljava/lang/Object;")) ∈ zT := zT_in 97 (by decide +kernel) rfl
set_option maxRecDepth 10000 in
theorem wd_98 : ((Jvm.Cond.fieldLink "java/util/ArrayList" (48 : Nat) "java/util/ArrayList" "size" "I")) ∈ zT := zT_in 98 (by decide +kernel) rfl
set_option maxRecDepth 10000 in
theorem wd_99 : ((Jvm.Cond.fieldLink "java/util/AbstractList" (7 : Nat) "java/util/AbstractList" "modCount" "I")) ∈ zT := zT_in 99 (by decide +kernel) rfl
set_option maxRecDepth 10000 in
theorem wd_100 : ((Jvm.Cond.fieldLink "java/util/ArrayList" (63 : Nat) "java/util/ArrayList" "modCount" "I")) ∈ zT := zT_in 100 (by decide +kernel) rfl
set_option maxRecDepth 10000 in
theorem wd_101 : ((Jvm.Cond.sameField "java/util/ArrayList" "java/util/AbstractList" "modCount" "I")) ∈ zT := zT_in 101 (by decide +kernel) rfl
set_option maxRecDepth 10000 in
theorem wd_102 : ((Jvm.Cond.lays "java/util/ArrayList" "java/util/ArrayList" "elementData" "[Ljava/lang/Object;")) ∈ zT := zT_in 102 (by decide +kernel) rfl
set_option maxRecDepth 10000 in
theorem wd_104 : ((Jvm.Cond.lays "java/util/ArrayList" "java/util/ArrayList" "size" "I")) ∈ zT := zT_in 104 (by decide +kernel) rfl
set_option maxRecDepth 10000 in
theorem wd_106 : ((Jvm.Cond.lays "java/util/ArrayList" "java/util/AbstractList" "modCount" "I")) ∈ zT := zT_in 106 (by decide +kernel) rfl
set_option maxRecDepth 10000 in
theorem wd_109 : ((Jvm.Cond.classLink "Sparkline$Harness" (24 : Nat) "Sparkline$Row")) ∈ zT := zT_in 109 (by decide +kernel) rfl
set_option maxRecDepth 10000 in
theorem wd_110 : ((Jvm.Cond.instantiable "Sparkline$Row" (1 : Nat))) ∈ zT := zT_in 110 (by decide +kernel) rfl
set_option maxRecDepth 10000 in
theorem wd_111 : ((Jvm.Cond.methodLink "Sparkline$Harness" (26 : Nat) ({ cls := "Sparkline$Row", name := "<init>", desc := "(I)V" } : Jvm.MethodName))) ∈ zT := zT_in 111 (by decide +kernel) rfl
set_option maxRecDepth 10000 in
theorem wd_112 : ((Jvm.Cond.instanceMethod ({ cls := "Sparkline$Row", name := "<init>", desc := "(I)V" } : Jvm.MethodName))) ∈ zT := zT_in 112 (by decide +kernel) rfl
set_option maxRecDepth 10000 in
theorem wd_113 : ((Jvm.Cond.code ({ cls := "Sparkline$Row", name := "<init>", desc := "(I)V" } : Jvm.MethodName) prog_10_method_1_code (2 : Nat) (Option.none : Option Jvm.ClassFile.FieldType))) ∈ zT := zT_in 113 (by decide +kernel) rfl
set_option maxRecDepth 10000 in
theorem wd_114 : ((Jvm.Cond.methodLink "Sparkline$Row" (1 : Nat) ({ cls := "java/lang/Object", name := "<init>", desc := "()V" } : Jvm.MethodName))) ∈ zT := zT_in 114 (by decide +kernel) rfl
set_option maxRecDepth 10000 in
theorem wd_115 : ((Jvm.Cond.fieldLink "Sparkline$Row" (7 : Nat) "Sparkline$Row" "cells" "[I")) ∈ zT := zT_in 115 (by decide +kernel) rfl
set_option maxRecDepth 10000 in
theorem wd_116 : ((Jvm.Cond.laysFinal "Sparkline$Row" "Sparkline$Row" "cells" "[I")) ∈ zT := zT_in 116 (by decide +kernel) rfl
set_option maxRecDepth 10000 in
theorem wd_119 : ((Jvm.Cond.arrayClass Jvm.ClassFile.FieldType.int)) ∈ zT := zT_in 119 (by decide +kernel) rfl
set_option maxRecDepth 10000 in
theorem wd_120 : ((Jvm.Cond.fieldLink "Sparkline$Harness" (12 : Nat) "Sparkline$Harness" "bundles" "Ljava/util/ArrayList;")) ∈ zT := zT_in 120 (by decide +kernel) rfl
set_option maxRecDepth 10000 in
theorem wd_121 : ((Jvm.Cond.fieldLink "Sparkline" (69 : Nat) "Sparkline$Harness" "bundles" "Ljava/util/ArrayList;")) ∈ zT := zT_in 121 (by decide +kernel) rfl
set_option maxRecDepth 10000 in
theorem wd_122 : ((Jvm.Cond.fieldLink "Sparkline$Harness" (18 : Nat) "Sparkline$Harness" "connectors" "Ljava/util/ArrayList;")) ∈ zT := zT_in 122 (by decide +kernel) rfl
set_option maxRecDepth 10000 in
theorem wd_123 : ((Jvm.Cond.fieldLink "Sparkline" (83 : Nat) "Sparkline$Harness" "connectors" "Ljava/util/ArrayList;")) ∈ zT := zT_in 123 (by decide +kernel) rfl
set_option maxRecDepth 10000 in
theorem wd_124 : ((Jvm.Cond.fieldLink "Sparkline$Harness" (21 : Nat) "Sparkline$Harness" "wires" "Ljava/util/ArrayList;")) ∈ zT := zT_in 124 (by decide +kernel) rfl
set_option maxRecDepth 10000 in
theorem wd_125 : ((Jvm.Cond.fieldLink "Sparkline" (113 : Nat) "Sparkline$Harness" "wires" "Ljava/util/ArrayList;")) ∈ zT := zT_in 125 (by decide +kernel) rfl
set_option maxRecDepth 10000 in
theorem wd_126 : ((Jvm.Cond.fieldLink "Sparkline$Harness" (29 : Nat) "Sparkline$Harness" "costs" "LSparkline$Row;")) ∈ zT := zT_in 126 (by decide +kernel) rfl
set_option maxRecDepth 10000 in
theorem wd_127 : ((Jvm.Cond.laysFinal "Sparkline$Harness" "Sparkline$Harness" "bundles" "Ljava/util/ArrayList;")) ∈ zT := zT_in 127 (by decide +kernel) rfl
set_option maxRecDepth 10000 in
theorem wd_129 : ((Jvm.Cond.laysFinal "Sparkline$Harness" "Sparkline$Harness" "connectors" "Ljava/util/ArrayList;")) ∈ zT := zT_in 129 (by decide +kernel) rfl
set_option maxRecDepth 10000 in
theorem wd_131 : ((Jvm.Cond.laysFinal "Sparkline$Harness" "Sparkline$Harness" "wires" "Ljava/util/ArrayList;")) ∈ zT := zT_in 131 (by decide +kernel) rfl
set_option maxRecDepth 10000 in
theorem wd_133 : ((Jvm.Cond.laysFinal "Sparkline$Harness" "Sparkline$Harness" "costs" "LSparkline$Row;")) ∈ zT := zT_in 133 (by decide +kernel) rfl
set_option maxRecDepth 10000 in
theorem wd_136 : ((Jvm.Cond.classLink "Sparkline" (16 : Nat) "Sparkline$Orders")) ∈ zT := zT_in 136 (by decide +kernel) rfl
set_option maxRecDepth 10000 in
theorem wd_137 : ((Jvm.Cond.instantiable "Sparkline$Orders" (5 : Nat))) ∈ zT := zT_in 137 (by decide +kernel) rfl
set_option maxRecDepth 10000 in
theorem wd_139 : ((Jvm.Cond.instanceMethod ({ cls := "Sparkline$Orders", name := "<init>", desc := "()V" } : Jvm.MethodName))) ∈ zT := zT_in 139 (by decide +kernel) rfl
set_option maxRecDepth 10000 in
theorem wd_140 : ((Jvm.Cond.code ({ cls := "Sparkline$Orders", name := "<init>", desc := "()V" } : Jvm.MethodName) prog_7_method_1_code (1 : Nat) (Option.none : Option Jvm.ClassFile.FieldType))) ∈ zT := zT_in 140 (by decide +kernel) rfl
set_option maxRecDepth 10000 in
theorem wd_141 : ((Jvm.Cond.methodLink "Sparkline$Orders" (3 : Nat) ({ cls := "java/lang/Object", name := "<init>", desc := "()V" } : Jvm.MethodName))) ∈ zT := zT_in 141 (by decide +kernel) rfl
set_option maxRecDepth 10000 in
theorem wd_142 : ((Jvm.Cond.classLink "Sparkline$Orders" (9 : Nat) "Sparkline$Row")) ∈ zT := zT_in 142 (by decide +kernel) rfl
set_option maxRecDepth 10000 in
theorem wd_143 : ((Jvm.Cond.methodLink "Sparkline$Orders" (11 : Nat) ({ cls := "Sparkline$Row", name := "<init>", desc := "(I)V" } : Jvm.MethodName))) ∈ zT := zT_in 143 (by decide +kernel) rfl
set_option maxRecDepth 10000 in
theorem wd_144 : ((Jvm.Cond.fieldLink "Sparkline$Orders" (14 : Nat) "Sparkline$Orders" "options" "LSparkline$Row;")) ∈ zT := zT_in 144 (by decide +kernel) rfl
set_option maxRecDepth 10000 in
theorem wd_145 : ((Jvm.Cond.fieldLink "Sparkline$Orders" (20 : Nat) "Sparkline$Orders" "many" "LSparkline$Row;")) ∈ zT := zT_in 145 (by decide +kernel) rfl
set_option maxRecDepth 10000 in
theorem wd_146 : ((Jvm.Cond.fieldLink "Sparkline$Orders" (23 : Nat) "Sparkline$Orders" "weights" "LSparkline$Row;")) ∈ zT := zT_in 146 (by decide +kernel) rfl
set_option maxRecDepth 10000 in
theorem wd_147 : ((Jvm.Cond.fieldLink "Sparkline$Orders" (26 : Nat) "Sparkline$Orders" "leasts" "LSparkline$Row;")) ∈ zT := zT_in 147 (by decide +kernel) rfl
set_option maxRecDepth 10000 in
theorem wd_148 : ((Jvm.Cond.fieldLink "Sparkline$Orders" (29 : Nat) "Sparkline$Orders" "count" "I")) ∈ zT := zT_in 148 (by decide +kernel) rfl
set_option maxRecDepth 10000 in
theorem wd_149 : ((Jvm.Cond.fieldLink "Sparkline" (152 : Nat) "Sparkline$Orders" "count" "I")) ∈ zT := zT_in 149 (by decide +kernel) rfl
set_option maxRecDepth 10000 in
theorem wd_150 : ((Jvm.Cond.laysFinal "Sparkline$Orders" "Sparkline$Orders" "options" "LSparkline$Row;")) ∈ zT := zT_in 150 (by decide +kernel) rfl
set_option maxRecDepth 10000 in
theorem wd_152 : ((Jvm.Cond.laysFinal "Sparkline$Orders" "Sparkline$Orders" "many" "LSparkline$Row;")) ∈ zT := zT_in 152 (by decide +kernel) rfl
set_option maxRecDepth 10000 in
theorem wd_154 : ((Jvm.Cond.laysFinal "Sparkline$Orders" "Sparkline$Orders" "weights" "LSparkline$Row;")) ∈ zT := zT_in 154 (by decide +kernel) rfl
set_option maxRecDepth 10000 in
theorem wd_156 : ((Jvm.Cond.laysFinal "Sparkline$Orders" "Sparkline$Orders" "leasts" "LSparkline$Row;")) ∈ zT := zT_in 156 (by decide +kernel) rfl
set_option maxRecDepth 10000 in
theorem wd_158 : ((Jvm.Cond.lays "Sparkline$Orders" "Sparkline$Orders" "count" "I")) ∈ zT := zT_in 158 (by decide +kernel) rfl
set_option maxRecDepth 10000 in
theorem wd_161 : ((Jvm.Cond.classLink "Sparkline" (23 : Nat) "Sparkline$Crimper")) ∈ zT := zT_in 161 (by decide +kernel) rfl
set_option maxRecDepth 10000 in
theorem wd_162 : ((Jvm.Cond.instantiable "Sparkline$Crimper" (4 : Nat))) ∈ zT := zT_in 162 (by decide +kernel) rfl
set_option maxRecDepth 10000 in
theorem wd_164 : ((Jvm.Cond.instanceMethod ({ cls := "Sparkline$Crimper", name := "<init>", desc := "()V" } : Jvm.MethodName))) ∈ zT := zT_in 164 (by decide +kernel) rfl
set_option maxRecDepth 10000 in
theorem wd_165 : ((Jvm.Cond.code ({ cls := "Sparkline$Crimper", name := "<init>", desc := "()V" } : Jvm.MethodName) prog_5_method_1_code (1 : Nat) (Option.none : Option Jvm.ClassFile.FieldType))) ∈ zT := zT_in 165 (by decide +kernel) rfl
set_option maxRecDepth 10000 in
theorem wd_166 : ((Jvm.Cond.methodLink "Sparkline$Crimper" (1 : Nat) ({ cls := "java/lang/Object", name := "<init>", desc := "()V" } : Jvm.MethodName))) ∈ zT := zT_in 166 (by decide +kernel) rfl
set_option maxRecDepth 10000 in
theorem wd_167 : ((Jvm.Cond.classLink "Sparkline$Crimper" (7 : Nat) "Sparkline$Row")) ∈ zT := zT_in 167 (by decide +kernel) rfl
set_option maxRecDepth 10000 in
theorem wd_168 : ((Jvm.Cond.methodLink "Sparkline$Crimper" (11 : Nat) ({ cls := "Sparkline$Row", name := "<init>", desc := "(I)V" } : Jvm.MethodName))) ∈ zT := zT_in 168 (by decide +kernel) rfl
set_option maxRecDepth 10000 in
theorem wd_169 : ((Jvm.Cond.fieldLink "Sparkline$Crimper" (32 : Nat) "Sparkline$Crimper" "count" "I")) ∈ zT := zT_in 169 (by decide +kernel) rfl
set_option maxRecDepth 10000 in
theorem wd_170 : ((Jvm.Cond.fieldLink "Sparkline" (169 : Nat) "Sparkline$Crimper" "count" "I")) ∈ zT := zT_in 170 (by decide +kernel) rfl
set_option maxRecDepth 10000 in
theorem wd_171 : ((Jvm.Cond.fieldLink "Sparkline$Crimper" (18 : Nat) "Sparkline$Crimper" "good" "I")) ∈ zT := zT_in 171 (by decide +kernel) rfl
set_option maxRecDepth 10000 in
theorem wd_172 : ((Jvm.Cond.fieldLink "Sparkline" (170 : Nat) "Sparkline$Crimper" "good" "I")) ∈ zT := zT_in 172 (by decide +kernel) rfl
set_option maxRecDepth 10000 in
theorem wd_173 : ((Jvm.Cond.fieldLink "Sparkline$Crimper" (14 : Nat) "Sparkline$Crimper" "latest" "LSparkline$Row;")) ∈ zT := zT_in 173 (by decide +kernel) rfl
set_option maxRecDepth 10000 in
theorem wd_174 : ((Jvm.Cond.fieldLink "Sparkline$Crimper" (35 : Nat) "Sparkline$Crimper" "next" "I")) ∈ zT := zT_in 174 (by decide +kernel) rfl
set_option maxRecDepth 10000 in
theorem wd_175 : ((Jvm.Cond.lays "Sparkline$Crimper" "Sparkline$Crimper" "count" "I")) ∈ zT := zT_in 175 (by decide +kernel) rfl
set_option maxRecDepth 10000 in
theorem wd_177 : ((Jvm.Cond.lays "Sparkline$Crimper" "Sparkline$Crimper" "good" "I")) ∈ zT := zT_in 177 (by decide +kernel) rfl
set_option maxRecDepth 10000 in
theorem wd_179 : ((Jvm.Cond.laysFinal "Sparkline$Crimper" "Sparkline$Crimper" "latest" "LSparkline$Row;")) ∈ zT := zT_in 179 (by decide +kernel) rfl
set_option maxRecDepth 10000 in
theorem wd_181 : ((Jvm.Cond.lays "Sparkline$Crimper" "Sparkline$Crimper" "next" "I")) ∈ zT := zT_in 181 (by decide +kernel) rfl
set_option maxRecDepth 10000 in
theorem wd_184 : ((Jvm.Cond.classLink "Sparkline" (30 : Nat) "Sparkline$Oven")) ∈ zT := zT_in 184 (by decide +kernel) rfl
set_option maxRecDepth 10000 in
theorem wd_185 : ((Jvm.Cond.instantiable "Sparkline$Oven" (3 : Nat))) ∈ zT := zT_in 185 (by decide +kernel) rfl
set_option maxRecDepth 10000 in
theorem wd_186 : ((Jvm.Cond.methodLink "Sparkline" (32 : Nat) ({ cls := "Sparkline$Oven", name := "<init>", desc := "()V" } : Jvm.MethodName))) ∈ zT := zT_in 186 (by decide +kernel) rfl
set_option maxRecDepth 10000 in
theorem wd_187 : ((Jvm.Cond.instanceMethod ({ cls := "Sparkline$Oven", name := "<init>", desc := "()V" } : Jvm.MethodName))) ∈ zT := zT_in 187 (by decide +kernel) rfl
set_option maxRecDepth 10000 in
theorem wd_188 : ((Jvm.Cond.code ({ cls := "Sparkline$Oven", name := "<init>", desc := "()V" } : Jvm.MethodName) prog_8_method_1_code (1 : Nat) (Option.none : Option Jvm.ClassFile.FieldType))) ∈ zT := zT_in 188 (by decide +kernel) rfl
set_option maxRecDepth 10000 in
theorem wd_189 : ((Jvm.Cond.methodLink "Sparkline$Oven" (3 : Nat) ({ cls := "java/lang/Object", name := "<init>", desc := "()V" } : Jvm.MethodName))) ∈ zT := zT_in 189 (by decide +kernel) rfl
set_option maxRecDepth 10000 in
theorem wd_190 : ((Jvm.Cond.classLink "Sparkline$Oven" (9 : Nat) "Sparkline$Row")) ∈ zT := zT_in 190 (by decide +kernel) rfl
set_option maxRecDepth 10000 in
theorem wd_191 : ((Jvm.Cond.methodLink "Sparkline$Oven" (11 : Nat) ({ cls := "Sparkline$Row", name := "<init>", desc := "(I)V" } : Jvm.MethodName))) ∈ zT := zT_in 191 (by decide +kernel) rfl
set_option maxRecDepth 10000 in
theorem wd_192 : ((Jvm.Cond.methodLink "Sparkline$Oven" (26 : Nat) ({ cls := "Sparkline$Row", name := "put", desc := "(II)V" } : Jvm.MethodName))) ∈ zT := zT_in 192 (by decide +kernel) rfl
set_option maxRecDepth 10000 in
theorem wd_193 : ((Jvm.Cond.instanceMethod ({ cls := "Sparkline$Row", name := "put", desc := "(II)V" } : Jvm.MethodName))) ∈ zT := zT_in 193 (by decide +kernel) rfl
set_option maxRecDepth 10000 in
theorem wd_194 : ((Jvm.Cond.selects "Sparkline$Row" ({ cls := "Sparkline$Row", name := "put", desc := "(II)V" } : Jvm.MethodName) ({ cls := "Sparkline$Row", name := "put", desc := "(II)V" } : Jvm.MethodName))) ∈ zT := zT_in 194 (by decide +kernel) rfl
set_option maxRecDepth 10000 in
theorem wd_195 : ((Jvm.Cond.code ({ cls := "Sparkline$Row", name := "put", desc := "(II)V" } : Jvm.MethodName) prog_10_method_3_code (3 : Nat) (Option.none : Option Jvm.ClassFile.FieldType))) ∈ zT := zT_in 195 (by decide +kernel) rfl
set_option maxRecDepth 10000 in
theorem wd_196 : ((Jvm.Cond.methodLink "Sparkline$Oven" (30 : Nat) ({ cls := "Sparkline$Row", name := "fill", desc := "(I)V" } : Jvm.MethodName))) ∈ zT := zT_in 196 (by decide +kernel) rfl
set_option maxRecDepth 10000 in
theorem wd_197 : ((Jvm.Cond.instanceMethod ({ cls := "Sparkline$Row", name := "fill", desc := "(I)V" } : Jvm.MethodName))) ∈ zT := zT_in 197 (by decide +kernel) rfl
set_option maxRecDepth 10000 in
theorem wd_198 : ((Jvm.Cond.selects "Sparkline$Row" ({ cls := "Sparkline$Row", name := "fill", desc := "(I)V" } : Jvm.MethodName) ({ cls := "Sparkline$Row", name := "fill", desc := "(I)V" } : Jvm.MethodName))) ∈ zT := zT_in 198 (by decide +kernel) rfl
set_option maxRecDepth 10000 in
theorem wd_199 : ((Jvm.Cond.code ({ cls := "Sparkline$Row", name := "fill", desc := "(I)V" } : Jvm.MethodName) prog_10_method_4_code (3 : Nat) (Option.none : Option Jvm.ClassFile.FieldType))) ∈ zT := zT_in 199 (by decide +kernel) rfl
set_option maxRecDepth 10000 in
theorem wd_200 : ((Jvm.Cond.fieldLink "Sparkline$Oven" (14 : Nat) "Sparkline$Oven" "heats" "LSparkline$Row;")) ∈ zT := zT_in 200 (by decide +kernel) rfl
set_option maxRecDepth 10000 in
theorem wd_201 : ((Jvm.Cond.fieldLink "Sparkline$Board" (62 : Nat) "Sparkline$Oven" "heats" "LSparkline$Row;")) ∈ zT := zT_in 201 (by decide +kernel) rfl
set_option maxRecDepth 10000 in
theorem wd_202 : ((Jvm.Cond.fieldLink "Sparkline" (231 : Nat) "Sparkline$Oven" "heats" "LSparkline$Row;")) ∈ zT := zT_in 202 (by decide +kernel) rfl
set_option maxRecDepth 10000 in
theorem wd_203 : ((Jvm.Cond.fieldLink "Sparkline$Oven" (20 : Nat) "Sparkline$Oven" "lows" "LSparkline$Row;")) ∈ zT := zT_in 203 (by decide +kernel) rfl
set_option maxRecDepth 10000 in
theorem wd_204 : ((Jvm.Cond.fieldLink "Sparkline$Slot" (30 : Nat) "Sparkline$Oven" "lows" "LSparkline$Row;")) ∈ zT := zT_in 204 (by decide +kernel) rfl
set_option maxRecDepth 10000 in
theorem wd_205 : ((Jvm.Cond.fieldLink "Sparkline" (241 : Nat) "Sparkline$Oven" "lows" "LSparkline$Row;")) ∈ zT := zT_in 205 (by decide +kernel) rfl
set_option maxRecDepth 10000 in
theorem wd_206 : ((Jvm.Cond.fieldLink "Sparkline$Oven" (23 : Nat) "Sparkline$Oven" "highs" "LSparkline$Row;")) ∈ zT := zT_in 206 (by decide +kernel) rfl
set_option maxRecDepth 10000 in
theorem wd_207 : ((Jvm.Cond.fieldLink "Sparkline$Slot" (45 : Nat) "Sparkline$Oven" "highs" "LSparkline$Row;")) ∈ zT := zT_in 207 (by decide +kernel) rfl
set_option maxRecDepth 10000 in
theorem wd_208 : ((Jvm.Cond.fieldLink "Sparkline" (244 : Nat) "Sparkline$Oven" "highs" "LSparkline$Row;")) ∈ zT := zT_in 208 (by decide +kernel) rfl
set_option maxRecDepth 10000 in
theorem wd_209 : ((Jvm.Cond.laysFinal "Sparkline$Oven" "Sparkline$Oven" "heats" "LSparkline$Row;")) ∈ zT := zT_in 209 (by decide +kernel) rfl
set_option maxRecDepth 10000 in
theorem wd_211 : ((Jvm.Cond.laysFinal "Sparkline$Oven" "Sparkline$Oven" "lows" "LSparkline$Row;")) ∈ zT := zT_in 211 (by decide +kernel) rfl
set_option maxRecDepth 10000 in
theorem wd_213 : ((Jvm.Cond.laysFinal "Sparkline$Oven" "Sparkline$Oven" "highs" "LSparkline$Row;")) ∈ zT := zT_in 213 (by decide +kernel) rfl
set_option maxRecDepth 10000 in
theorem wd_216 : ((Jvm.Cond.classLink "Sparkline" (37 : Nat) "java/util/ArrayList")) ∈ zT := zT_in 216 (by decide +kernel) rfl
set_option maxRecDepth 10000 in
theorem wd_217 : ((Jvm.Cond.methodLink "Sparkline" (39 : Nat) ({ cls := "java/util/ArrayList", name := "<init>", desc := "()V" } : Jvm.MethodName))) ∈ zT := zT_in 217 (by decide +kernel) rfl
set_option maxRecDepth 10000 in
theorem wd_218 : ((Jvm.Cond.fieldLink "Sparkline" (10 : Nat) "Sparkline" "harness" "LSparkline$Harness;")) ∈ zT := zT_in 218 (by decide +kernel) rfl
set_option maxRecDepth 10000 in
theorem wd_219 : ((Jvm.Cond.fieldLink "Sparkline" (19 : Nat) "Sparkline" "orders" "LSparkline$Orders;")) ∈ zT := zT_in 219 (by decide +kernel) rfl
set_option maxRecDepth 10000 in
theorem wd_220 : ((Jvm.Cond.fieldLink "Sparkline" (26 : Nat) "Sparkline" "crimper" "LSparkline$Crimper;")) ∈ zT := zT_in 220 (by decide +kernel) rfl
set_option maxRecDepth 10000 in
theorem wd_221 : ((Jvm.Cond.fieldLink "Sparkline" (33 : Nat) "Sparkline" "oven" "LSparkline$Oven;")) ∈ zT := zT_in 221 (by decide +kernel) rfl
set_option maxRecDepth 10000 in
theorem wd_222 : ((Jvm.Cond.fieldLink "Sparkline" (40 : Nat) "Sparkline" "reels" "Ljava/util/ArrayList;")) ∈ zT := zT_in 222 (by decide +kernel) rfl
set_option maxRecDepth 10000 in
theorem wd_223 : ((Jvm.Cond.fieldLink "Sparkline" (44 : Nat) "Sparkline" "boards" "Ljava/util/ArrayList;")) ∈ zT := zT_in 223 (by decide +kernel) rfl
set_option maxRecDepth 10000 in
theorem wd_224 : ((Jvm.Cond.fieldLink "Sparkline" (47 : Nat) "Sparkline" "covered" "I")) ∈ zT := zT_in 224 (by decide +kernel) rfl
set_option maxRecDepth 10000 in
theorem wd_225 : ((Jvm.Cond.fieldLink "Sparkline" (51 : Nat) "Sparkline" "minute" "I")) ∈ zT := zT_in 225 (by decide +kernel) rfl
set_option maxRecDepth 10000 in
theorem wd_226 : ((Jvm.Cond.laysFinal "Sparkline" "Sparkline" "harness" "LSparkline$Harness;")) ∈ zT := zT_in 226 (by decide +kernel) rfl
set_option maxRecDepth 10000 in
theorem wd_228 : ((Jvm.Cond.laysFinal "Sparkline" "Sparkline" "orders" "LSparkline$Orders;")) ∈ zT := zT_in 228 (by decide +kernel) rfl
set_option maxRecDepth 10000 in
theorem wd_230 : ((Jvm.Cond.laysFinal "Sparkline" "Sparkline" "crimper" "LSparkline$Crimper;")) ∈ zT := zT_in 230 (by decide +kernel) rfl
set_option maxRecDepth 10000 in
theorem wd_232 : ((Jvm.Cond.laysFinal "Sparkline" "Sparkline" "oven" "LSparkline$Oven;")) ∈ zT := zT_in 232 (by decide +kernel) rfl
set_option maxRecDepth 10000 in
theorem wd_234 : ((Jvm.Cond.laysFinal "Sparkline" "Sparkline" "reels" "Ljava/util/ArrayList;")) ∈ zT := zT_in 234 (by decide +kernel) rfl
set_option maxRecDepth 10000 in
theorem wd_236 : ((Jvm.Cond.laysFinal "Sparkline" "Sparkline" "boards" "Ljava/util/ArrayList;")) ∈ zT := zT_in 236 (by decide +kernel) rfl
set_option maxRecDepth 10000 in
theorem wd_238 : ((Jvm.Cond.lays "Sparkline" "Sparkline" "covered" "I")) ∈ zT := zT_in 238 (by decide +kernel) rfl
set_option maxRecDepth 10000 in
theorem wd_240 : ((Jvm.Cond.lays "Sparkline" "Sparkline" "minute" "I")) ∈ zT := zT_in 240 (by decide +kernel) rfl
set_option maxRecDepth 10000 in
theorem wd_243 : ((Jvm.Cond.methodLink "SparklineLaw" (113 : Nat) ({ cls := "SparklineLaw", name := "bundle", desc := "(LSparkline;IIII[J)I" } : Jvm.MethodName))) ∈ zT := zT_in 243 (by decide +kernel) rfl
set_option maxRecDepth 10000 in
theorem wd_244 : ((Jvm.Cond.static ({ cls := "SparklineLaw", name := "bundle", desc := "(LSparkline;IIII[J)I" } : Jvm.MethodName))) ∈ zT := zT_in 244 (by decide +kernel) rfl
set_option maxRecDepth 10000 in
theorem wd_245 : ((Jvm.Cond.codeWith ({ cls := "SparklineLaw", name := "bundle", desc := "(LSparkline;IIII[J)I" } : Jvm.MethodName) method_3_code (7 : Nat) (Option.some Jvm.ClassFile.FieldType.int) [((0 : Nat), (14 : Nat), (17 : Nat), (13 : Nat)), ((0 : Nat), (14 : Nat), (21 : Nat), (15 : Nat)), ((0 : Nat), (14 : Nat), (25 : Nat), (17 : Nat))])) ∈ zT := zT_in 245 (by decide +kernel) rfl
set_option maxRecDepth 10000 in
theorem wd_246 : ((Jvm.Cond.classLink "SparklineLaw" (13 : Nat) "java/lang/IndexOutOfBoundsException")) ∈ zT := zT_in 246 (by decide +kernel) rfl
set_option maxRecDepth 10000 in
theorem wd_247 : ((Jvm.Cond.classLink "SparklineLaw" (15 : Nat) "java/lang/IllegalArgumentException")) ∈ zT := zT_in 247 (by decide +kernel) rfl
set_option maxRecDepth 10000 in
theorem wd_248 : ((Jvm.Cond.classLink "SparklineLaw" (17 : Nat) "java/lang/IllegalStateException")) ∈ zT := zT_in 248 (by decide +kernel) rfl
set_option maxRecDepth 10000 in
theorem wd_249 : ((Jvm.Cond.methodLink "SparklineLaw" (7 : Nat) ({ cls := "Sparkline", name := "bundle", desc := "(IIII)I" } : Jvm.MethodName))) ∈ zT := zT_in 249 (by decide +kernel) rfl
set_option maxRecDepth 10000 in
theorem wd_250 : ((Jvm.Cond.instanceMethod ({ cls := "Sparkline", name := "bundle", desc := "(IIII)I" } : Jvm.MethodName))) ∈ zT := zT_in 250 (by decide +kernel) rfl
set_option maxRecDepth 10000 in
theorem wd_251 : ((Jvm.Cond.selects "Sparkline" ({ cls := "Sparkline", name := "bundle", desc := "(IIII)I" } : Jvm.MethodName) ({ cls := "Sparkline", name := "bundle", desc := "(IIII)I" } : Jvm.MethodName))) ∈ zT := zT_in 251 (by decide +kernel) rfl
set_option maxRecDepth 10000 in
theorem wd_252 : ((Jvm.Cond.code ({ cls := "Sparkline", name := "bundle", desc := "(IIII)I" } : Jvm.MethodName) prog_1_method_2_code (5 : Nat) (Option.some Jvm.ClassFile.FieldType.int))) ∈ zT := zT_in 252 (by decide +kernel) rfl
set_option maxRecDepth 10000 in
theorem wd_253 : ((Jvm.Cond.methodLink "Sparkline" (54 : Nat) ({ cls := "Sparkline", name := "isIndex", desc := "(II)Z" } : Jvm.MethodName))) ∈ zT := zT_in 253 (by decide +kernel) rfl
set_option maxRecDepth 10000 in
theorem wd_254 : ((Jvm.Cond.static ({ cls := "Sparkline", name := "isIndex", desc := "(II)Z" } : Jvm.MethodName))) ∈ zT := zT_in 254 (by decide +kernel) rfl
set_option maxRecDepth 10000 in
theorem wd_255 : ((Jvm.Cond.code ({ cls := "Sparkline", name := "isIndex", desc := "(II)Z" } : Jvm.MethodName) prog_1_method_34_code (2 : Nat) (Option.some Jvm.ClassFile.FieldType.boolean))) ∈ zT := zT_in 255 (by decide +kernel) rfl
set_option maxRecDepth 10000 in
theorem wd_256 : ((Jvm.Cond.methodLink "Sparkline" (58 : Nat) ({ cls := "Sparkline", name := "checkIndex", desc := "(Z)V" } : Jvm.MethodName))) ∈ zT := zT_in 256 (by decide +kernel) rfl
set_option maxRecDepth 10000 in
theorem wd_257 : ((Jvm.Cond.static ({ cls := "Sparkline", name := "checkIndex", desc := "(Z)V" } : Jvm.MethodName))) ∈ zT := zT_in 257 (by decide +kernel) rfl
set_option maxRecDepth 10000 in
theorem wd_258 : ((Jvm.Cond.code ({ cls := "Sparkline", name := "checkIndex", desc := "(Z)V" } : Jvm.MethodName) prog_1_method_30_code (1 : Nat) (Option.none : Option Jvm.ClassFile.FieldType))) ∈ zT := zT_in 258 (by decide +kernel) rfl
set_option maxRecDepth 10000 in
theorem wd_259 : ((Jvm.Cond.classLink "Sparkline" (299 : Nat) "java/lang/IndexOutOfBoundsException")) ∈ zT := zT_in 259 (by decide +kernel) rfl
set_option maxRecDepth 10000 in
theorem wd_322 : ((Jvm.Cond.methodLink "Sparkline" (62 : Nat) ({ cls := "Sparkline", name := "isWithin", desc := "(III)Z" } : Jvm.MethodName))) ∈ zT := zT_in 322 (by decide +kernel) rfl
set_option maxRecDepth 10000 in
theorem wd_323 : ((Jvm.Cond.static ({ cls := "Sparkline", name := "isWithin", desc := "(III)Z" } : Jvm.MethodName))) ∈ zT := zT_in 323 (by decide +kernel) rfl
set_option maxRecDepth 10000 in
theorem wd_324 : ((Jvm.Cond.code ({ cls := "Sparkline", name := "isWithin", desc := "(III)Z" } : Jvm.MethodName) prog_1_method_33_code (3 : Nat) (Option.some Jvm.ClassFile.FieldType.boolean))) ∈ zT := zT_in 324 (by decide +kernel) rfl
set_option maxRecDepth 10000 in
theorem wd_325 : ((Jvm.Cond.methodLink "Sparkline" (66 : Nat) ({ cls := "Sparkline", name := "checkArgument", desc := "(Z)V" } : Jvm.MethodName))) ∈ zT := zT_in 325 (by decide +kernel) rfl
set_option maxRecDepth 10000 in
theorem wd_326 : ((Jvm.Cond.static ({ cls := "Sparkline", name := "checkArgument", desc := "(Z)V" } : Jvm.MethodName))) ∈ zT := zT_in 326 (by decide +kernel) rfl
set_option maxRecDepth 10000 in
theorem wd_327 : ((Jvm.Cond.code ({ cls := "Sparkline", name := "checkArgument", desc := "(Z)V" } : Jvm.MethodName) prog_1_method_31_code (1 : Nat) (Option.none : Option Jvm.ClassFile.FieldType))) ∈ zT := zT_in 327 (by decide +kernel) rfl
set_option maxRecDepth 10000 in
theorem wd_328 : ((Jvm.Cond.classLink "Sparkline" (302 : Nat) "java/lang/IllegalArgumentException")) ∈ zT := zT_in 328 (by decide +kernel) rfl
set_option maxRecDepth 10000 in
theorem wd_343 : ((Jvm.Cond.methodLink "Sparkline" (72 : Nat) ({ cls := "java/util/ArrayList", name := "size", desc := "()I" } : Jvm.MethodName))) ∈ zT := zT_in 343 (by decide +kernel) rfl
set_option maxRecDepth 10000 in
theorem wd_344 : ((Jvm.Cond.instanceMethod ({ cls := "java/util/ArrayList", name := "size", desc := "()I" } : Jvm.MethodName))) ∈ zT := zT_in 344 (by decide +kernel) rfl
set_option maxRecDepth 10000 in
theorem wd_345 : ((Jvm.Cond.selects "java/util/ArrayList" ({ cls := "java/util/ArrayList", name := "size", desc := "()I" } : Jvm.MethodName) ({ cls := "java/util/ArrayList", name := "size", desc := "()I" } : Jvm.MethodName))) ∈ zT := zT_in 345 (by decide +kernel) rfl
set_option maxRecDepth 10000 in
theorem wd_346 : ((Jvm.Cond.code ({ cls := "java/util/ArrayList", name := "size", desc := "()I" } : Jvm.MethodName) prog_29_method_8_code (1 : Nat) (Option.some Jvm.ClassFile.FieldType.int))) ∈ zT := zT_in 346 (by decide +kernel) rfl
set_option maxRecDepth 10000 in
theorem wd_347 : ((Jvm.Cond.methodLink "Sparkline" (76 : Nat) ({ cls := "Sparkline", name := "checkState", desc := "(Z)V" } : Jvm.MethodName))) ∈ zT := zT_in 347 (by decide +kernel) rfl
set_option maxRecDepth 10000 in
theorem wd_348 : ((Jvm.Cond.static ({ cls := "Sparkline", name := "checkState", desc := "(Z)V" } : Jvm.MethodName))) ∈ zT := zT_in 348 (by decide +kernel) rfl
set_option maxRecDepth 10000 in
theorem wd_349 : ((Jvm.Cond.code ({ cls := "Sparkline", name := "checkState", desc := "(Z)V" } : Jvm.MethodName) prog_1_method_32_code (1 : Nat) (Option.none : Option Jvm.ClassFile.FieldType))) ∈ zT := zT_in 349 (by decide +kernel) rfl
set_option maxRecDepth 10000 in
theorem wd_350 : ((Jvm.Cond.classLink "Sparkline" (305 : Nat) "java/lang/IllegalStateException")) ∈ zT := zT_in 350 (by decide +kernel) rfl
set_option maxRecDepth 10000 in
theorem wd_365 : ((Jvm.Cond.methodLink "Sparkline" (79 : Nat) ({ cls := "Sparkline$Harness", name := "addBundle", desc := "(IIII)I" } : Jvm.MethodName))) ∈ zT := zT_in 365 (by decide +kernel) rfl
set_option maxRecDepth 10000 in
theorem wd_366 : ((Jvm.Cond.instanceMethod ({ cls := "Sparkline$Harness", name := "addBundle", desc := "(IIII)I" } : Jvm.MethodName))) ∈ zT := zT_in 366 (by decide +kernel) rfl
set_option maxRecDepth 10000 in
theorem wd_367 : ((Jvm.Cond.selects "Sparkline$Harness" ({ cls := "Sparkline$Harness", name := "addBundle", desc := "(IIII)I" } : Jvm.MethodName) ({ cls := "Sparkline$Harness", name := "addBundle", desc := "(IIII)I" } : Jvm.MethodName))) ∈ zT := zT_in 367 (by decide +kernel) rfl
set_option maxRecDepth 10000 in
theorem wd_368 : ((Jvm.Cond.code ({ cls := "Sparkline$Harness", name := "addBundle", desc := "(IIII)I" } : Jvm.MethodName) prog_6_method_2_code (5 : Nat) (Option.some Jvm.ClassFile.FieldType.int))) ∈ zT := zT_in 368 (by decide +kernel) rfl
set_option maxRecDepth 10000 in
theorem wd_369 : ((Jvm.Cond.classLink "Sparkline$Harness" (33 : Nat) "Sparkline$Bundle")) ∈ zT := zT_in 369 (by decide +kernel) rfl
set_option maxRecDepth 10000 in
theorem wd_370 : ((Jvm.Cond.instantiable "Sparkline$Bundle" (5 : Nat))) ∈ zT := zT_in 370 (by decide +kernel) rfl
set_option maxRecDepth 10000 in
theorem wd_371 : ((Jvm.Cond.methodLink "Sparkline$Harness" (35 : Nat) ({ cls := "java/util/ArrayList", name := "size", desc := "()I" } : Jvm.MethodName))) ∈ zT := zT_in 371 (by decide +kernel) rfl
set_option maxRecDepth 10000 in
theorem wd_372 : ((Jvm.Cond.methodLink "Sparkline$Harness" (39 : Nat) ({ cls := "Sparkline$Bundle", name := "<init>", desc := "(IIIII)V" } : Jvm.MethodName))) ∈ zT := zT_in 372 (by decide +kernel) rfl
set_option maxRecDepth 10000 in
theorem wd_373 : ((Jvm.Cond.instanceMethod ({ cls := "Sparkline$Bundle", name := "<init>", desc := "(IIIII)V" } : Jvm.MethodName))) ∈ zT := zT_in 373 (by decide +kernel) rfl
set_option maxRecDepth 10000 in
theorem wd_374 : ((Jvm.Cond.code ({ cls := "Sparkline$Bundle", name := "<init>", desc := "(IIIII)V" } : Jvm.MethodName) prog_3_method_1_code (6 : Nat) (Option.none : Option Jvm.ClassFile.FieldType))) ∈ zT := zT_in 374 (by decide +kernel) rfl
set_option maxRecDepth 10000 in
theorem wd_375 : ((Jvm.Cond.methodLink "Sparkline$Bundle" (3 : Nat) ({ cls := "java/lang/Object", name := "<init>", desc := "()V" } : Jvm.MethodName))) ∈ zT := zT_in 375 (by decide +kernel) rfl
set_option maxRecDepth 10000 in
theorem wd_376 : ((Jvm.Cond.fieldLink "Sparkline$Bundle" (9 : Nat) "Sparkline$Bundle" "number" "I")) ∈ zT := zT_in 376 (by decide +kernel) rfl
set_option maxRecDepth 10000 in
theorem wd_377 : ((Jvm.Cond.fieldLink "Sparkline$Wire" (69 : Nat) "Sparkline$Bundle" "number" "I")) ∈ zT := zT_in 377 (by decide +kernel) rfl
set_option maxRecDepth 10000 in
theorem wd_378 : ((Jvm.Cond.fieldLink "Sparkline$Bundle" (15 : Nat) "Sparkline$Bundle" "node" "I")) ∈ zT := zT_in 378 (by decide +kernel) rfl
set_option maxRecDepth 10000 in
theorem wd_379 : ((Jvm.Cond.fieldLink "Sparkline$Harness" (81 : Nat) "Sparkline$Bundle" "node" "I")) ∈ zT := zT_in 379 (by decide +kernel) rfl
set_option maxRecDepth 10000 in
theorem wd_380 : ((Jvm.Cond.fieldLink "Sparkline$Bundle" (18 : Nat) "Sparkline$Bundle" "other" "I")) ∈ zT := zT_in 380 (by decide +kernel) rfl
set_option maxRecDepth 10000 in
theorem wd_381 : ((Jvm.Cond.fieldLink "Sparkline$Harness" (88 : Nat) "Sparkline$Bundle" "other" "I")) ∈ zT := zT_in 381 (by decide +kernel) rfl
set_option maxRecDepth 10000 in
theorem wd_382 : ((Jvm.Cond.fieldLink "Sparkline$Bundle" (21 : Nat) "Sparkline$Bundle" "length" "I")) ∈ zT := zT_in 382 (by decide +kernel) rfl
set_option maxRecDepth 10000 in
theorem wd_383 : ((Jvm.Cond.fieldLink "Sparkline$Wire" (53 : Nat) "Sparkline$Bundle" "length" "I")) ∈ zT := zT_in 383 (by decide +kernel) rfl
set_option maxRecDepth 10000 in
theorem wd_384 : ((Jvm.Cond.fieldLink "Sparkline$Bundle" (24 : Nat) "Sparkline$Bundle" "room" "I")) ∈ zT := zT_in 384 (by decide +kernel) rfl
set_option maxRecDepth 10000 in
theorem wd_385 : ((Jvm.Cond.fieldLink "Sparkline$Wire" (45 : Nat) "Sparkline$Bundle" "room" "I")) ∈ zT := zT_in 385 (by decide +kernel) rfl
set_option maxRecDepth 10000 in
theorem wd_386 : ((Jvm.Cond.fieldLink "Sparkline$Harness" (78 : Nat) "Sparkline$Bundle" "room" "I")) ∈ zT := zT_in 386 (by decide +kernel) rfl
set_option maxRecDepth 10000 in
theorem wd_387 : ((Jvm.Cond.laysFinal "Sparkline$Bundle" "Sparkline$Bundle" "number" "I")) ∈ zT := zT_in 387 (by decide +kernel) rfl
set_option maxRecDepth 10000 in
theorem wd_389 : ((Jvm.Cond.laysFinal "Sparkline$Bundle" "Sparkline$Bundle" "node" "I")) ∈ zT := zT_in 389 (by decide +kernel) rfl
set_option maxRecDepth 10000 in
theorem wd_391 : ((Jvm.Cond.laysFinal "Sparkline$Bundle" "Sparkline$Bundle" "other" "I")) ∈ zT := zT_in 391 (by decide +kernel) rfl
set_option maxRecDepth 10000 in
theorem wd_393 : ((Jvm.Cond.laysFinal "Sparkline$Bundle" "Sparkline$Bundle" "length" "I")) ∈ zT := zT_in 393 (by decide +kernel) rfl
set_option maxRecDepth 10000 in
theorem wd_395 : ((Jvm.Cond.lays "Sparkline$Bundle" "Sparkline$Bundle" "room" "I")) ∈ zT := zT_in 395 (by decide +kernel) rfl
set_option maxRecDepth 10000 in
theorem wd_398 : ((Jvm.Cond.methodLink "Sparkline$Harness" (42 : Nat) ({ cls := "java/util/ArrayList", name := "add", desc := "(Ljava/lang/Object;)Z" } : Jvm.MethodName))) ∈ zT := zT_in 398 (by decide +kernel) rfl
set_option maxRecDepth 10000 in
theorem wd_399 : ((Jvm.Cond.instanceMethod ({ cls := "java/util/ArrayList", name := "add", desc := "(Ljava/lang/Object;)Z" } : Jvm.MethodName))) ∈ zT := zT_in 399 (by decide +kernel) rfl
set_option maxRecDepth 10000 in
theorem wd_400 : ((Jvm.Cond.selects "java/util/ArrayList" ({ cls := "java/util/ArrayList", name := "add", desc := "(Ljava/lang/Object;)Z" } : Jvm.MethodName) ({ cls := "java/util/ArrayList", name := "add", desc := "(Ljava/lang/Object;)Z" } : Jvm.MethodName))) ∈ zT := zT_in 400 (by decide +kernel) rfl
set_option maxRecDepth 10000 in
theorem wd_401 : ((Jvm.Cond.code ({ cls := "java/util/ArrayList", name := "add", desc := "(Ljava/lang/Object;)Z" } : Jvm.MethodName) prog_29_method_25_code (2 : Nat) (Option.some Jvm.ClassFile.FieldType.boolean))) ∈ zT := zT_in 401 (by decide +kernel) rfl
set_option maxRecDepth 10000 in
theorem wd_402 : ((Jvm.Cond.methodLink "java/util/ArrayList" (131 : Nat) ({ cls := "java/util/ArrayList", name := "add", desc := "(Ljava/lang/Object;[Ljava/lang/Object;I)V" } : Jvm.MethodName))) ∈ zT := zT_in 402 (by decide +kernel) rfl
set_option maxRecDepth 10000 in
theorem wd_404 : ((Jvm.Cond.instanceMethod ({ cls := "java/util/ArrayList", name := "add", desc := "(Ljava/lang/Object;[Ljava/lang/Object;I)V" } : Jvm.MethodName))) ∈ zT := zT_in 404 (by decide +kernel) rfl
set_option maxRecDepth 10000 in
theorem wd_405 : ((Jvm.Cond.code ({ cls := "java/util/ArrayList", name := "add", desc := "(Ljava/lang/Object;[Ljava/lang/Object;I)V" } : Jvm.MethodName) prog_29_method_24_code (4 : Nat) (Option.none : Option Jvm.ClassFile.FieldType))) ∈ zT := zT_in 405 (by decide +kernel) rfl
set_option maxRecDepth 10000 in
theorem wd_406 : ((Jvm.Cond.methodLink "java/util/ArrayList" (129 : Nat) ({ cls := "java/util/ArrayList", name := "grow", desc := "()[Ljava/lang/Object;" } : Jvm.MethodName))) ∈ zT := zT_in 406 (by decide +kernel) rfl
set_option maxRecDepth 10000 in
theorem wd_408 : ((Jvm.Cond.instanceMethod ({ cls := "java/util/ArrayList", name := "grow", desc := "()[Ljava/lang/Object;" } : Jvm.MethodName))) ∈ zT := zT_in 408 (by decide +kernel) rfl
set_option maxRecDepth 10000 in
theorem wd_409 : ((Jvm.Cond.code ({ cls := "java/util/ArrayList", name := "grow", desc := "()[Ljava/lang/Object;" } : Jvm.MethodName) prog_29_method_7_code (1 : Nat) (Option.some (Jvm.ClassFile.FieldType.array (Jvm.ClassFile.FieldType.object "java/lang/Object"))))) ∈ zT := zT_in 409 (by decide +kernel) rfl
set_option maxRecDepth 10000 in
theorem wd_410 : ((Jvm.Cond.methodLink "java/util/ArrayList" (69 : Nat) ({ cls := "java/util/ArrayList", name := "grow", desc := "(I)[Ljava/lang/Object;" } : Jvm.MethodName))) ∈ zT := zT_in 410 (by decide +kernel) rfl
set_option maxRecDepth 10000 in
theorem wd_412 : ((Jvm.Cond.instanceMethod ({ cls := "java/util/ArrayList", name := "grow", desc := "(I)[Ljava/lang/Object;" } : Jvm.MethodName))) ∈ zT := zT_in 412 (by decide +kernel) rfl
set_option maxRecDepth 10000 in
theorem wd_413 : ((Jvm.Cond.code ({ cls := "java/util/ArrayList", name := "grow", desc := "(I)[Ljava/lang/Object;" } : Jvm.MethodName) prog_29_method_6_code (4 : Nat) (Option.some (Jvm.ClassFile.FieldType.array (Jvm.ClassFile.FieldType.object "java/lang/Object"))))) ∈ zT := zT_in 413 (by decide +kernel) rfl
set_option maxRecDepth 10000 in
theorem wd_414 : ((Jvm.Cond.methodLink "java/util/ArrayList" (73 : Nat) ({ cls := "jdk/internal/util/ArraysSupport", name := "newLength", desc := "(III)I" } : Jvm.MethodName))) ∈ zT := zT_in 414 (by decide +kernel) rfl
set_option maxRecDepth 10000 in
theorem wd_415 : ((Jvm.Cond.static ({ cls := "jdk/internal/util/ArraysSupport", name := "newLength", desc := "(III)I" } : Jvm.MethodName))) ∈ zT := zT_in 415 (by decide +kernel) rfl
set_option maxRecDepth 10000 in
theorem wd_416 : ((Jvm.Cond.code ({ cls := "jdk/internal/util/ArraysSupport", name := "newLength", desc := "(III)I" } : Jvm.MethodName) prog_36_method_27_code (4 : Nat) (Option.some Jvm.ClassFile.FieldType.int))) ∈ zT := zT_in 416 (by decide +kernel) rfl
set_option maxRecDepth 10000 in
theorem wd_417 : ((Jvm.Cond.methodLink "jdk/internal/util/ArraysSupport" (194 : Nat) ({ cls := "java/lang/Math", name := "max", desc := "(II)I" } : Jvm.MethodName))) ∈ zT := zT_in 417 (by decide +kernel) rfl
set_option maxRecDepth 10000 in
theorem wd_418 : ((Jvm.Cond.static ({ cls := "java/lang/Math", name := "max", desc := "(II)I" } : Jvm.MethodName))) ∈ zT := zT_in 418 (by decide +kernel) rfl
set_option maxRecDepth 10000 in
theorem wd_419 : ((Jvm.Cond.code ({ cls := "java/lang/Math", name := "max", desc := "(II)I" } : Jvm.MethodName) prog_23_method_65_code (2 : Nat) (Option.some Jvm.ClassFile.FieldType.int))) ∈ zT := zT_in 419 (by decide +kernel) rfl
set_option maxRecDepth 10000 in
theorem wd_420 : ((Jvm.Cond.constant "jdk/internal/util/ArraysSupport" (200 : Nat) (2147483639 : Int32))) ∈ zT := zT_in 420 (by decide +kernel) rfl
set_option maxRecDepth 10000 in
theorem wd_424 : ((Jvm.Cond.methodLink "java/util/ArrayList" (66 : Nat) ({ cls := "java/util/Arrays", name := "copyOf", desc := "([Ljava/lang/Object;I)[Ljava/lang/Object;" } : Jvm.MethodName))) ∈ zT := zT_in 424 (by decide +kernel) rfl
set_option maxRecDepth 10000 in
theorem wd_425 : ((Jvm.Cond.static ({ cls := "java/util/Arrays", name := "copyOf", desc := "([Ljava/lang/Object;I)[Ljava/lang/Object;" } : Jvm.MethodName))) ∈ zT := zT_in 425 (by decide +kernel) rfl
set_option maxRecDepth 10000 in
theorem wd_426 : ((Jvm.Cond.code ({ cls := "java/util/Arrays", name := "copyOf", desc := "([Ljava/lang/Object;I)[Ljava/lang/Object;" } : Jvm.MethodName) prog_30_method_119_code (2 : Nat) (Option.some (Jvm.ClassFile.FieldType.array (Jvm.ClassFile.FieldType.object "java/lang/Object"))))) ∈ zT := zT_in 426 (by decide +kernel) rfl
set_option maxRecDepth 10000 in
theorem wd_427 : ((Jvm.Cond.methodLink "java/util/Arrays" (86 : Nat) ({ cls := "java/lang/Object", name := "getClass", desc := "()Ljava/lang/Class;" } : Jvm.MethodName))) ∈ zT := zT_in 427 (by decide +kernel) rfl
set_option maxRecDepth 10000 in
theorem wd_428 : ((Jvm.Cond.instanceMethod ({ cls := "java/lang/Object", name := "getClass", desc := "()Ljava/lang/Class;" } : Jvm.MethodName))) ∈ zT := zT_in 428 (by decide +kernel) rfl
set_option maxRecDepth 10000 in
theorem wd_447 : ((Jvm.Cond.native ({ cls := "java/lang/Object", name := "getClass", desc := "()Ljava/lang/Class;" } : Jvm.MethodName))) ∈ zT := zT_in 447 (by decide +kernel) rfl
set_option maxRecDepth 10000 in
theorem wd_448 : ((Jvm.Cond.methodLink "java/util/Arrays" (300 : Nat) ({ cls := "java/util/Arrays", name := "copyOf", desc := "([Ljava/lang/Object;ILjava/lang/Class;)[Ljava/lang/Object;" } : Jvm.MethodName))) ∈ zT := zT_in 448 (by decide +kernel) rfl
set_option maxRecDepth 10000 in
theorem wd_449 : ((Jvm.Cond.static ({ cls := "java/util/Arrays", name := "copyOf", desc := "([Ljava/lang/Object;ILjava/lang/Class;)[Ljava/lang/Object;" } : Jvm.MethodName))) ∈ zT := zT_in 449 (by decide +kernel) rfl
set_option maxRecDepth 10000 in
theorem wd_450 : ((Jvm.Cond.code ({ cls := "java/util/Arrays", name := "copyOf", desc := "([Ljava/lang/Object;ILjava/lang/Class;)[Ljava/lang/Object;" } : Jvm.MethodName) prog_30_method_120_code (4 : Nat) (Option.some (Jvm.ClassFile.FieldType.array (Jvm.ClassFile.FieldType.object "java/lang/Object"))))) ∈ zT := zT_in 450 (by decide +kernel) rfl
set_option maxRecDepth 10000 in
theorem wd_451 : ((Jvm.Cond.classLink "java/util/Arrays" (110 : Nat) "[Ljava/lang/Object;")) ∈ zT := zT_in 451 (by decide +kernel) rfl
set_option maxRecDepth 10000 in
theorem wd_453 : ((Jvm.Cond.classLink "java/util/Arrays" (2 : Nat) "java/lang/Object")) ∈ zT := zT_in 453 (by decide +kernel) rfl
set_option maxRecDepth 10000 in
theorem wd_454 : ((Jvm.Cond.methodLink "java/util/Arrays" (304 : Nat) ({ cls := "java/lang/Math", name := "min", desc := "(II)I" } : Jvm.MethodName))) ∈ zT := zT_in 454 (by decide +kernel) rfl
set_option maxRecDepth 10000 in
theorem wd_455 : ((Jvm.Cond.static ({ cls := "java/lang/Math", name := "min", desc := "(II)I" } : Jvm.MethodName))) ∈ zT := zT_in 455 (by decide +kernel) rfl
set_option maxRecDepth 10000 in
theorem wd_456 : ((Jvm.Cond.code ({ cls := "java/lang/Math", name := "min", desc := "(II)I" } : Jvm.MethodName) prog_23_method_69_code (2 : Nat) (Option.some Jvm.ClassFile.FieldType.int))) ∈ zT := zT_in 456 (by decide +kernel) rfl
set_option maxRecDepth 10000 in
theorem wd_457 : ((Jvm.Cond.methodLink "java/util/Arrays" (150 : Nat) ({ cls := "java/lang/System", name := "arraycopy", desc := "(Ljava/lang/Object;ILjava/lang/Object;II)V" } : Jvm.MethodName))) ∈ zT := zT_in 457 (by decide +kernel) rfl
set_option maxRecDepth 10000 in
theorem wd_458 : ((Jvm.Cond.static ({ cls := "java/lang/System", name := "arraycopy", desc := "(Ljava/lang/Object;ILjava/lang/Object;II)V" } : Jvm.MethodName))) ∈ zT := zT_in 458 (by decide +kernel) rfl
set_option maxRecDepth 10000 in
theorem wd_459 : ((Jvm.Cond.native ({ cls := "java/lang/System", name := "arraycopy", desc := "(Ljava/lang/Object;ILjava/lang/Object;II)V" } : Jvm.MethodName))) ∈ zT := zT_in 459 (by decide +kernel) rfl
set_option maxRecDepth 10000 in
theorem wd_460 : ((Jvm.Cond.methodLink "java/util/ArrayList" (79 : Nat) ({ cls := "java/lang/Math", name := "max", desc := "(II)I" } : Jvm.MethodName))) ∈ zT := zT_in 460 (by decide +kernel) rfl
set_option maxRecDepth 10000 in
theorem wd_461 : ((Jvm.Cond.classLink "java/util/ArrayList" (7 : Nat) "java/lang/Object")) ∈ zT := zT_in 461 (by decide +kernel) rfl
set_option maxRecDepth 10000 in
theorem wd_462 : ((Jvm.Cond.methodLink "SparklineLaw" (122 : Nat) ({ cls := "SparklineLaw", name := "connector", desc := "(LSparkline;III[J)I" } : Jvm.MethodName))) ∈ zT := zT_in 462 (by decide +kernel) rfl
set_option maxRecDepth 10000 in
theorem wd_463 : ((Jvm.Cond.static ({ cls := "SparklineLaw", name := "connector", desc := "(LSparkline;III[J)I" } : Jvm.MethodName))) ∈ zT := zT_in 463 (by decide +kernel) rfl
set_option maxRecDepth 10000 in
theorem wd_464 : ((Jvm.Cond.codeWith ({ cls := "SparklineLaw", name := "connector", desc := "(LSparkline;III[J)I" } : Jvm.MethodName) method_4_code (6 : Nat) (Option.some Jvm.ClassFile.FieldType.int) [((0 : Nat), (12 : Nat), (15 : Nat), (13 : Nat)), ((0 : Nat), (12 : Nat), (19 : Nat), (15 : Nat)), ((0 : Nat), (12 : Nat), (23 : Nat), (17 : Nat))])) ∈ zT := zT_in 464 (by decide +kernel) rfl
set_option maxRecDepth 10000 in
theorem wd_465 : ((Jvm.Cond.methodLink "SparklineLaw" (19 : Nat) ({ cls := "Sparkline", name := "connector", desc := "(III)I" } : Jvm.MethodName))) ∈ zT := zT_in 465 (by decide +kernel) rfl
set_option maxRecDepth 10000 in
theorem wd_466 : ((Jvm.Cond.instanceMethod ({ cls := "Sparkline", name := "connector", desc := "(III)I" } : Jvm.MethodName))) ∈ zT := zT_in 466 (by decide +kernel) rfl
set_option maxRecDepth 10000 in
theorem wd_467 : ((Jvm.Cond.selects "Sparkline" ({ cls := "Sparkline", name := "connector", desc := "(III)I" } : Jvm.MethodName) ({ cls := "Sparkline", name := "connector", desc := "(III)I" } : Jvm.MethodName))) ∈ zT := zT_in 467 (by decide +kernel) rfl
set_option maxRecDepth 10000 in
theorem wd_468 : ((Jvm.Cond.code ({ cls := "Sparkline", name := "connector", desc := "(III)I" } : Jvm.MethodName) prog_1_method_3_code (4 : Nat) (Option.some Jvm.ClassFile.FieldType.int))) ∈ zT := zT_in 468 (by decide +kernel) rfl
set_option maxRecDepth 10000 in
theorem wd_469 : ((Jvm.Cond.methodLink "Sparkline" (86 : Nat) ({ cls := "Sparkline$Harness", name := "addConnector", desc := "(III)I" } : Jvm.MethodName))) ∈ zT := zT_in 469 (by decide +kernel) rfl
set_option maxRecDepth 10000 in
theorem wd_470 : ((Jvm.Cond.instanceMethod ({ cls := "Sparkline$Harness", name := "addConnector", desc := "(III)I" } : Jvm.MethodName))) ∈ zT := zT_in 470 (by decide +kernel) rfl
set_option maxRecDepth 10000 in
theorem wd_471 : ((Jvm.Cond.selects "Sparkline$Harness" ({ cls := "Sparkline$Harness", name := "addConnector", desc := "(III)I" } : Jvm.MethodName) ({ cls := "Sparkline$Harness", name := "addConnector", desc := "(III)I" } : Jvm.MethodName))) ∈ zT := zT_in 471 (by decide +kernel) rfl
set_option maxRecDepth 10000 in
theorem wd_472 : ((Jvm.Cond.code ({ cls := "Sparkline$Harness", name := "addConnector", desc := "(III)I" } : Jvm.MethodName) prog_6_method_3_code (4 : Nat) (Option.some Jvm.ClassFile.FieldType.int))) ∈ zT := zT_in 472 (by decide +kernel) rfl
set_option maxRecDepth 10000 in
theorem wd_473 : ((Jvm.Cond.classLink "Sparkline$Harness" (46 : Nat) "Sparkline$Connector")) ∈ zT := zT_in 473 (by decide +kernel) rfl
set_option maxRecDepth 10000 in
theorem wd_474 : ((Jvm.Cond.instantiable "Sparkline$Connector" (5 : Nat))) ∈ zT := zT_in 474 (by decide +kernel) rfl
set_option maxRecDepth 10000 in
theorem wd_475 : ((Jvm.Cond.methodLink "Sparkline$Harness" (48 : Nat) ({ cls := "Sparkline$Connector", name := "<init>", desc := "(III)V" } : Jvm.MethodName))) ∈ zT := zT_in 475 (by decide +kernel) rfl
set_option maxRecDepth 10000 in
theorem wd_476 : ((Jvm.Cond.instanceMethod ({ cls := "Sparkline$Connector", name := "<init>", desc := "(III)V" } : Jvm.MethodName))) ∈ zT := zT_in 476 (by decide +kernel) rfl
set_option maxRecDepth 10000 in
theorem wd_477 : ((Jvm.Cond.code ({ cls := "Sparkline$Connector", name := "<init>", desc := "(III)V" } : Jvm.MethodName) prog_4_method_1_code (4 : Nat) (Option.none : Option Jvm.ClassFile.FieldType))) ∈ zT := zT_in 477 (by decide +kernel) rfl
set_option maxRecDepth 10000 in
theorem wd_478 : ((Jvm.Cond.methodLink "Sparkline$Connector" (3 : Nat) ({ cls := "java/lang/Object", name := "<init>", desc := "()V" } : Jvm.MethodName))) ∈ zT := zT_in 478 (by decide +kernel) rfl
set_option maxRecDepth 10000 in
theorem wd_479 : ((Jvm.Cond.fieldLink "Sparkline$Connector" (15 : Nat) "Sparkline$Connector" "node" "I")) ∈ zT := zT_in 479 (by decide +kernel) rfl
set_option maxRecDepth 10000 in
theorem wd_480 : ((Jvm.Cond.fieldLink "Sparkline" (116 : Nat) "Sparkline$Connector" "node" "I")) ∈ zT := zT_in 480 (by decide +kernel) rfl
set_option maxRecDepth 10000 in
theorem wd_481 : ((Jvm.Cond.fieldLink "Sparkline$Harness" (116 : Nat) "Sparkline$Connector" "node" "I")) ∈ zT := zT_in 481 (by decide +kernel) rfl
set_option maxRecDepth 10000 in
theorem wd_482 : ((Jvm.Cond.fieldLink "Sparkline$Connector" (18 : Nat) "Sparkline$Connector" "cavities" "I")) ∈ zT := zT_in 482 (by decide +kernel) rfl
set_option maxRecDepth 10000 in
theorem wd_483 : ((Jvm.Cond.fieldLink "Sparkline" (106 : Nat) "Sparkline$Connector" "cavities" "I")) ∈ zT := zT_in 483 (by decide +kernel) rfl
set_option maxRecDepth 10000 in
theorem wd_484 : ((Jvm.Cond.fieldLink "Sparkline$Connector" (21 : Nat) "Sparkline$Connector" "key" "I")) ∈ zT := zT_in 484 (by decide +kernel) rfl
set_option maxRecDepth 10000 in
theorem wd_485 : ((Jvm.Cond.fieldLink "Sparkline$Connector" (9 : Nat) "Sparkline$Connector" "mate" "I")) ∈ zT := zT_in 485 (by decide +kernel) rfl
set_option maxRecDepth 10000 in
theorem wd_486 : ((Jvm.Cond.fieldLink "Sparkline" (100 : Nat) "Sparkline$Connector" "mate" "I")) ∈ zT := zT_in 486 (by decide +kernel) rfl
set_option maxRecDepth 10000 in
theorem wd_487 : ((Jvm.Cond.fieldLink "Sparkline$Harness" (59 : Nat) "Sparkline$Connector" "mate" "I")) ∈ zT := zT_in 487 (by decide +kernel) rfl
set_option maxRecDepth 10000 in
theorem wd_488 : ((Jvm.Cond.fieldLink "Sparkline$Connector" (24 : Nat) "Sparkline$Connector" "taken" "I")) ∈ zT := zT_in 488 (by decide +kernel) rfl
set_option maxRecDepth 10000 in
theorem wd_489 : ((Jvm.Cond.laysFinal "Sparkline$Connector" "Sparkline$Connector" "node" "I")) ∈ zT := zT_in 489 (by decide +kernel) rfl
set_option maxRecDepth 10000 in
theorem wd_491 : ((Jvm.Cond.laysFinal "Sparkline$Connector" "Sparkline$Connector" "cavities" "I")) ∈ zT := zT_in 491 (by decide +kernel) rfl
set_option maxRecDepth 10000 in
theorem wd_493 : ((Jvm.Cond.laysFinal "Sparkline$Connector" "Sparkline$Connector" "key" "I")) ∈ zT := zT_in 493 (by decide +kernel) rfl
set_option maxRecDepth 10000 in
theorem wd_495 : ((Jvm.Cond.lays "Sparkline$Connector" "Sparkline$Connector" "mate" "I")) ∈ zT := zT_in 495 (by decide +kernel) rfl
set_option maxRecDepth 10000 in
theorem wd_497 : ((Jvm.Cond.lays "Sparkline$Connector" "Sparkline$Connector" "taken" "I")) ∈ zT := zT_in 497 (by decide +kernel) rfl
set_option maxRecDepth 10000 in
theorem wd_500 : ((Jvm.Cond.methodLink "SparklineLaw" (126 : Nat) ({ cls := "SparklineLaw", name := "mates", desc := "(LSparkline;II[J)I" } : Jvm.MethodName))) ∈ zT := zT_in 500 (by decide +kernel) rfl
set_option maxRecDepth 10000 in
theorem wd_501 : ((Jvm.Cond.static ({ cls := "SparklineLaw", name := "mates", desc := "(LSparkline;II[J)I" } : Jvm.MethodName))) ∈ zT := zT_in 501 (by decide +kernel) rfl
set_option maxRecDepth 10000 in
theorem wd_502 : ((Jvm.Cond.codeWith ({ cls := "SparklineLaw", name := "mates", desc := "(LSparkline;II[J)I" } : Jvm.MethodName) method_5_code (5 : Nat) (Option.some Jvm.ClassFile.FieldType.int) [((0 : Nat), (10 : Nat), (13 : Nat), (13 : Nat)), ((0 : Nat), (10 : Nat), (17 : Nat), (15 : Nat)), ((0 : Nat), (10 : Nat), (21 : Nat), (17 : Nat))])) ∈ zT := zT_in 502 (by decide +kernel) rfl
set_option maxRecDepth 10000 in
theorem wd_503 : ((Jvm.Cond.methodLink "SparklineLaw" (23 : Nat) ({ cls := "Sparkline", name := "mates", desc := "(II)I" } : Jvm.MethodName))) ∈ zT := zT_in 503 (by decide +kernel) rfl
set_option maxRecDepth 10000 in
theorem wd_504 : ((Jvm.Cond.instanceMethod ({ cls := "Sparkline", name := "mates", desc := "(II)I" } : Jvm.MethodName))) ∈ zT := zT_in 504 (by decide +kernel) rfl
set_option maxRecDepth 10000 in
theorem wd_505 : ((Jvm.Cond.selects "Sparkline" ({ cls := "Sparkline", name := "mates", desc := "(II)I" } : Jvm.MethodName) ({ cls := "Sparkline", name := "mates", desc := "(II)I" } : Jvm.MethodName))) ∈ zT := zT_in 505 (by decide +kernel) rfl
set_option maxRecDepth 10000 in
theorem wd_506 : ((Jvm.Cond.code ({ cls := "Sparkline", name := "mates", desc := "(II)I" } : Jvm.MethodName) prog_1_method_4_code (5 : Nat) (Option.some Jvm.ClassFile.FieldType.int))) ∈ zT := zT_in 506 (by decide +kernel) rfl
set_option maxRecDepth 10000 in
theorem wd_507 : ((Jvm.Cond.methodLink "Sparkline" (90 : Nat) ({ cls := "Sparkline", name := "connectorAt", desc := "(I)LSparkline$Connector;" } : Jvm.MethodName))) ∈ zT := zT_in 507 (by decide +kernel) rfl
set_option maxRecDepth 10000 in
theorem wd_509 : ((Jvm.Cond.instanceMethod ({ cls := "Sparkline", name := "connectorAt", desc := "(I)LSparkline$Connector;" } : Jvm.MethodName))) ∈ zT := zT_in 509 (by decide +kernel) rfl
set_option maxRecDepth 10000 in
theorem wd_510 : ((Jvm.Cond.code ({ cls := "Sparkline", name := "connectorAt", desc := "(I)LSparkline$Connector;" } : Jvm.MethodName) prog_1_method_36_code (2 : Nat) (Option.some (Jvm.ClassFile.FieldType.object "Sparkline$Connector")))) ∈ zT := zT_in 510 (by decide +kernel) rfl
set_option maxRecDepth 10000 in
theorem wd_511 : ((Jvm.Cond.methodLink "Sparkline" (292 : Nat) ({ cls := "java/util/ArrayList", name := "get", desc := "(I)Ljava/lang/Object;" } : Jvm.MethodName))) ∈ zT := zT_in 511 (by decide +kernel) rfl
set_option maxRecDepth 10000 in
theorem wd_512 : ((Jvm.Cond.instanceMethod ({ cls := "java/util/ArrayList", name := "get", desc := "(I)Ljava/lang/Object;" } : Jvm.MethodName))) ∈ zT := zT_in 512 (by decide +kernel) rfl
set_option maxRecDepth 10000 in
theorem wd_513 : ((Jvm.Cond.selects "java/util/ArrayList" ({ cls := "java/util/ArrayList", name := "get", desc := "(I)Ljava/lang/Object;" } : Jvm.MethodName) ({ cls := "java/util/ArrayList", name := "get", desc := "(I)Ljava/lang/Object;" } : Jvm.MethodName))) ∈ zT := zT_in 513 (by decide +kernel) rfl
set_option maxRecDepth 10000 in
theorem wd_514 : ((Jvm.Cond.code ({ cls := "java/util/ArrayList", name := "get", desc := "(I)Ljava/lang/Object;" } : Jvm.MethodName) prog_29_method_20_code (2 : Nat) (Option.some (Jvm.ClassFile.FieldType.object "java/lang/Object")))) ∈ zT := zT_in 514 (by decide +kernel) rfl
set_option maxRecDepth 10000 in
theorem wd_515 : ((Jvm.Cond.methodLink "java/util/ArrayList" (118 : Nat) ({ cls := "java/util/Objects", name := "checkIndex", desc := "(II)I" } : Jvm.MethodName))) ∈ zT := zT_in 515 (by decide +kernel) rfl
set_option maxRecDepth 10000 in
theorem wd_516 : ((Jvm.Cond.static ({ cls := "java/util/Objects", name := "checkIndex", desc := "(II)I" } : Jvm.MethodName))) ∈ zT := zT_in 516 (by decide +kernel) rfl
set_option maxRecDepth 10000 in
theorem wd_517 : ((Jvm.Cond.code ({ cls := "java/util/Objects", name := "checkIndex", desc := "(II)I" } : Jvm.MethodName) prog_33_method_17_code (2 : Nat) (Option.some Jvm.ClassFile.FieldType.int))) ∈ zT := zT_in 517 (by decide +kernel) rfl
set_option maxRecDepth 10000 in
theorem wd_518 : ((Jvm.Cond.methodLink "java/util/Objects" (105 : Nat) ({ cls := "jdk/internal/util/Preconditions", name := "checkIndex", desc := "(IILjava/util/function/BiFunction;)I" } : Jvm.MethodName))) ∈ zT := zT_in 518 (by decide +kernel) rfl
set_option maxRecDepth 10000 in
theorem wd_519 : ((Jvm.Cond.static ({ cls := "jdk/internal/util/Preconditions", name := "checkIndex", desc := "(IILjava/util/function/BiFunction;)I" } : Jvm.MethodName))) ∈ zT := zT_in 519 (by decide +kernel) rfl
set_option maxRecDepth 10000 in
theorem wd_520 : ((Jvm.Cond.code ({ cls := "jdk/internal/util/Preconditions", name := "checkIndex", desc := "(IILjava/util/function/BiFunction;)I" } : Jvm.MethodName) prog_37_method_11_code (3 : Nat) (Option.some Jvm.ClassFile.FieldType.int))) ∈ zT := zT_in 520 (by decide +kernel) rfl
set_option maxRecDepth 10000 in
theorem wd_521 : ((Jvm.Cond.methodLink "java/util/ArrayList" (123 : Nat) ({ cls := "java/util/ArrayList", name := "elementData", desc := "(I)Ljava/lang/Object;" } : Jvm.MethodName))) ∈ zT := zT_in 521 (by decide +kernel) rfl
set_option maxRecDepth 10000 in
theorem wd_522 : ((Jvm.Cond.instanceMethod ({ cls := "java/util/ArrayList", name := "elementData", desc := "(I)Ljava/lang/Object;" } : Jvm.MethodName))) ∈ zT := zT_in 522 (by decide +kernel) rfl
set_option maxRecDepth 10000 in
theorem wd_523 : ((Jvm.Cond.selects "java/util/ArrayList" ({ cls := "java/util/ArrayList", name := "elementData", desc := "(I)Ljava/lang/Object;" } : Jvm.MethodName) ({ cls := "java/util/ArrayList", name := "elementData", desc := "(I)Ljava/lang/Object;" } : Jvm.MethodName))) ∈ zT := zT_in 523 (by decide +kernel) rfl
set_option maxRecDepth 10000 in
theorem wd_524 : ((Jvm.Cond.code ({ cls := "java/util/ArrayList", name := "elementData", desc := "(I)Ljava/lang/Object;" } : Jvm.MethodName) prog_29_method_18_code (2 : Nat) (Option.some (Jvm.ClassFile.FieldType.object "java/lang/Object")))) ∈ zT := zT_in 524 (by decide +kernel) rfl
set_option maxRecDepth 10000 in
theorem wd_525 : ((Jvm.Cond.classLink "Sparkline" (95 : Nat) "Sparkline$Connector")) ∈ zT := zT_in 525 (by decide +kernel) rfl
set_option maxRecDepth 10000 in
theorem wd_526 : ((Jvm.Cond.methodLink "Sparkline" (94 : Nat) ({ cls := "Sparkline$Connector", name := "fits", desc := "(LSparkline$Connector;)Z" } : Jvm.MethodName))) ∈ zT := zT_in 526 (by decide +kernel) rfl
set_option maxRecDepth 10000 in
theorem wd_527 : ((Jvm.Cond.instanceMethod ({ cls := "Sparkline$Connector", name := "fits", desc := "(LSparkline$Connector;)Z" } : Jvm.MethodName))) ∈ zT := zT_in 527 (by decide +kernel) rfl
set_option maxRecDepth 10000 in
theorem wd_528 : ((Jvm.Cond.selects "Sparkline$Connector" ({ cls := "Sparkline$Connector", name := "fits", desc := "(LSparkline$Connector;)Z" } : Jvm.MethodName) ({ cls := "Sparkline$Connector", name := "fits", desc := "(LSparkline$Connector;)Z" } : Jvm.MethodName))) ∈ zT := zT_in 528 (by decide +kernel) rfl
set_option maxRecDepth 10000 in
theorem wd_529 : ((Jvm.Cond.code ({ cls := "Sparkline$Connector", name := "fits", desc := "(LSparkline$Connector;)Z" } : Jvm.MethodName) prog_4_method_2_code (2 : Nat) (Option.some Jvm.ClassFile.FieldType.boolean))) ∈ zT := zT_in 529 (by decide +kernel) rfl
set_option maxRecDepth 10000 in
theorem wd_530 : ((Jvm.Cond.methodLink "Sparkline" (103 : Nat) ({ cls := "Sparkline$Harness", name := "pairsThatFitWrong", desc := "()I" } : Jvm.MethodName))) ∈ zT := zT_in 530 (by decide +kernel) rfl
set_option maxRecDepth 10000 in
theorem wd_531 : ((Jvm.Cond.instanceMethod ({ cls := "Sparkline$Harness", name := "pairsThatFitWrong", desc := "()I" } : Jvm.MethodName))) ∈ zT := zT_in 531 (by decide +kernel) rfl
set_option maxRecDepth 10000 in
theorem wd_532 : ((Jvm.Cond.selects "Sparkline$Harness" ({ cls := "Sparkline$Harness", name := "pairsThatFitWrong", desc := "()I" } : Jvm.MethodName) ({ cls := "Sparkline$Harness", name := "pairsThatFitWrong", desc := "()I" } : Jvm.MethodName))) ∈ zT := zT_in 532 (by decide +kernel) rfl
set_option maxRecDepth 10000 in
theorem wd_533 : ((Jvm.Cond.code ({ cls := "Sparkline$Harness", name := "pairsThatFitWrong", desc := "()I" } : Jvm.MethodName) prog_6_method_4_code (5 : Nat) (Option.some Jvm.ClassFile.FieldType.int))) ∈ zT := zT_in 533 (by decide +kernel) rfl
set_option maxRecDepth 10000 in
theorem wd_534 : ((Jvm.Cond.methodLink "Sparkline$Harness" (51 : Nat) ({ cls := "java/util/ArrayList", name := "get", desc := "(I)Ljava/lang/Object;" } : Jvm.MethodName))) ∈ zT := zT_in 534 (by decide +kernel) rfl
set_option maxRecDepth 10000 in
theorem wd_535 : ((Jvm.Cond.methodLink "Sparkline$Harness" (55 : Nat) ({ cls := "Sparkline$Connector", name := "fits", desc := "(LSparkline$Connector;)Z" } : Jvm.MethodName))) ∈ zT := zT_in 535 (by decide +kernel) rfl
set_option maxRecDepth 10000 in
theorem wd_536 : ((Jvm.Cond.methodLink "SparklineLaw" (130 : Nat) ({ cls := "SparklineLaw", name := "wire", desc := "(LSparkline;IIIII[J)I" } : Jvm.MethodName))) ∈ zT := zT_in 536 (by decide +kernel) rfl
set_option maxRecDepth 10000 in
theorem wd_537 : ((Jvm.Cond.static ({ cls := "SparklineLaw", name := "wire", desc := "(LSparkline;IIIII[J)I" } : Jvm.MethodName))) ∈ zT := zT_in 537 (by decide +kernel) rfl
set_option maxRecDepth 10000 in
theorem wd_538 : ((Jvm.Cond.codeWith ({ cls := "SparklineLaw", name := "wire", desc := "(LSparkline;IIIII[J)I" } : Jvm.MethodName) method_6_code (8 : Nat) (Option.some Jvm.ClassFile.FieldType.int) [((0 : Nat), (16 : Nat), (19 : Nat), (13 : Nat)), ((0 : Nat), (16 : Nat), (23 : Nat), (15 : Nat)), ((0 : Nat), (16 : Nat), (27 : Nat), (17 : Nat))])) ∈ zT := zT_in 538 (by decide +kernel) rfl
set_option maxRecDepth 10000 in
theorem wd_539 : ((Jvm.Cond.methodLink "SparklineLaw" (27 : Nat) ({ cls := "Sparkline", name := "wire", desc := "(IIIII)I" } : Jvm.MethodName))) ∈ zT := zT_in 539 (by decide +kernel) rfl
set_option maxRecDepth 10000 in
theorem wd_540 : ((Jvm.Cond.instanceMethod ({ cls := "Sparkline", name := "wire", desc := "(IIIII)I" } : Jvm.MethodName))) ∈ zT := zT_in 540 (by decide +kernel) rfl
set_option maxRecDepth 10000 in
theorem wd_541 : ((Jvm.Cond.selects "Sparkline" ({ cls := "Sparkline", name := "wire", desc := "(IIIII)I" } : Jvm.MethodName) ({ cls := "Sparkline", name := "wire", desc := "(IIIII)I" } : Jvm.MethodName))) ∈ zT := zT_in 541 (by decide +kernel) rfl
set_option maxRecDepth 10000 in
theorem wd_542 : ((Jvm.Cond.code ({ cls := "Sparkline", name := "wire", desc := "(IIIII)I" } : Jvm.MethodName) prog_1_method_5_code (8 : Nat) (Option.some Jvm.ClassFile.FieldType.int))) ∈ zT := zT_in 542 (by decide +kernel) rfl
set_option maxRecDepth 10000 in
theorem wd_543 : ((Jvm.Cond.methodLink "Sparkline" (109 : Nat) ({ cls := "Sparkline$Connector", name := "isFree", desc := "(I)Z" } : Jvm.MethodName))) ∈ zT := zT_in 543 (by decide +kernel) rfl
set_option maxRecDepth 10000 in
theorem wd_544 : ((Jvm.Cond.instanceMethod ({ cls := "Sparkline$Connector", name := "isFree", desc := "(I)Z" } : Jvm.MethodName))) ∈ zT := zT_in 544 (by decide +kernel) rfl
set_option maxRecDepth 10000 in
theorem wd_545 : ((Jvm.Cond.selects "Sparkline$Connector" ({ cls := "Sparkline$Connector", name := "isFree", desc := "(I)Z" } : Jvm.MethodName) ({ cls := "Sparkline$Connector", name := "isFree", desc := "(I)Z" } : Jvm.MethodName))) ∈ zT := zT_in 545 (by decide +kernel) rfl
set_option maxRecDepth 10000 in
theorem wd_546 : ((Jvm.Cond.code ({ cls := "Sparkline$Connector", name := "isFree", desc := "(I)Z" } : Jvm.MethodName) prog_4_method_3_code (2 : Nat) (Option.some Jvm.ClassFile.FieldType.boolean))) ∈ zT := zT_in 546 (by decide +kernel) rfl
set_option maxRecDepth 10000 in
theorem wd_547 : ((Jvm.Cond.methodLink "Sparkline" (119 : Nat) ({ cls := "Sparkline$Harness", name := "hasWay", desc := "(II)Z" } : Jvm.MethodName))) ∈ zT := zT_in 547 (by decide +kernel) rfl
set_option maxRecDepth 10000 in
theorem wd_548 : ((Jvm.Cond.instanceMethod ({ cls := "Sparkline$Harness", name := "hasWay", desc := "(II)Z" } : Jvm.MethodName))) ∈ zT := zT_in 548 (by decide +kernel) rfl
set_option maxRecDepth 10000 in
theorem wd_549 : ((Jvm.Cond.selects "Sparkline$Harness" ({ cls := "Sparkline$Harness", name := "hasWay", desc := "(II)Z" } : Jvm.MethodName) ({ cls := "Sparkline$Harness", name := "hasWay", desc := "(II)Z" } : Jvm.MethodName))) ∈ zT := zT_in 549 (by decide +kernel) rfl
set_option maxRecDepth 10000 in
theorem wd_550 : ((Jvm.Cond.code ({ cls := "Sparkline$Harness", name := "hasWay", desc := "(II)Z" } : Jvm.MethodName) prog_6_method_5_code (3 : Nat) (Option.some Jvm.ClassFile.FieldType.boolean))) ∈ zT := zT_in 550 (by decide +kernel) rfl
set_option maxRecDepth 10000 in
theorem wd_551 : ((Jvm.Cond.methodLink "Sparkline$Harness" (63 : Nat) ({ cls := "Sparkline$Harness", name := "findCosts", desc := "(I)V" } : Jvm.MethodName))) ∈ zT := zT_in 551 (by decide +kernel) rfl
set_option maxRecDepth 10000 in
theorem wd_553 : ((Jvm.Cond.instanceMethod ({ cls := "Sparkline$Harness", name := "findCosts", desc := "(I)V" } : Jvm.MethodName))) ∈ zT := zT_in 553 (by decide +kernel) rfl
set_option maxRecDepth 10000 in
theorem wd_554 : ((Jvm.Cond.code ({ cls := "Sparkline$Harness", name := "findCosts", desc := "(I)V" } : Jvm.MethodName) prog_6_method_6_code (5 : Nat) (Option.none : Option Jvm.ClassFile.FieldType))) ∈ zT := zT_in 554 (by decide +kernel) rfl
set_option maxRecDepth 10000 in
theorem wd_555 : ((Jvm.Cond.constant "Sparkline$Harness" (70 : Nat) (1000000 : Int32))) ∈ zT := zT_in 555 (by decide +kernel) rfl
set_option maxRecDepth 10000 in
theorem wd_556 : ((Jvm.Cond.methodLink "Sparkline$Harness" (71 : Nat) ({ cls := "Sparkline$Row", name := "fill", desc := "(I)V" } : Jvm.MethodName))) ∈ zT := zT_in 556 (by decide +kernel) rfl
set_option maxRecDepth 10000 in
theorem wd_557 : ((Jvm.Cond.methodLink "Sparkline$Harness" (74 : Nat) ({ cls := "Sparkline$Row", name := "put", desc := "(II)V" } : Jvm.MethodName))) ∈ zT := zT_in 557 (by decide +kernel) rfl
set_option maxRecDepth 10000 in
theorem wd_558 : ((Jvm.Cond.methodLink "Sparkline$Harness" (84 : Nat) ({ cls := "Sparkline$Harness", name := "lowerCost", desc := "(ILSparkline$Bundle;)V" } : Jvm.MethodName))) ∈ zT := zT_in 558 (by decide +kernel) rfl
set_option maxRecDepth 10000 in
theorem wd_560 : ((Jvm.Cond.instanceMethod ({ cls := "Sparkline$Harness", name := "lowerCost", desc := "(ILSparkline$Bundle;)V" } : Jvm.MethodName))) ∈ zT := zT_in 560 (by decide +kernel) rfl
set_option maxRecDepth 10000 in
theorem wd_561 : ((Jvm.Cond.code ({ cls := "Sparkline$Harness", name := "lowerCost", desc := "(ILSparkline$Bundle;)V" } : Jvm.MethodName) prog_6_method_7_code (3 : Nat) (Option.none : Option Jvm.ClassFile.FieldType))) ∈ zT := zT_in 561 (by decide +kernel) rfl
set_option maxRecDepth 10000 in
theorem wd_562 : ((Jvm.Cond.methodLink "Sparkline$Harness" (66 : Nat) ({ cls := "Sparkline$Row", name := "at", desc := "(I)I" } : Jvm.MethodName))) ∈ zT := zT_in 562 (by decide +kernel) rfl
set_option maxRecDepth 10000 in
theorem wd_563 : ((Jvm.Cond.instanceMethod ({ cls := "Sparkline$Row", name := "at", desc := "(I)I" } : Jvm.MethodName))) ∈ zT := zT_in 563 (by decide +kernel) rfl
set_option maxRecDepth 10000 in
theorem wd_564 : ((Jvm.Cond.selects "Sparkline$Row" ({ cls := "Sparkline$Row", name := "at", desc := "(I)I" } : Jvm.MethodName) ({ cls := "Sparkline$Row", name := "at", desc := "(I)I" } : Jvm.MethodName))) ∈ zT := zT_in 564 (by decide +kernel) rfl
set_option maxRecDepth 10000 in
theorem wd_565 : ((Jvm.Cond.code ({ cls := "Sparkline$Row", name := "at", desc := "(I)I" } : Jvm.MethodName) prog_10_method_2_code (2 : Nat) (Option.some Jvm.ClassFile.FieldType.int))) ∈ zT := zT_in 565 (by decide +kernel) rfl
set_option maxRecDepth 10000 in
theorem wd_566 : ((Jvm.Cond.methodLink "Sparkline$Harness" (91 : Nat) ({ cls := "Sparkline$Bundle", name := "cost", desc := "()I" } : Jvm.MethodName))) ∈ zT := zT_in 566 (by decide +kernel) rfl
set_option maxRecDepth 10000 in
theorem wd_567 : ((Jvm.Cond.instanceMethod ({ cls := "Sparkline$Bundle", name := "cost", desc := "()I" } : Jvm.MethodName))) ∈ zT := zT_in 567 (by decide +kernel) rfl
set_option maxRecDepth 10000 in
theorem wd_568 : ((Jvm.Cond.selects "Sparkline$Bundle" ({ cls := "Sparkline$Bundle", name := "cost", desc := "()I" } : Jvm.MethodName) ({ cls := "Sparkline$Bundle", name := "cost", desc := "()I" } : Jvm.MethodName))) ∈ zT := zT_in 568 (by decide +kernel) rfl
set_option maxRecDepth 10000 in
theorem wd_569 : ((Jvm.Cond.code ({ cls := "Sparkline$Bundle", name := "cost", desc := "()I" } : Jvm.MethodName) prog_3_method_2_code (1 : Nat) (Option.some Jvm.ClassFile.FieldType.int))) ∈ zT := zT_in 569 (by decide +kernel) rfl
set_option maxRecDepth 10000 in
theorem wd_570 : ((Jvm.Cond.methodLink "Sparkline$Harness" (94 : Nat) ({ cls := "Sparkline$Bundle", name := "across", desc := "(I)I" } : Jvm.MethodName))) ∈ zT := zT_in 570 (by decide +kernel) rfl
set_option maxRecDepth 10000 in
theorem wd_571 : ((Jvm.Cond.instanceMethod ({ cls := "Sparkline$Bundle", name := "across", desc := "(I)I" } : Jvm.MethodName))) ∈ zT := zT_in 571 (by decide +kernel) rfl
set_option maxRecDepth 10000 in
theorem wd_572 : ((Jvm.Cond.selects "Sparkline$Bundle" ({ cls := "Sparkline$Bundle", name := "across", desc := "(I)I" } : Jvm.MethodName) ({ cls := "Sparkline$Bundle", name := "across", desc := "(I)I" } : Jvm.MethodName))) ∈ zT := zT_in 572 (by decide +kernel) rfl
set_option maxRecDepth 10000 in
theorem wd_573 : ((Jvm.Cond.code ({ cls := "Sparkline$Bundle", name := "across", desc := "(I)I" } : Jvm.MethodName) prog_3_method_3_code (2 : Nat) (Option.some Jvm.ClassFile.FieldType.int))) ∈ zT := zT_in 573 (by decide +kernel) rfl
set_option maxRecDepth 10000 in
theorem wd_574 : ((Jvm.Cond.methodLink "Sparkline$Harness" (97 : Nat) ({ cls := "java/lang/Math", name := "min", desc := "(II)I" } : Jvm.MethodName))) ∈ zT := zT_in 574 (by decide +kernel) rfl
set_option maxRecDepth 10000 in
theorem wd_575 : ((Jvm.Cond.classLink "Sparkline" (122 : Nat) "Sparkline$Wire")) ∈ zT := zT_in 575 (by decide +kernel) rfl
set_option maxRecDepth 10000 in
theorem wd_576 : ((Jvm.Cond.instantiable "Sparkline$Wire" (8 : Nat))) ∈ zT := zT_in 576 (by decide +kernel) rfl
set_option maxRecDepth 10000 in
theorem wd_577 : ((Jvm.Cond.methodLink "Sparkline" (124 : Nat) ({ cls := "Sparkline$Wire", name := "<init>", desc := "(LSparkline$Connector;ILSparkline$Connector;II)V" } : Jvm.MethodName))) ∈ zT := zT_in 577 (by decide +kernel) rfl
set_option maxRecDepth 10000 in
theorem wd_578 : ((Jvm.Cond.instanceMethod ({ cls := "Sparkline$Wire", name := "<init>", desc := "(LSparkline$Connector;ILSparkline$Connector;II)V" } : Jvm.MethodName))) ∈ zT := zT_in 578 (by decide +kernel) rfl
set_option maxRecDepth 10000 in
theorem wd_579 : ((Jvm.Cond.code ({ cls := "Sparkline$Wire", name := "<init>", desc := "(LSparkline$Connector;ILSparkline$Connector;II)V" } : Jvm.MethodName) prog_12_method_1_code (6 : Nat) (Option.none : Option Jvm.ClassFile.FieldType))) ∈ zT := zT_in 579 (by decide +kernel) rfl
set_option maxRecDepth 10000 in
theorem wd_580 : ((Jvm.Cond.methodLink "Sparkline$Wire" (3 : Nat) ({ cls := "java/lang/Object", name := "<init>", desc := "()V" } : Jvm.MethodName))) ∈ zT := zT_in 580 (by decide +kernel) rfl
set_option maxRecDepth 10000 in
theorem wd_581 : ((Jvm.Cond.classLink "Sparkline$Wire" (28 : Nat) "java/util/ArrayList")) ∈ zT := zT_in 581 (by decide +kernel) rfl
set_option maxRecDepth 10000 in
theorem wd_582 : ((Jvm.Cond.methodLink "Sparkline$Wire" (30 : Nat) ({ cls := "java/util/ArrayList", name := "<init>", desc := "()V" } : Jvm.MethodName))) ∈ zT := zT_in 582 (by decide +kernel) rfl
set_option maxRecDepth 10000 in
theorem wd_583 : ((Jvm.Cond.fieldLink "Sparkline$Wire" (9 : Nat) "Sparkline$Wire" "one" "LSparkline$Connector;")) ∈ zT := zT_in 583 (by decide +kernel) rfl
set_option maxRecDepth 10000 in
theorem wd_584 : ((Jvm.Cond.fieldLink "Sparkline$Harness" (117 : Nat) "Sparkline$Wire" "one" "LSparkline$Connector;")) ∈ zT := zT_in 584 (by decide +kernel) rfl
set_option maxRecDepth 10000 in
theorem wd_585 : ((Jvm.Cond.fieldLink "Sparkline$Wire" (15 : Nat) "Sparkline$Wire" "cavity" "I")) ∈ zT := zT_in 585 (by decide +kernel) rfl
set_option maxRecDepth 10000 in
theorem wd_586 : ((Jvm.Cond.fieldLink "Sparkline$Wire" (19 : Nat) "Sparkline$Wire" "two" "LSparkline$Connector;")) ∈ zT := zT_in 586 (by decide +kernel) rfl
set_option maxRecDepth 10000 in
theorem wd_587 : ((Jvm.Cond.fieldLink "Sparkline$Harness" (112 : Nat) "Sparkline$Wire" "two" "LSparkline$Connector;")) ∈ zT := zT_in 587 (by decide +kernel) rfl
set_option maxRecDepth 10000 in
theorem wd_588 : ((Jvm.Cond.fieldLink "Sparkline$Wire" (22 : Nat) "Sparkline$Wire" "others" "I")) ∈ zT := zT_in 588 (by decide +kernel) rfl
set_option maxRecDepth 10000 in
theorem wd_589 : ((Jvm.Cond.fieldLink "Sparkline$Wire" (25 : Nat) "Sparkline$Wire" "option" "I")) ∈ zT := zT_in 589 (by decide +kernel) rfl
set_option maxRecDepth 10000 in
theorem wd_590 : ((Jvm.Cond.fieldLink "Sparkline$Harness" (132 : Nat) "Sparkline$Wire" "option" "I")) ∈ zT := zT_in 590 (by decide +kernel) rfl
set_option maxRecDepth 10000 in
theorem wd_591 : ((Jvm.Cond.fieldLink "Sparkline$Wire" (50 : Nat) "Sparkline$Wire" "length" "I")) ∈ zT := zT_in 591 (by decide +kernel) rfl
set_option maxRecDepth 10000 in
theorem wd_592 : ((Jvm.Cond.fieldLink "Sparkline" (142 : Nat) "Sparkline$Wire" "length" "I")) ∈ zT := zT_in 592 (by decide +kernel) rfl
set_option maxRecDepth 10000 in
theorem wd_593 : ((Jvm.Cond.fieldLink "Sparkline$Harness" (135 : Nat) "Sparkline$Wire" "length" "I")) ∈ zT := zT_in 593 (by decide +kernel) rfl
set_option maxRecDepth 10000 in
theorem wd_594 : ((Jvm.Cond.fieldLink "Sparkline$Wire" (54 : Nat) "Sparkline$Wire" "isPulled" "Z")) ∈ zT := zT_in 594 (by decide +kernel) rfl
set_option maxRecDepth 10000 in
theorem wd_595 : ((Jvm.Cond.fieldLink "Sparkline" (135 : Nat) "Sparkline$Wire" "isPulled" "Z")) ∈ zT := zT_in 595 (by decide +kernel) rfl
set_option maxRecDepth 10000 in
theorem wd_596 : ((Jvm.Cond.fieldLink "Sparkline$Harness" (128 : Nat) "Sparkline$Wire" "isPulled" "Z")) ∈ zT := zT_in 596 (by decide +kernel) rfl
set_option maxRecDepth 10000 in
theorem wd_597 : ((Jvm.Cond.fieldLink "Sparkline$Wire" (31 : Nat) "Sparkline$Wire" "way" "Ljava/util/ArrayList;")) ∈ zT := zT_in 597 (by decide +kernel) rfl
set_option maxRecDepth 10000 in
theorem wd_598 : ((Jvm.Cond.laysFinal "Sparkline$Wire" "Sparkline$Wire" "one" "LSparkline$Connector;")) ∈ zT := zT_in 598 (by decide +kernel) rfl
set_option maxRecDepth 10000 in
theorem wd_600 : ((Jvm.Cond.laysFinal "Sparkline$Wire" "Sparkline$Wire" "cavity" "I")) ∈ zT := zT_in 600 (by decide +kernel) rfl
set_option maxRecDepth 10000 in
theorem wd_602 : ((Jvm.Cond.laysFinal "Sparkline$Wire" "Sparkline$Wire" "two" "LSparkline$Connector;")) ∈ zT := zT_in 602 (by decide +kernel) rfl
set_option maxRecDepth 10000 in
theorem wd_604 : ((Jvm.Cond.laysFinal "Sparkline$Wire" "Sparkline$Wire" "others" "I")) ∈ zT := zT_in 604 (by decide +kernel) rfl
set_option maxRecDepth 10000 in
theorem wd_606 : ((Jvm.Cond.laysFinal "Sparkline$Wire" "Sparkline$Wire" "option" "I")) ∈ zT := zT_in 606 (by decide +kernel) rfl
set_option maxRecDepth 10000 in
theorem wd_608 : ((Jvm.Cond.lays "Sparkline$Wire" "Sparkline$Wire" "length" "I")) ∈ zT := zT_in 608 (by decide +kernel) rfl
set_option maxRecDepth 10000 in
theorem wd_610 : ((Jvm.Cond.lays "Sparkline$Wire" "Sparkline$Wire" "isPulled" "Z")) ∈ zT := zT_in 610 (by decide +kernel) rfl
set_option maxRecDepth 10000 in
theorem wd_612 : ((Jvm.Cond.laysFinal "Sparkline$Wire" "Sparkline$Wire" "way" "Ljava/util/ArrayList;")) ∈ zT := zT_in 612 (by decide +kernel) rfl
set_option maxRecDepth 10000 in
theorem wd_615 : ((Jvm.Cond.methodLink "Sparkline" (127 : Nat) ({ cls := "Sparkline$Harness", name := "addWire", desc := "(LSparkline$Wire;)I" } : Jvm.MethodName))) ∈ zT := zT_in 615 (by decide +kernel) rfl
set_option maxRecDepth 10000 in
theorem wd_616 : ((Jvm.Cond.instanceMethod ({ cls := "Sparkline$Harness", name := "addWire", desc := "(LSparkline$Wire;)I" } : Jvm.MethodName))) ∈ zT := zT_in 616 (by decide +kernel) rfl
set_option maxRecDepth 10000 in
theorem wd_617 : ((Jvm.Cond.selects "Sparkline$Harness" ({ cls := "Sparkline$Harness", name := "addWire", desc := "(LSparkline$Wire;)I" } : Jvm.MethodName) ({ cls := "Sparkline$Harness", name := "addWire", desc := "(LSparkline$Wire;)I" } : Jvm.MethodName))) ∈ zT := zT_in 617 (by decide +kernel) rfl
set_option maxRecDepth 10000 in
theorem wd_618 : ((Jvm.Cond.code ({ cls := "Sparkline$Harness", name := "addWire", desc := "(LSparkline$Wire;)I" } : Jvm.MethodName) prog_6_method_8_code (2 : Nat) (Option.some Jvm.ClassFile.FieldType.int))) ∈ zT := zT_in 618 (by decide +kernel) rfl
set_option maxRecDepth 10000 in
theorem wd_619 : ((Jvm.Cond.methodLink "Sparkline$Harness" (103 : Nat) ({ cls := "Sparkline$Wire", name := "putIn", desc := "()V" } : Jvm.MethodName))) ∈ zT := zT_in 619 (by decide +kernel) rfl
set_option maxRecDepth 10000 in
theorem wd_620 : ((Jvm.Cond.instanceMethod ({ cls := "Sparkline$Wire", name := "putIn", desc := "()V" } : Jvm.MethodName))) ∈ zT := zT_in 620 (by decide +kernel) rfl
set_option maxRecDepth 10000 in
theorem wd_621 : ((Jvm.Cond.selects "Sparkline$Wire" ({ cls := "Sparkline$Wire", name := "putIn", desc := "()V" } : Jvm.MethodName) ({ cls := "Sparkline$Wire", name := "putIn", desc := "()V" } : Jvm.MethodName))) ∈ zT := zT_in 621 (by decide +kernel) rfl
set_option maxRecDepth 10000 in
theorem wd_622 : ((Jvm.Cond.code ({ cls := "Sparkline$Wire", name := "putIn", desc := "()V" } : Jvm.MethodName) prog_12_method_2_code (1 : Nat) (Option.none : Option Jvm.ClassFile.FieldType))) ∈ zT := zT_in 622 (by decide +kernel) rfl
set_option maxRecDepth 10000 in
theorem wd_623 : ((Jvm.Cond.methodLink "Sparkline$Wire" (35 : Nat) ({ cls := "Sparkline$Connector", name := "take", desc := "(I)V" } : Jvm.MethodName))) ∈ zT := zT_in 623 (by decide +kernel) rfl
set_option maxRecDepth 10000 in
theorem wd_624 : ((Jvm.Cond.instanceMethod ({ cls := "Sparkline$Connector", name := "take", desc := "(I)V" } : Jvm.MethodName))) ∈ zT := zT_in 624 (by decide +kernel) rfl
set_option maxRecDepth 10000 in
theorem wd_625 : ((Jvm.Cond.selects "Sparkline$Connector" ({ cls := "Sparkline$Connector", name := "take", desc := "(I)V" } : Jvm.MethodName) ({ cls := "Sparkline$Connector", name := "take", desc := "(I)V" } : Jvm.MethodName))) ∈ zT := zT_in 625 (by decide +kernel) rfl
set_option maxRecDepth 10000 in
theorem wd_626 : ((Jvm.Cond.code ({ cls := "Sparkline$Connector", name := "take", desc := "(I)V" } : Jvm.MethodName) prog_4_method_4_code (2 : Nat) (Option.none : Option Jvm.ClassFile.FieldType))) ∈ zT := zT_in 626 (by decide +kernel) rfl
set_option maxRecDepth 10000 in
theorem wd_627 : ((Jvm.Cond.methodLink "Sparkline$Harness" (108 : Nat) ({ cls := "Sparkline$Harness", name := "layAlong", desc := "(LSparkline$Wire;)V" } : Jvm.MethodName))) ∈ zT := zT_in 627 (by decide +kernel) rfl
set_option maxRecDepth 10000 in
theorem wd_629 : ((Jvm.Cond.instanceMethod ({ cls := "Sparkline$Harness", name := "layAlong", desc := "(LSparkline$Wire;)V" } : Jvm.MethodName))) ∈ zT := zT_in 629 (by decide +kernel) rfl
set_option maxRecDepth 10000 in
theorem wd_630 : ((Jvm.Cond.code ({ cls := "Sparkline$Harness", name := "layAlong", desc := "(LSparkline$Wire;)V" } : Jvm.MethodName) prog_6_method_9_code (5 : Nat) (Option.none : Option Jvm.ClassFile.FieldType))) ∈ zT := zT_in 630 (by decide +kernel) rfl
set_option maxRecDepth 10000 in
theorem wd_631 : ((Jvm.Cond.methodLink "Sparkline$Harness" (120 : Nat) ({ cls := "Sparkline$Harness", name := "lowestOnward", desc := "(I)LSparkline$Bundle;" } : Jvm.MethodName))) ∈ zT := zT_in 631 (by decide +kernel) rfl
set_option maxRecDepth 10000 in
theorem wd_633 : ((Jvm.Cond.instanceMethod ({ cls := "Sparkline$Harness", name := "lowestOnward", desc := "(I)LSparkline$Bundle;" } : Jvm.MethodName))) ∈ zT := zT_in 633 (by decide +kernel) rfl
set_option maxRecDepth 10000 in
theorem wd_634 : ((Jvm.Cond.code ({ cls := "Sparkline$Harness", name := "lowestOnward", desc := "(I)LSparkline$Bundle;" } : Jvm.MethodName) prog_6_method_10_code (5 : Nat) (Option.some (Jvm.ClassFile.FieldType.object "Sparkline$Bundle")))) ∈ zT := zT_in 634 (by decide +kernel) rfl
set_option maxRecDepth 10000 in
theorem wd_635 : ((Jvm.Cond.methodLink "Sparkline$Harness" (124 : Nat) ({ cls := "Sparkline$Wire", name := "goBy", desc := "(LSparkline$Bundle;)V" } : Jvm.MethodName))) ∈ zT := zT_in 635 (by decide +kernel) rfl
set_option maxRecDepth 10000 in
theorem wd_636 : ((Jvm.Cond.instanceMethod ({ cls := "Sparkline$Wire", name := "goBy", desc := "(LSparkline$Bundle;)V" } : Jvm.MethodName))) ∈ zT := zT_in 636 (by decide +kernel) rfl
set_option maxRecDepth 10000 in
theorem wd_637 : ((Jvm.Cond.selects "Sparkline$Wire" ({ cls := "Sparkline$Wire", name := "goBy", desc := "(LSparkline$Bundle;)V" } : Jvm.MethodName) ({ cls := "Sparkline$Wire", name := "goBy", desc := "(LSparkline$Bundle;)V" } : Jvm.MethodName))) ∈ zT := zT_in 637 (by decide +kernel) rfl
set_option maxRecDepth 10000 in
theorem wd_638 : ((Jvm.Cond.code ({ cls := "Sparkline$Wire", name := "goBy", desc := "(LSparkline$Bundle;)V" } : Jvm.MethodName) prog_12_method_3_code (2 : Nat) (Option.none : Option Jvm.ClassFile.FieldType))) ∈ zT := zT_in 638 (by decide +kernel) rfl
set_option maxRecDepth 10000 in
theorem wd_639 : ((Jvm.Cond.methodLink "Sparkline$Wire" (41 : Nat) ({ cls := "java/util/ArrayList", name := "add", desc := "(Ljava/lang/Object;)Z" } : Jvm.MethodName))) ∈ zT := zT_in 639 (by decide +kernel) rfl
set_option maxRecDepth 10000 in
theorem wd_640 : ((Jvm.Cond.methodLink "SparklineLaw" (134 : Nat) ({ cls := "SparklineLaw", name := "pull", desc := "(LSparkline;I[J)I" } : Jvm.MethodName))) ∈ zT := zT_in 640 (by decide +kernel) rfl
set_option maxRecDepth 10000 in
theorem wd_641 : ((Jvm.Cond.static ({ cls := "SparklineLaw", name := "pull", desc := "(LSparkline;I[J)I" } : Jvm.MethodName))) ∈ zT := zT_in 641 (by decide +kernel) rfl
set_option maxRecDepth 10000 in
theorem wd_642 : ((Jvm.Cond.codeWith ({ cls := "SparklineLaw", name := "pull", desc := "(LSparkline;I[J)I" } : Jvm.MethodName) method_7_code (4 : Nat) (Option.some Jvm.ClassFile.FieldType.int) [((0 : Nat), (9 : Nat), (12 : Nat), (13 : Nat)), ((0 : Nat), (9 : Nat), (15 : Nat), (17 : Nat))])) ∈ zT := zT_in 642 (by decide +kernel) rfl
set_option maxRecDepth 10000 in
theorem wd_643 : ((Jvm.Cond.methodLink "SparklineLaw" (31 : Nat) ({ cls := "Sparkline", name := "pull", desc := "(I)I" } : Jvm.MethodName))) ∈ zT := zT_in 643 (by decide +kernel) rfl
set_option maxRecDepth 10000 in
theorem wd_644 : ((Jvm.Cond.instanceMethod ({ cls := "Sparkline", name := "pull", desc := "(I)I" } : Jvm.MethodName))) ∈ zT := zT_in 644 (by decide +kernel) rfl
set_option maxRecDepth 10000 in
theorem wd_645 : ((Jvm.Cond.selects "Sparkline" ({ cls := "Sparkline", name := "pull", desc := "(I)I" } : Jvm.MethodName) ({ cls := "Sparkline", name := "pull", desc := "(I)I" } : Jvm.MethodName))) ∈ zT := zT_in 645 (by decide +kernel) rfl
set_option maxRecDepth 10000 in
theorem wd_646 : ((Jvm.Cond.code ({ cls := "Sparkline", name := "pull", desc := "(I)I" } : Jvm.MethodName) prog_1_method_6_code (3 : Nat) (Option.some Jvm.ClassFile.FieldType.int))) ∈ zT := zT_in 646 (by decide +kernel) rfl
set_option maxRecDepth 10000 in
theorem wd_647 : ((Jvm.Cond.methodLink "Sparkline" (131 : Nat) ({ cls := "Sparkline", name := "wireAt", desc := "(I)LSparkline$Wire;" } : Jvm.MethodName))) ∈ zT := zT_in 647 (by decide +kernel) rfl
set_option maxRecDepth 10000 in
theorem wd_649 : ((Jvm.Cond.instanceMethod ({ cls := "Sparkline", name := "wireAt", desc := "(I)LSparkline$Wire;" } : Jvm.MethodName))) ∈ zT := zT_in 649 (by decide +kernel) rfl
set_option maxRecDepth 10000 in
theorem wd_650 : ((Jvm.Cond.code ({ cls := "Sparkline", name := "wireAt", desc := "(I)LSparkline$Wire;" } : Jvm.MethodName) prog_1_method_37_code (2 : Nat) (Option.some (Jvm.ClassFile.FieldType.object "Sparkline$Wire")))) ∈ zT := zT_in 650 (by decide +kernel) rfl
set_option maxRecDepth 10000 in
theorem wd_651 : ((Jvm.Cond.methodLink "Sparkline" (139 : Nat) ({ cls := "Sparkline$Wire", name := "takeOut", desc := "()V" } : Jvm.MethodName))) ∈ zT := zT_in 651 (by decide +kernel) rfl
set_option maxRecDepth 10000 in
theorem wd_652 : ((Jvm.Cond.instanceMethod ({ cls := "Sparkline$Wire", name := "takeOut", desc := "()V" } : Jvm.MethodName))) ∈ zT := zT_in 652 (by decide +kernel) rfl
set_option maxRecDepth 10000 in
theorem wd_653 : ((Jvm.Cond.selects "Sparkline$Wire" ({ cls := "Sparkline$Wire", name := "takeOut", desc := "()V" } : Jvm.MethodName) ({ cls := "Sparkline$Wire", name := "takeOut", desc := "()V" } : Jvm.MethodName))) ∈ zT := zT_in 653 (by decide +kernel) rfl
set_option maxRecDepth 10000 in
theorem wd_654 : ((Jvm.Cond.code ({ cls := "Sparkline$Wire", name := "takeOut", desc := "()V" } : Jvm.MethodName) prog_12_method_4_code (2 : Nat) (Option.none : Option Jvm.ClassFile.FieldType))) ∈ zT := zT_in 654 (by decide +kernel) rfl
set_option maxRecDepth 10000 in
theorem wd_655 : ((Jvm.Cond.methodLink "Sparkline$Wire" (58 : Nat) ({ cls := "Sparkline$Connector", name := "release", desc := "(I)V" } : Jvm.MethodName))) ∈ zT := zT_in 655 (by decide +kernel) rfl
set_option maxRecDepth 10000 in
theorem wd_656 : ((Jvm.Cond.instanceMethod ({ cls := "Sparkline$Connector", name := "release", desc := "(I)V" } : Jvm.MethodName))) ∈ zT := zT_in 656 (by decide +kernel) rfl
set_option maxRecDepth 10000 in
theorem wd_657 : ((Jvm.Cond.selects "Sparkline$Connector" ({ cls := "Sparkline$Connector", name := "release", desc := "(I)V" } : Jvm.MethodName) ({ cls := "Sparkline$Connector", name := "release", desc := "(I)V" } : Jvm.MethodName))) ∈ zT := zT_in 657 (by decide +kernel) rfl
set_option maxRecDepth 10000 in
theorem wd_658 : ((Jvm.Cond.code ({ cls := "Sparkline$Connector", name := "release", desc := "(I)V" } : Jvm.MethodName) prog_4_method_5_code (2 : Nat) (Option.none : Option Jvm.ClassFile.FieldType))) ∈ zT := zT_in 658 (by decide +kernel) rfl
set_option maxRecDepth 10000 in
theorem wd_659 : ((Jvm.Cond.methodLink "Sparkline$Wire" (61 : Nat) ({ cls := "java/util/ArrayList", name := "size", desc := "()I" } : Jvm.MethodName))) ∈ zT := zT_in 659 (by decide +kernel) rfl
set_option maxRecDepth 10000 in
theorem wd_660 : ((Jvm.Cond.methodLink "Sparkline$Wire" (65 : Nat) ({ cls := "java/util/ArrayList", name := "get", desc := "(I)Ljava/lang/Object;" } : Jvm.MethodName))) ∈ zT := zT_in 660 (by decide +kernel) rfl
set_option maxRecDepth 10000 in
theorem wd_661 : ((Jvm.Cond.classLink "Sparkline$Wire" (46 : Nat) "Sparkline$Bundle")) ∈ zT := zT_in 661 (by decide +kernel) rfl
set_option maxRecDepth 10000 in
theorem wd_662 : ((Jvm.Cond.methodLink "SparklineLaw" (138 : Nat) ({ cls := "SparklineLaw", name := "ofWire", desc := "(LSparkline;II[J)I" } : Jvm.MethodName))) ∈ zT := zT_in 662 (by decide +kernel) rfl
set_option maxRecDepth 10000 in
theorem wd_663 : ((Jvm.Cond.static ({ cls := "SparklineLaw", name := "ofWire", desc := "(LSparkline;II[J)I" } : Jvm.MethodName))) ∈ zT := zT_in 663 (by decide +kernel) rfl
set_option maxRecDepth 10000 in
theorem wd_664 : ((Jvm.Cond.codeWith ({ cls := "SparklineLaw", name := "ofWire", desc := "(LSparkline;II[J)I" } : Jvm.MethodName) method_8_code (5 : Nat) (Option.some Jvm.ClassFile.FieldType.int) [((0 : Nat), (10 : Nat), (13 : Nat), (13 : Nat))])) ∈ zT := zT_in 664 (by decide +kernel) rfl
set_option maxRecDepth 10000 in
theorem wd_665 : ((Jvm.Cond.methodLink "SparklineLaw" (35 : Nat) ({ cls := "Sparkline", name := "ofWire", desc := "(II)I" } : Jvm.MethodName))) ∈ zT := zT_in 665 (by decide +kernel) rfl
set_option maxRecDepth 10000 in
theorem wd_666 : ((Jvm.Cond.instanceMethod ({ cls := "Sparkline", name := "ofWire", desc := "(II)I" } : Jvm.MethodName))) ∈ zT := zT_in 666 (by decide +kernel) rfl
set_option maxRecDepth 10000 in
theorem wd_667 : ((Jvm.Cond.selects "Sparkline" ({ cls := "Sparkline", name := "ofWire", desc := "(II)I" } : Jvm.MethodName) ({ cls := "Sparkline", name := "ofWire", desc := "(II)I" } : Jvm.MethodName))) ∈ zT := zT_in 667 (by decide +kernel) rfl
set_option maxRecDepth 10000 in
theorem wd_668 : ((Jvm.Cond.code ({ cls := "Sparkline", name := "ofWire", desc := "(II)I" } : Jvm.MethodName) prog_1_method_7_code (4 : Nat) (Option.some Jvm.ClassFile.FieldType.int))) ∈ zT := zT_in 668 (by decide +kernel) rfl
set_option maxRecDepth 10000 in
theorem wd_669 : ((Jvm.Cond.methodLink "Sparkline" (145 : Nat) ({ cls := "Sparkline$Wire", name := "bundleAt", desc := "(I)I" } : Jvm.MethodName))) ∈ zT := zT_in 669 (by decide +kernel) rfl
set_option maxRecDepth 10000 in
theorem wd_670 : ((Jvm.Cond.instanceMethod ({ cls := "Sparkline$Wire", name := "bundleAt", desc := "(I)I" } : Jvm.MethodName))) ∈ zT := zT_in 670 (by decide +kernel) rfl
set_option maxRecDepth 10000 in
theorem wd_671 : ((Jvm.Cond.selects "Sparkline$Wire" ({ cls := "Sparkline$Wire", name := "bundleAt", desc := "(I)I" } : Jvm.MethodName) ({ cls := "Sparkline$Wire", name := "bundleAt", desc := "(I)I" } : Jvm.MethodName))) ∈ zT := zT_in 671 (by decide +kernel) rfl
set_option maxRecDepth 10000 in
theorem wd_672 : ((Jvm.Cond.code ({ cls := "Sparkline$Wire", name := "bundleAt", desc := "(I)I" } : Jvm.MethodName) prog_12_method_5_code (2 : Nat) (Option.some Jvm.ClassFile.FieldType.int))) ∈ zT := zT_in 672 (by decide +kernel) rfl
set_option maxRecDepth 10000 in
theorem wd_673 : ((Jvm.Cond.methodLink "SparklineLaw" (141 : Nat) ({ cls := "SparklineLaw", name := "weight", desc := "(LSparkline;I[J)I" } : Jvm.MethodName))) ∈ zT := zT_in 673 (by decide +kernel) rfl
set_option maxRecDepth 10000 in
theorem wd_674 : ((Jvm.Cond.static ({ cls := "SparklineLaw", name := "weight", desc := "(LSparkline;I[J)I" } : Jvm.MethodName))) ∈ zT := zT_in 674 (by decide +kernel) rfl
set_option maxRecDepth 10000 in
theorem wd_675 : ((Jvm.Cond.codeWith ({ cls := "SparklineLaw", name := "weight", desc := "(LSparkline;I[J)I" } : Jvm.MethodName) method_9_code (4 : Nat) (Option.some Jvm.ClassFile.FieldType.int) [((0 : Nat), (9 : Nat), (12 : Nat), (15 : Nat))])) ∈ zT := zT_in 675 (by decide +kernel) rfl
set_option maxRecDepth 10000 in
theorem wd_676 : ((Jvm.Cond.methodLink "SparklineLaw" (38 : Nat) ({ cls := "Sparkline", name := "weight", desc := "(I)I" } : Jvm.MethodName))) ∈ zT := zT_in 676 (by decide +kernel) rfl
set_option maxRecDepth 10000 in
theorem wd_677 : ((Jvm.Cond.instanceMethod ({ cls := "Sparkline", name := "weight", desc := "(I)I" } : Jvm.MethodName))) ∈ zT := zT_in 677 (by decide +kernel) rfl
set_option maxRecDepth 10000 in
theorem wd_678 : ((Jvm.Cond.selects "Sparkline" ({ cls := "Sparkline", name := "weight", desc := "(I)I" } : Jvm.MethodName) ({ cls := "Sparkline", name := "weight", desc := "(I)I" } : Jvm.MethodName))) ∈ zT := zT_in 678 (by decide +kernel) rfl
set_option maxRecDepth 10000 in
theorem wd_679 : ((Jvm.Cond.code ({ cls := "Sparkline", name := "weight", desc := "(I)I" } : Jvm.MethodName) prog_1_method_8_code (2 : Nat) (Option.some Jvm.ClassFile.FieldType.int))) ∈ zT := zT_in 679 (by decide +kernel) rfl
set_option maxRecDepth 10000 in
theorem wd_680 : ((Jvm.Cond.methodLink "Sparkline" (149 : Nat) ({ cls := "Sparkline$Harness", name := "weightOf", desc := "(I)I" } : Jvm.MethodName))) ∈ zT := zT_in 680 (by decide +kernel) rfl
set_option maxRecDepth 10000 in
theorem wd_681 : ((Jvm.Cond.instanceMethod ({ cls := "Sparkline$Harness", name := "weightOf", desc := "(I)I" } : Jvm.MethodName))) ∈ zT := zT_in 681 (by decide +kernel) rfl
set_option maxRecDepth 10000 in
theorem wd_682 : ((Jvm.Cond.selects "Sparkline$Harness" ({ cls := "Sparkline$Harness", name := "weightOf", desc := "(I)I" } : Jvm.MethodName) ({ cls := "Sparkline$Harness", name := "weightOf", desc := "(I)I" } : Jvm.MethodName))) ∈ zT := zT_in 682 (by decide +kernel) rfl
set_option maxRecDepth 10000 in
theorem wd_683 : ((Jvm.Cond.code ({ cls := "Sparkline$Harness", name := "weightOf", desc := "(I)I" } : Jvm.MethodName) prog_6_method_11_code (5 : Nat) (Option.some Jvm.ClassFile.FieldType.int))) ∈ zT := zT_in 683 (by decide +kernel) rfl
set_option maxRecDepth 10000 in
theorem wd_684 : ((Jvm.Cond.classLink "Sparkline$Harness" (104 : Nat) "Sparkline$Wire")) ∈ zT := zT_in 684 (by decide +kernel) rfl
set_option maxRecDepth 10000 in
theorem wd_685 : ((Jvm.Cond.methodLink "SparklineLaw" (144 : Nat) ({ cls := "SparklineLaw", name := "order", desc := "(LSparkline;II[J)I" } : Jvm.MethodName))) ∈ zT := zT_in 685 (by decide +kernel) rfl
set_option maxRecDepth 10000 in
theorem wd_686 : ((Jvm.Cond.static ({ cls := "SparklineLaw", name := "order", desc := "(LSparkline;II[J)I" } : Jvm.MethodName))) ∈ zT := zT_in 686 (by decide +kernel) rfl
set_option maxRecDepth 10000 in
theorem wd_687 : ((Jvm.Cond.codeWith ({ cls := "SparklineLaw", name := "order", desc := "(LSparkline;II[J)I" } : Jvm.MethodName) method_10_code (5 : Nat) (Option.some Jvm.ClassFile.FieldType.int) [((0 : Nat), (10 : Nat), (13 : Nat), (15 : Nat)), ((0 : Nat), (10 : Nat), (17 : Nat), (17 : Nat))])) ∈ zT := zT_in 687 (by decide +kernel) rfl
set_option maxRecDepth 10000 in
theorem wd_688 : ((Jvm.Cond.methodLink "SparklineLaw" (41 : Nat) ({ cls := "Sparkline", name := "order", desc := "(II)I" } : Jvm.MethodName))) ∈ zT := zT_in 688 (by decide +kernel) rfl
set_option maxRecDepth 10000 in
theorem wd_689 : ((Jvm.Cond.instanceMethod ({ cls := "Sparkline", name := "order", desc := "(II)I" } : Jvm.MethodName))) ∈ zT := zT_in 689 (by decide +kernel) rfl
set_option maxRecDepth 10000 in
theorem wd_690 : ((Jvm.Cond.selects "Sparkline" ({ cls := "Sparkline", name := "order", desc := "(II)I" } : Jvm.MethodName) ({ cls := "Sparkline", name := "order", desc := "(II)I" } : Jvm.MethodName))) ∈ zT := zT_in 690 (by decide +kernel) rfl
set_option maxRecDepth 10000 in
theorem wd_691 : ((Jvm.Cond.code ({ cls := "Sparkline", name := "order", desc := "(II)I" } : Jvm.MethodName) prog_1_method_9_code (3 : Nat) (Option.some Jvm.ClassFile.FieldType.int))) ∈ zT := zT_in 691 (by decide +kernel) rfl
set_option maxRecDepth 10000 in
theorem wd_692 : ((Jvm.Cond.methodLink "Sparkline" (155 : Nat) ({ cls := "Sparkline$Orders", name := "add", desc := "(II)I" } : Jvm.MethodName))) ∈ zT := zT_in 692 (by decide +kernel) rfl
set_option maxRecDepth 10000 in
theorem wd_693 : ((Jvm.Cond.instanceMethod ({ cls := "Sparkline$Orders", name := "add", desc := "(II)I" } : Jvm.MethodName))) ∈ zT := zT_in 693 (by decide +kernel) rfl
set_option maxRecDepth 10000 in
theorem wd_694 : ((Jvm.Cond.selects "Sparkline$Orders" ({ cls := "Sparkline$Orders", name := "add", desc := "(II)I" } : Jvm.MethodName) ({ cls := "Sparkline$Orders", name := "add", desc := "(II)I" } : Jvm.MethodName))) ∈ zT := zT_in 694 (by decide +kernel) rfl
set_option maxRecDepth 10000 in
theorem wd_695 : ((Jvm.Cond.code ({ cls := "Sparkline$Orders", name := "add", desc := "(II)I" } : Jvm.MethodName) prog_7_method_2_code (3 : Nat) (Option.some Jvm.ClassFile.FieldType.int))) ∈ zT := zT_in 695 (by decide +kernel) rfl
set_option maxRecDepth 10000 in
theorem wd_696 : ((Jvm.Cond.methodLink "Sparkline$Orders" (33 : Nat) ({ cls := "Sparkline$Row", name := "put", desc := "(II)V" } : Jvm.MethodName))) ∈ zT := zT_in 696 (by decide +kernel) rfl
set_option maxRecDepth 10000 in
theorem wd_697 : ((Jvm.Cond.methodLink "SparklineLaw" (147 : Nat) ({ cls := "SparklineLaw", name := "least", desc := "(LSparkline;I[J)I" } : Jvm.MethodName))) ∈ zT := zT_in 697 (by decide +kernel) rfl
set_option maxRecDepth 10000 in
theorem wd_698 : ((Jvm.Cond.static ({ cls := "SparklineLaw", name := "least", desc := "(LSparkline;I[J)I" } : Jvm.MethodName))) ∈ zT := zT_in 698 (by decide +kernel) rfl
set_option maxRecDepth 10000 in
theorem wd_699 : ((Jvm.Cond.codeWith ({ cls := "SparklineLaw", name := "least", desc := "(LSparkline;I[J)I" } : Jvm.MethodName) method_11_code (4 : Nat) (Option.some Jvm.ClassFile.FieldType.int) [((0 : Nat), (9 : Nat), (12 : Nat), (15 : Nat))])) ∈ zT := zT_in 699 (by decide +kernel) rfl
set_option maxRecDepth 10000 in
theorem wd_700 : ((Jvm.Cond.methodLink "SparklineLaw" (44 : Nat) ({ cls := "Sparkline", name := "least", desc := "(I)I" } : Jvm.MethodName))) ∈ zT := zT_in 700 (by decide +kernel) rfl
set_option maxRecDepth 10000 in
theorem wd_701 : ((Jvm.Cond.instanceMethod ({ cls := "Sparkline", name := "least", desc := "(I)I" } : Jvm.MethodName))) ∈ zT := zT_in 701 (by decide +kernel) rfl
set_option maxRecDepth 10000 in
theorem wd_702 : ((Jvm.Cond.selects "Sparkline" ({ cls := "Sparkline", name := "least", desc := "(I)I" } : Jvm.MethodName) ({ cls := "Sparkline", name := "least", desc := "(I)I" } : Jvm.MethodName))) ∈ zT := zT_in 702 (by decide +kernel) rfl
set_option maxRecDepth 10000 in
theorem wd_703 : ((Jvm.Cond.code ({ cls := "Sparkline", name := "least", desc := "(I)I" } : Jvm.MethodName) prog_1_method_10_code (2 : Nat) (Option.some Jvm.ClassFile.FieldType.int))) ∈ zT := zT_in 703 (by decide +kernel) rfl
set_option maxRecDepth 10000 in
theorem wd_704 : ((Jvm.Cond.methodLink "Sparkline" (159 : Nat) ({ cls := "Sparkline$Orders", name := "leastByChoice", desc := "(LSparkline$Harness;I)I" } : Jvm.MethodName))) ∈ zT := zT_in 704 (by decide +kernel) rfl
set_option maxRecDepth 10000 in
theorem wd_705 : ((Jvm.Cond.instanceMethod ({ cls := "Sparkline$Orders", name := "leastByChoice", desc := "(LSparkline$Harness;I)I" } : Jvm.MethodName))) ∈ zT := zT_in 705 (by decide +kernel) rfl
set_option maxRecDepth 10000 in
theorem wd_706 : ((Jvm.Cond.selects "Sparkline$Orders" ({ cls := "Sparkline$Orders", name := "leastByChoice", desc := "(LSparkline$Harness;I)I" } : Jvm.MethodName) ({ cls := "Sparkline$Orders", name := "leastByChoice", desc := "(LSparkline$Harness;I)I" } : Jvm.MethodName))) ∈ zT := zT_in 706 (by decide +kernel) rfl
set_option maxRecDepth 10000 in
theorem wd_707 : ((Jvm.Cond.code ({ cls := "Sparkline$Orders", name := "leastByChoice", desc := "(LSparkline$Harness;I)I" } : Jvm.MethodName) prog_7_method_6_code (3 : Nat) (Option.some Jvm.ClassFile.FieldType.int))) ∈ zT := zT_in 707 (by decide +kernel) rfl
set_option maxRecDepth 10000 in
theorem wd_708 : ((Jvm.Cond.methodLink "Sparkline$Orders" (54 : Nat) ({ cls := "Sparkline$Orders", name := "weighSets", desc := "(LSparkline$Harness;)V" } : Jvm.MethodName))) ∈ zT := zT_in 708 (by decide +kernel) rfl
set_option maxRecDepth 10000 in
theorem wd_710 : ((Jvm.Cond.instanceMethod ({ cls := "Sparkline$Orders", name := "weighSets", desc := "(LSparkline$Harness;)V" } : Jvm.MethodName))) ∈ zT := zT_in 710 (by decide +kernel) rfl
set_option maxRecDepth 10000 in
theorem wd_711 : ((Jvm.Cond.code ({ cls := "Sparkline$Orders", name := "weighSets", desc := "(LSparkline$Harness;)V" } : Jvm.MethodName) prog_7_method_4_code (4 : Nat) (Option.none : Option Jvm.ClassFile.FieldType))) ∈ zT := zT_in 711 (by decide +kernel) rfl
set_option maxRecDepth 10000 in
theorem wd_712 : ((Jvm.Cond.methodLink "Sparkline$Orders" (37 : Nat) ({ cls := "Sparkline$Orders", name := "allOrders", desc := "()I" } : Jvm.MethodName))) ∈ zT := zT_in 712 (by decide +kernel) rfl
set_option maxRecDepth 10000 in
theorem wd_714 : ((Jvm.Cond.instanceMethod ({ cls := "Sparkline$Orders", name := "allOrders", desc := "()I" } : Jvm.MethodName))) ∈ zT := zT_in 714 (by decide +kernel) rfl
set_option maxRecDepth 10000 in
theorem wd_715 : ((Jvm.Cond.code ({ cls := "Sparkline$Orders", name := "allOrders", desc := "()I" } : Jvm.MethodName) prog_7_method_3_code (1 : Nat) (Option.some Jvm.ClassFile.FieldType.int))) ∈ zT := zT_in 715 (by decide +kernel) rfl
set_option maxRecDepth 10000 in
theorem wd_716 : ((Jvm.Cond.methodLink "Sparkline$Orders" (41 : Nat) ({ cls := "Sparkline$Orders", name := "weightAsOne", desc := "(LSparkline$Harness;I)I" } : Jvm.MethodName))) ∈ zT := zT_in 716 (by decide +kernel) rfl
set_option maxRecDepth 10000 in
theorem wd_718 : ((Jvm.Cond.instanceMethod ({ cls := "Sparkline$Orders", name := "weightAsOne", desc := "(LSparkline$Harness;I)I" } : Jvm.MethodName))) ∈ zT := zT_in 718 (by decide +kernel) rfl
set_option maxRecDepth 10000 in
theorem wd_719 : ((Jvm.Cond.code ({ cls := "Sparkline$Orders", name := "weightAsOne", desc := "(LSparkline$Harness;I)I" } : Jvm.MethodName) prog_7_method_5_code (6 : Nat) (Option.some Jvm.ClassFile.FieldType.int))) ∈ zT := zT_in 719 (by decide +kernel) rfl
set_option maxRecDepth 10000 in
theorem wd_720 : ((Jvm.Cond.methodLink "Sparkline$Orders" (45 : Nat) ({ cls := "Sparkline$Row", name := "at", desc := "(I)I" } : Jvm.MethodName))) ∈ zT := zT_in 720 (by decide +kernel) rfl
set_option maxRecDepth 10000 in
theorem wd_721 : ((Jvm.Cond.methodLink "Sparkline$Orders" (49 : Nat) ({ cls := "Sparkline$Harness", name := "weightOf", desc := "(I)I" } : Jvm.MethodName))) ∈ zT := zT_in 721 (by decide +kernel) rfl
set_option maxRecDepth 10000 in
theorem wd_722 : ((Jvm.Cond.methodLink "Sparkline$Orders" (58 : Nat) ({ cls := "Sparkline$Orders", name := "leastOfRest", desc := "(LSparkline$Row;II)I" } : Jvm.MethodName))) ∈ zT := zT_in 722 (by decide +kernel) rfl
set_option maxRecDepth 10000 in
theorem wd_723 : ((Jvm.Cond.static ({ cls := "Sparkline$Orders", name := "leastOfRest", desc := "(LSparkline$Row;II)I" } : Jvm.MethodName))) ∈ zT := zT_in 723 (by decide +kernel) rfl
set_option maxRecDepth 10000 in
theorem wd_724 : ((Jvm.Cond.code ({ cls := "Sparkline$Orders", name := "leastOfRest", desc := "(LSparkline$Row;II)I" } : Jvm.MethodName) prog_7_method_7_code (7 : Nat) (Option.some Jvm.ClassFile.FieldType.int))) ∈ zT := zT_in 724 (by decide +kernel) rfl
set_option maxRecDepth 10000 in
theorem wd_725 : ((Jvm.Cond.constant "Sparkline$Orders" (62 : Nat) (1000000000 : Int32))) ∈ zT := zT_in 725 (by decide +kernel) rfl
set_option maxRecDepth 10000 in
theorem wd_726 : ((Jvm.Cond.methodLink "Sparkline$Orders" (63 : Nat) ({ cls := "java/lang/Math", name := "min", desc := "(II)I" } : Jvm.MethodName))) ∈ zT := zT_in 726 (by decide +kernel) rfl
set_option maxRecDepth 10000 in
theorem wd_727 : ((Jvm.Cond.methodLink "SparklineLaw" (150 : Nat) ({ cls := "SparklineLaw", name := "leastAnew", desc := "(LSparkline;I[J)I" } : Jvm.MethodName))) ∈ zT := zT_in 727 (by decide +kernel) rfl
set_option maxRecDepth 10000 in
theorem wd_728 : ((Jvm.Cond.static ({ cls := "SparklineLaw", name := "leastAnew", desc := "(LSparkline;I[J)I" } : Jvm.MethodName))) ∈ zT := zT_in 728 (by decide +kernel) rfl
set_option maxRecDepth 10000 in
theorem wd_729 : ((Jvm.Cond.codeWith ({ cls := "SparklineLaw", name := "leastAnew", desc := "(LSparkline;I[J)I" } : Jvm.MethodName) method_12_code (4 : Nat) (Option.some Jvm.ClassFile.FieldType.int) [((0 : Nat), (9 : Nat), (12 : Nat), (15 : Nat))])) ∈ zT := zT_in 729 (by decide +kernel) rfl
set_option maxRecDepth 10000 in
theorem wd_730 : ((Jvm.Cond.methodLink "SparklineLaw" (47 : Nat) ({ cls := "Sparkline", name := "leastAnew", desc := "(I)I" } : Jvm.MethodName))) ∈ zT := zT_in 730 (by decide +kernel) rfl
set_option maxRecDepth 10000 in
theorem wd_731 : ((Jvm.Cond.instanceMethod ({ cls := "Sparkline", name := "leastAnew", desc := "(I)I" } : Jvm.MethodName))) ∈ zT := zT_in 731 (by decide +kernel) rfl
set_option maxRecDepth 10000 in
theorem wd_732 : ((Jvm.Cond.selects "Sparkline" ({ cls := "Sparkline", name := "leastAnew", desc := "(I)I" } : Jvm.MethodName) ({ cls := "Sparkline", name := "leastAnew", desc := "(I)I" } : Jvm.MethodName))) ∈ zT := zT_in 732 (by decide +kernel) rfl
set_option maxRecDepth 10000 in
theorem wd_733 : ((Jvm.Cond.code ({ cls := "Sparkline", name := "leastAnew", desc := "(I)I" } : Jvm.MethodName) prog_1_method_11_code (2 : Nat) (Option.some Jvm.ClassFile.FieldType.int))) ∈ zT := zT_in 733 (by decide +kernel) rfl
set_option maxRecDepth 10000 in
theorem wd_734 : ((Jvm.Cond.methodLink "Sparkline" (163 : Nat) ({ cls := "Sparkline$Orders", name := "leastByTable", desc := "(LSparkline$Harness;I)I" } : Jvm.MethodName))) ∈ zT := zT_in 734 (by decide +kernel) rfl
set_option maxRecDepth 10000 in
theorem wd_735 : ((Jvm.Cond.instanceMethod ({ cls := "Sparkline$Orders", name := "leastByTable", desc := "(LSparkline$Harness;I)I" } : Jvm.MethodName))) ∈ zT := zT_in 735 (by decide +kernel) rfl
set_option maxRecDepth 10000 in
theorem wd_736 : ((Jvm.Cond.selects "Sparkline$Orders" ({ cls := "Sparkline$Orders", name := "leastByTable", desc := "(LSparkline$Harness;I)I" } : Jvm.MethodName) ({ cls := "Sparkline$Orders", name := "leastByTable", desc := "(LSparkline$Harness;I)I" } : Jvm.MethodName))) ∈ zT := zT_in 736 (by decide +kernel) rfl
set_option maxRecDepth 10000 in
theorem wd_737 : ((Jvm.Cond.code ({ cls := "Sparkline$Orders", name := "leastByTable", desc := "(LSparkline$Harness;I)I" } : Jvm.MethodName) prog_7_method_8_code (4 : Nat) (Option.some Jvm.ClassFile.FieldType.int))) ∈ zT := zT_in 737 (by decide +kernel) rfl
set_option maxRecDepth 10000 in
theorem wd_738 : ((Jvm.Cond.methodLink "Sparkline$Orders" (69 : Nat) ({ cls := "Sparkline$Row", name := "fill", desc := "(I)V" } : Jvm.MethodName))) ∈ zT := zT_in 738 (by decide +kernel) rfl
set_option maxRecDepth 10000 in
theorem wd_739 : ((Jvm.Cond.methodLink "Sparkline$Orders" (72 : Nat) ({ cls := "Sparkline$Orders", name := "addFamily", desc := "()V" } : Jvm.MethodName))) ∈ zT := zT_in 739 (by decide +kernel) rfl
set_option maxRecDepth 10000 in
theorem wd_741 : ((Jvm.Cond.instanceMethod ({ cls := "Sparkline$Orders", name := "addFamily", desc := "()V" } : Jvm.MethodName))) ∈ zT := zT_in 741 (by decide +kernel) rfl
set_option maxRecDepth 10000 in
theorem wd_742 : ((Jvm.Cond.code ({ cls := "Sparkline$Orders", name := "addFamily", desc := "()V" } : Jvm.MethodName) prog_7_method_9_code (2 : Nat) (Option.none : Option Jvm.ClassFile.FieldType))) ∈ zT := zT_in 742 (by decide +kernel) rfl
set_option maxRecDepth 10000 in
theorem wd_743 : ((Jvm.Cond.methodLink "Sparkline$Orders" (75 : Nat) ({ cls := "Sparkline$Orders", name := "leastWithOneMore", desc := "(I)I" } : Jvm.MethodName))) ∈ zT := zT_in 743 (by decide +kernel) rfl
set_option maxRecDepth 10000 in
theorem wd_745 : ((Jvm.Cond.instanceMethod ({ cls := "Sparkline$Orders", name := "leastWithOneMore", desc := "(I)I" } : Jvm.MethodName))) ∈ zT := zT_in 745 (by decide +kernel) rfl
set_option maxRecDepth 10000 in
theorem wd_746 : ((Jvm.Cond.code ({ cls := "Sparkline$Orders", name := "leastWithOneMore", desc := "(I)I" } : Jvm.MethodName) prog_7_method_10_code (4 : Nat) (Option.some Jvm.ClassFile.FieldType.int))) ∈ zT := zT_in 746 (by decide +kernel) rfl
set_option maxRecDepth 10000 in
theorem wd_747 : ((Jvm.Cond.methodLink "SparklineLaw" (153 : Nat) ({ cls := "SparklineLaw", name := "crimp", desc := "(LSparkline;I[J)I" } : Jvm.MethodName))) ∈ zT := zT_in 747 (by decide +kernel) rfl
set_option maxRecDepth 10000 in
theorem wd_748 : ((Jvm.Cond.static ({ cls := "SparklineLaw", name := "crimp", desc := "(LSparkline;I[J)I" } : Jvm.MethodName))) ∈ zT := zT_in 748 (by decide +kernel) rfl
set_option maxRecDepth 10000 in
theorem wd_749 : ((Jvm.Cond.codeWith ({ cls := "SparklineLaw", name := "crimp", desc := "(LSparkline;I[J)I" } : Jvm.MethodName) method_13_code (4 : Nat) (Option.some Jvm.ClassFile.FieldType.int) [((0 : Nat), (16 : Nat), (19 : Nat), (15 : Nat))])) ∈ zT := zT_in 749 (by decide +kernel) rfl
set_option maxRecDepth 10000 in
theorem wd_750 : ((Jvm.Cond.methodLink "SparklineLaw" (50 : Nat) ({ cls := "Sparkline", name := "crimp", desc := "(I)Z" } : Jvm.MethodName))) ∈ zT := zT_in 750 (by decide +kernel) rfl
set_option maxRecDepth 10000 in
theorem wd_751 : ((Jvm.Cond.instanceMethod ({ cls := "Sparkline", name := "crimp", desc := "(I)Z" } : Jvm.MethodName))) ∈ zT := zT_in 751 (by decide +kernel) rfl
set_option maxRecDepth 10000 in
theorem wd_752 : ((Jvm.Cond.selects "Sparkline" ({ cls := "Sparkline", name := "crimp", desc := "(I)Z" } : Jvm.MethodName) ({ cls := "Sparkline", name := "crimp", desc := "(I)Z" } : Jvm.MethodName))) ∈ zT := zT_in 752 (by decide +kernel) rfl
set_option maxRecDepth 10000 in
theorem wd_753 : ((Jvm.Cond.code ({ cls := "Sparkline", name := "crimp", desc := "(I)Z" } : Jvm.MethodName) prog_1_method_12_code (2 : Nat) (Option.some Jvm.ClassFile.FieldType.boolean))) ∈ zT := zT_in 753 (by decide +kernel) rfl
set_option maxRecDepth 10000 in
theorem wd_754 : ((Jvm.Cond.methodLink "Sparkline" (166 : Nat) ({ cls := "Sparkline$Crimper", name := "judge", desc := "(I)Z" } : Jvm.MethodName))) ∈ zT := zT_in 754 (by decide +kernel) rfl
set_option maxRecDepth 10000 in
theorem wd_755 : ((Jvm.Cond.instanceMethod ({ cls := "Sparkline$Crimper", name := "judge", desc := "(I)Z" } : Jvm.MethodName))) ∈ zT := zT_in 755 (by decide +kernel) rfl
set_option maxRecDepth 10000 in
theorem wd_756 : ((Jvm.Cond.selects "Sparkline$Crimper" ({ cls := "Sparkline$Crimper", name := "judge", desc := "(I)Z" } : Jvm.MethodName) ({ cls := "Sparkline$Crimper", name := "judge", desc := "(I)Z" } : Jvm.MethodName))) ∈ zT := zT_in 756 (by decide +kernel) rfl
set_option maxRecDepth 10000 in
theorem wd_757 : ((Jvm.Cond.code ({ cls := "Sparkline$Crimper", name := "judge", desc := "(I)Z" } : Jvm.MethodName) prog_5_method_2_code (3 : Nat) (Option.some Jvm.ClassFile.FieldType.boolean))) ∈ zT := zT_in 757 (by decide +kernel) rfl
set_option maxRecDepth 10000 in
theorem wd_758 : ((Jvm.Cond.methodLink "Sparkline$Crimper" (22 : Nat) ({ cls := "Sparkline$Crimper", name := "window", desc := "()I" } : Jvm.MethodName))) ∈ zT := zT_in 758 (by decide +kernel) rfl
set_option maxRecDepth 10000 in
theorem wd_759 : ((Jvm.Cond.instanceMethod ({ cls := "Sparkline$Crimper", name := "window", desc := "()I" } : Jvm.MethodName))) ∈ zT := zT_in 759 (by decide +kernel) rfl
set_option maxRecDepth 10000 in
theorem wd_760 : ((Jvm.Cond.selects "Sparkline$Crimper" ({ cls := "Sparkline$Crimper", name := "window", desc := "()I" } : Jvm.MethodName) ({ cls := "Sparkline$Crimper", name := "window", desc := "()I" } : Jvm.MethodName))) ∈ zT := zT_in 760 (by decide +kernel) rfl
set_option maxRecDepth 10000 in
theorem wd_761 : ((Jvm.Cond.code ({ cls := "Sparkline$Crimper", name := "window", desc := "()I" } : Jvm.MethodName) prog_5_method_3_code (3 : Nat) (Option.some Jvm.ClassFile.FieldType.int))) ∈ zT := zT_in 761 (by decide +kernel) rfl
set_option maxRecDepth 10000 in
theorem wd_762 : ((Jvm.Cond.methodLink "Sparkline$Crimper" (42 : Nat) ({ cls := "Sparkline$Row", name := "at", desc := "(I)I" } : Jvm.MethodName))) ∈ zT := zT_in 762 (by decide +kernel) rfl
set_option maxRecDepth 10000 in
theorem wd_763 : ((Jvm.Cond.methodLink "Sparkline$Crimper" (45 : Nat) ({ cls := "java/lang/Math", name := "min", desc := "(II)I" } : Jvm.MethodName))) ∈ zT := zT_in 763 (by decide +kernel) rfl
set_option maxRecDepth 10000 in
theorem wd_765 : ((Jvm.Cond.static ({ cls := "Sparkline", name := "divideDown", desc := "(II)I" } : Jvm.MethodName))) ∈ zT := zT_in 765 (by decide +kernel) rfl
set_option maxRecDepth 10000 in
theorem wd_766 : ((Jvm.Cond.code ({ cls := "Sparkline", name := "divideDown", desc := "(II)I" } : Jvm.MethodName) prog_1_method_35_code (2 : Nat) (Option.some Jvm.ClassFile.FieldType.int))) ∈ zT := zT_in 766 (by decide +kernel) rfl
set_option maxRecDepth 10000 in
theorem wd_767 : ((Jvm.Cond.methodLink "Sparkline" (308 : Nat) ({ cls := "java/lang/Math", name := "floorDiv", desc := "(II)I" } : Jvm.MethodName))) ∈ zT := zT_in 767 (by decide +kernel) rfl
set_option maxRecDepth 10000 in
theorem wd_768 : ((Jvm.Cond.static ({ cls := "java/lang/Math", name := "floorDiv", desc := "(II)I" } : Jvm.MethodName))) ∈ zT := zT_in 768 (by decide +kernel) rfl
set_option maxRecDepth 10000 in
theorem wd_769 : ((Jvm.Cond.code ({ cls := "java/lang/Math", name := "floorDiv", desc := "(II)I" } : Jvm.MethodName) prog_23_method_47_code (3 : Nat) (Option.some Jvm.ClassFile.FieldType.int))) ∈ zT := zT_in 769 (by decide +kernel) rfl
set_option maxRecDepth 10000 in
theorem wd_770 : ((Jvm.Cond.methodLink "Sparkline$Crimper" (26 : Nat) ({ cls := "java/lang/Math", name := "abs", desc := "(I)I" } : Jvm.MethodName))) ∈ zT := zT_in 770 (by decide +kernel) rfl
set_option maxRecDepth 10000 in
theorem wd_771 : ((Jvm.Cond.static ({ cls := "java/lang/Math", name := "abs", desc := "(I)I" } : Jvm.MethodName))) ∈ zT := zT_in 771 (by decide +kernel) rfl
set_option maxRecDepth 10000 in
theorem wd_772 : ((Jvm.Cond.code ({ cls := "java/lang/Math", name := "abs", desc := "(I)I" } : Jvm.MethodName) prog_23_method_59_code (1 : Nat) (Option.some Jvm.ClassFile.FieldType.int))) ∈ zT := zT_in 772 (by decide +kernel) rfl
set_option maxRecDepth 10000 in
theorem wd_773 : ((Jvm.Cond.methodLink "Sparkline$Crimper" (38 : Nat) ({ cls := "Sparkline$Row", name := "put", desc := "(II)V" } : Jvm.MethodName))) ∈ zT := zT_in 773 (by decide +kernel) rfl
set_option maxRecDepth 10000 in
theorem wd_774 : ((Jvm.Cond.methodLink "SparklineLaw" (156 : Nat) ({ cls := "SparklineLaw", name := "crimps", desc := "(LSparkline;I[J)I" } : Jvm.MethodName))) ∈ zT := zT_in 774 (by decide +kernel) rfl
set_option maxRecDepth 10000 in
theorem wd_775 : ((Jvm.Cond.static ({ cls := "SparklineLaw", name := "crimps", desc := "(LSparkline;I[J)I" } : Jvm.MethodName))) ∈ zT := zT_in 775 (by decide +kernel) rfl
set_option maxRecDepth 10000 in
theorem wd_776 : ((Jvm.Cond.codeWith ({ cls := "SparklineLaw", name := "crimps", desc := "(LSparkline;I[J)I" } : Jvm.MethodName) method_14_code (4 : Nat) (Option.some Jvm.ClassFile.FieldType.int) [((0 : Nat), (9 : Nat), (12 : Nat), (15 : Nat))])) ∈ zT := zT_in 776 (by decide +kernel) rfl
set_option maxRecDepth 10000 in
theorem wd_777 : ((Jvm.Cond.methodLink "SparklineLaw" (54 : Nat) ({ cls := "Sparkline", name := "crimps", desc := "(I)I" } : Jvm.MethodName))) ∈ zT := zT_in 777 (by decide +kernel) rfl
set_option maxRecDepth 10000 in
theorem wd_778 : ((Jvm.Cond.instanceMethod ({ cls := "Sparkline", name := "crimps", desc := "(I)I" } : Jvm.MethodName))) ∈ zT := zT_in 778 (by decide +kernel) rfl
set_option maxRecDepth 10000 in
theorem wd_779 : ((Jvm.Cond.selects "Sparkline" ({ cls := "Sparkline", name := "crimps", desc := "(I)I" } : Jvm.MethodName) ({ cls := "Sparkline", name := "crimps", desc := "(I)I" } : Jvm.MethodName))) ∈ zT := zT_in 779 (by decide +kernel) rfl
set_option maxRecDepth 10000 in
theorem wd_780 : ((Jvm.Cond.code ({ cls := "Sparkline", name := "crimps", desc := "(I)I" } : Jvm.MethodName) prog_1_method_13_code (2 : Nat) (Option.some Jvm.ClassFile.FieldType.int))) ∈ zT := zT_in 780 (by decide +kernel) rfl
set_option maxRecDepth 10000 in
theorem wd_781 : ((Jvm.Cond.methodLink "Sparkline" (173 : Nat) ({ cls := "Sparkline$Crimper", name := "window", desc := "()I" } : Jvm.MethodName))) ∈ zT := zT_in 781 (by decide +kernel) rfl
set_option maxRecDepth 10000 in
theorem wd_782 : ((Jvm.Cond.methodLink "SparklineLaw" (159 : Nat) ({ cls := "SparklineLaw", name := "reel", desc := "(LSparkline;III[J)I" } : Jvm.MethodName))) ∈ zT := zT_in 782 (by decide +kernel) rfl
set_option maxRecDepth 10000 in
theorem wd_783 : ((Jvm.Cond.static ({ cls := "SparklineLaw", name := "reel", desc := "(LSparkline;III[J)I" } : Jvm.MethodName))) ∈ zT := zT_in 783 (by decide +kernel) rfl
set_option maxRecDepth 10000 in
theorem wd_784 : ((Jvm.Cond.codeWith ({ cls := "SparklineLaw", name := "reel", desc := "(LSparkline;III[J)I" } : Jvm.MethodName) method_15_code (6 : Nat) (Option.some Jvm.ClassFile.FieldType.int) [((0 : Nat), (12 : Nat), (15 : Nat), (13 : Nat)), ((0 : Nat), (12 : Nat), (19 : Nat), (15 : Nat)), ((0 : Nat), (12 : Nat), (23 : Nat), (17 : Nat))])) ∈ zT := zT_in 784 (by decide +kernel) rfl
set_option maxRecDepth 10000 in
theorem wd_785 : ((Jvm.Cond.methodLink "SparklineLaw" (57 : Nat) ({ cls := "Sparkline", name := "reel", desc := "(III)I" } : Jvm.MethodName))) ∈ zT := zT_in 785 (by decide +kernel) rfl
set_option maxRecDepth 10000 in
theorem wd_786 : ((Jvm.Cond.instanceMethod ({ cls := "Sparkline", name := "reel", desc := "(III)I" } : Jvm.MethodName))) ∈ zT := zT_in 786 (by decide +kernel) rfl
set_option maxRecDepth 10000 in
theorem wd_787 : ((Jvm.Cond.selects "Sparkline" ({ cls := "Sparkline", name := "reel", desc := "(III)I" } : Jvm.MethodName) ({ cls := "Sparkline", name := "reel", desc := "(III)I" } : Jvm.MethodName))) ∈ zT := zT_in 787 (by decide +kernel) rfl
set_option maxRecDepth 10000 in
theorem wd_788 : ((Jvm.Cond.code ({ cls := "Sparkline", name := "reel", desc := "(III)I" } : Jvm.MethodName) prog_1_method_14_code (4 : Nat) (Option.some Jvm.ClassFile.FieldType.int))) ∈ zT := zT_in 788 (by decide +kernel) rfl
set_option maxRecDepth 10000 in
theorem wd_789 : ((Jvm.Cond.classLink "Sparkline" (176 : Nat) "Sparkline$Reel")) ∈ zT := zT_in 789 (by decide +kernel) rfl
set_option maxRecDepth 10000 in
theorem wd_790 : ((Jvm.Cond.instantiable "Sparkline$Reel" (5 : Nat))) ∈ zT := zT_in 790 (by decide +kernel) rfl
set_option maxRecDepth 10000 in
theorem wd_791 : ((Jvm.Cond.methodLink "Sparkline" (178 : Nat) ({ cls := "Sparkline$Reel", name := "<init>", desc := "(III)V" } : Jvm.MethodName))) ∈ zT := zT_in 791 (by decide +kernel) rfl
set_option maxRecDepth 10000 in
theorem wd_792 : ((Jvm.Cond.instanceMethod ({ cls := "Sparkline$Reel", name := "<init>", desc := "(III)V" } : Jvm.MethodName))) ∈ zT := zT_in 792 (by decide +kernel) rfl
set_option maxRecDepth 10000 in
theorem wd_793 : ((Jvm.Cond.code ({ cls := "Sparkline$Reel", name := "<init>", desc := "(III)V" } : Jvm.MethodName) prog_9_method_1_code (4 : Nat) (Option.none : Option Jvm.ClassFile.FieldType))) ∈ zT := zT_in 793 (by decide +kernel) rfl
set_option maxRecDepth 10000 in
theorem wd_794 : ((Jvm.Cond.methodLink "Sparkline$Reel" (3 : Nat) ({ cls := "java/lang/Object", name := "<init>", desc := "()V" } : Jvm.MethodName))) ∈ zT := zT_in 794 (by decide +kernel) rfl
set_option maxRecDepth 10000 in
theorem wd_795 : ((Jvm.Cond.fieldLink "Sparkline$Reel" (9 : Nat) "Sparkline$Reel" "part" "I")) ∈ zT := zT_in 795 (by decide +kernel) rfl
set_option maxRecDepth 10000 in
theorem wd_796 : ((Jvm.Cond.fieldLink "Sparkline$Slot" (29 : Nat) "Sparkline$Reel" "part" "I")) ∈ zT := zT_in 796 (by decide +kernel) rfl
set_option maxRecDepth 10000 in
theorem wd_797 : ((Jvm.Cond.fieldLink "Sparkline" (198 : Nat) "Sparkline$Reel" "part" "I")) ∈ zT := zT_in 797 (by decide +kernel) rfl
set_option maxRecDepth 10000 in
theorem wd_798 : ((Jvm.Cond.fieldLink "Sparkline$Reel" (15 : Nat) "Sparkline$Reel" "life" "I")) ∈ zT := zT_in 798 (by decide +kernel) rfl
set_option maxRecDepth 10000 in
theorem wd_799 : ((Jvm.Cond.fieldLink "Sparkline$Reel" (18 : Nat) "Sparkline$Reel" "left" "I")) ∈ zT := zT_in 799 (by decide +kernel) rfl
set_option maxRecDepth 10000 in
theorem wd_800 : ((Jvm.Cond.fieldLink "Sparkline$Slot" (24 : Nat) "Sparkline$Reel" "left" "I")) ∈ zT := zT_in 800 (by decide +kernel) rfl
set_option maxRecDepth 10000 in
theorem wd_801 : ((Jvm.Cond.fieldLink "Sparkline" (201 : Nat) "Sparkline$Reel" "left" "I")) ∈ zT := zT_in 801 (by decide +kernel) rfl
set_option maxRecDepth 10000 in
theorem wd_802 : ((Jvm.Cond.fieldLink "Sparkline$Reel" (21 : Nat) "Sparkline$Reel" "isOpen" "Z")) ∈ zT := zT_in 802 (by decide +kernel) rfl
set_option maxRecDepth 10000 in
theorem wd_803 : ((Jvm.Cond.fieldLink "Sparkline" (188 : Nat) "Sparkline$Reel" "isOpen" "Z")) ∈ zT := zT_in 803 (by decide +kernel) rfl
set_option maxRecDepth 10000 in
theorem wd_804 : ((Jvm.Cond.fieldLink "Sparkline$Reel" (25 : Nat) "Sparkline$Reel" "begun" "I")) ∈ zT := zT_in 804 (by decide +kernel) rfl
set_option maxRecDepth 10000 in
theorem wd_805 : ((Jvm.Cond.laysFinal "Sparkline$Reel" "Sparkline$Reel" "part" "I")) ∈ zT := zT_in 805 (by decide +kernel) rfl
set_option maxRecDepth 10000 in
theorem wd_807 : ((Jvm.Cond.laysFinal "Sparkline$Reel" "Sparkline$Reel" "life" "I")) ∈ zT := zT_in 807 (by decide +kernel) rfl
set_option maxRecDepth 10000 in
theorem wd_809 : ((Jvm.Cond.lays "Sparkline$Reel" "Sparkline$Reel" "left" "I")) ∈ zT := zT_in 809 (by decide +kernel) rfl
set_option maxRecDepth 10000 in
theorem wd_811 : ((Jvm.Cond.lays "Sparkline$Reel" "Sparkline$Reel" "isOpen" "Z")) ∈ zT := zT_in 811 (by decide +kernel) rfl
set_option maxRecDepth 10000 in
theorem wd_813 : ((Jvm.Cond.lays "Sparkline$Reel" "Sparkline$Reel" "begun" "I")) ∈ zT := zT_in 813 (by decide +kernel) rfl
set_option maxRecDepth 10000 in
theorem wd_816 : ((Jvm.Cond.methodLink "Sparkline" (181 : Nat) ({ cls := "java/util/ArrayList", name := "add", desc := "(Ljava/lang/Object;)Z" } : Jvm.MethodName))) ∈ zT := zT_in 816 (by decide +kernel) rfl
set_option maxRecDepth 10000 in
theorem wd_817 : ((Jvm.Cond.methodLink "SparklineLaw" (162 : Nat) ({ cls := "SparklineLaw", name := "open", desc := "(LSparkline;IZ[J)I" } : Jvm.MethodName))) ∈ zT := zT_in 817 (by decide +kernel) rfl
set_option maxRecDepth 10000 in
theorem wd_818 : ((Jvm.Cond.static ({ cls := "SparklineLaw", name := "open", desc := "(LSparkline;IZ[J)I" } : Jvm.MethodName))) ∈ zT := zT_in 818 (by decide +kernel) rfl
set_option maxRecDepth 10000 in
theorem wd_819 : ((Jvm.Cond.codeWith ({ cls := "SparklineLaw", name := "open", desc := "(LSparkline;IZ[J)I" } : Jvm.MethodName) method_16_code (5 : Nat) (Option.some Jvm.ClassFile.FieldType.int) [((0 : Nat), (10 : Nat), (13 : Nat), (13 : Nat)), ((0 : Nat), (10 : Nat), (17 : Nat), (17 : Nat))])) ∈ zT := zT_in 819 (by decide +kernel) rfl
set_option maxRecDepth 10000 in
theorem wd_820 : ((Jvm.Cond.methodLink "SparklineLaw" (60 : Nat) ({ cls := "Sparkline", name := "open", desc := "(IZ)I" } : Jvm.MethodName))) ∈ zT := zT_in 820 (by decide +kernel) rfl
set_option maxRecDepth 10000 in
theorem wd_821 : ((Jvm.Cond.instanceMethod ({ cls := "Sparkline", name := "open", desc := "(IZ)I" } : Jvm.MethodName))) ∈ zT := zT_in 821 (by decide +kernel) rfl
set_option maxRecDepth 10000 in
theorem wd_822 : ((Jvm.Cond.selects "Sparkline" ({ cls := "Sparkline", name := "open", desc := "(IZ)I" } : Jvm.MethodName) ({ cls := "Sparkline", name := "open", desc := "(IZ)I" } : Jvm.MethodName))) ∈ zT := zT_in 822 (by decide +kernel) rfl
set_option maxRecDepth 10000 in
theorem wd_823 : ((Jvm.Cond.code ({ cls := "Sparkline", name := "open", desc := "(IZ)I" } : Jvm.MethodName) prog_1_method_15_code (4 : Nat) (Option.some Jvm.ClassFile.FieldType.int))) ∈ zT := zT_in 823 (by decide +kernel) rfl
set_option maxRecDepth 10000 in
theorem wd_824 : ((Jvm.Cond.methodLink "Sparkline" (184 : Nat) ({ cls := "Sparkline", name := "reelAt", desc := "(I)LSparkline$Reel;" } : Jvm.MethodName))) ∈ zT := zT_in 824 (by decide +kernel) rfl
set_option maxRecDepth 10000 in
theorem wd_826 : ((Jvm.Cond.instanceMethod ({ cls := "Sparkline", name := "reelAt", desc := "(I)LSparkline$Reel;" } : Jvm.MethodName))) ∈ zT := zT_in 826 (by decide +kernel) rfl
set_option maxRecDepth 10000 in
theorem wd_827 : ((Jvm.Cond.code ({ cls := "Sparkline", name := "reelAt", desc := "(I)LSparkline$Reel;" } : Jvm.MethodName) prog_1_method_38_code (2 : Nat) (Option.some (Jvm.ClassFile.FieldType.object "Sparkline$Reel")))) ∈ zT := zT_in 827 (by decide +kernel) rfl
set_option maxRecDepth 10000 in
theorem wd_828 : ((Jvm.Cond.methodLink "Sparkline" (191 : Nat) ({ cls := "Sparkline$Reel", name := "beginClock", desc := "(I)V" } : Jvm.MethodName))) ∈ zT := zT_in 828 (by decide +kernel) rfl
set_option maxRecDepth 10000 in
theorem wd_829 : ((Jvm.Cond.instanceMethod ({ cls := "Sparkline$Reel", name := "beginClock", desc := "(I)V" } : Jvm.MethodName))) ∈ zT := zT_in 829 (by decide +kernel) rfl
set_option maxRecDepth 10000 in
theorem wd_830 : ((Jvm.Cond.selects "Sparkline$Reel" ({ cls := "Sparkline$Reel", name := "beginClock", desc := "(I)V" } : Jvm.MethodName) ({ cls := "Sparkline$Reel", name := "beginClock", desc := "(I)V" } : Jvm.MethodName))) ∈ zT := zT_in 830 (by decide +kernel) rfl
set_option maxRecDepth 10000 in
theorem wd_831 : ((Jvm.Cond.code ({ cls := "Sparkline$Reel", name := "beginClock", desc := "(I)V" } : Jvm.MethodName) prog_9_method_2_code (2 : Nat) (Option.none : Option Jvm.ClassFile.FieldType))) ∈ zT := zT_in 831 (by decide +kernel) rfl
set_option maxRecDepth 10000 in
theorem wd_832 : ((Jvm.Cond.methodLink "Sparkline" (195 : Nat) ({ cls := "Sparkline$Reel", name := "clockAt", desc := "(I)I" } : Jvm.MethodName))) ∈ zT := zT_in 832 (by decide +kernel) rfl
set_option maxRecDepth 10000 in
theorem wd_833 : ((Jvm.Cond.instanceMethod ({ cls := "Sparkline$Reel", name := "clockAt", desc := "(I)I" } : Jvm.MethodName))) ∈ zT := zT_in 833 (by decide +kernel) rfl
set_option maxRecDepth 10000 in
theorem wd_834 : ((Jvm.Cond.selects "Sparkline$Reel" ({ cls := "Sparkline$Reel", name := "clockAt", desc := "(I)I" } : Jvm.MethodName) ({ cls := "Sparkline$Reel", name := "clockAt", desc := "(I)I" } : Jvm.MethodName))) ∈ zT := zT_in 834 (by decide +kernel) rfl
set_option maxRecDepth 10000 in
theorem wd_835 : ((Jvm.Cond.code ({ cls := "Sparkline$Reel", name := "clockAt", desc := "(I)I" } : Jvm.MethodName) prog_9_method_3_code (3 : Nat) (Option.some Jvm.ClassFile.FieldType.int))) ∈ zT := zT_in 835 (by decide +kernel) rfl
set_option maxRecDepth 10000 in
theorem wd_836 : ((Jvm.Cond.methodLink "SparklineLaw" (166 : Nat) ({ cls := "SparklineLaw", name := "ofReel", desc := "(LSparkline;II[J)I" } : Jvm.MethodName))) ∈ zT := zT_in 836 (by decide +kernel) rfl
set_option maxRecDepth 10000 in
theorem wd_837 : ((Jvm.Cond.static ({ cls := "SparklineLaw", name := "ofReel", desc := "(LSparkline;II[J)I" } : Jvm.MethodName))) ∈ zT := zT_in 837 (by decide +kernel) rfl
set_option maxRecDepth 10000 in
theorem wd_838 : ((Jvm.Cond.codeWith ({ cls := "SparklineLaw", name := "ofReel", desc := "(LSparkline;II[J)I" } : Jvm.MethodName) method_17_code (5 : Nat) (Option.some Jvm.ClassFile.FieldType.int) [((0 : Nat), (10 : Nat), (13 : Nat), (13 : Nat))])) ∈ zT := zT_in 838 (by decide +kernel) rfl
set_option maxRecDepth 10000 in
theorem wd_839 : ((Jvm.Cond.methodLink "SparklineLaw" (64 : Nat) ({ cls := "Sparkline", name := "ofReel", desc := "(II)I" } : Jvm.MethodName))) ∈ zT := zT_in 839 (by decide +kernel) rfl
set_option maxRecDepth 10000 in
theorem wd_840 : ((Jvm.Cond.instanceMethod ({ cls := "Sparkline", name := "ofReel", desc := "(II)I" } : Jvm.MethodName))) ∈ zT := zT_in 840 (by decide +kernel) rfl
set_option maxRecDepth 10000 in
theorem wd_841 : ((Jvm.Cond.selects "Sparkline" ({ cls := "Sparkline", name := "ofReel", desc := "(II)I" } : Jvm.MethodName) ({ cls := "Sparkline", name := "ofReel", desc := "(II)I" } : Jvm.MethodName))) ∈ zT := zT_in 841 (by decide +kernel) rfl
set_option maxRecDepth 10000 in
theorem wd_842 : ((Jvm.Cond.code ({ cls := "Sparkline", name := "ofReel", desc := "(II)I" } : Jvm.MethodName) prog_1_method_16_code (4 : Nat) (Option.some Jvm.ClassFile.FieldType.int))) ∈ zT := zT_in 842 (by decide +kernel) rfl
set_option maxRecDepth 10000 in
theorem wd_843 : ((Jvm.Cond.methodLink "SparklineLaw" (169 : Nat) ({ cls := "SparklineLaw", name := "board", desc := "(LSparkline;[J)I" } : Jvm.MethodName))) ∈ zT := zT_in 843 (by decide +kernel) rfl
set_option maxRecDepth 10000 in
theorem wd_844 : ((Jvm.Cond.static ({ cls := "SparklineLaw", name := "board", desc := "(LSparkline;[J)I" } : Jvm.MethodName))) ∈ zT := zT_in 844 (by decide +kernel) rfl
set_option maxRecDepth 10000 in
theorem wd_845 : ((Jvm.Cond.codeWith ({ cls := "SparklineLaw", name := "board", desc := "(LSparkline;[J)I" } : Jvm.MethodName) method_18_code (3 : Nat) (Option.some Jvm.ClassFile.FieldType.int) [((0 : Nat), (8 : Nat), (11 : Nat), (17 : Nat))])) ∈ zT := zT_in 845 (by decide +kernel) rfl
set_option maxRecDepth 10000 in
theorem wd_846 : ((Jvm.Cond.methodLink "SparklineLaw" (67 : Nat) ({ cls := "Sparkline", name := "board", desc := "()I" } : Jvm.MethodName))) ∈ zT := zT_in 846 (by decide +kernel) rfl
set_option maxRecDepth 10000 in
theorem wd_847 : ((Jvm.Cond.instanceMethod ({ cls := "Sparkline", name := "board", desc := "()I" } : Jvm.MethodName))) ∈ zT := zT_in 847 (by decide +kernel) rfl
set_option maxRecDepth 10000 in
theorem wd_848 : ((Jvm.Cond.selects "Sparkline" ({ cls := "Sparkline", name := "board", desc := "()I" } : Jvm.MethodName) ({ cls := "Sparkline", name := "board", desc := "()I" } : Jvm.MethodName))) ∈ zT := zT_in 848 (by decide +kernel) rfl
set_option maxRecDepth 10000 in
theorem wd_849 : ((Jvm.Cond.code ({ cls := "Sparkline", name := "board", desc := "()I" } : Jvm.MethodName) prog_1_method_17_code (1 : Nat) (Option.some Jvm.ClassFile.FieldType.int))) ∈ zT := zT_in 849 (by decide +kernel) rfl
set_option maxRecDepth 10000 in
theorem wd_850 : ((Jvm.Cond.classLink "Sparkline" (204 : Nat) "Sparkline$Board")) ∈ zT := zT_in 850 (by decide +kernel) rfl
set_option maxRecDepth 10000 in
theorem wd_851 : ((Jvm.Cond.instantiable "Sparkline$Board" (5 : Nat))) ∈ zT := zT_in 851 (by decide +kernel) rfl
set_option maxRecDepth 10000 in
theorem wd_852 : ((Jvm.Cond.methodLink "Sparkline" (206 : Nat) ({ cls := "Sparkline$Board", name := "<init>", desc := "()V" } : Jvm.MethodName))) ∈ zT := zT_in 852 (by decide +kernel) rfl
set_option maxRecDepth 10000 in
theorem wd_853 : ((Jvm.Cond.instanceMethod ({ cls := "Sparkline$Board", name := "<init>", desc := "()V" } : Jvm.MethodName))) ∈ zT := zT_in 853 (by decide +kernel) rfl
set_option maxRecDepth 10000 in
theorem wd_854 : ((Jvm.Cond.code ({ cls := "Sparkline$Board", name := "<init>", desc := "()V" } : Jvm.MethodName) prog_2_method_1_code (2 : Nat) (Option.none : Option Jvm.ClassFile.FieldType))) ∈ zT := zT_in 854 (by decide +kernel) rfl
set_option maxRecDepth 10000 in
theorem wd_855 : ((Jvm.Cond.methodLink "Sparkline$Board" (3 : Nat) ({ cls := "java/lang/Object", name := "<init>", desc := "()V" } : Jvm.MethodName))) ∈ zT := zT_in 855 (by decide +kernel) rfl
set_option maxRecDepth 10000 in
theorem wd_856 : ((Jvm.Cond.classLink "Sparkline$Board" (9 : Nat) "java/util/ArrayList")) ∈ zT := zT_in 856 (by decide +kernel) rfl
set_option maxRecDepth 10000 in
theorem wd_857 : ((Jvm.Cond.methodLink "Sparkline$Board" (11 : Nat) ({ cls := "java/util/ArrayList", name := "<init>", desc := "()V" } : Jvm.MethodName))) ∈ zT := zT_in 857 (by decide +kernel) rfl
set_option maxRecDepth 10000 in
theorem wd_858 : ((Jvm.Cond.classLink "Sparkline$Board" (18 : Nat) "Sparkline$Row")) ∈ zT := zT_in 858 (by decide +kernel) rfl
set_option maxRecDepth 10000 in
theorem wd_859 : ((Jvm.Cond.methodLink "Sparkline$Board" (20 : Nat) ({ cls := "Sparkline$Row", name := "<init>", desc := "(I)V" } : Jvm.MethodName))) ∈ zT := zT_in 859 (by decide +kernel) rfl
set_option maxRecDepth 10000 in
theorem wd_860 : ((Jvm.Cond.classLink "Sparkline$Board" (27 : Nat) "Sparkline$Slot")) ∈ zT := zT_in 860 (by decide +kernel) rfl
set_option maxRecDepth 10000 in
theorem wd_861 : ((Jvm.Cond.instantiable "Sparkline$Slot" (8 : Nat))) ∈ zT := zT_in 861 (by decide +kernel) rfl
set_option maxRecDepth 10000 in
theorem wd_863 : ((Jvm.Cond.instanceMethod ({ cls := "Sparkline$Slot", name := "<init>", desc := "()V" } : Jvm.MethodName))) ∈ zT := zT_in 863 (by decide +kernel) rfl
set_option maxRecDepth 10000 in
theorem wd_864 : ((Jvm.Cond.code ({ cls := "Sparkline$Slot", name := "<init>", desc := "()V" } : Jvm.MethodName) prog_11_method_1_code (1 : Nat) (Option.none : Option Jvm.ClassFile.FieldType))) ∈ zT := zT_in 864 (by decide +kernel) rfl
set_option maxRecDepth 10000 in
theorem wd_865 : ((Jvm.Cond.methodLink "Sparkline$Slot" (3 : Nat) ({ cls := "java/lang/Object", name := "<init>", desc := "()V" } : Jvm.MethodName))) ∈ zT := zT_in 865 (by decide +kernel) rfl
set_option maxRecDepth 10000 in
theorem wd_866 : ((Jvm.Cond.fieldLink "Sparkline$Slot" (9 : Nat) "Sparkline$Slot" "part" "I")) ∈ zT := zT_in 866 (by decide +kernel) rfl
set_option maxRecDepth 10000 in
theorem wd_867 : ((Jvm.Cond.fieldLink "Sparkline" (275 : Nat) "Sparkline$Slot" "part" "I")) ∈ zT := zT_in 867 (by decide +kernel) rfl
set_option maxRecDepth 10000 in
theorem wd_868 : ((Jvm.Cond.fieldLink "Sparkline$Slot" (15 : Nat) "Sparkline$Slot" "reel" "I")) ∈ zT := zT_in 868 (by decide +kernel) rfl
set_option maxRecDepth 10000 in
theorem wd_869 : ((Jvm.Cond.fieldLink "Sparkline$Board" (88 : Nat) "Sparkline$Slot" "reel" "I")) ∈ zT := zT_in 869 (by decide +kernel) rfl
set_option maxRecDepth 10000 in
theorem wd_870 : ((Jvm.Cond.fieldLink "Sparkline" (282 : Nat) "Sparkline$Slot" "reel" "I")) ∈ zT := zT_in 870 (by decide +kernel) rfl
set_option maxRecDepth 10000 in
theorem wd_871 : ((Jvm.Cond.fieldLink "Sparkline$Slot" (18 : Nat) "Sparkline$Slot" "minute" "I")) ∈ zT := zT_in 871 (by decide +kernel) rfl
set_option maxRecDepth 10000 in
theorem wd_872 : ((Jvm.Cond.fieldLink "Sparkline" (285 : Nat) "Sparkline$Slot" "minute" "I")) ∈ zT := zT_in 872 (by decide +kernel) rfl
set_option maxRecDepth 10000 in
theorem wd_873 : ((Jvm.Cond.fieldLink "Sparkline$Slot" (21 : Nat) "Sparkline$Slot" "fault" "I")) ∈ zT := zT_in 873 (by decide +kernel) rfl
set_option maxRecDepth 10000 in
theorem wd_874 : ((Jvm.Cond.fieldLink "Sparkline$Board" (81 : Nat) "Sparkline$Slot" "fault" "I")) ∈ zT := zT_in 874 (by decide +kernel) rfl
set_option maxRecDepth 10000 in
theorem wd_875 : ((Jvm.Cond.fieldLink "Sparkline" (254 : Nat) "Sparkline$Slot" "fault" "I")) ∈ zT := zT_in 875 (by decide +kernel) rfl
set_option maxRecDepth 10000 in
theorem wd_876 : ((Jvm.Cond.fieldLink "Sparkline$Slot" (54 : Nat) "Sparkline$Slot" "isFound" "Z")) ∈ zT := zT_in 876 (by decide +kernel) rfl
set_option maxRecDepth 10000 in
theorem wd_877 : ((Jvm.Cond.fieldLink "Sparkline$Board" (85 : Nat) "Sparkline$Slot" "isFound" "Z")) ∈ zT := zT_in 877 (by decide +kernel) rfl
set_option maxRecDepth 10000 in
theorem wd_878 : ((Jvm.Cond.fieldLink "Sparkline" (257 : Nat) "Sparkline$Slot" "isFound" "Z")) ∈ zT := zT_in 878 (by decide +kernel) rfl
set_option maxRecDepth 10000 in
theorem wd_879 : ((Jvm.Cond.fieldLink "Sparkline$Slot" (58 : Nat) "Sparkline$Slot" "isRepaired" "Z")) ∈ zT := zT_in 879 (by decide +kernel) rfl
set_option maxRecDepth 10000 in
theorem wd_880 : ((Jvm.Cond.fieldLink "Sparkline" (272 : Nat) "Sparkline$Slot" "isRepaired" "Z")) ∈ zT := zT_in 880 (by decide +kernel) rfl
set_option maxRecDepth 10000 in
theorem wd_881 : ((Jvm.Cond.fieldLink "Sparkline$Slot" (42 : Nat) "Sparkline$Slot" "low" "I")) ∈ zT := zT_in 881 (by decide +kernel) rfl
set_option maxRecDepth 10000 in
theorem wd_882 : ((Jvm.Cond.fieldLink "Sparkline$Slot" (48 : Nat) "Sparkline$Slot" "high" "I")) ∈ zT := zT_in 882 (by decide +kernel) rfl
set_option maxRecDepth 10000 in
theorem wd_883 : ((Jvm.Cond.lays "Sparkline$Slot" "Sparkline$Slot" "part" "I")) ∈ zT := zT_in 883 (by decide +kernel) rfl
set_option maxRecDepth 10000 in
theorem wd_885 : ((Jvm.Cond.lays "Sparkline$Slot" "Sparkline$Slot" "reel" "I")) ∈ zT := zT_in 885 (by decide +kernel) rfl
set_option maxRecDepth 10000 in
theorem wd_887 : ((Jvm.Cond.lays "Sparkline$Slot" "Sparkline$Slot" "minute" "I")) ∈ zT := zT_in 887 (by decide +kernel) rfl
set_option maxRecDepth 10000 in
theorem wd_889 : ((Jvm.Cond.lays "Sparkline$Slot" "Sparkline$Slot" "fault" "I")) ∈ zT := zT_in 889 (by decide +kernel) rfl
set_option maxRecDepth 10000 in
theorem wd_891 : ((Jvm.Cond.lays "Sparkline$Slot" "Sparkline$Slot" "isFound" "Z")) ∈ zT := zT_in 891 (by decide +kernel) rfl
set_option maxRecDepth 10000 in
theorem wd_893 : ((Jvm.Cond.lays "Sparkline$Slot" "Sparkline$Slot" "isRepaired" "Z")) ∈ zT := zT_in 893 (by decide +kernel) rfl
set_option maxRecDepth 10000 in
theorem wd_895 : ((Jvm.Cond.lays "Sparkline$Slot" "Sparkline$Slot" "low" "I")) ∈ zT := zT_in 895 (by decide +kernel) rfl
set_option maxRecDepth 10000 in
theorem wd_897 : ((Jvm.Cond.lays "Sparkline$Slot" "Sparkline$Slot" "high" "I")) ∈ zT := zT_in 897 (by decide +kernel) rfl
set_option maxRecDepth 10000 in
theorem wd_900 : ((Jvm.Cond.methodLink "Sparkline$Board" (30 : Nat) ({ cls := "java/util/ArrayList", name := "add", desc := "(Ljava/lang/Object;)Z" } : Jvm.MethodName))) ∈ zT := zT_in 900 (by decide +kernel) rfl
set_option maxRecDepth 10000 in
theorem wd_901 : ((Jvm.Cond.fieldLink "Sparkline$Board" (67 : Nat) "Sparkline$Board" "isSoldered" "Z")) ∈ zT := zT_in 901 (by decide +kernel) rfl
set_option maxRecDepth 10000 in
theorem wd_902 : ((Jvm.Cond.fieldLink "Sparkline" (215 : Nat) "Sparkline$Board" "isSoldered" "Z")) ∈ zT := zT_in 902 (by decide +kernel) rfl
set_option maxRecDepth 10000 in
theorem wd_903 : ((Jvm.Cond.fieldLink "Sparkline$Board" (78 : Nat) "Sparkline$Board" "isTested" "Z")) ∈ zT := zT_in 903 (by decide +kernel) rfl
set_option maxRecDepth 10000 in
theorem wd_904 : ((Jvm.Cond.fieldLink "Sparkline" (279 : Nat) "Sparkline$Board" "isTested" "Z")) ∈ zT := zT_in 904 (by decide +kernel) rfl
set_option maxRecDepth 10000 in
theorem wd_905 : ((Jvm.Cond.fieldLink "Sparkline" (251 : Nat) "Sparkline$Board" "isShipped" "Z")) ∈ zT := zT_in 905 (by decide +kernel) rfl
set_option maxRecDepth 10000 in
theorem wd_906 : ((Jvm.Cond.fieldLink "Sparkline$Board" (12 : Nat) "Sparkline$Board" "slots" "Ljava/util/ArrayList;")) ∈ zT := zT_in 906 (by decide +kernel) rfl
set_option maxRecDepth 10000 in
theorem wd_907 : ((Jvm.Cond.fieldLink "Sparkline$Board" (23 : Nat) "Sparkline$Board" "heats" "LSparkline$Row;")) ∈ zT := zT_in 907 (by decide +kernel) rfl
set_option maxRecDepth 10000 in
theorem wd_908 : ((Jvm.Cond.lays "Sparkline$Board" "Sparkline$Board" "isSoldered" "Z")) ∈ zT := zT_in 908 (by decide +kernel) rfl
set_option maxRecDepth 10000 in
theorem wd_910 : ((Jvm.Cond.lays "Sparkline$Board" "Sparkline$Board" "isTested" "Z")) ∈ zT := zT_in 910 (by decide +kernel) rfl
set_option maxRecDepth 10000 in
theorem wd_912 : ((Jvm.Cond.lays "Sparkline$Board" "Sparkline$Board" "isShipped" "Z")) ∈ zT := zT_in 912 (by decide +kernel) rfl
set_option maxRecDepth 10000 in
theorem wd_914 : ((Jvm.Cond.laysFinal "Sparkline$Board" "Sparkline$Board" "slots" "Ljava/util/ArrayList;")) ∈ zT := zT_in 914 (by decide +kernel) rfl
set_option maxRecDepth 10000 in
theorem wd_916 : ((Jvm.Cond.laysFinal "Sparkline$Board" "Sparkline$Board" "heats" "LSparkline$Row;")) ∈ zT := zT_in 916 (by decide +kernel) rfl
set_option maxRecDepth 10000 in
theorem wd_919 : ((Jvm.Cond.methodLink "SparklineLaw" (173 : Nat) ({ cls := "SparklineLaw", name := "place", desc := "(LSparkline;III[J)I" } : Jvm.MethodName))) ∈ zT := zT_in 919 (by decide +kernel) rfl
set_option maxRecDepth 10000 in
theorem wd_920 : ((Jvm.Cond.static ({ cls := "SparklineLaw", name := "place", desc := "(LSparkline;III[J)I" } : Jvm.MethodName))) ∈ zT := zT_in 920 (by decide +kernel) rfl
set_option maxRecDepth 10000 in
theorem wd_921 : ((Jvm.Cond.codeWith ({ cls := "SparklineLaw", name := "place", desc := "(LSparkline;III[J)I" } : Jvm.MethodName) method_19_code (6 : Nat) (Option.some Jvm.ClassFile.FieldType.int) [((0 : Nat), (12 : Nat), (15 : Nat), (13 : Nat)), ((0 : Nat), (12 : Nat), (19 : Nat), (17 : Nat))])) ∈ zT := zT_in 921 (by decide +kernel) rfl
set_option maxRecDepth 10000 in
theorem wd_922 : ((Jvm.Cond.methodLink "SparklineLaw" (71 : Nat) ({ cls := "Sparkline", name := "place", desc := "(III)I" } : Jvm.MethodName))) ∈ zT := zT_in 922 (by decide +kernel) rfl
set_option maxRecDepth 10000 in
theorem wd_923 : ((Jvm.Cond.instanceMethod ({ cls := "Sparkline", name := "place", desc := "(III)I" } : Jvm.MethodName))) ∈ zT := zT_in 923 (by decide +kernel) rfl
set_option maxRecDepth 10000 in
theorem wd_924 : ((Jvm.Cond.selects "Sparkline" ({ cls := "Sparkline", name := "place", desc := "(III)I" } : Jvm.MethodName) ({ cls := "Sparkline", name := "place", desc := "(III)I" } : Jvm.MethodName))) ∈ zT := zT_in 924 (by decide +kernel) rfl
set_option maxRecDepth 10000 in
theorem wd_925 : ((Jvm.Cond.code ({ cls := "Sparkline", name := "place", desc := "(III)I" } : Jvm.MethodName) prog_1_method_18_code (7 : Nat) (Option.some Jvm.ClassFile.FieldType.int))) ∈ zT := zT_in 925 (by decide +kernel) rfl
set_option maxRecDepth 10000 in
theorem wd_926 : ((Jvm.Cond.methodLink "Sparkline" (207 : Nat) ({ cls := "Sparkline", name := "boardAt", desc := "(I)LSparkline$Board;" } : Jvm.MethodName))) ∈ zT := zT_in 926 (by decide +kernel) rfl
set_option maxRecDepth 10000 in
theorem wd_928 : ((Jvm.Cond.instanceMethod ({ cls := "Sparkline", name := "boardAt", desc := "(I)LSparkline$Board;" } : Jvm.MethodName))) ∈ zT := zT_in 928 (by decide +kernel) rfl
set_option maxRecDepth 10000 in
theorem wd_929 : ((Jvm.Cond.code ({ cls := "Sparkline", name := "boardAt", desc := "(I)LSparkline$Board;" } : Jvm.MethodName) prog_1_method_39_code (2 : Nat) (Option.some (Jvm.ClassFile.FieldType.object "Sparkline$Board")))) ∈ zT := zT_in 929 (by decide +kernel) rfl
set_option maxRecDepth 10000 in
theorem wd_930 : ((Jvm.Cond.methodLink "Sparkline" (211 : Nat) ({ cls := "Sparkline$Board", name := "slotAt", desc := "(I)LSparkline$Slot;" } : Jvm.MethodName))) ∈ zT := zT_in 930 (by decide +kernel) rfl
set_option maxRecDepth 10000 in
theorem wd_931 : ((Jvm.Cond.instanceMethod ({ cls := "Sparkline$Board", name := "slotAt", desc := "(I)LSparkline$Slot;" } : Jvm.MethodName))) ∈ zT := zT_in 931 (by decide +kernel) rfl
set_option maxRecDepth 10000 in
theorem wd_932 : ((Jvm.Cond.selects "Sparkline$Board" ({ cls := "Sparkline$Board", name := "slotAt", desc := "(I)LSparkline$Slot;" } : Jvm.MethodName) ({ cls := "Sparkline$Board", name := "slotAt", desc := "(I)LSparkline$Slot;" } : Jvm.MethodName))) ∈ zT := zT_in 932 (by decide +kernel) rfl
set_option maxRecDepth 10000 in
theorem wd_933 : ((Jvm.Cond.code ({ cls := "Sparkline$Board", name := "slotAt", desc := "(I)LSparkline$Slot;" } : Jvm.MethodName) prog_2_method_2_code (2 : Nat) (Option.some (Jvm.ClassFile.FieldType.object "Sparkline$Slot")))) ∈ zT := zT_in 933 (by decide +kernel) rfl
set_option maxRecDepth 10000 in
theorem wd_934 : ((Jvm.Cond.methodLink "Sparkline$Board" (34 : Nat) ({ cls := "java/util/ArrayList", name := "size", desc := "()I" } : Jvm.MethodName))) ∈ zT := zT_in 934 (by decide +kernel) rfl
set_option maxRecDepth 10000 in
theorem wd_936 : ((Jvm.Cond.classLink "Sparkline$Board" (42 : Nat) "java/lang/IndexOutOfBoundsException")) ∈ zT := zT_in 936 (by decide +kernel) rfl
set_option maxRecDepth 10000 in
theorem wd_938 : ((Jvm.Cond.methodLink "Sparkline$Board" (45 : Nat) ({ cls := "java/util/ArrayList", name := "get", desc := "(I)Ljava/lang/Object;" } : Jvm.MethodName))) ∈ zT := zT_in 938 (by decide +kernel) rfl
set_option maxRecDepth 10000 in
theorem wd_939 : ((Jvm.Cond.methodLink "Sparkline" (218 : Nat) ({ cls := "Sparkline$Slot", name := "hasPart", desc := "()Z" } : Jvm.MethodName))) ∈ zT := zT_in 939 (by decide +kernel) rfl
set_option maxRecDepth 10000 in
theorem wd_940 : ((Jvm.Cond.instanceMethod ({ cls := "Sparkline$Slot", name := "hasPart", desc := "()Z" } : Jvm.MethodName))) ∈ zT := zT_in 940 (by decide +kernel) rfl
set_option maxRecDepth 10000 in
theorem wd_941 : ((Jvm.Cond.selects "Sparkline$Slot" ({ cls := "Sparkline$Slot", name := "hasPart", desc := "()Z" } : Jvm.MethodName) ({ cls := "Sparkline$Slot", name := "hasPart", desc := "()Z" } : Jvm.MethodName))) ∈ zT := zT_in 941 (by decide +kernel) rfl
set_option maxRecDepth 10000 in
theorem wd_942 : ((Jvm.Cond.code ({ cls := "Sparkline$Slot", name := "hasPart", desc := "()Z" } : Jvm.MethodName) prog_11_method_2_code (1 : Nat) (Option.some Jvm.ClassFile.FieldType.boolean))) ∈ zT := zT_in 942 (by decide +kernel) rfl
set_option maxRecDepth 10000 in
theorem wd_943 : ((Jvm.Cond.methodLink "Sparkline" (224 : Nat) ({ cls := "Sparkline$Reel", name := "gives", desc := "(I)Z" } : Jvm.MethodName))) ∈ zT := zT_in 943 (by decide +kernel) rfl
set_option maxRecDepth 10000 in
theorem wd_944 : ((Jvm.Cond.instanceMethod ({ cls := "Sparkline$Reel", name := "gives", desc := "(I)Z" } : Jvm.MethodName))) ∈ zT := zT_in 944 (by decide +kernel) rfl
set_option maxRecDepth 10000 in
theorem wd_945 : ((Jvm.Cond.selects "Sparkline$Reel" ({ cls := "Sparkline$Reel", name := "gives", desc := "(I)Z" } : Jvm.MethodName) ({ cls := "Sparkline$Reel", name := "gives", desc := "(I)Z" } : Jvm.MethodName))) ∈ zT := zT_in 945 (by decide +kernel) rfl
set_option maxRecDepth 10000 in
theorem wd_946 : ((Jvm.Cond.code ({ cls := "Sparkline$Reel", name := "gives", desc := "(I)Z" } : Jvm.MethodName) prog_9_method_4_code (2 : Nat) (Option.some Jvm.ClassFile.FieldType.boolean))) ∈ zT := zT_in 946 (by decide +kernel) rfl
set_option maxRecDepth 10000 in
theorem wd_947 : ((Jvm.Cond.methodLink "Sparkline$Reel" (28 : Nat) ({ cls := "Sparkline$Reel", name := "clockAt", desc := "(I)I" } : Jvm.MethodName))) ∈ zT := zT_in 947 (by decide +kernel) rfl
set_option maxRecDepth 10000 in
theorem wd_948 : ((Jvm.Cond.methodLink "Sparkline" (227 : Nat) ({ cls := "Sparkline$Slot", name := "fill", desc := "(ILSparkline$Reel;I)V" } : Jvm.MethodName))) ∈ zT := zT_in 948 (by decide +kernel) rfl
set_option maxRecDepth 10000 in
theorem wd_949 : ((Jvm.Cond.instanceMethod ({ cls := "Sparkline$Slot", name := "fill", desc := "(ILSparkline$Reel;I)V" } : Jvm.MethodName))) ∈ zT := zT_in 949 (by decide +kernel) rfl
set_option maxRecDepth 10000 in
theorem wd_950 : ((Jvm.Cond.selects "Sparkline$Slot" ({ cls := "Sparkline$Slot", name := "fill", desc := "(ILSparkline$Reel;I)V" } : Jvm.MethodName) ({ cls := "Sparkline$Slot", name := "fill", desc := "(ILSparkline$Reel;I)V" } : Jvm.MethodName))) ∈ zT := zT_in 950 (by decide +kernel) rfl
set_option maxRecDepth 10000 in
theorem wd_951 : ((Jvm.Cond.code ({ cls := "Sparkline$Slot", name := "fill", desc := "(ILSparkline$Reel;I)V" } : Jvm.MethodName) prog_11_method_3_code (4 : Nat) (Option.none : Option Jvm.ClassFile.FieldType))) ∈ zT := zT_in 951 (by decide +kernel) rfl
set_option maxRecDepth 10000 in
theorem wd_952 : ((Jvm.Cond.methodLink "SparklineLaw" (176 : Nat) ({ cls := "SparklineLaw", name := "limits", desc := "(LSparkline;ZIII)I" } : Jvm.MethodName))) ∈ zT := zT_in 952 (by decide +kernel) rfl
set_option maxRecDepth 10000 in
theorem wd_953 : ((Jvm.Cond.static ({ cls := "SparklineLaw", name := "limits", desc := "(LSparkline;ZIII)I" } : Jvm.MethodName))) ∈ zT := zT_in 953 (by decide +kernel) rfl
set_option maxRecDepth 10000 in
theorem wd_954 : ((Jvm.Cond.codeWith ({ cls := "SparklineLaw", name := "limits", desc := "(LSparkline;ZIII)I" } : Jvm.MethodName) method_20_code (6 : Nat) (Option.some Jvm.ClassFile.FieldType.int) [((0 : Nat), (9 : Nat), (12 : Nat), (13 : Nat)), ((0 : Nat), (9 : Nat), (16 : Nat), (15 : Nat))])) ∈ zT := zT_in 954 (by decide +kernel) rfl
set_option maxRecDepth 10000 in
theorem wd_955 : ((Jvm.Cond.methodLink "SparklineLaw" (74 : Nat) ({ cls := "Sparkline", name := "limits", desc := "(ZIII)V" } : Jvm.MethodName))) ∈ zT := zT_in 955 (by decide +kernel) rfl
set_option maxRecDepth 10000 in
theorem wd_956 : ((Jvm.Cond.instanceMethod ({ cls := "Sparkline", name := "limits", desc := "(ZIII)V" } : Jvm.MethodName))) ∈ zT := zT_in 956 (by decide +kernel) rfl
set_option maxRecDepth 10000 in
theorem wd_957 : ((Jvm.Cond.selects "Sparkline" ({ cls := "Sparkline", name := "limits", desc := "(ZIII)V" } : Jvm.MethodName) ({ cls := "Sparkline", name := "limits", desc := "(ZIII)V" } : Jvm.MethodName))) ∈ zT := zT_in 957 (by decide +kernel) rfl
set_option maxRecDepth 10000 in
theorem wd_958 : ((Jvm.Cond.code ({ cls := "Sparkline", name := "limits", desc := "(ZIII)V" } : Jvm.MethodName) prog_1_method_19_code (5 : Nat) (Option.none : Option Jvm.ClassFile.FieldType))) ∈ zT := zT_in 958 (by decide +kernel) rfl
set_option maxRecDepth 10000 in
theorem wd_959 : ((Jvm.Cond.methodLink "Sparkline" (235 : Nat) ({ cls := "Sparkline$Row", name := "put", desc := "(II)V" } : Jvm.MethodName))) ∈ zT := zT_in 959 (by decide +kernel) rfl
set_option maxRecDepth 10000 in
theorem wd_960 : ((Jvm.Cond.methodLink "SparklineLaw" (180 : Nat) ({ cls := "SparklineLaw", name := "solder", desc := "(LSparkline;I[J)I" } : Jvm.MethodName))) ∈ zT := zT_in 960 (by decide +kernel) rfl
set_option maxRecDepth 10000 in
theorem wd_961 : ((Jvm.Cond.static ({ cls := "SparklineLaw", name := "solder", desc := "(LSparkline;I[J)I" } : Jvm.MethodName))) ∈ zT := zT_in 961 (by decide +kernel) rfl
set_option maxRecDepth 10000 in
theorem wd_962 : ((Jvm.Cond.codeWith ({ cls := "SparklineLaw", name := "solder", desc := "(LSparkline;I[J)I" } : Jvm.MethodName) method_21_code (4 : Nat) (Option.some Jvm.ClassFile.FieldType.int) [((0 : Nat), (9 : Nat), (12 : Nat), (13 : Nat)), ((0 : Nat), (9 : Nat), (15 : Nat), (17 : Nat))])) ∈ zT := zT_in 962 (by decide +kernel) rfl
set_option maxRecDepth 10000 in
theorem wd_963 : ((Jvm.Cond.methodLink "SparklineLaw" (78 : Nat) ({ cls := "Sparkline", name := "solder", desc := "(I)I" } : Jvm.MethodName))) ∈ zT := zT_in 963 (by decide +kernel) rfl
set_option maxRecDepth 10000 in
theorem wd_964 : ((Jvm.Cond.instanceMethod ({ cls := "Sparkline", name := "solder", desc := "(I)I" } : Jvm.MethodName))) ∈ zT := zT_in 964 (by decide +kernel) rfl
set_option maxRecDepth 10000 in
theorem wd_965 : ((Jvm.Cond.selects "Sparkline" ({ cls := "Sparkline", name := "solder", desc := "(I)I" } : Jvm.MethodName) ({ cls := "Sparkline", name := "solder", desc := "(I)I" } : Jvm.MethodName))) ∈ zT := zT_in 965 (by decide +kernel) rfl
set_option maxRecDepth 10000 in
theorem wd_966 : ((Jvm.Cond.code ({ cls := "Sparkline", name := "solder", desc := "(I)I" } : Jvm.MethodName) prog_1_method_20_code (3 : Nat) (Option.some Jvm.ClassFile.FieldType.int))) ∈ zT := zT_in 966 (by decide +kernel) rfl
set_option maxRecDepth 10000 in
theorem wd_967 : ((Jvm.Cond.methodLink "Sparkline" (247 : Nat) ({ cls := "Sparkline$Board", name := "goThrough", desc := "(LSparkline$Oven;)I" } : Jvm.MethodName))) ∈ zT := zT_in 967 (by decide +kernel) rfl
set_option maxRecDepth 10000 in
theorem wd_968 : ((Jvm.Cond.instanceMethod ({ cls := "Sparkline$Board", name := "goThrough", desc := "(LSparkline$Oven;)I" } : Jvm.MethodName))) ∈ zT := zT_in 968 (by decide +kernel) rfl
set_option maxRecDepth 10000 in
theorem wd_969 : ((Jvm.Cond.selects "Sparkline$Board" ({ cls := "Sparkline$Board", name := "goThrough", desc := "(LSparkline$Oven;)I" } : Jvm.MethodName) ({ cls := "Sparkline$Board", name := "goThrough", desc := "(LSparkline$Oven;)I" } : Jvm.MethodName))) ∈ zT := zT_in 969 (by decide +kernel) rfl
set_option maxRecDepth 10000 in
theorem wd_970 : ((Jvm.Cond.code ({ cls := "Sparkline$Board", name := "goThrough", desc := "(LSparkline$Oven;)I" } : Jvm.MethodName) prog_2_method_5_code (5 : Nat) (Option.some Jvm.ClassFile.FieldType.int))) ∈ zT := zT_in 970 (by decide +kernel) rfl
set_option maxRecDepth 10000 in
theorem wd_971 : ((Jvm.Cond.methodLink "Sparkline$Board" (63 : Nat) ({ cls := "Sparkline$Row", name := "copyFrom", desc := "(LSparkline$Row;)V" } : Jvm.MethodName))) ∈ zT := zT_in 971 (by decide +kernel) rfl
set_option maxRecDepth 10000 in
theorem wd_972 : ((Jvm.Cond.instanceMethod ({ cls := "Sparkline$Row", name := "copyFrom", desc := "(LSparkline$Row;)V" } : Jvm.MethodName))) ∈ zT := zT_in 972 (by decide +kernel) rfl
set_option maxRecDepth 10000 in
theorem wd_973 : ((Jvm.Cond.selects "Sparkline$Row" ({ cls := "Sparkline$Row", name := "copyFrom", desc := "(LSparkline$Row;)V" } : Jvm.MethodName) ({ cls := "Sparkline$Row", name := "copyFrom", desc := "(LSparkline$Row;)V" } : Jvm.MethodName))) ∈ zT := zT_in 973 (by decide +kernel) rfl
set_option maxRecDepth 10000 in
theorem wd_974 : ((Jvm.Cond.code ({ cls := "Sparkline$Row", name := "copyFrom", desc := "(LSparkline$Row;)V" } : Jvm.MethodName) prog_10_method_5_code (3 : Nat) (Option.none : Option Jvm.ClassFile.FieldType))) ∈ zT := zT_in 974 (by decide +kernel) rfl
set_option maxRecDepth 10000 in
theorem wd_975 : ((Jvm.Cond.methodLink "Sparkline$Row" (13 : Nat) ({ cls := "Sparkline$Row", name := "at", desc := "(I)I" } : Jvm.MethodName))) ∈ zT := zT_in 975 (by decide +kernel) rfl
set_option maxRecDepth 10000 in
theorem wd_976 : ((Jvm.Cond.methodLink "Sparkline$Board" (71 : Nat) ({ cls := "Sparkline$Board", name := "peak", desc := "()I" } : Jvm.MethodName))) ∈ zT := zT_in 976 (by decide +kernel) rfl
set_option maxRecDepth 10000 in
theorem wd_977 : ((Jvm.Cond.instanceMethod ({ cls := "Sparkline$Board", name := "peak", desc := "()I" } : Jvm.MethodName))) ∈ zT := zT_in 977 (by decide +kernel) rfl
set_option maxRecDepth 10000 in
theorem wd_978 : ((Jvm.Cond.selects "Sparkline$Board" ({ cls := "Sparkline$Board", name := "peak", desc := "()I" } : Jvm.MethodName) ({ cls := "Sparkline$Board", name := "peak", desc := "()I" } : Jvm.MethodName))) ∈ zT := zT_in 978 (by decide +kernel) rfl
set_option maxRecDepth 10000 in
theorem wd_979 : ((Jvm.Cond.code ({ cls := "Sparkline$Board", name := "peak", desc := "()I" } : Jvm.MethodName) prog_2_method_4_code (1 : Nat) (Option.some Jvm.ClassFile.FieldType.int))) ∈ zT := zT_in 979 (by decide +kernel) rfl
set_option maxRecDepth 10000 in
theorem wd_980 : ((Jvm.Cond.methodLink "Sparkline$Board" (53 : Nat) ({ cls := "Sparkline$Board", name := "mass", desc := "()I" } : Jvm.MethodName))) ∈ zT := zT_in 980 (by decide +kernel) rfl
set_option maxRecDepth 10000 in
theorem wd_982 : ((Jvm.Cond.instanceMethod ({ cls := "Sparkline$Board", name := "mass", desc := "()I" } : Jvm.MethodName))) ∈ zT := zT_in 982 (by decide +kernel) rfl
set_option maxRecDepth 10000 in
theorem wd_983 : ((Jvm.Cond.code ({ cls := "Sparkline$Board", name := "mass", desc := "()I" } : Jvm.MethodName) prog_2_method_3_code (3 : Nat) (Option.some Jvm.ClassFile.FieldType.int))) ∈ zT := zT_in 983 (by decide +kernel) rfl
set_option maxRecDepth 10000 in
theorem wd_984 : ((Jvm.Cond.methodLink "Sparkline$Board" (49 : Nat) ({ cls := "Sparkline$Slot", name := "hasPart", desc := "()Z" } : Jvm.MethodName))) ∈ zT := zT_in 984 (by decide +kernel) rfl
set_option maxRecDepth 10000 in
theorem wd_985 : ((Jvm.Cond.methodLink "Sparkline$Board" (56 : Nat) ({ cls := "Sparkline$Oven", name := "peakOf", desc := "(LSparkline$Row;I)I" } : Jvm.MethodName))) ∈ zT := zT_in 985 (by decide +kernel) rfl
set_option maxRecDepth 10000 in
theorem wd_986 : ((Jvm.Cond.static ({ cls := "Sparkline$Oven", name := "peakOf", desc := "(LSparkline$Row;I)I" } : Jvm.MethodName))) ∈ zT := zT_in 986 (by decide +kernel) rfl
set_option maxRecDepth 10000 in
theorem wd_987 : ((Jvm.Cond.code ({ cls := "Sparkline$Oven", name := "peakOf", desc := "(LSparkline$Row;I)I" } : Jvm.MethodName) prog_8_method_2_code (6 : Nat) (Option.some Jvm.ClassFile.FieldType.int))) ∈ zT := zT_in 987 (by decide +kernel) rfl
set_option maxRecDepth 10000 in
theorem wd_988 : ((Jvm.Cond.methodLink "Sparkline$Oven" (33 : Nat) ({ cls := "Sparkline$Row", name := "at", desc := "(I)I" } : Jvm.MethodName))) ∈ zT := zT_in 988 (by decide +kernel) rfl
set_option maxRecDepth 10000 in
theorem wd_990 : ((Jvm.Cond.methodLink "Sparkline$Oven" (41 : Nat) ({ cls := "java/lang/Math", name := "max", desc := "(II)I" } : Jvm.MethodName))) ∈ zT := zT_in 990 (by decide +kernel) rfl
set_option maxRecDepth 10000 in
theorem wd_991 : ((Jvm.Cond.methodLink "Sparkline$Board" (74 : Nat) ({ cls := "Sparkline$Slot", name := "join", desc := "(LSparkline$Oven;I)V" } : Jvm.MethodName))) ∈ zT := zT_in 991 (by decide +kernel) rfl
set_option maxRecDepth 10000 in
theorem wd_992 : ((Jvm.Cond.instanceMethod ({ cls := "Sparkline$Slot", name := "join", desc := "(LSparkline$Oven;I)V" } : Jvm.MethodName))) ∈ zT := zT_in 992 (by decide +kernel) rfl
set_option maxRecDepth 10000 in
theorem wd_993 : ((Jvm.Cond.selects "Sparkline$Slot" ({ cls := "Sparkline$Slot", name := "join", desc := "(LSparkline$Oven;I)V" } : Jvm.MethodName) ({ cls := "Sparkline$Slot", name := "join", desc := "(LSparkline$Oven;I)V" } : Jvm.MethodName))) ∈ zT := zT_in 993 (by decide +kernel) rfl
set_option maxRecDepth 10000 in
theorem wd_994 : ((Jvm.Cond.code ({ cls := "Sparkline$Slot", name := "join", desc := "(LSparkline$Oven;I)V" } : Jvm.MethodName) prog_11_method_4_code (3 : Nat) (Option.none : Option Jvm.ClassFile.FieldType))) ∈ zT := zT_in 994 (by decide +kernel) rfl
set_option maxRecDepth 10000 in
theorem wd_995 : ((Jvm.Cond.methodLink "Sparkline$Slot" (36 : Nat) ({ cls := "Sparkline$Row", name := "at", desc := "(I)I" } : Jvm.MethodName))) ∈ zT := zT_in 995 (by decide +kernel) rfl
set_option maxRecDepth 10000 in
theorem wd_996 : ((Jvm.Cond.methodLink "Sparkline$Slot" (51 : Nat) ({ cls := "Sparkline$Slot", name := "jointFor", desc := "(I)I" } : Jvm.MethodName))) ∈ zT := zT_in 996 (by decide +kernel) rfl
set_option maxRecDepth 10000 in
theorem wd_997 : ((Jvm.Cond.instanceMethod ({ cls := "Sparkline$Slot", name := "jointFor", desc := "(I)I" } : Jvm.MethodName))) ∈ zT := zT_in 997 (by decide +kernel) rfl
set_option maxRecDepth 10000 in
theorem wd_998 : ((Jvm.Cond.selects "Sparkline$Slot" ({ cls := "Sparkline$Slot", name := "jointFor", desc := "(I)I" } : Jvm.MethodName) ({ cls := "Sparkline$Slot", name := "jointFor", desc := "(I)I" } : Jvm.MethodName))) ∈ zT := zT_in 998 (by decide +kernel) rfl
set_option maxRecDepth 10000 in
theorem wd_999 : ((Jvm.Cond.code ({ cls := "Sparkline$Slot", name := "jointFor", desc := "(I)I" } : Jvm.MethodName) prog_11_method_5_code (2 : Nat) (Option.some Jvm.ClassFile.FieldType.int))) ∈ zT := zT_in 999 (by decide +kernel) rfl
set_option maxRecDepth 10000 in
theorem wd_1000 : ((Jvm.Cond.methodLink "SparklineLaw" (183 : Nat) ({ cls := "SparklineLaw", name := "flaw", desc := "(LSparkline;II)I" } : Jvm.MethodName))) ∈ zT := zT_in 1000 (by decide +kernel) rfl
set_option maxRecDepth 10000 in
theorem wd_1001 : ((Jvm.Cond.static ({ cls := "SparklineLaw", name := "flaw", desc := "(LSparkline;II)I" } : Jvm.MethodName))) ∈ zT := zT_in 1001 (by decide +kernel) rfl
set_option maxRecDepth 10000 in
theorem wd_1002 : ((Jvm.Cond.codeWith ({ cls := "SparklineLaw", name := "flaw", desc := "(LSparkline;II)I" } : Jvm.MethodName) method_22_code (4 : Nat) (Option.some Jvm.ClassFile.FieldType.int) [((0 : Nat), (6 : Nat), (9 : Nat), (13 : Nat)), ((0 : Nat), (6 : Nat), (12 : Nat), (17 : Nat))])) ∈ zT := zT_in 1002 (by decide +kernel) rfl
set_option maxRecDepth 10000 in
theorem wd_1003 : ((Jvm.Cond.methodLink "SparklineLaw" (81 : Nat) ({ cls := "Sparkline", name := "flaw", desc := "(II)V" } : Jvm.MethodName))) ∈ zT := zT_in 1003 (by decide +kernel) rfl
set_option maxRecDepth 10000 in
theorem wd_1004 : ((Jvm.Cond.instanceMethod ({ cls := "Sparkline", name := "flaw", desc := "(II)V" } : Jvm.MethodName))) ∈ zT := zT_in 1004 (by decide +kernel) rfl
set_option maxRecDepth 10000 in
theorem wd_1005 : ((Jvm.Cond.selects "Sparkline" ({ cls := "Sparkline", name := "flaw", desc := "(II)V" } : Jvm.MethodName) ({ cls := "Sparkline", name := "flaw", desc := "(II)V" } : Jvm.MethodName))) ∈ zT := zT_in 1005 (by decide +kernel) rfl
set_option maxRecDepth 10000 in
theorem wd_1006 : ((Jvm.Cond.code ({ cls := "Sparkline", name := "flaw", desc := "(II)V" } : Jvm.MethodName) prog_1_method_21_code (5 : Nat) (Option.none : Option Jvm.ClassFile.FieldType))) ∈ zT := zT_in 1006 (by decide +kernel) rfl
set_option maxRecDepth 10000 in
theorem wd_1007 : ((Jvm.Cond.methodLink "SparklineLaw" (187 : Nat) ({ cls := "SparklineLaw", name := "cover", desc := "(LSparkline;IZ[J)I" } : Jvm.MethodName))) ∈ zT := zT_in 1007 (by decide +kernel) rfl
set_option maxRecDepth 10000 in
theorem wd_1008 : ((Jvm.Cond.static ({ cls := "SparklineLaw", name := "cover", desc := "(LSparkline;IZ[J)I" } : Jvm.MethodName))) ∈ zT := zT_in 1008 (by decide +kernel) rfl
set_option maxRecDepth 10000 in
theorem wd_1009 : ((Jvm.Cond.codeWith ({ cls := "SparklineLaw", name := "cover", desc := "(LSparkline;IZ[J)I" } : Jvm.MethodName) method_23_code (5 : Nat) (Option.some Jvm.ClassFile.FieldType.int) [((0 : Nat), (10 : Nat), (13 : Nat), (13 : Nat))])) ∈ zT := zT_in 1009 (by decide +kernel) rfl
set_option maxRecDepth 10000 in
theorem wd_1010 : ((Jvm.Cond.methodLink "SparklineLaw" (85 : Nat) ({ cls := "Sparkline", name := "cover", desc := "(IZ)I" } : Jvm.MethodName))) ∈ zT := zT_in 1010 (by decide +kernel) rfl
set_option maxRecDepth 10000 in
theorem wd_1011 : ((Jvm.Cond.instanceMethod ({ cls := "Sparkline", name := "cover", desc := "(IZ)I" } : Jvm.MethodName))) ∈ zT := zT_in 1011 (by decide +kernel) rfl
set_option maxRecDepth 10000 in
theorem wd_1012 : ((Jvm.Cond.selects "Sparkline" ({ cls := "Sparkline", name := "cover", desc := "(IZ)I" } : Jvm.MethodName) ({ cls := "Sparkline", name := "cover", desc := "(IZ)I" } : Jvm.MethodName))) ∈ zT := zT_in 1012 (by decide +kernel) rfl
set_option maxRecDepth 10000 in
theorem wd_1013 : ((Jvm.Cond.code ({ cls := "Sparkline", name := "cover", desc := "(IZ)I" } : Jvm.MethodName) prog_1_method_22_code (3 : Nat) (Option.some Jvm.ClassFile.FieldType.int))) ∈ zT := zT_in 1013 (by decide +kernel) rfl
set_option maxRecDepth 10000 in
theorem wd_1014 : ((Jvm.Cond.methodLink "Sparkline" (260 : Nat) ({ cls := "java/lang/Integer", name := "bitCount", desc := "(I)I" } : Jvm.MethodName))) ∈ zT := zT_in 1014 (by decide +kernel) rfl
set_option maxRecDepth 10000 in
theorem wd_1015 : ((Jvm.Cond.static ({ cls := "java/lang/Integer", name := "bitCount", desc := "(I)I" } : Jvm.MethodName))) ∈ zT := zT_in 1015 (by decide +kernel) rfl
set_option maxRecDepth 10000 in
theorem wd_1016 : ((Jvm.Cond.code ({ cls := "java/lang/Integer", name := "bitCount", desc := "(I)I" } : Jvm.MethodName) prog_21_method_49_code (1 : Nat) (Option.some Jvm.ClassFile.FieldType.int))) ∈ zT := zT_in 1016 (by decide +kernel) rfl
set_option maxRecDepth 10000 in
theorem wd_1017 : ((Jvm.Cond.constant "java/lang/Integer" (265 : Nat) (1431655765 : Int32))) ∈ zT := zT_in 1017 (by decide +kernel) rfl
set_option maxRecDepth 10000 in
theorem wd_1018 : ((Jvm.Cond.constant "java/lang/Integer" (266 : Nat) (858993459 : Int32))) ∈ zT := zT_in 1018 (by decide +kernel) rfl
set_option maxRecDepth 10000 in
theorem wd_1019 : ((Jvm.Cond.constant "java/lang/Integer" (267 : Nat) (252645135 : Int32))) ∈ zT := zT_in 1019 (by decide +kernel) rfl
set_option maxRecDepth 10000 in
theorem wd_1020 : ((Jvm.Cond.methodLink "SparklineLaw" (190 : Nat) ({ cls := "SparklineLaw", name := "test", desc := "(LSparkline;I[J)I" } : Jvm.MethodName))) ∈ zT := zT_in 1020 (by decide +kernel) rfl
set_option maxRecDepth 10000 in
theorem wd_1021 : ((Jvm.Cond.static ({ cls := "SparklineLaw", name := "test", desc := "(LSparkline;I[J)I" } : Jvm.MethodName))) ∈ zT := zT_in 1021 (by decide +kernel) rfl
set_option maxRecDepth 10000 in
theorem wd_1022 : ((Jvm.Cond.codeWith ({ cls := "SparklineLaw", name := "test", desc := "(LSparkline;I[J)I" } : Jvm.MethodName) method_24_code (4 : Nat) (Option.some Jvm.ClassFile.FieldType.int) [((0 : Nat), (9 : Nat), (12 : Nat), (13 : Nat)), ((0 : Nat), (9 : Nat), (15 : Nat), (17 : Nat))])) ∈ zT := zT_in 1022 (by decide +kernel) rfl
set_option maxRecDepth 10000 in
theorem wd_1023 : ((Jvm.Cond.methodLink "SparklineLaw" (88 : Nat) ({ cls := "Sparkline", name := "test", desc := "(I)I" } : Jvm.MethodName))) ∈ zT := zT_in 1023 (by decide +kernel) rfl
set_option maxRecDepth 10000 in
theorem wd_1024 : ((Jvm.Cond.instanceMethod ({ cls := "Sparkline", name := "test", desc := "(I)I" } : Jvm.MethodName))) ∈ zT := zT_in 1024 (by decide +kernel) rfl
set_option maxRecDepth 10000 in
theorem wd_1025 : ((Jvm.Cond.selects "Sparkline" ({ cls := "Sparkline", name := "test", desc := "(I)I" } : Jvm.MethodName) ({ cls := "Sparkline", name := "test", desc := "(I)I" } : Jvm.MethodName))) ∈ zT := zT_in 1025 (by decide +kernel) rfl
set_option maxRecDepth 10000 in
theorem wd_1026 : ((Jvm.Cond.code ({ cls := "Sparkline", name := "test", desc := "(I)I" } : Jvm.MethodName) prog_1_method_23_code (3 : Nat) (Option.some Jvm.ClassFile.FieldType.int))) ∈ zT := zT_in 1026 (by decide +kernel) rfl
set_option maxRecDepth 10000 in
theorem wd_1027 : ((Jvm.Cond.methodLink "Sparkline" (265 : Nat) ({ cls := "Sparkline$Board", name := "findFaults", desc := "(I)V" } : Jvm.MethodName))) ∈ zT := zT_in 1027 (by decide +kernel) rfl
set_option maxRecDepth 10000 in
theorem wd_1028 : ((Jvm.Cond.instanceMethod ({ cls := "Sparkline$Board", name := "findFaults", desc := "(I)V" } : Jvm.MethodName))) ∈ zT := zT_in 1028 (by decide +kernel) rfl
set_option maxRecDepth 10000 in
theorem wd_1029 : ((Jvm.Cond.selects "Sparkline$Board" ({ cls := "Sparkline$Board", name := "findFaults", desc := "(I)V" } : Jvm.MethodName) ({ cls := "Sparkline$Board", name := "findFaults", desc := "(I)V" } : Jvm.MethodName))) ∈ zT := zT_in 1029 (by decide +kernel) rfl
set_option maxRecDepth 10000 in
theorem wd_1030 : ((Jvm.Cond.code ({ cls := "Sparkline$Board", name := "findFaults", desc := "(I)V" } : Jvm.MethodName) prog_2_method_6_code (4 : Nat) (Option.none : Option Jvm.ClassFile.FieldType))) ∈ zT := zT_in 1030 (by decide +kernel) rfl
set_option maxRecDepth 10000 in
theorem wd_1031 : ((Jvm.Cond.methodLink "Sparkline" (268 : Nat) ({ cls := "Sparkline$Board", name := "faultsFound", desc := "(Z)I" } : Jvm.MethodName))) ∈ zT := zT_in 1031 (by decide +kernel) rfl
set_option maxRecDepth 10000 in
theorem wd_1032 : ((Jvm.Cond.instanceMethod ({ cls := "Sparkline$Board", name := "faultsFound", desc := "(Z)I" } : Jvm.MethodName))) ∈ zT := zT_in 1032 (by decide +kernel) rfl
set_option maxRecDepth 10000 in
theorem wd_1033 : ((Jvm.Cond.selects "Sparkline$Board" ({ cls := "Sparkline$Board", name := "faultsFound", desc := "(Z)I" } : Jvm.MethodName) ({ cls := "Sparkline$Board", name := "faultsFound", desc := "(Z)I" } : Jvm.MethodName))) ∈ zT := zT_in 1033 (by decide +kernel) rfl
set_option maxRecDepth 10000 in
theorem wd_1034 : ((Jvm.Cond.code ({ cls := "Sparkline$Board", name := "faultsFound", desc := "(Z)I" } : Jvm.MethodName) prog_2_method_7_code (5 : Nat) (Option.some Jvm.ClassFile.FieldType.int))) ∈ zT := zT_in 1034 (by decide +kernel) rfl
set_option maxRecDepth 10000 in
theorem wd_1035 : ((Jvm.Cond.methodLink "SparklineLaw" (193 : Nat) ({ cls := "SparklineLaw", name := "repair", desc := "(LSparkline;III[J)I" } : Jvm.MethodName))) ∈ zT := zT_in 1035 (by decide +kernel) rfl
set_option maxRecDepth 10000 in
theorem wd_1036 : ((Jvm.Cond.static ({ cls := "SparklineLaw", name := "repair", desc := "(LSparkline;III[J)I" } : Jvm.MethodName))) ∈ zT := zT_in 1036 (by decide +kernel) rfl
set_option maxRecDepth 10000 in
theorem wd_1037 : ((Jvm.Cond.codeWith ({ cls := "SparklineLaw", name := "repair", desc := "(LSparkline;III[J)I" } : Jvm.MethodName) method_25_code (6 : Nat) (Option.some Jvm.ClassFile.FieldType.int) [((0 : Nat), (12 : Nat), (15 : Nat), (13 : Nat)), ((0 : Nat), (12 : Nat), (19 : Nat), (17 : Nat))])) ∈ zT := zT_in 1037 (by decide +kernel) rfl
set_option maxRecDepth 10000 in
theorem wd_1038 : ((Jvm.Cond.methodLink "SparklineLaw" (91 : Nat) ({ cls := "Sparkline", name := "repair", desc := "(III)I" } : Jvm.MethodName))) ∈ zT := zT_in 1038 (by decide +kernel) rfl
set_option maxRecDepth 10000 in
theorem wd_1039 : ((Jvm.Cond.instanceMethod ({ cls := "Sparkline", name := "repair", desc := "(III)I" } : Jvm.MethodName))) ∈ zT := zT_in 1039 (by decide +kernel) rfl
set_option maxRecDepth 10000 in
theorem wd_1040 : ((Jvm.Cond.selects "Sparkline" ({ cls := "Sparkline", name := "repair", desc := "(III)I" } : Jvm.MethodName) ({ cls := "Sparkline", name := "repair", desc := "(III)I" } : Jvm.MethodName))) ∈ zT := zT_in 1040 (by decide +kernel) rfl
set_option maxRecDepth 10000 in
theorem wd_1041 : ((Jvm.Cond.code ({ cls := "Sparkline", name := "repair", desc := "(III)I" } : Jvm.MethodName) prog_1_method_24_code (7 : Nat) (Option.some Jvm.ClassFile.FieldType.int))) ∈ zT := zT_in 1041 (by decide +kernel) rfl
set_option maxRecDepth 10000 in
theorem wd_1042 : ((Jvm.Cond.methodLink "Sparkline" (276 : Nat) ({ cls := "Sparkline$Slot", name := "mend", desc := "()V" } : Jvm.MethodName))) ∈ zT := zT_in 1042 (by decide +kernel) rfl
set_option maxRecDepth 10000 in
theorem wd_1043 : ((Jvm.Cond.instanceMethod ({ cls := "Sparkline$Slot", name := "mend", desc := "()V" } : Jvm.MethodName))) ∈ zT := zT_in 1043 (by decide +kernel) rfl
set_option maxRecDepth 10000 in
theorem wd_1044 : ((Jvm.Cond.selects "Sparkline$Slot" ({ cls := "Sparkline$Slot", name := "mend", desc := "()V" } : Jvm.MethodName) ({ cls := "Sparkline$Slot", name := "mend", desc := "()V" } : Jvm.MethodName))) ∈ zT := zT_in 1044 (by decide +kernel) rfl
set_option maxRecDepth 10000 in
theorem wd_1045 : ((Jvm.Cond.code ({ cls := "Sparkline$Slot", name := "mend", desc := "()V" } : Jvm.MethodName) prog_11_method_6_code (1 : Nat) (Option.none : Option Jvm.ClassFile.FieldType))) ∈ zT := zT_in 1045 (by decide +kernel) rfl
set_option maxRecDepth 10000 in
theorem wd_1046 : ((Jvm.Cond.methodLink "SparklineLaw" (196 : Nat) ({ cls := "SparklineLaw", name := "ship", desc := "(LSparkline;I[J)I" } : Jvm.MethodName))) ∈ zT := zT_in 1046 (by decide +kernel) rfl
set_option maxRecDepth 10000 in
theorem wd_1047 : ((Jvm.Cond.static ({ cls := "SparklineLaw", name := "ship", desc := "(LSparkline;I[J)I" } : Jvm.MethodName))) ∈ zT := zT_in 1047 (by decide +kernel) rfl
set_option maxRecDepth 10000 in
theorem wd_1048 : ((Jvm.Cond.codeWith ({ cls := "SparklineLaw", name := "ship", desc := "(LSparkline;I[J)I" } : Jvm.MethodName) method_26_code (4 : Nat) (Option.some Jvm.ClassFile.FieldType.int) [((0 : Nat), (9 : Nat), (12 : Nat), (13 : Nat)), ((0 : Nat), (9 : Nat), (15 : Nat), (17 : Nat))])) ∈ zT := zT_in 1048 (by decide +kernel) rfl
set_option maxRecDepth 10000 in
theorem wd_1049 : ((Jvm.Cond.methodLink "SparklineLaw" (94 : Nat) ({ cls := "Sparkline", name := "ship", desc := "(I)I" } : Jvm.MethodName))) ∈ zT := zT_in 1049 (by decide +kernel) rfl
set_option maxRecDepth 10000 in
theorem wd_1050 : ((Jvm.Cond.instanceMethod ({ cls := "Sparkline", name := "ship", desc := "(I)I" } : Jvm.MethodName))) ∈ zT := zT_in 1050 (by decide +kernel) rfl
set_option maxRecDepth 10000 in
theorem wd_1051 : ((Jvm.Cond.selects "Sparkline" ({ cls := "Sparkline", name := "ship", desc := "(I)I" } : Jvm.MethodName) ({ cls := "Sparkline", name := "ship", desc := "(I)I" } : Jvm.MethodName))) ∈ zT := zT_in 1051 (by decide +kernel) rfl
set_option maxRecDepth 10000 in
theorem wd_1052 : ((Jvm.Cond.code ({ cls := "Sparkline", name := "ship", desc := "(I)I" } : Jvm.MethodName) prog_1_method_25_code (3 : Nat) (Option.some Jvm.ClassFile.FieldType.int))) ∈ zT := zT_in 1052 (by decide +kernel) rfl
set_option maxRecDepth 10000 in
theorem wd_1053 : ((Jvm.Cond.methodLink "SparklineLaw" (199 : Nat) ({ cls := "SparklineLaw", name := "pass", desc := "(LSparkline;I[J)I" } : Jvm.MethodName))) ∈ zT := zT_in 1053 (by decide +kernel) rfl
set_option maxRecDepth 10000 in
theorem wd_1054 : ((Jvm.Cond.static ({ cls := "SparklineLaw", name := "pass", desc := "(LSparkline;I[J)I" } : Jvm.MethodName))) ∈ zT := zT_in 1054 (by decide +kernel) rfl
set_option maxRecDepth 10000 in
theorem wd_1055 : ((Jvm.Cond.codeWith ({ cls := "SparklineLaw", name := "pass", desc := "(LSparkline;I[J)I" } : Jvm.MethodName) method_27_code (4 : Nat) (Option.some Jvm.ClassFile.FieldType.int) [((0 : Nat), (9 : Nat), (12 : Nat), (15 : Nat)), ((0 : Nat), (9 : Nat), (15 : Nat), (17 : Nat))])) ∈ zT := zT_in 1055 (by decide +kernel) rfl
set_option maxRecDepth 10000 in
theorem wd_1056 : ((Jvm.Cond.methodLink "SparklineLaw" (97 : Nat) ({ cls := "Sparkline", name := "pass", desc := "(I)I" } : Jvm.MethodName))) ∈ zT := zT_in 1056 (by decide +kernel) rfl
set_option maxRecDepth 10000 in
theorem wd_1057 : ((Jvm.Cond.instanceMethod ({ cls := "Sparkline", name := "pass", desc := "(I)I" } : Jvm.MethodName))) ∈ zT := zT_in 1057 (by decide +kernel) rfl
set_option maxRecDepth 10000 in
theorem wd_1058 : ((Jvm.Cond.selects "Sparkline" ({ cls := "Sparkline", name := "pass", desc := "(I)I" } : Jvm.MethodName) ({ cls := "Sparkline", name := "pass", desc := "(I)I" } : Jvm.MethodName))) ∈ zT := zT_in 1058 (by decide +kernel) rfl
set_option maxRecDepth 10000 in
theorem wd_1059 : ((Jvm.Cond.code ({ cls := "Sparkline", name := "pass", desc := "(I)I" } : Jvm.MethodName) prog_1_method_26_code (2 : Nat) (Option.some Jvm.ClassFile.FieldType.int))) ∈ zT := zT_in 1059 (by decide +kernel) rfl
set_option maxRecDepth 10000 in
theorem wd_1060 : ((Jvm.Cond.methodLink "SparklineLaw" (202 : Nat) ({ cls := "SparklineLaw", name := "ofSlot", desc := "(LSparkline;III[J)I" } : Jvm.MethodName))) ∈ zT := zT_in 1060 (by decide +kernel) rfl
set_option maxRecDepth 10000 in
theorem wd_1061 : ((Jvm.Cond.static ({ cls := "SparklineLaw", name := "ofSlot", desc := "(LSparkline;III[J)I" } : Jvm.MethodName))) ∈ zT := zT_in 1061 (by decide +kernel) rfl
set_option maxRecDepth 10000 in
theorem wd_1062 : ((Jvm.Cond.codeWith ({ cls := "SparklineLaw", name := "ofSlot", desc := "(LSparkline;III[J)I" } : Jvm.MethodName) method_28_code (6 : Nat) (Option.some Jvm.ClassFile.FieldType.int) [((0 : Nat), (12 : Nat), (15 : Nat), (13 : Nat))])) ∈ zT := zT_in 1062 (by decide +kernel) rfl
set_option maxRecDepth 10000 in
theorem wd_1063 : ((Jvm.Cond.methodLink "SparklineLaw" (100 : Nat) ({ cls := "Sparkline", name := "ofSlot", desc := "(III)I" } : Jvm.MethodName))) ∈ zT := zT_in 1063 (by decide +kernel) rfl
set_option maxRecDepth 10000 in
theorem wd_1064 : ((Jvm.Cond.instanceMethod ({ cls := "Sparkline", name := "ofSlot", desc := "(III)I" } : Jvm.MethodName))) ∈ zT := zT_in 1064 (by decide +kernel) rfl
set_option maxRecDepth 10000 in
theorem wd_1065 : ((Jvm.Cond.selects "Sparkline" ({ cls := "Sparkline", name := "ofSlot", desc := "(III)I" } : Jvm.MethodName) ({ cls := "Sparkline", name := "ofSlot", desc := "(III)I" } : Jvm.MethodName))) ∈ zT := zT_in 1065 (by decide +kernel) rfl
set_option maxRecDepth 10000 in
theorem wd_1066 : ((Jvm.Cond.code ({ cls := "Sparkline", name := "ofSlot", desc := "(III)I" } : Jvm.MethodName) prog_1_method_27_code (5 : Nat) (Option.some Jvm.ClassFile.FieldType.int))) ∈ zT := zT_in 1066 (by decide +kernel) rfl
set_option maxRecDepth 10000 in
theorem wd_1067 : ((Jvm.Cond.methodLink "SparklineLaw" (205 : Nat) ({ cls := "SparklineLaw", name := "jointAnew", desc := "(LSparkline;II[J)I" } : Jvm.MethodName))) ∈ zT := zT_in 1067 (by decide +kernel) rfl
set_option maxRecDepth 10000 in
theorem wd_1068 : ((Jvm.Cond.static ({ cls := "SparklineLaw", name := "jointAnew", desc := "(LSparkline;II[J)I" } : Jvm.MethodName))) ∈ zT := zT_in 1068 (by decide +kernel) rfl
set_option maxRecDepth 10000 in
theorem wd_1069 : ((Jvm.Cond.codeWith ({ cls := "SparklineLaw", name := "jointAnew", desc := "(LSparkline;II[J)I" } : Jvm.MethodName) method_29_code (5 : Nat) (Option.some Jvm.ClassFile.FieldType.int) [((0 : Nat), (10 : Nat), (13 : Nat), (13 : Nat))])) ∈ zT := zT_in 1069 (by decide +kernel) rfl
set_option maxRecDepth 10000 in
theorem wd_1070 : ((Jvm.Cond.methodLink "SparklineLaw" (103 : Nat) ({ cls := "Sparkline", name := "jointAnew", desc := "(II)I" } : Jvm.MethodName))) ∈ zT := zT_in 1070 (by decide +kernel) rfl
set_option maxRecDepth 10000 in
theorem wd_1071 : ((Jvm.Cond.instanceMethod ({ cls := "Sparkline", name := "jointAnew", desc := "(II)I" } : Jvm.MethodName))) ∈ zT := zT_in 1071 (by decide +kernel) rfl
set_option maxRecDepth 10000 in
theorem wd_1072 : ((Jvm.Cond.selects "Sparkline" ({ cls := "Sparkline", name := "jointAnew", desc := "(II)I" } : Jvm.MethodName) ({ cls := "Sparkline", name := "jointAnew", desc := "(II)I" } : Jvm.MethodName))) ∈ zT := zT_in 1072 (by decide +kernel) rfl
set_option maxRecDepth 10000 in
theorem wd_1073 : ((Jvm.Cond.code ({ cls := "Sparkline", name := "jointAnew", desc := "(II)I" } : Jvm.MethodName) prog_1_method_28_code (5 : Nat) (Option.some Jvm.ClassFile.FieldType.int))) ∈ zT := zT_in 1073 (by decide +kernel) rfl
set_option maxRecDepth 10000 in
theorem wd_1074 : ((Jvm.Cond.methodLink "Sparkline" (286 : Nat) ({ cls := "Sparkline$Board", name := "peak", desc := "()I" } : Jvm.MethodName))) ∈ zT := zT_in 1074 (by decide +kernel) rfl
set_option maxRecDepth 10000 in
theorem wd_1075 : ((Jvm.Cond.methodLink "Sparkline" (289 : Nat) ({ cls := "Sparkline$Slot", name := "jointFor", desc := "(I)I" } : Jvm.MethodName))) ∈ zT := zT_in 1075 (by decide +kernel) rfl
set_option maxRecDepth 10000 in
theorem wd_1076 : ((Jvm.Cond.methodLink "SparklineLaw" (208 : Nat) ({ cls := "SparklineLaw", name := "recall", desc := "(LSparkline;I[J)I" } : Jvm.MethodName))) ∈ zT := zT_in 1076 (by decide +kernel) rfl
set_option maxRecDepth 10000 in
theorem wd_1077 : ((Jvm.Cond.static ({ cls := "SparklineLaw", name := "recall", desc := "(LSparkline;I[J)I" } : Jvm.MethodName))) ∈ zT := zT_in 1077 (by decide +kernel) rfl
set_option maxRecDepth 10000 in
theorem wd_1078 : ((Jvm.Cond.codeWith ({ cls := "SparklineLaw", name := "recall", desc := "(LSparkline;I[J)I" } : Jvm.MethodName) method_30_code (4 : Nat) (Option.some Jvm.ClassFile.FieldType.int) [((0 : Nat), (9 : Nat), (12 : Nat), (13 : Nat))])) ∈ zT := zT_in 1078 (by decide +kernel) rfl
set_option maxRecDepth 10000 in
theorem wd_1079 : ((Jvm.Cond.methodLink "SparklineLaw" (106 : Nat) ({ cls := "Sparkline", name := "recall", desc := "(I)I" } : Jvm.MethodName))) ∈ zT := zT_in 1079 (by decide +kernel) rfl
set_option maxRecDepth 10000 in
theorem wd_1080 : ((Jvm.Cond.instanceMethod ({ cls := "Sparkline", name := "recall", desc := "(I)I" } : Jvm.MethodName))) ∈ zT := zT_in 1080 (by decide +kernel) rfl
set_option maxRecDepth 10000 in
theorem wd_1081 : ((Jvm.Cond.selects "Sparkline" ({ cls := "Sparkline", name := "recall", desc := "(I)I" } : Jvm.MethodName) ({ cls := "Sparkline", name := "recall", desc := "(I)I" } : Jvm.MethodName))) ∈ zT := zT_in 1081 (by decide +kernel) rfl
set_option maxRecDepth 10000 in
theorem wd_1082 : ((Jvm.Cond.code ({ cls := "Sparkline", name := "recall", desc := "(I)I" } : Jvm.MethodName) prog_1_method_29_code (5 : Nat) (Option.some Jvm.ClassFile.FieldType.int))) ∈ zT := zT_in 1082 (by decide +kernel) rfl
set_option maxRecDepth 10000 in
theorem wd_1083 : ((Jvm.Cond.methodLink "Sparkline" (296 : Nat) ({ cls := "Sparkline$Board", name := "hasPartOf", desc := "(I)Z" } : Jvm.MethodName))) ∈ zT := zT_in 1083 (by decide +kernel) rfl
set_option maxRecDepth 10000 in
theorem wd_1084 : ((Jvm.Cond.instanceMethod ({ cls := "Sparkline$Board", name := "hasPartOf", desc := "(I)Z" } : Jvm.MethodName))) ∈ zT := zT_in 1084 (by decide +kernel) rfl
set_option maxRecDepth 10000 in
theorem wd_1085 : ((Jvm.Cond.selects "Sparkline$Board" ({ cls := "Sparkline$Board", name := "hasPartOf", desc := "(I)Z" } : Jvm.MethodName) ({ cls := "Sparkline$Board", name := "hasPartOf", desc := "(I)Z" } : Jvm.MethodName))) ∈ zT := zT_in 1085 (by decide +kernel) rfl
set_option maxRecDepth 10000 in
theorem wd_1086 : ((Jvm.Cond.code ({ cls := "Sparkline$Board", name := "hasPartOf", desc := "(I)Z" } : Jvm.MethodName) prog_2_method_8_code (3 : Nat) (Option.some Jvm.ClassFile.FieldType.boolean))) ∈ zT := zT_in 1086 (by decide +kernel) rfl
set_option maxRecDepth 10000 in
theorem wd_1087 : ((Jvm.Cond.classLink "SparklineLaw" (110 : Nat) "SparklineModel")) ∈ zT := zT_in 1087 (by decide +kernel) rfl
set_option maxRecDepth 10000 in
theorem wd_1088 : ((Jvm.Cond.instantiable "SparklineModel" (45 : Nat))) ∈ zT := zT_in 1088 (by decide +kernel) rfl
set_option maxRecDepth 10000 in
theorem wd_1089 : ((Jvm.Cond.methodLink "SparklineLaw" (112 : Nat) ({ cls := "SparklineModel", name := "<init>", desc := "()V" } : Jvm.MethodName))) ∈ zT := zT_in 1089 (by decide +kernel) rfl
set_option maxRecDepth 10000 in
theorem wd_1090 : ((Jvm.Cond.instanceMethod ({ cls := "SparklineModel", name := "<init>", desc := "()V" } : Jvm.MethodName))) ∈ zT := zT_in 1090 (by decide +kernel) rfl
set_option maxRecDepth 10000 in
theorem wd_1091 : ((Jvm.Cond.code ({ cls := "SparklineModel", name := "<init>", desc := "()V" } : Jvm.MethodName) prog_14_method_1_code (2 : Nat) (Option.none : Option Jvm.ClassFile.FieldType))) ∈ zT := zT_in 1091 (by decide +kernel) rfl
set_option maxRecDepth 10000 in
theorem wd_1092 : ((Jvm.Cond.methodLink "SparklineModel" (1 : Nat) ({ cls := "java/lang/Object", name := "<init>", desc := "()V" } : Jvm.MethodName))) ∈ zT := zT_in 1092 (by decide +kernel) rfl
set_option maxRecDepth 10000 in
theorem wd_1093 : ((Jvm.Cond.fieldLink "SparklineModel" (131 : Nat) "SparklineModel" "bundles" "I")) ∈ zT := zT_in 1093 (by decide +kernel) rfl
set_option maxRecDepth 10000 in
theorem wd_1094 : ((Jvm.Cond.fieldLink "SparklineModel" (7 : Nat) "SparklineModel" "end" "[I")) ∈ zT := zT_in 1094 (by decide +kernel) rfl
set_option maxRecDepth 10000 in
theorem wd_1095 : ((Jvm.Cond.fieldLink "SparklineModel" (13 : Nat) "SparklineModel" "other" "[I")) ∈ zT := zT_in 1095 (by decide +kernel) rfl
set_option maxRecDepth 10000 in
theorem wd_1096 : ((Jvm.Cond.fieldLink "SparklineModel" (16 : Nat) "SparklineModel" "length" "[I")) ∈ zT := zT_in 1096 (by decide +kernel) rfl
set_option maxRecDepth 10000 in
theorem wd_1097 : ((Jvm.Cond.fieldLink "SparklineModel" (19 : Nat) "SparklineModel" "room" "[I")) ∈ zT := zT_in 1097 (by decide +kernel) rfl
set_option maxRecDepth 10000 in
theorem wd_1098 : ((Jvm.Cond.fieldLink "SparklineModel" (124 : Nat) "SparklineModel" "connectors" "I")) ∈ zT := zT_in 1098 (by decide +kernel) rfl
set_option maxRecDepth 10000 in
theorem wd_1099 : ((Jvm.Cond.fieldLink "SparklineModel" (22 : Nat) "SparklineModel" "at" "[I")) ∈ zT := zT_in 1099 (by decide +kernel) rfl
set_option maxRecDepth 10000 in
theorem wd_1100 : ((Jvm.Cond.fieldLink "SparklineModel" (25 : Nat) "SparklineModel" "cavities" "[I")) ∈ zT := zT_in 1100 (by decide +kernel) rfl
set_option maxRecDepth 10000 in
theorem wd_1101 : ((Jvm.Cond.fieldLink "SparklineModel" (28 : Nat) "SparklineModel" "key" "[I")) ∈ zT := zT_in 1101 (by decide +kernel) rfl
set_option maxRecDepth 10000 in
theorem wd_1102 : ((Jvm.Cond.fieldLink "SparklineModel" (31 : Nat) "SparklineModel" "mate" "[I")) ∈ zT := zT_in 1102 (by decide +kernel) rfl
set_option maxRecDepth 10000 in
theorem wd_1103 : ((Jvm.Cond.fieldLink "SparklineModel" (144 : Nat) "SparklineModel" "wires" "I")) ∈ zT := zT_in 1103 (by decide +kernel) rfl
set_option maxRecDepth 10000 in
theorem wd_1104 : ((Jvm.Cond.fieldLink "SparklineModel" (34 : Nat) "SparklineModel" "isOut" "[Z")) ∈ zT := zT_in 1104 (by decide +kernel) rfl
set_option maxRecDepth 10000 in
theorem wd_1105 : ((Jvm.Cond.fieldLink "SparklineModel" (38 : Nat) "SparklineModel" "ends" "[I")) ∈ zT := zT_in 1105 (by decide +kernel) rfl
set_option maxRecDepth 10000 in
theorem wd_1106 : ((Jvm.Cond.fieldLink "SparklineModel" (41 : Nat) "SparklineModel" "option" "[I")) ∈ zT := zT_in 1106 (by decide +kernel) rfl
set_option maxRecDepth 10000 in
theorem wd_1107 : ((Jvm.Cond.fieldLink "SparklineModel" (44 : Nat) "SparklineModel" "many" "[I")) ∈ zT := zT_in 1107 (by decide +kernel) rfl
set_option maxRecDepth 10000 in
theorem wd_1108 : ((Jvm.Cond.fieldLink "SparklineModel" (47 : Nat) "SparklineModel" "way" "[I")) ∈ zT := zT_in 1108 (by decide +kernel) rfl
set_option maxRecDepth 10000 in
theorem wd_1109 : ((Jvm.Cond.fieldLink "SparklineModel" (50 : Nat) "SparklineModel" "far" "[I")) ∈ zT := zT_in 1109 (by decide +kernel) rfl
set_option maxRecDepth 10000 in
theorem wd_1110 : ((Jvm.Cond.fieldLink "SparklineModel" (182 : Nat) "SparklineModel" "orders" "I")) ∈ zT := zT_in 1110 (by decide +kernel) rfl
set_option maxRecDepth 10000 in
theorem wd_1111 : ((Jvm.Cond.fieldLink "SparklineModel" (53 : Nat) "SparklineModel" "wants" "[I")) ∈ zT := zT_in 1111 (by decide +kernel) rfl
set_option maxRecDepth 10000 in
theorem wd_1112 : ((Jvm.Cond.fieldLink "SparklineModel" (56 : Nat) "SparklineModel" "times" "[I")) ∈ zT := zT_in 1112 (by decide +kernel) rfl
set_option maxRecDepth 10000 in
theorem wd_1113 : ((Jvm.Cond.fieldLink "SparklineModel" (59 : Nat) "SparklineModel" "family" "[I")) ∈ zT := zT_in 1113 (by decide +kernel) rfl
set_option maxRecDepth 10000 in
theorem wd_1114 : ((Jvm.Cond.fieldLink "SparklineModel" (201 : Nat) "SparklineModel" "crimps" "I")) ∈ zT := zT_in 1114 (by decide +kernel) rfl
set_option maxRecDepth 10000 in
theorem wd_1115 : ((Jvm.Cond.fieldLink "SparklineModel" (194 : Nat) "SparklineModel" "goodOnes" "I")) ∈ zT := zT_in 1115 (by decide +kernel) rfl
set_option maxRecDepth 10000 in
theorem wd_1116 : ((Jvm.Cond.fieldLink "SparklineModel" (62 : Nat) "SparklineModel" "force" "[I")) ∈ zT := zT_in 1116 (by decide +kernel) rfl
set_option maxRecDepth 10000 in
theorem wd_1117 : ((Jvm.Cond.fieldLink "SparklineModel" (207 : Nat) "SparklineModel" "minute" "I")) ∈ zT := zT_in 1117 (by decide +kernel) rfl
set_option maxRecDepth 10000 in
theorem wd_1118 : ((Jvm.Cond.fieldLink "SparklineModel" (204 : Nat) "SparklineModel" "reels" "I")) ∈ zT := zT_in 1118 (by decide +kernel) rfl
set_option maxRecDepth 10000 in
theorem wd_1119 : ((Jvm.Cond.fieldLink "SparklineModel" (65 : Nat) "SparklineModel" "part" "[I")) ∈ zT := zT_in 1119 (by decide +kernel) rfl
set_option maxRecDepth 10000 in
theorem wd_1120 : ((Jvm.Cond.fieldLink "SparklineModel" (68 : Nat) "SparklineModel" "left" "[I")) ∈ zT := zT_in 1120 (by decide +kernel) rfl
set_option maxRecDepth 10000 in
theorem wd_1121 : ((Jvm.Cond.fieldLink "SparklineModel" (71 : Nat) "SparklineModel" "life" "[I")) ∈ zT := zT_in 1121 (by decide +kernel) rfl
set_option maxRecDepth 10000 in
theorem wd_1122 : ((Jvm.Cond.fieldLink "SparklineModel" (74 : Nat) "SparklineModel" "opened" "[I")) ∈ zT := zT_in 1122 (by decide +kernel) rfl
set_option maxRecDepth 10000 in
theorem wd_1123 : ((Jvm.Cond.fieldLink "SparklineModel" (77 : Nat) "SparklineModel" "heat" "[I")) ∈ zT := zT_in 1123 (by decide +kernel) rfl
set_option maxRecDepth 10000 in
theorem wd_1124 : ((Jvm.Cond.fieldLink "SparklineModel" (80 : Nat) "SparklineModel" "low" "[I")) ∈ zT := zT_in 1124 (by decide +kernel) rfl
set_option maxRecDepth 10000 in
theorem wd_1125 : ((Jvm.Cond.fieldLink "SparklineModel" (83 : Nat) "SparklineModel" "high" "[I")) ∈ zT := zT_in 1125 (by decide +kernel) rfl
set_option maxRecDepth 10000 in
theorem wd_1126 : ((Jvm.Cond.fieldLink "SparklineModel" (86 : Nat) "SparklineModel" "isCovered" "[Z")) ∈ zT := zT_in 1126 (by decide +kernel) rfl
set_option maxRecDepth 10000 in
theorem wd_1127 : ((Jvm.Cond.fieldLink "SparklineModel" (216 : Nat) "SparklineModel" "boards" "I")) ∈ zT := zT_in 1127 (by decide +kernel) rfl
set_option maxRecDepth 10000 in
theorem wd_1128 : ((Jvm.Cond.fieldLink "SparklineModel" (89 : Nat) "SparklineModel" "isSoldered" "[Z")) ∈ zT := zT_in 1128 (by decide +kernel) rfl
set_option maxRecDepth 10000 in
theorem wd_1129 : ((Jvm.Cond.fieldLink "SparklineModel" (92 : Nat) "SparklineModel" "isTested" "[Z")) ∈ zT := zT_in 1129 (by decide +kernel) rfl
set_option maxRecDepth 10000 in
theorem wd_1130 : ((Jvm.Cond.fieldLink "SparklineModel" (95 : Nat) "SparklineModel" "isShipped" "[Z")) ∈ zT := zT_in 1130 (by decide +kernel) rfl
set_option maxRecDepth 10000 in
theorem wd_1131 : ((Jvm.Cond.fieldLink "SparklineModel" (98 : Nat) "SparklineModel" "reel" "[I")) ∈ zT := zT_in 1131 (by decide +kernel) rfl
set_option maxRecDepth 10000 in
theorem wd_1132 : ((Jvm.Cond.fieldLink "SparklineModel" (101 : Nat) "SparklineModel" "placed" "[I")) ∈ zT := zT_in 1132 (by decide +kernel) rfl
set_option maxRecDepth 10000 in
theorem wd_1133 : ((Jvm.Cond.fieldLink "SparklineModel" (104 : Nat) "SparklineModel" "joint" "[I")) ∈ zT := zT_in 1133 (by decide +kernel) rfl
set_option maxRecDepth 10000 in
theorem wd_1134 : ((Jvm.Cond.fieldLink "SparklineModel" (107 : Nat) "SparklineModel" "fault" "[I")) ∈ zT := zT_in 1134 (by decide +kernel) rfl
set_option maxRecDepth 10000 in
theorem wd_1135 : ((Jvm.Cond.fieldLink "SparklineModel" (110 : Nat) "SparklineModel" "isFound" "[Z")) ∈ zT := zT_in 1135 (by decide +kernel) rfl
set_option maxRecDepth 10000 in
theorem wd_1136 : ((Jvm.Cond.fieldLink "SparklineModel" (113 : Nat) "SparklineModel" "isRepaired" "[Z")) ∈ zT := zT_in 1136 (by decide +kernel) rfl
set_option maxRecDepth 10000 in
theorem wd_1137 : ((Jvm.Cond.fieldLink "SparklineModel" (116 : Nat) "SparklineModel" "thrown" "I")) ∈ zT := zT_in 1137 (by decide +kernel) rfl
set_option maxRecDepth 10000 in
theorem wd_1138 : ((Jvm.Cond.lays "SparklineModel" "SparklineModel" "bundles" "I")) ∈ zT := zT_in 1138 (by decide +kernel) rfl
set_option maxRecDepth 10000 in
theorem wd_1140 : ((Jvm.Cond.laysFinal "SparklineModel" "SparklineModel" "end" "[I")) ∈ zT := zT_in 1140 (by decide +kernel) rfl
set_option maxRecDepth 10000 in
theorem wd_1142 : ((Jvm.Cond.laysFinal "SparklineModel" "SparklineModel" "other" "[I")) ∈ zT := zT_in 1142 (by decide +kernel) rfl
set_option maxRecDepth 10000 in
theorem wd_1144 : ((Jvm.Cond.laysFinal "SparklineModel" "SparklineModel" "length" "[I")) ∈ zT := zT_in 1144 (by decide +kernel) rfl
set_option maxRecDepth 10000 in
theorem wd_1146 : ((Jvm.Cond.laysFinal "SparklineModel" "SparklineModel" "room" "[I")) ∈ zT := zT_in 1146 (by decide +kernel) rfl
set_option maxRecDepth 10000 in
theorem wd_1148 : ((Jvm.Cond.lays "SparklineModel" "SparklineModel" "connectors" "I")) ∈ zT := zT_in 1148 (by decide +kernel) rfl
set_option maxRecDepth 10000 in
theorem wd_1150 : ((Jvm.Cond.laysFinal "SparklineModel" "SparklineModel" "at" "[I")) ∈ zT := zT_in 1150 (by decide +kernel) rfl
set_option maxRecDepth 10000 in
theorem wd_1152 : ((Jvm.Cond.laysFinal "SparklineModel" "SparklineModel" "cavities" "[I")) ∈ zT := zT_in 1152 (by decide +kernel) rfl
set_option maxRecDepth 10000 in
theorem wd_1154 : ((Jvm.Cond.laysFinal "SparklineModel" "SparklineModel" "key" "[I")) ∈ zT := zT_in 1154 (by decide +kernel) rfl
set_option maxRecDepth 10000 in
theorem wd_1156 : ((Jvm.Cond.laysFinal "SparklineModel" "SparklineModel" "mate" "[I")) ∈ zT := zT_in 1156 (by decide +kernel) rfl
set_option maxRecDepth 10000 in
theorem wd_1158 : ((Jvm.Cond.lays "SparklineModel" "SparklineModel" "wires" "I")) ∈ zT := zT_in 1158 (by decide +kernel) rfl
set_option maxRecDepth 10000 in
theorem wd_1160 : ((Jvm.Cond.laysFinal "SparklineModel" "SparklineModel" "isOut" "[Z")) ∈ zT := zT_in 1160 (by decide +kernel) rfl
set_option maxRecDepth 10000 in
theorem wd_1162 : ((Jvm.Cond.laysFinal "SparklineModel" "SparklineModel" "ends" "[I")) ∈ zT := zT_in 1162 (by decide +kernel) rfl
set_option maxRecDepth 10000 in
theorem wd_1164 : ((Jvm.Cond.laysFinal "SparklineModel" "SparklineModel" "option" "[I")) ∈ zT := zT_in 1164 (by decide +kernel) rfl
set_option maxRecDepth 10000 in
theorem wd_1166 : ((Jvm.Cond.laysFinal "SparklineModel" "SparklineModel" "many" "[I")) ∈ zT := zT_in 1166 (by decide +kernel) rfl
set_option maxRecDepth 10000 in
theorem wd_1168 : ((Jvm.Cond.laysFinal "SparklineModel" "SparklineModel" "way" "[I")) ∈ zT := zT_in 1168 (by decide +kernel) rfl
set_option maxRecDepth 10000 in
theorem wd_1170 : ((Jvm.Cond.laysFinal "SparklineModel" "SparklineModel" "far" "[I")) ∈ zT := zT_in 1170 (by decide +kernel) rfl
set_option maxRecDepth 10000 in
theorem wd_1172 : ((Jvm.Cond.lays "SparklineModel" "SparklineModel" "orders" "I")) ∈ zT := zT_in 1172 (by decide +kernel) rfl
set_option maxRecDepth 10000 in
theorem wd_1174 : ((Jvm.Cond.laysFinal "SparklineModel" "SparklineModel" "wants" "[I")) ∈ zT := zT_in 1174 (by decide +kernel) rfl
set_option maxRecDepth 10000 in
theorem wd_1176 : ((Jvm.Cond.laysFinal "SparklineModel" "SparklineModel" "times" "[I")) ∈ zT := zT_in 1176 (by decide +kernel) rfl
set_option maxRecDepth 10000 in
theorem wd_1178 : ((Jvm.Cond.laysFinal "SparklineModel" "SparklineModel" "family" "[I")) ∈ zT := zT_in 1178 (by decide +kernel) rfl
set_option maxRecDepth 10000 in
theorem wd_1180 : ((Jvm.Cond.lays "SparklineModel" "SparklineModel" "crimps" "I")) ∈ zT := zT_in 1180 (by decide +kernel) rfl
set_option maxRecDepth 10000 in
theorem wd_1182 : ((Jvm.Cond.lays "SparklineModel" "SparklineModel" "goodOnes" "I")) ∈ zT := zT_in 1182 (by decide +kernel) rfl
set_option maxRecDepth 10000 in
theorem wd_1184 : ((Jvm.Cond.laysFinal "SparklineModel" "SparklineModel" "force" "[I")) ∈ zT := zT_in 1184 (by decide +kernel) rfl
set_option maxRecDepth 10000 in
theorem wd_1186 : ((Jvm.Cond.lays "SparklineModel" "SparklineModel" "minute" "I")) ∈ zT := zT_in 1186 (by decide +kernel) rfl
set_option maxRecDepth 10000 in
theorem wd_1188 : ((Jvm.Cond.lays "SparklineModel" "SparklineModel" "reels" "I")) ∈ zT := zT_in 1188 (by decide +kernel) rfl
set_option maxRecDepth 10000 in
theorem wd_1190 : ((Jvm.Cond.laysFinal "SparklineModel" "SparklineModel" "part" "[I")) ∈ zT := zT_in 1190 (by decide +kernel) rfl
set_option maxRecDepth 10000 in
theorem wd_1192 : ((Jvm.Cond.laysFinal "SparklineModel" "SparklineModel" "left" "[I")) ∈ zT := zT_in 1192 (by decide +kernel) rfl
set_option maxRecDepth 10000 in
theorem wd_1194 : ((Jvm.Cond.laysFinal "SparklineModel" "SparklineModel" "life" "[I")) ∈ zT := zT_in 1194 (by decide +kernel) rfl
set_option maxRecDepth 10000 in
theorem wd_1196 : ((Jvm.Cond.laysFinal "SparklineModel" "SparklineModel" "opened" "[I")) ∈ zT := zT_in 1196 (by decide +kernel) rfl
set_option maxRecDepth 10000 in
theorem wd_1198 : ((Jvm.Cond.laysFinal "SparklineModel" "SparklineModel" "heat" "[I")) ∈ zT := zT_in 1198 (by decide +kernel) rfl
set_option maxRecDepth 10000 in
theorem wd_1200 : ((Jvm.Cond.laysFinal "SparklineModel" "SparklineModel" "low" "[I")) ∈ zT := zT_in 1200 (by decide +kernel) rfl
set_option maxRecDepth 10000 in
theorem wd_1202 : ((Jvm.Cond.laysFinal "SparklineModel" "SparklineModel" "high" "[I")) ∈ zT := zT_in 1202 (by decide +kernel) rfl
set_option maxRecDepth 10000 in
theorem wd_1204 : ((Jvm.Cond.laysFinal "SparklineModel" "SparklineModel" "isCovered" "[Z")) ∈ zT := zT_in 1204 (by decide +kernel) rfl
set_option maxRecDepth 10000 in
theorem wd_1206 : ((Jvm.Cond.lays "SparklineModel" "SparklineModel" "boards" "I")) ∈ zT := zT_in 1206 (by decide +kernel) rfl
set_option maxRecDepth 10000 in
theorem wd_1208 : ((Jvm.Cond.laysFinal "SparklineModel" "SparklineModel" "isSoldered" "[Z")) ∈ zT := zT_in 1208 (by decide +kernel) rfl
set_option maxRecDepth 10000 in
theorem wd_1210 : ((Jvm.Cond.laysFinal "SparklineModel" "SparklineModel" "isTested" "[Z")) ∈ zT := zT_in 1210 (by decide +kernel) rfl
set_option maxRecDepth 10000 in
theorem wd_1212 : ((Jvm.Cond.laysFinal "SparklineModel" "SparklineModel" "isShipped" "[Z")) ∈ zT := zT_in 1212 (by decide +kernel) rfl
set_option maxRecDepth 10000 in
theorem wd_1214 : ((Jvm.Cond.laysFinal "SparklineModel" "SparklineModel" "reel" "[I")) ∈ zT := zT_in 1214 (by decide +kernel) rfl
set_option maxRecDepth 10000 in
theorem wd_1216 : ((Jvm.Cond.laysFinal "SparklineModel" "SparklineModel" "placed" "[I")) ∈ zT := zT_in 1216 (by decide +kernel) rfl
set_option maxRecDepth 10000 in
theorem wd_1218 : ((Jvm.Cond.laysFinal "SparklineModel" "SparklineModel" "joint" "[I")) ∈ zT := zT_in 1218 (by decide +kernel) rfl
set_option maxRecDepth 10000 in
theorem wd_1220 : ((Jvm.Cond.laysFinal "SparklineModel" "SparklineModel" "fault" "[I")) ∈ zT := zT_in 1220 (by decide +kernel) rfl
set_option maxRecDepth 10000 in
theorem wd_1222 : ((Jvm.Cond.laysFinal "SparklineModel" "SparklineModel" "isFound" "[Z")) ∈ zT := zT_in 1222 (by decide +kernel) rfl
set_option maxRecDepth 10000 in
theorem wd_1224 : ((Jvm.Cond.laysFinal "SparklineModel" "SparklineModel" "isRepaired" "[Z")) ∈ zT := zT_in 1224 (by decide +kernel) rfl
set_option maxRecDepth 10000 in
theorem wd_1226 : ((Jvm.Cond.lays "SparklineModel" "SparklineModel" "thrown" "I")) ∈ zT := zT_in 1226 (by decide +kernel) rfl
set_option maxRecDepth 10000 in
theorem wd_1229 : ((Jvm.Cond.arrayClass Jvm.ClassFile.FieldType.boolean)) ∈ zT := zT_in 1229 (by decide +kernel) rfl
set_option maxRecDepth 10000 in
theorem wd_1230 : ((Jvm.Cond.methodLink "SparklineLaw" (119 : Nat) ({ cls := "SparklineModel", name := "thrown", desc := "()I" } : Jvm.MethodName))) ∈ zT := zT_in 1230 (by decide +kernel) rfl
set_option maxRecDepth 10000 in
theorem wd_1231 : ((Jvm.Cond.instanceMethod ({ cls := "SparklineModel", name := "thrown", desc := "()I" } : Jvm.MethodName))) ∈ zT := zT_in 1231 (by decide +kernel) rfl
set_option maxRecDepth 10000 in
theorem wd_1232 : ((Jvm.Cond.selects "SparklineModel" ({ cls := "SparklineModel", name := "thrown", desc := "()I" } : Jvm.MethodName) ({ cls := "SparklineModel", name := "thrown", desc := "()I" } : Jvm.MethodName))) ∈ zT := zT_in 1232 (by decide +kernel) rfl
set_option maxRecDepth 10000 in
theorem wd_1233 : ((Jvm.Cond.code ({ cls := "SparklineModel", name := "thrown", desc := "()I" } : Jvm.MethodName) prog_14_method_2_code (1 : Nat) (Option.some Jvm.ClassFile.FieldType.int))) ∈ zT := zT_in 1233 (by decide +kernel) rfl
set_option maxRecDepth 10000 in
theorem wd_1234 : ((Jvm.Cond.methodLink "SparklineLaw" (118 : Nat) ({ cls := "SparklineModel", name := "bundle", desc := "(IIII)I" } : Jvm.MethodName))) ∈ zT := zT_in 1234 (by decide +kernel) rfl
set_option maxRecDepth 10000 in
theorem wd_1235 : ((Jvm.Cond.instanceMethod ({ cls := "SparklineModel", name := "bundle", desc := "(IIII)I" } : Jvm.MethodName))) ∈ zT := zT_in 1235 (by decide +kernel) rfl
set_option maxRecDepth 10000 in
theorem wd_1236 : ((Jvm.Cond.selects "SparklineModel" ({ cls := "SparklineModel", name := "bundle", desc := "(IIII)I" } : Jvm.MethodName) ({ cls := "SparklineModel", name := "bundle", desc := "(IIII)I" } : Jvm.MethodName))) ∈ zT := zT_in 1236 (by decide +kernel) rfl
set_option maxRecDepth 10000 in
theorem wd_1237 : ((Jvm.Cond.code ({ cls := "SparklineModel", name := "bundle", desc := "(IIII)I" } : Jvm.MethodName) prog_14_method_8_code (7 : Nat) (Option.some Jvm.ClassFile.FieldType.int))) ∈ zT := zT_in 1237 (by decide +kernel) rfl
set_option maxRecDepth 10000 in
theorem wd_1238 : ((Jvm.Cond.methodLink "SparklineModel" (127 : Nat) ({ cls := "SparklineModel", name := "isNode", desc := "(I)Z" } : Jvm.MethodName))) ∈ zT := zT_in 1238 (by decide +kernel) rfl
set_option maxRecDepth 10000 in
theorem wd_1239 : ((Jvm.Cond.static ({ cls := "SparklineModel", name := "isNode", desc := "(I)Z" } : Jvm.MethodName))) ∈ zT := zT_in 1239 (by decide +kernel) rfl
set_option maxRecDepth 10000 in
theorem wd_1240 : ((Jvm.Cond.code ({ cls := "SparklineModel", name := "isNode", desc := "(I)Z" } : Jvm.MethodName) prog_14_method_5_code (1 : Nat) (Option.some Jvm.ClassFile.FieldType.boolean))) ∈ zT := zT_in 1240 (by decide +kernel) rfl
set_option maxRecDepth 10000 in
theorem wd_1241 : ((Jvm.Cond.methodLink "SparklineModel" (120 : Nat) ({ cls := "SparklineModel", name := "isIn", desc := "(III)Z" } : Jvm.MethodName))) ∈ zT := zT_in 1241 (by decide +kernel) rfl
set_option maxRecDepth 10000 in
theorem wd_1242 : ((Jvm.Cond.static ({ cls := "SparklineModel", name := "isIn", desc := "(III)Z" } : Jvm.MethodName))) ∈ zT := zT_in 1242 (by decide +kernel) rfl
set_option maxRecDepth 10000 in
theorem wd_1243 : ((Jvm.Cond.code ({ cls := "SparklineModel", name := "isIn", desc := "(III)Z" } : Jvm.MethodName) prog_14_method_4_code (3 : Nat) (Option.some Jvm.ClassFile.FieldType.boolean))) ∈ zT := zT_in 1243 (by decide +kernel) rfl
set_option maxRecDepth 10000 in
theorem wd_1244 : ((Jvm.Cond.methodLink "SparklineModel" (134 : Nat) ({ cls := "SparklineModel", name := "fails", desc := "(I)Z" } : Jvm.MethodName))) ∈ zT := zT_in 1244 (by decide +kernel) rfl
set_option maxRecDepth 10000 in
theorem wd_1246 : ((Jvm.Cond.instanceMethod ({ cls := "SparklineModel", name := "fails", desc := "(I)Z" } : Jvm.MethodName))) ∈ zT := zT_in 1246 (by decide +kernel) rfl
set_option maxRecDepth 10000 in
theorem wd_1247 : ((Jvm.Cond.code ({ cls := "SparklineModel", name := "fails", desc := "(I)Z" } : Jvm.MethodName) prog_14_method_3_code (2 : Nat) (Option.some Jvm.ClassFile.FieldType.boolean))) ∈ zT := zT_in 1247 (by decide +kernel) rfl
set_option maxRecDepth 10000 in
theorem wd_1248 : ((Jvm.Cond.methodLink "SparklineLaw" (125 : Nat) ({ cls := "SparklineModel", name := "connector", desc := "(III)I" } : Jvm.MethodName))) ∈ zT := zT_in 1248 (by decide +kernel) rfl
set_option maxRecDepth 10000 in
theorem wd_1249 : ((Jvm.Cond.instanceMethod ({ cls := "SparklineModel", name := "connector", desc := "(III)I" } : Jvm.MethodName))) ∈ zT := zT_in 1249 (by decide +kernel) rfl
set_option maxRecDepth 10000 in
theorem wd_1250 : ((Jvm.Cond.selects "SparklineModel" ({ cls := "SparklineModel", name := "connector", desc := "(III)I" } : Jvm.MethodName) ({ cls := "SparklineModel", name := "connector", desc := "(III)I" } : Jvm.MethodName))) ∈ zT := zT_in 1250 (by decide +kernel) rfl
set_option maxRecDepth 10000 in
theorem wd_1251 : ((Jvm.Cond.code ({ cls := "SparklineModel", name := "connector", desc := "(III)I" } : Jvm.MethodName) prog_14_method_9_code (5 : Nat) (Option.some Jvm.ClassFile.FieldType.int))) ∈ zT := zT_in 1251 (by decide +kernel) rfl
set_option maxRecDepth 10000 in
theorem wd_1252 : ((Jvm.Cond.methodLink "SparklineLaw" (129 : Nat) ({ cls := "SparklineModel", name := "mates", desc := "(II)I" } : Jvm.MethodName))) ∈ zT := zT_in 1252 (by decide +kernel) rfl
set_option maxRecDepth 10000 in
theorem wd_1253 : ((Jvm.Cond.instanceMethod ({ cls := "SparklineModel", name := "mates", desc := "(II)I" } : Jvm.MethodName))) ∈ zT := zT_in 1253 (by decide +kernel) rfl
set_option maxRecDepth 10000 in
theorem wd_1254 : ((Jvm.Cond.selects "SparklineModel" ({ cls := "SparklineModel", name := "mates", desc := "(II)I" } : Jvm.MethodName) ({ cls := "SparklineModel", name := "mates", desc := "(II)I" } : Jvm.MethodName))) ∈ zT := zT_in 1254 (by decide +kernel) rfl
set_option maxRecDepth 10000 in
theorem wd_1255 : ((Jvm.Cond.code ({ cls := "SparklineModel", name := "mates", desc := "(II)I" } : Jvm.MethodName) prog_14_method_11_code (7 : Nat) (Option.some Jvm.ClassFile.FieldType.int))) ∈ zT := zT_in 1255 (by decide +kernel) rfl
set_option maxRecDepth 10000 in
theorem wd_1256 : ((Jvm.Cond.methodLink "SparklineModel" (137 : Nat) ({ cls := "SparklineModel", name := "isConnector", desc := "(I)Z" } : Jvm.MethodName))) ∈ zT := zT_in 1256 (by decide +kernel) rfl
set_option maxRecDepth 10000 in
theorem wd_1258 : ((Jvm.Cond.instanceMethod ({ cls := "SparklineModel", name := "isConnector", desc := "(I)Z" } : Jvm.MethodName))) ∈ zT := zT_in 1258 (by decide +kernel) rfl
set_option maxRecDepth 10000 in
theorem wd_1259 : ((Jvm.Cond.code ({ cls := "SparklineModel", name := "isConnector", desc := "(I)Z" } : Jvm.MethodName) prog_14_method_6_code (2 : Nat) (Option.some Jvm.ClassFile.FieldType.boolean))) ∈ zT := zT_in 1259 (by decide +kernel) rfl
set_option maxRecDepth 10000 in
theorem wd_1260 : ((Jvm.Cond.methodLink "SparklineModel" (140 : Nat) ({ cls := "SparklineModel", name := "fit", desc := "(II)Z" } : Jvm.MethodName))) ∈ zT := zT_in 1260 (by decide +kernel) rfl
set_option maxRecDepth 10000 in
theorem wd_1262 : ((Jvm.Cond.instanceMethod ({ cls := "SparklineModel", name := "fit", desc := "(II)Z" } : Jvm.MethodName))) ∈ zT := zT_in 1262 (by decide +kernel) rfl
set_option maxRecDepth 10000 in
theorem wd_1263 : ((Jvm.Cond.code ({ cls := "SparklineModel", name := "fit", desc := "(II)Z" } : Jvm.MethodName) prog_14_method_10_code (3 : Nat) (Option.some Jvm.ClassFile.FieldType.boolean))) ∈ zT := zT_in 1263 (by decide +kernel) rfl
set_option maxRecDepth 10000 in
theorem wd_1264 : ((Jvm.Cond.methodLink "SparklineLaw" (133 : Nat) ({ cls := "SparklineModel", name := "wire", desc := "(IIIII)I" } : Jvm.MethodName))) ∈ zT := zT_in 1264 (by decide +kernel) rfl
set_option maxRecDepth 10000 in
theorem wd_1265 : ((Jvm.Cond.instanceMethod ({ cls := "SparklineModel", name := "wire", desc := "(IIIII)I" } : Jvm.MethodName))) ∈ zT := zT_in 1265 (by decide +kernel) rfl
set_option maxRecDepth 10000 in
theorem wd_1266 : ((Jvm.Cond.selects "SparklineModel" ({ cls := "SparklineModel", name := "wire", desc := "(IIIII)I" } : Jvm.MethodName) ({ cls := "SparklineModel", name := "wire", desc := "(IIIII)I" } : Jvm.MethodName))) ∈ zT := zT_in 1266 (by decide +kernel) rfl
set_option maxRecDepth 10000 in
theorem wd_1267 : ((Jvm.Cond.code ({ cls := "SparklineModel", name := "wire", desc := "(IIIII)I" } : Jvm.MethodName) prog_14_method_18_code (10 : Nat) (Option.some Jvm.ClassFile.FieldType.int))) ∈ zT := zT_in 1267 (by decide +kernel) rfl
set_option maxRecDepth 10000 in
theorem wd_1268 : ((Jvm.Cond.methodLink "SparklineModel" (156 : Nat) ({ cls := "SparklineModel", name := "isCavity", desc := "(II)Z" } : Jvm.MethodName))) ∈ zT := zT_in 1268 (by decide +kernel) rfl
set_option maxRecDepth 10000 in
theorem wd_1270 : ((Jvm.Cond.instanceMethod ({ cls := "SparklineModel", name := "isCavity", desc := "(II)Z" } : Jvm.MethodName))) ∈ zT := zT_in 1270 (by decide +kernel) rfl
set_option maxRecDepth 10000 in
theorem wd_1271 : ((Jvm.Cond.code ({ cls := "SparklineModel", name := "isCavity", desc := "(II)Z" } : Jvm.MethodName) prog_14_method_12_code (3 : Nat) (Option.some Jvm.ClassFile.FieldType.boolean))) ∈ zT := zT_in 1271 (by decide +kernel) rfl
set_option maxRecDepth 10000 in
theorem wd_1272 : ((Jvm.Cond.methodLink "SparklineModel" (159 : Nat) ({ cls := "SparklineModel", name := "finds", desc := "(I)V" } : Jvm.MethodName))) ∈ zT := zT_in 1272 (by decide +kernel) rfl
set_option maxRecDepth 10000 in
theorem wd_1274 : ((Jvm.Cond.instanceMethod ({ cls := "SparklineModel", name := "finds", desc := "(I)V" } : Jvm.MethodName))) ∈ zT := zT_in 1274 (by decide +kernel) rfl
set_option maxRecDepth 10000 in
theorem wd_1275 : ((Jvm.Cond.code ({ cls := "SparklineModel", name := "finds", desc := "(I)V" } : Jvm.MethodName) prog_14_method_16_code (6 : Nat) (Option.none : Option Jvm.ClassFile.FieldType))) ∈ zT := zT_in 1275 (by decide +kernel) rfl
set_option maxRecDepth 10000 in
theorem wd_1276 : ((Jvm.Cond.constant "SparklineModel" (147 : Nat) (1000000000 : Int32))) ∈ zT := zT_in 1276 (by decide +kernel) rfl
set_option maxRecDepth 10000 in
theorem wd_1277 : ((Jvm.Cond.methodLink "SparklineModel" (148 : Nat) ({ cls := "SparklineModel", name := "costOf", desc := "(I)I" } : Jvm.MethodName))) ∈ zT := zT_in 1277 (by decide +kernel) rfl
set_option maxRecDepth 10000 in
theorem wd_1279 : ((Jvm.Cond.instanceMethod ({ cls := "SparklineModel", name := "costOf", desc := "(I)I" } : Jvm.MethodName))) ∈ zT := zT_in 1279 (by decide +kernel) rfl
set_option maxRecDepth 10000 in
theorem wd_1280 : ((Jvm.Cond.code ({ cls := "SparklineModel", name := "costOf", desc := "(I)I" } : Jvm.MethodName) prog_14_method_15_code (2 : Nat) (Option.some Jvm.ClassFile.FieldType.int))) ∈ zT := zT_in 1280 (by decide +kernel) rfl
set_option maxRecDepth 10000 in
theorem wd_1281 : ((Jvm.Cond.methodLink "SparklineModel" (163 : Nat) ({ cls := "SparklineModel", name := "isTaken", desc := "(I)Z" } : Jvm.MethodName))) ∈ zT := zT_in 1281 (by decide +kernel) rfl
set_option maxRecDepth 10000 in
theorem wd_1283 : ((Jvm.Cond.instanceMethod ({ cls := "SparklineModel", name := "isTaken", desc := "(I)Z" } : Jvm.MethodName))) ∈ zT := zT_in 1283 (by decide +kernel) rfl
set_option maxRecDepth 10000 in
theorem wd_1284 : ((Jvm.Cond.code ({ cls := "SparklineModel", name := "isTaken", desc := "(I)Z" } : Jvm.MethodName) prog_14_method_13_code (4 : Nat) (Option.some Jvm.ClassFile.FieldType.boolean))) ∈ zT := zT_in 1284 (by decide +kernel) rfl
set_option maxRecDepth 10000 in
theorem wd_1285 : ((Jvm.Cond.methodLink "SparklineModel" (166 : Nat) ({ cls := "SparklineModel", name := "lays", desc := "(II)V" } : Jvm.MethodName))) ∈ zT := zT_in 1285 (by decide +kernel) rfl
set_option maxRecDepth 10000 in
theorem wd_1287 : ((Jvm.Cond.instanceMethod ({ cls := "SparklineModel", name := "lays", desc := "(II)V" } : Jvm.MethodName))) ∈ zT := zT_in 1287 (by decide +kernel) rfl
set_option maxRecDepth 10000 in
theorem wd_1288 : ((Jvm.Cond.code ({ cls := "SparklineModel", name := "lays", desc := "(II)V" } : Jvm.MethodName) prog_14_method_17_code (7 : Nat) (Option.none : Option Jvm.ClassFile.FieldType))) ∈ zT := zT_in 1288 (by decide +kernel) rfl
set_option maxRecDepth 10000 in
theorem wd_1289 : ((Jvm.Cond.methodLink "SparklineModel" (152 : Nat) ({ cls := "SparklineModel", name := "across", desc := "(II)I" } : Jvm.MethodName))) ∈ zT := zT_in 1289 (by decide +kernel) rfl
set_option maxRecDepth 10000 in
theorem wd_1291 : ((Jvm.Cond.instanceMethod ({ cls := "SparklineModel", name := "across", desc := "(II)I" } : Jvm.MethodName))) ∈ zT := zT_in 1291 (by decide +kernel) rfl
set_option maxRecDepth 10000 in
theorem wd_1292 : ((Jvm.Cond.code ({ cls := "SparklineModel", name := "across", desc := "(II)I" } : Jvm.MethodName) prog_14_method_14_code (3 : Nat) (Option.some Jvm.ClassFile.FieldType.int))) ∈ zT := zT_in 1292 (by decide +kernel) rfl
set_option maxRecDepth 10000 in
theorem wd_1293 : ((Jvm.Cond.methodLink "SparklineLaw" (137 : Nat) ({ cls := "SparklineModel", name := "pull", desc := "(I)I" } : Jvm.MethodName))) ∈ zT := zT_in 1293 (by decide +kernel) rfl
set_option maxRecDepth 10000 in
theorem wd_1294 : ((Jvm.Cond.instanceMethod ({ cls := "SparklineModel", name := "pull", desc := "(I)I" } : Jvm.MethodName))) ∈ zT := zT_in 1294 (by decide +kernel) rfl
set_option maxRecDepth 10000 in
theorem wd_1295 : ((Jvm.Cond.selects "SparklineModel" ({ cls := "SparklineModel", name := "pull", desc := "(I)I" } : Jvm.MethodName) ({ cls := "SparklineModel", name := "pull", desc := "(I)I" } : Jvm.MethodName))) ∈ zT := zT_in 1295 (by decide +kernel) rfl
set_option maxRecDepth 10000 in
theorem wd_1296 : ((Jvm.Cond.code ({ cls := "SparklineModel", name := "pull", desc := "(I)I" } : Jvm.MethodName) prog_14_method_21_code (4 : Nat) (Option.some Jvm.ClassFile.FieldType.int))) ∈ zT := zT_in 1296 (by decide +kernel) rfl
set_option maxRecDepth 10000 in
theorem wd_1297 : ((Jvm.Cond.methodLink "SparklineModel" (170 : Nat) ({ cls := "SparklineModel", name := "isWire", desc := "(I)Z" } : Jvm.MethodName))) ∈ zT := zT_in 1297 (by decide +kernel) rfl
set_option maxRecDepth 10000 in
theorem wd_1299 : ((Jvm.Cond.instanceMethod ({ cls := "SparklineModel", name := "isWire", desc := "(I)Z" } : Jvm.MethodName))) ∈ zT := zT_in 1299 (by decide +kernel) rfl
set_option maxRecDepth 10000 in
theorem wd_1300 : ((Jvm.Cond.code ({ cls := "SparklineModel", name := "isWire", desc := "(I)Z" } : Jvm.MethodName) prog_14_method_19_code (2 : Nat) (Option.some Jvm.ClassFile.FieldType.boolean))) ∈ zT := zT_in 1300 (by decide +kernel) rfl
set_option maxRecDepth 10000 in
theorem wd_1301 : ((Jvm.Cond.methodLink "SparklineModel" (173 : Nat) ({ cls := "SparklineModel", name := "lengthOf", desc := "(I)I" } : Jvm.MethodName))) ∈ zT := zT_in 1301 (by decide +kernel) rfl
set_option maxRecDepth 10000 in
theorem wd_1303 : ((Jvm.Cond.instanceMethod ({ cls := "SparklineModel", name := "lengthOf", desc := "(I)I" } : Jvm.MethodName))) ∈ zT := zT_in 1303 (by decide +kernel) rfl
set_option maxRecDepth 10000 in
theorem wd_1304 : ((Jvm.Cond.code ({ cls := "SparklineModel", name := "lengthOf", desc := "(I)I" } : Jvm.MethodName) prog_14_method_20_code (4 : Nat) (Option.some Jvm.ClassFile.FieldType.int))) ∈ zT := zT_in 1304 (by decide +kernel) rfl
set_option maxRecDepth 10000 in
theorem wd_1305 : ((Jvm.Cond.methodLink "SparklineLaw" (140 : Nat) ({ cls := "SparklineModel", name := "ofWire", desc := "(II)I" } : Jvm.MethodName))) ∈ zT := zT_in 1305 (by decide +kernel) rfl
set_option maxRecDepth 10000 in
theorem wd_1306 : ((Jvm.Cond.instanceMethod ({ cls := "SparklineModel", name := "ofWire", desc := "(II)I" } : Jvm.MethodName))) ∈ zT := zT_in 1306 (by decide +kernel) rfl
set_option maxRecDepth 10000 in
theorem wd_1307 : ((Jvm.Cond.selects "SparklineModel" ({ cls := "SparklineModel", name := "ofWire", desc := "(II)I" } : Jvm.MethodName) ({ cls := "SparklineModel", name := "ofWire", desc := "(II)I" } : Jvm.MethodName))) ∈ zT := zT_in 1307 (by decide +kernel) rfl
set_option maxRecDepth 10000 in
theorem wd_1308 : ((Jvm.Cond.code ({ cls := "SparklineModel", name := "ofWire", desc := "(II)I" } : Jvm.MethodName) prog_14_method_22_code (3 : Nat) (Option.some Jvm.ClassFile.FieldType.int))) ∈ zT := zT_in 1308 (by decide +kernel) rfl
set_option maxRecDepth 10000 in
theorem wd_1309 : ((Jvm.Cond.methodLink "SparklineLaw" (143 : Nat) ({ cls := "SparklineModel", name := "weight", desc := "(I)I" } : Jvm.MethodName))) ∈ zT := zT_in 1309 (by decide +kernel) rfl
set_option maxRecDepth 10000 in
theorem wd_1310 : ((Jvm.Cond.instanceMethod ({ cls := "SparklineModel", name := "weight", desc := "(I)I" } : Jvm.MethodName))) ∈ zT := zT_in 1310 (by decide +kernel) rfl
set_option maxRecDepth 10000 in
theorem wd_1311 : ((Jvm.Cond.selects "SparklineModel" ({ cls := "SparklineModel", name := "weight", desc := "(I)I" } : Jvm.MethodName) ({ cls := "SparklineModel", name := "weight", desc := "(I)I" } : Jvm.MethodName))) ∈ zT := zT_in 1311 (by decide +kernel) rfl
set_option maxRecDepth 10000 in
theorem wd_1312 : ((Jvm.Cond.code ({ cls := "SparklineModel", name := "weight", desc := "(I)I" } : Jvm.MethodName) prog_14_method_25_code (2 : Nat) (Option.some Jvm.ClassFile.FieldType.int))) ∈ zT := zT_in 1312 (by decide +kernel) rfl
set_option maxRecDepth 10000 in
theorem wd_1313 : ((Jvm.Cond.methodLink "SparklineModel" (176 : Nat) ({ cls := "SparklineModel", name := "areOptions", desc := "(I)Z" } : Jvm.MethodName))) ∈ zT := zT_in 1313 (by decide +kernel) rfl
set_option maxRecDepth 10000 in
theorem wd_1314 : ((Jvm.Cond.static ({ cls := "SparklineModel", name := "areOptions", desc := "(I)Z" } : Jvm.MethodName))) ∈ zT := zT_in 1314 (by decide +kernel) rfl
set_option maxRecDepth 10000 in
theorem wd_1315 : ((Jvm.Cond.code ({ cls := "SparklineModel", name := "areOptions", desc := "(I)Z" } : Jvm.MethodName) prog_14_method_23_code (1 : Nat) (Option.some Jvm.ClassFile.FieldType.boolean))) ∈ zT := zT_in 1315 (by decide +kernel) rfl
set_option maxRecDepth 10000 in
theorem wd_1316 : ((Jvm.Cond.methodLink "SparklineModel" (179 : Nat) ({ cls := "SparklineModel", name := "weighs", desc := "(I)I" } : Jvm.MethodName))) ∈ zT := zT_in 1316 (by decide +kernel) rfl
set_option maxRecDepth 10000 in
theorem wd_1318 : ((Jvm.Cond.instanceMethod ({ cls := "SparklineModel", name := "weighs", desc := "(I)I" } : Jvm.MethodName))) ∈ zT := zT_in 1318 (by decide +kernel) rfl
set_option maxRecDepth 10000 in
theorem wd_1319 : ((Jvm.Cond.code ({ cls := "SparklineModel", name := "weighs", desc := "(I)I" } : Jvm.MethodName) prog_14_method_24_code (4 : Nat) (Option.some Jvm.ClassFile.FieldType.int))) ∈ zT := zT_in 1319 (by decide +kernel) rfl
set_option maxRecDepth 10000 in
theorem wd_1320 : ((Jvm.Cond.methodLink "SparklineLaw" (146 : Nat) ({ cls := "SparklineModel", name := "order", desc := "(II)I" } : Jvm.MethodName))) ∈ zT := zT_in 1320 (by decide +kernel) rfl
set_option maxRecDepth 10000 in
theorem wd_1321 : ((Jvm.Cond.instanceMethod ({ cls := "SparklineModel", name := "order", desc := "(II)I" } : Jvm.MethodName))) ∈ zT := zT_in 1321 (by decide +kernel) rfl
set_option maxRecDepth 10000 in
theorem wd_1322 : ((Jvm.Cond.selects "SparklineModel" ({ cls := "SparklineModel", name := "order", desc := "(II)I" } : Jvm.MethodName) ({ cls := "SparklineModel", name := "order", desc := "(II)I" } : Jvm.MethodName))) ∈ zT := zT_in 1322 (by decide +kernel) rfl
set_option maxRecDepth 10000 in
theorem wd_1323 : ((Jvm.Cond.code ({ cls := "SparklineModel", name := "order", desc := "(II)I" } : Jvm.MethodName) prog_14_method_26_code (4 : Nat) (Option.some Jvm.ClassFile.FieldType.int))) ∈ zT := zT_in 1323 (by decide +kernel) rfl
set_option maxRecDepth 10000 in
theorem wd_1324 : ((Jvm.Cond.methodLink "SparklineLaw" (149 : Nat) ({ cls := "SparklineModel", name := "least", desc := "(I)I" } : Jvm.MethodName))) ∈ zT := zT_in 1324 (by decide +kernel) rfl
set_option maxRecDepth 10000 in
theorem wd_1325 : ((Jvm.Cond.instanceMethod ({ cls := "SparklineModel", name := "least", desc := "(I)I" } : Jvm.MethodName))) ∈ zT := zT_in 1325 (by decide +kernel) rfl
set_option maxRecDepth 10000 in
theorem wd_1326 : ((Jvm.Cond.selects "SparklineModel" ({ cls := "SparklineModel", name := "least", desc := "(I)I" } : Jvm.MethodName) ({ cls := "SparklineModel", name := "least", desc := "(I)I" } : Jvm.MethodName))) ∈ zT := zT_in 1326 (by decide +kernel) rfl
set_option maxRecDepth 10000 in
theorem wd_1327 : ((Jvm.Cond.code ({ cls := "SparklineModel", name := "least", desc := "(I)I" } : Jvm.MethodName) prog_14_method_29_code (2 : Nat) (Option.some Jvm.ClassFile.FieldType.int))) ∈ zT := zT_in 1327 (by decide +kernel) rfl
set_option maxRecDepth 10000 in
theorem wd_1328 : ((Jvm.Cond.methodLink "SparklineModel" (188 : Nat) ({ cls := "SparklineModel", name := "leastOf", desc := "(I)I" } : Jvm.MethodName))) ∈ zT := zT_in 1328 (by decide +kernel) rfl
set_option maxRecDepth 10000 in
theorem wd_1330 : ((Jvm.Cond.instanceMethod ({ cls := "SparklineModel", name := "leastOf", desc := "(I)I" } : Jvm.MethodName))) ∈ zT := zT_in 1330 (by decide +kernel) rfl
set_option maxRecDepth 10000 in
theorem wd_1331 : ((Jvm.Cond.code ({ cls := "SparklineModel", name := "leastOf", desc := "(I)I" } : Jvm.MethodName) prog_14_method_28_code (7 : Nat) (Option.some Jvm.ClassFile.FieldType.int))) ∈ zT := zT_in 1331 (by decide +kernel) rfl
set_option maxRecDepth 10000 in
theorem wd_1332 : ((Jvm.Cond.methodLink "SparklineModel" (185 : Nat) ({ cls := "SparklineModel", name := "weightOfFamilies", desc := "(I)I" } : Jvm.MethodName))) ∈ zT := zT_in 1332 (by decide +kernel) rfl
set_option maxRecDepth 10000 in
theorem wd_1334 : ((Jvm.Cond.instanceMethod ({ cls := "SparklineModel", name := "weightOfFamilies", desc := "(I)I" } : Jvm.MethodName))) ∈ zT := zT_in 1334 (by decide +kernel) rfl
set_option maxRecDepth 10000 in
theorem wd_1335 : ((Jvm.Cond.code ({ cls := "SparklineModel", name := "weightOfFamilies", desc := "(I)I" } : Jvm.MethodName) prog_14_method_27_code (7 : Nat) (Option.some Jvm.ClassFile.FieldType.int))) ∈ zT := zT_in 1335 (by decide +kernel) rfl
set_option maxRecDepth 10000 in
theorem wd_1336 : ((Jvm.Cond.methodLink "SparklineLaw" (152 : Nat) ({ cls := "SparklineModel", name := "leastAnew", desc := "(I)I" } : Jvm.MethodName))) ∈ zT := zT_in 1336 (by decide +kernel) rfl
set_option maxRecDepth 10000 in
theorem wd_1337 : ((Jvm.Cond.instanceMethod ({ cls := "SparklineModel", name := "leastAnew", desc := "(I)I" } : Jvm.MethodName))) ∈ zT := zT_in 1337 (by decide +kernel) rfl
set_option maxRecDepth 10000 in
theorem wd_1338 : ((Jvm.Cond.selects "SparklineModel" ({ cls := "SparklineModel", name := "leastAnew", desc := "(I)I" } : Jvm.MethodName) ({ cls := "SparklineModel", name := "leastAnew", desc := "(I)I" } : Jvm.MethodName))) ∈ zT := zT_in 1338 (by decide +kernel) rfl
set_option maxRecDepth 10000 in
theorem wd_1339 : ((Jvm.Cond.code ({ cls := "SparklineModel", name := "leastAnew", desc := "(I)I" } : Jvm.MethodName) prog_14_method_30_code (2 : Nat) (Option.some Jvm.ClassFile.FieldType.int))) ∈ zT := zT_in 1339 (by decide +kernel) rfl
set_option maxRecDepth 10000 in
theorem wd_1340 : ((Jvm.Cond.methodLink "SparklineModel" (191 : Nat) ({ cls := "SparklineModel", name := "least", desc := "(I)I" } : Jvm.MethodName))) ∈ zT := zT_in 1340 (by decide +kernel) rfl
set_option maxRecDepth 10000 in
theorem wd_1341 : ((Jvm.Cond.methodLink "SparklineLaw" (155 : Nat) ({ cls := "SparklineModel", name := "crimp", desc := "(I)Z" } : Jvm.MethodName))) ∈ zT := zT_in 1341 (by decide +kernel) rfl
set_option maxRecDepth 10000 in
theorem wd_1342 : ((Jvm.Cond.instanceMethod ({ cls := "SparklineModel", name := "crimp", desc := "(I)Z" } : Jvm.MethodName))) ∈ zT := zT_in 1342 (by decide +kernel) rfl
set_option maxRecDepth 10000 in
theorem wd_1343 : ((Jvm.Cond.selects "SparklineModel" ({ cls := "SparklineModel", name := "crimp", desc := "(I)Z" } : Jvm.MethodName) ({ cls := "SparklineModel", name := "crimp", desc := "(I)Z" } : Jvm.MethodName))) ∈ zT := zT_in 1343 (by decide +kernel) rfl
set_option maxRecDepth 10000 in
theorem wd_1344 : ((Jvm.Cond.code ({ cls := "SparklineModel", name := "crimp", desc := "(I)Z" } : Jvm.MethodName) prog_14_method_32_code (4 : Nat) (Option.some Jvm.ClassFile.FieldType.boolean))) ∈ zT := zT_in 1344 (by decide +kernel) rfl
set_option maxRecDepth 10000 in
theorem wd_1345 : ((Jvm.Cond.methodLink "SparklineModel" (197 : Nat) ({ cls := "SparklineModel", name := "window", desc := "()I" } : Jvm.MethodName))) ∈ zT := zT_in 1345 (by decide +kernel) rfl
set_option maxRecDepth 10000 in
theorem wd_1347 : ((Jvm.Cond.instanceMethod ({ cls := "SparklineModel", name := "window", desc := "()I" } : Jvm.MethodName))) ∈ zT := zT_in 1347 (by decide +kernel) rfl
set_option maxRecDepth 10000 in
theorem wd_1348 : ((Jvm.Cond.code ({ cls := "SparklineModel", name := "window", desc := "()I" } : Jvm.MethodName) prog_14_method_31_code (4 : Nat) (Option.some Jvm.ClassFile.FieldType.int))) ∈ zT := zT_in 1348 (by decide +kernel) rfl
set_option maxRecDepth 10000 in
theorem wd_1349 : ((Jvm.Cond.methodLink "SparklineLaw" (158 : Nat) ({ cls := "SparklineModel", name := "crimps", desc := "(I)I" } : Jvm.MethodName))) ∈ zT := zT_in 1349 (by decide +kernel) rfl
set_option maxRecDepth 10000 in
theorem wd_1350 : ((Jvm.Cond.instanceMethod ({ cls := "SparklineModel", name := "crimps", desc := "(I)I" } : Jvm.MethodName))) ∈ zT := zT_in 1350 (by decide +kernel) rfl
set_option maxRecDepth 10000 in
theorem wd_1351 : ((Jvm.Cond.selects "SparklineModel" ({ cls := "SparklineModel", name := "crimps", desc := "(I)I" } : Jvm.MethodName) ({ cls := "SparklineModel", name := "crimps", desc := "(I)I" } : Jvm.MethodName))) ∈ zT := zT_in 1351 (by decide +kernel) rfl
set_option maxRecDepth 10000 in
theorem wd_1352 : ((Jvm.Cond.code ({ cls := "SparklineModel", name := "crimps", desc := "(I)I" } : Jvm.MethodName) prog_14_method_33_code (2 : Nat) (Option.some Jvm.ClassFile.FieldType.int))) ∈ zT := zT_in 1352 (by decide +kernel) rfl
set_option maxRecDepth 10000 in
theorem wd_1353 : ((Jvm.Cond.methodLink "SparklineLaw" (161 : Nat) ({ cls := "SparklineModel", name := "reel", desc := "(III)I" } : Jvm.MethodName))) ∈ zT := zT_in 1353 (by decide +kernel) rfl
set_option maxRecDepth 10000 in
theorem wd_1354 : ((Jvm.Cond.instanceMethod ({ cls := "SparklineModel", name := "reel", desc := "(III)I" } : Jvm.MethodName))) ∈ zT := zT_in 1354 (by decide +kernel) rfl
set_option maxRecDepth 10000 in
theorem wd_1355 : ((Jvm.Cond.selects "SparklineModel" ({ cls := "SparklineModel", name := "reel", desc := "(III)I" } : Jvm.MethodName) ({ cls := "SparklineModel", name := "reel", desc := "(III)I" } : Jvm.MethodName))) ∈ zT := zT_in 1355 (by decide +kernel) rfl
set_option maxRecDepth 10000 in
theorem wd_1356 : ((Jvm.Cond.code ({ cls := "SparklineModel", name := "reel", desc := "(III)I" } : Jvm.MethodName) prog_14_method_34_code (5 : Nat) (Option.some Jvm.ClassFile.FieldType.int))) ∈ zT := zT_in 1356 (by decide +kernel) rfl
set_option maxRecDepth 10000 in
theorem wd_1357 : ((Jvm.Cond.methodLink "SparklineLaw" (165 : Nat) ({ cls := "SparklineModel", name := "open", desc := "(IZ)I" } : Jvm.MethodName))) ∈ zT := zT_in 1357 (by decide +kernel) rfl
set_option maxRecDepth 10000 in
theorem wd_1358 : ((Jvm.Cond.instanceMethod ({ cls := "SparklineModel", name := "open", desc := "(IZ)I" } : Jvm.MethodName))) ∈ zT := zT_in 1358 (by decide +kernel) rfl
set_option maxRecDepth 10000 in
theorem wd_1359 : ((Jvm.Cond.selects "SparklineModel" ({ cls := "SparklineModel", name := "open", desc := "(IZ)I" } : Jvm.MethodName) ({ cls := "SparklineModel", name := "open", desc := "(IZ)I" } : Jvm.MethodName))) ∈ zT := zT_in 1359 (by decide +kernel) rfl
set_option maxRecDepth 10000 in
theorem wd_1360 : ((Jvm.Cond.code ({ cls := "SparklineModel", name := "open", desc := "(IZ)I" } : Jvm.MethodName) prog_14_method_37_code (3 : Nat) (Option.some Jvm.ClassFile.FieldType.int))) ∈ zT := zT_in 1360 (by decide +kernel) rfl
set_option maxRecDepth 10000 in
theorem wd_1361 : ((Jvm.Cond.methodLink "SparklineModel" (210 : Nat) ({ cls := "SparklineModel", name := "isReel", desc := "(I)Z" } : Jvm.MethodName))) ∈ zT := zT_in 1361 (by decide +kernel) rfl
set_option maxRecDepth 10000 in
theorem wd_1363 : ((Jvm.Cond.instanceMethod ({ cls := "SparklineModel", name := "isReel", desc := "(I)Z" } : Jvm.MethodName))) ∈ zT := zT_in 1363 (by decide +kernel) rfl
set_option maxRecDepth 10000 in
theorem wd_1364 : ((Jvm.Cond.code ({ cls := "SparklineModel", name := "isReel", desc := "(I)Z" } : Jvm.MethodName) prog_14_method_35_code (2 : Nat) (Option.some Jvm.ClassFile.FieldType.boolean))) ∈ zT := zT_in 1364 (by decide +kernel) rfl
set_option maxRecDepth 10000 in
theorem wd_1365 : ((Jvm.Cond.methodLink "SparklineModel" (213 : Nat) ({ cls := "SparklineModel", name := "runs", desc := "(I)I" } : Jvm.MethodName))) ∈ zT := zT_in 1365 (by decide +kernel) rfl
set_option maxRecDepth 10000 in
theorem wd_1367 : ((Jvm.Cond.instanceMethod ({ cls := "SparklineModel", name := "runs", desc := "(I)I" } : Jvm.MethodName))) ∈ zT := zT_in 1367 (by decide +kernel) rfl
set_option maxRecDepth 10000 in
theorem wd_1368 : ((Jvm.Cond.code ({ cls := "SparklineModel", name := "runs", desc := "(I)I" } : Jvm.MethodName) prog_14_method_36_code (3 : Nat) (Option.some Jvm.ClassFile.FieldType.int))) ∈ zT := zT_in 1368 (by decide +kernel) rfl
set_option maxRecDepth 10000 in
theorem wd_1369 : ((Jvm.Cond.methodLink "SparklineLaw" (168 : Nat) ({ cls := "SparklineModel", name := "ofReel", desc := "(II)I" } : Jvm.MethodName))) ∈ zT := zT_in 1369 (by decide +kernel) rfl
set_option maxRecDepth 10000 in
theorem wd_1370 : ((Jvm.Cond.instanceMethod ({ cls := "SparklineModel", name := "ofReel", desc := "(II)I" } : Jvm.MethodName))) ∈ zT := zT_in 1370 (by decide +kernel) rfl
set_option maxRecDepth 10000 in
theorem wd_1371 : ((Jvm.Cond.selects "SparklineModel" ({ cls := "SparklineModel", name := "ofReel", desc := "(II)I" } : Jvm.MethodName) ({ cls := "SparklineModel", name := "ofReel", desc := "(II)I" } : Jvm.MethodName))) ∈ zT := zT_in 1371 (by decide +kernel) rfl
set_option maxRecDepth 10000 in
theorem wd_1372 : ((Jvm.Cond.code ({ cls := "SparklineModel", name := "ofReel", desc := "(II)I" } : Jvm.MethodName) prog_14_method_38_code (3 : Nat) (Option.some Jvm.ClassFile.FieldType.int))) ∈ zT := zT_in 1372 (by decide +kernel) rfl
set_option maxRecDepth 10000 in
theorem wd_1373 : ((Jvm.Cond.methodLink "SparklineLaw" (172 : Nat) ({ cls := "SparklineModel", name := "board", desc := "()I" } : Jvm.MethodName))) ∈ zT := zT_in 1373 (by decide +kernel) rfl
set_option maxRecDepth 10000 in
theorem wd_1374 : ((Jvm.Cond.instanceMethod ({ cls := "SparklineModel", name := "board", desc := "()I" } : Jvm.MethodName))) ∈ zT := zT_in 1374 (by decide +kernel) rfl
set_option maxRecDepth 10000 in
theorem wd_1375 : ((Jvm.Cond.selects "SparklineModel" ({ cls := "SparklineModel", name := "board", desc := "()I" } : Jvm.MethodName) ({ cls := "SparklineModel", name := "board", desc := "()I" } : Jvm.MethodName))) ∈ zT := zT_in 1375 (by decide +kernel) rfl
set_option maxRecDepth 10000 in
theorem wd_1376 : ((Jvm.Cond.code ({ cls := "SparklineModel", name := "board", desc := "()I" } : Jvm.MethodName) prog_14_method_40_code (1 : Nat) (Option.some Jvm.ClassFile.FieldType.int))) ∈ zT := zT_in 1376 (by decide +kernel) rfl
set_option maxRecDepth 10000 in
theorem wd_1377 : ((Jvm.Cond.methodLink "SparklineLaw" (175 : Nat) ({ cls := "SparklineModel", name := "place", desc := "(III)I" } : Jvm.MethodName))) ∈ zT := zT_in 1377 (by decide +kernel) rfl
set_option maxRecDepth 10000 in
theorem wd_1378 : ((Jvm.Cond.instanceMethod ({ cls := "SparklineModel", name := "place", desc := "(III)I" } : Jvm.MethodName))) ∈ zT := zT_in 1378 (by decide +kernel) rfl
set_option maxRecDepth 10000 in
theorem wd_1379 : ((Jvm.Cond.selects "SparklineModel" ({ cls := "SparklineModel", name := "place", desc := "(III)I" } : Jvm.MethodName) ({ cls := "SparklineModel", name := "place", desc := "(III)I" } : Jvm.MethodName))) ∈ zT := zT_in 1379 (by decide +kernel) rfl
set_option maxRecDepth 10000 in
theorem wd_1380 : ((Jvm.Cond.code ({ cls := "SparklineModel", name := "place", desc := "(III)I" } : Jvm.MethodName) prog_14_method_43_code (6 : Nat) (Option.some Jvm.ClassFile.FieldType.int))) ∈ zT := zT_in 1380 (by decide +kernel) rfl
set_option maxRecDepth 10000 in
theorem wd_1381 : ((Jvm.Cond.methodLink "SparklineModel" (219 : Nat) ({ cls := "SparklineModel", name := "isBoard", desc := "(I)Z" } : Jvm.MethodName))) ∈ zT := zT_in 1381 (by decide +kernel) rfl
set_option maxRecDepth 10000 in
theorem wd_1383 : ((Jvm.Cond.instanceMethod ({ cls := "SparklineModel", name := "isBoard", desc := "(I)Z" } : Jvm.MethodName))) ∈ zT := zT_in 1383 (by decide +kernel) rfl
set_option maxRecDepth 10000 in
theorem wd_1384 : ((Jvm.Cond.code ({ cls := "SparklineModel", name := "isBoard", desc := "(I)Z" } : Jvm.MethodName) prog_14_method_41_code (2 : Nat) (Option.some Jvm.ClassFile.FieldType.boolean))) ∈ zT := zT_in 1384 (by decide +kernel) rfl
set_option maxRecDepth 10000 in
theorem wd_1385 : ((Jvm.Cond.methodLink "SparklineModel" (222 : Nat) ({ cls := "SparklineModel", name := "isSlot", desc := "(I)Z" } : Jvm.MethodName))) ∈ zT := zT_in 1385 (by decide +kernel) rfl
set_option maxRecDepth 10000 in
theorem wd_1386 : ((Jvm.Cond.static ({ cls := "SparklineModel", name := "isSlot", desc := "(I)Z" } : Jvm.MethodName))) ∈ zT := zT_in 1386 (by decide +kernel) rfl
set_option maxRecDepth 10000 in
theorem wd_1387 : ((Jvm.Cond.code ({ cls := "SparklineModel", name := "isSlot", desc := "(I)Z" } : Jvm.MethodName) prog_14_method_42_code (1 : Nat) (Option.some Jvm.ClassFile.FieldType.boolean))) ∈ zT := zT_in 1387 (by decide +kernel) rfl
set_option maxRecDepth 10000 in
theorem wd_1388 : ((Jvm.Cond.methodLink "SparklineModel" (225 : Nat) ({ cls := "SparklineModel", name := "gives", desc := "(I)Z" } : Jvm.MethodName))) ∈ zT := zT_in 1388 (by decide +kernel) rfl
set_option maxRecDepth 10000 in
theorem wd_1390 : ((Jvm.Cond.instanceMethod ({ cls := "SparklineModel", name := "gives", desc := "(I)Z" } : Jvm.MethodName))) ∈ zT := zT_in 1390 (by decide +kernel) rfl
set_option maxRecDepth 10000 in
theorem wd_1391 : ((Jvm.Cond.code ({ cls := "SparklineModel", name := "gives", desc := "(I)Z" } : Jvm.MethodName) prog_14_method_39_code (2 : Nat) (Option.some Jvm.ClassFile.FieldType.boolean))) ∈ zT := zT_in 1391 (by decide +kernel) rfl
set_option maxRecDepth 10000 in
theorem wd_1392 : ((Jvm.Cond.methodLink "SparklineLaw" (179 : Nat) ({ cls := "SparklineModel", name := "limits", desc := "(ZIII)V" } : Jvm.MethodName))) ∈ zT := zT_in 1392 (by decide +kernel) rfl
set_option maxRecDepth 10000 in
theorem wd_1393 : ((Jvm.Cond.instanceMethod ({ cls := "SparklineModel", name := "limits", desc := "(ZIII)V" } : Jvm.MethodName))) ∈ zT := zT_in 1393 (by decide +kernel) rfl
set_option maxRecDepth 10000 in
theorem wd_1394 : ((Jvm.Cond.selects "SparklineModel" ({ cls := "SparklineModel", name := "limits", desc := "(ZIII)V" } : Jvm.MethodName) ({ cls := "SparklineModel", name := "limits", desc := "(ZIII)V" } : Jvm.MethodName))) ∈ zT := zT_in 1394 (by decide +kernel) rfl
set_option maxRecDepth 10000 in
theorem wd_1395 : ((Jvm.Cond.code ({ cls := "SparklineModel", name := "limits", desc := "(ZIII)V" } : Jvm.MethodName) prog_14_method_44_code (7 : Nat) (Option.none : Option Jvm.ClassFile.FieldType))) ∈ zT := zT_in 1395 (by decide +kernel) rfl
set_option maxRecDepth 10000 in
theorem wd_1396 : ((Jvm.Cond.methodLink "SparklineLaw" (182 : Nat) ({ cls := "SparklineModel", name := "solder", desc := "(I)I" } : Jvm.MethodName))) ∈ zT := zT_in 1396 (by decide +kernel) rfl
set_option maxRecDepth 10000 in
theorem wd_1397 : ((Jvm.Cond.instanceMethod ({ cls := "SparklineModel", name := "solder", desc := "(I)I" } : Jvm.MethodName))) ∈ zT := zT_in 1397 (by decide +kernel) rfl
set_option maxRecDepth 10000 in
theorem wd_1398 : ((Jvm.Cond.selects "SparklineModel" ({ cls := "SparklineModel", name := "solder", desc := "(I)I" } : Jvm.MethodName) ({ cls := "SparklineModel", name := "solder", desc := "(I)I" } : Jvm.MethodName))) ∈ zT := zT_in 1398 (by decide +kernel) rfl
set_option maxRecDepth 10000 in
theorem wd_1399 : ((Jvm.Cond.code ({ cls := "SparklineModel", name := "solder", desc := "(I)I" } : Jvm.MethodName) prog_14_method_46_code (5 : Nat) (Option.some Jvm.ClassFile.FieldType.int))) ∈ zT := zT_in 1399 (by decide +kernel) rfl
set_option maxRecDepth 10000 in
theorem wd_1400 : ((Jvm.Cond.methodLink "SparklineModel" (231 : Nat) ({ cls := "SparklineModel", name := "peakOf", desc := "(I)I" } : Jvm.MethodName))) ∈ zT := zT_in 1400 (by decide +kernel) rfl
set_option maxRecDepth 10000 in
theorem wd_1402 : ((Jvm.Cond.instanceMethod ({ cls := "SparklineModel", name := "peakOf", desc := "(I)I" } : Jvm.MethodName))) ∈ zT := zT_in 1402 (by decide +kernel) rfl
set_option maxRecDepth 10000 in
theorem wd_1403 : ((Jvm.Cond.code ({ cls := "SparklineModel", name := "peakOf", desc := "(I)I" } : Jvm.MethodName) prog_14_method_45_code (6 : Nat) (Option.some Jvm.ClassFile.FieldType.int))) ∈ zT := zT_in 1403 (by decide +kernel) rfl
set_option maxRecDepth 10000 in
theorem wd_1404 : ((Jvm.Cond.methodLink "SparklineModel" (228 : Nat) ({ cls := "SparklineModel", name := "down", desc := "(II)I" } : Jvm.MethodName))) ∈ zT := zT_in 1404 (by decide +kernel) rfl
set_option maxRecDepth 10000 in
theorem wd_1405 : ((Jvm.Cond.static ({ cls := "SparklineModel", name := "down", desc := "(II)I" } : Jvm.MethodName))) ∈ zT := zT_in 1405 (by decide +kernel) rfl
set_option maxRecDepth 10000 in
theorem wd_1406 : ((Jvm.Cond.code ({ cls := "SparklineModel", name := "down", desc := "(II)I" } : Jvm.MethodName) prog_14_method_7_code (3 : Nat) (Option.some Jvm.ClassFile.FieldType.int))) ∈ zT := zT_in 1406 (by decide +kernel) rfl
set_option maxRecDepth 10000 in
theorem wd_1407 : ((Jvm.Cond.methodLink "SparklineLaw" (186 : Nat) ({ cls := "SparklineModel", name := "flaw", desc := "(II)V" } : Jvm.MethodName))) ∈ zT := zT_in 1407 (by decide +kernel) rfl
set_option maxRecDepth 10000 in
theorem wd_1408 : ((Jvm.Cond.instanceMethod ({ cls := "SparklineModel", name := "flaw", desc := "(II)V" } : Jvm.MethodName))) ∈ zT := zT_in 1408 (by decide +kernel) rfl
set_option maxRecDepth 10000 in
theorem wd_1409 : ((Jvm.Cond.selects "SparklineModel" ({ cls := "SparklineModel", name := "flaw", desc := "(II)V" } : Jvm.MethodName) ({ cls := "SparklineModel", name := "flaw", desc := "(II)V" } : Jvm.MethodName))) ∈ zT := zT_in 1409 (by decide +kernel) rfl
set_option maxRecDepth 10000 in
theorem wd_1410 : ((Jvm.Cond.code ({ cls := "SparklineModel", name := "flaw", desc := "(II)V" } : Jvm.MethodName) prog_14_method_47_code (4 : Nat) (Option.none : Option Jvm.ClassFile.FieldType))) ∈ zT := zT_in 1410 (by decide +kernel) rfl
set_option maxRecDepth 10000 in
theorem wd_1411 : ((Jvm.Cond.methodLink "SparklineLaw" (189 : Nat) ({ cls := "SparklineModel", name := "cover", desc := "(IZ)I" } : Jvm.MethodName))) ∈ zT := zT_in 1411 (by decide +kernel) rfl
set_option maxRecDepth 10000 in
theorem wd_1412 : ((Jvm.Cond.instanceMethod ({ cls := "SparklineModel", name := "cover", desc := "(IZ)I" } : Jvm.MethodName))) ∈ zT := zT_in 1412 (by decide +kernel) rfl
set_option maxRecDepth 10000 in
theorem wd_1413 : ((Jvm.Cond.selects "SparklineModel" ({ cls := "SparklineModel", name := "cover", desc := "(IZ)I" } : Jvm.MethodName) ({ cls := "SparklineModel", name := "cover", desc := "(IZ)I" } : Jvm.MethodName))) ∈ zT := zT_in 1413 (by decide +kernel) rfl
set_option maxRecDepth 10000 in
theorem wd_1414 : ((Jvm.Cond.code ({ cls := "SparklineModel", name := "cover", desc := "(IZ)I" } : Jvm.MethodName) prog_14_method_48_code (5 : Nat) (Option.some Jvm.ClassFile.FieldType.int))) ∈ zT := zT_in 1414 (by decide +kernel) rfl
set_option maxRecDepth 10000 in
theorem wd_1415 : ((Jvm.Cond.methodLink "SparklineLaw" (192 : Nat) ({ cls := "SparklineModel", name := "test", desc := "(I)I" } : Jvm.MethodName))) ∈ zT := zT_in 1415 (by decide +kernel) rfl
set_option maxRecDepth 10000 in
theorem wd_1416 : ((Jvm.Cond.instanceMethod ({ cls := "SparklineModel", name := "test", desc := "(I)I" } : Jvm.MethodName))) ∈ zT := zT_in 1416 (by decide +kernel) rfl
set_option maxRecDepth 10000 in
theorem wd_1417 : ((Jvm.Cond.selects "SparklineModel" ({ cls := "SparklineModel", name := "test", desc := "(I)I" } : Jvm.MethodName) ({ cls := "SparklineModel", name := "test", desc := "(I)I" } : Jvm.MethodName))) ∈ zT := zT_in 1417 (by decide +kernel) rfl
set_option maxRecDepth 10000 in
theorem wd_1418 : ((Jvm.Cond.code ({ cls := "SparklineModel", name := "test", desc := "(I)I" } : Jvm.MethodName) prog_14_method_50_code (4 : Nat) (Option.some Jvm.ClassFile.FieldType.int))) ∈ zT := zT_in 1418 (by decide +kernel) rfl
set_option maxRecDepth 10000 in
theorem wd_1419 : ((Jvm.Cond.methodLink "SparklineModel" (234 : Nat) ({ cls := "SparklineModel", name := "faults", desc := "(IZ)I" } : Jvm.MethodName))) ∈ zT := zT_in 1419 (by decide +kernel) rfl
set_option maxRecDepth 10000 in
theorem wd_1421 : ((Jvm.Cond.instanceMethod ({ cls := "SparklineModel", name := "faults", desc := "(IZ)I" } : Jvm.MethodName))) ∈ zT := zT_in 1421 (by decide +kernel) rfl
set_option maxRecDepth 10000 in
theorem wd_1422 : ((Jvm.Cond.code ({ cls := "SparklineModel", name := "faults", desc := "(IZ)I" } : Jvm.MethodName) prog_14_method_49_code (5 : Nat) (Option.some Jvm.ClassFile.FieldType.int))) ∈ zT := zT_in 1422 (by decide +kernel) rfl
set_option maxRecDepth 10000 in
theorem wd_1423 : ((Jvm.Cond.methodLink "SparklineLaw" (195 : Nat) ({ cls := "SparklineModel", name := "repair", desc := "(III)I" } : Jvm.MethodName))) ∈ zT := zT_in 1423 (by decide +kernel) rfl
set_option maxRecDepth 10000 in
theorem wd_1424 : ((Jvm.Cond.instanceMethod ({ cls := "SparklineModel", name := "repair", desc := "(III)I" } : Jvm.MethodName))) ∈ zT := zT_in 1424 (by decide +kernel) rfl
set_option maxRecDepth 10000 in
theorem wd_1425 : ((Jvm.Cond.selects "SparklineModel" ({ cls := "SparklineModel", name := "repair", desc := "(III)I" } : Jvm.MethodName) ({ cls := "SparklineModel", name := "repair", desc := "(III)I" } : Jvm.MethodName))) ∈ zT := zT_in 1425 (by decide +kernel) rfl
set_option maxRecDepth 10000 in
theorem wd_1426 : ((Jvm.Cond.code ({ cls := "SparklineModel", name := "repair", desc := "(III)I" } : Jvm.MethodName) prog_14_method_51_code (7 : Nat) (Option.some Jvm.ClassFile.FieldType.int))) ∈ zT := zT_in 1426 (by decide +kernel) rfl
set_option maxRecDepth 10000 in
theorem wd_1427 : ((Jvm.Cond.methodLink "SparklineLaw" (198 : Nat) ({ cls := "SparklineModel", name := "ship", desc := "(I)I" } : Jvm.MethodName))) ∈ zT := zT_in 1427 (by decide +kernel) rfl
set_option maxRecDepth 10000 in
theorem wd_1428 : ((Jvm.Cond.instanceMethod ({ cls := "SparklineModel", name := "ship", desc := "(I)I" } : Jvm.MethodName))) ∈ zT := zT_in 1428 (by decide +kernel) rfl
set_option maxRecDepth 10000 in
theorem wd_1429 : ((Jvm.Cond.selects "SparklineModel" ({ cls := "SparklineModel", name := "ship", desc := "(I)I" } : Jvm.MethodName) ({ cls := "SparklineModel", name := "ship", desc := "(I)I" } : Jvm.MethodName))) ∈ zT := zT_in 1429 (by decide +kernel) rfl
set_option maxRecDepth 10000 in
theorem wd_1430 : ((Jvm.Cond.code ({ cls := "SparklineModel", name := "ship", desc := "(I)I" } : Jvm.MethodName) prog_14_method_52_code (2 : Nat) (Option.some Jvm.ClassFile.FieldType.int))) ∈ zT := zT_in 1430 (by decide +kernel) rfl
set_option maxRecDepth 10000 in
theorem wd_1431 : ((Jvm.Cond.methodLink "SparklineLaw" (201 : Nat) ({ cls := "SparklineModel", name := "pass", desc := "(I)I" } : Jvm.MethodName))) ∈ zT := zT_in 1431 (by decide +kernel) rfl
set_option maxRecDepth 10000 in
theorem wd_1432 : ((Jvm.Cond.instanceMethod ({ cls := "SparklineModel", name := "pass", desc := "(I)I" } : Jvm.MethodName))) ∈ zT := zT_in 1432 (by decide +kernel) rfl
set_option maxRecDepth 10000 in
theorem wd_1433 : ((Jvm.Cond.selects "SparklineModel" ({ cls := "SparklineModel", name := "pass", desc := "(I)I" } : Jvm.MethodName) ({ cls := "SparklineModel", name := "pass", desc := "(I)I" } : Jvm.MethodName))) ∈ zT := zT_in 1433 (by decide +kernel) rfl
set_option maxRecDepth 10000 in
theorem wd_1434 : ((Jvm.Cond.code ({ cls := "SparklineModel", name := "pass", desc := "(I)I" } : Jvm.MethodName) prog_14_method_53_code (2 : Nat) (Option.some Jvm.ClassFile.FieldType.int))) ∈ zT := zT_in 1434 (by decide +kernel) rfl
set_option maxRecDepth 10000 in
theorem wd_1435 : ((Jvm.Cond.methodLink "SparklineLaw" (204 : Nat) ({ cls := "SparklineModel", name := "ofSlot", desc := "(III)I" } : Jvm.MethodName))) ∈ zT := zT_in 1435 (by decide +kernel) rfl
set_option maxRecDepth 10000 in
theorem wd_1436 : ((Jvm.Cond.instanceMethod ({ cls := "SparklineModel", name := "ofSlot", desc := "(III)I" } : Jvm.MethodName))) ∈ zT := zT_in 1436 (by decide +kernel) rfl
set_option maxRecDepth 10000 in
theorem wd_1437 : ((Jvm.Cond.selects "SparklineModel" ({ cls := "SparklineModel", name := "ofSlot", desc := "(III)I" } : Jvm.MethodName) ({ cls := "SparklineModel", name := "ofSlot", desc := "(III)I" } : Jvm.MethodName))) ∈ zT := zT_in 1437 (by decide +kernel) rfl
set_option maxRecDepth 10000 in
theorem wd_1438 : ((Jvm.Cond.code ({ cls := "SparklineModel", name := "ofSlot", desc := "(III)I" } : Jvm.MethodName) prog_14_method_54_code (5 : Nat) (Option.some Jvm.ClassFile.FieldType.int))) ∈ zT := zT_in 1438 (by decide +kernel) rfl
set_option maxRecDepth 10000 in
theorem wd_1439 : ((Jvm.Cond.methodLink "SparklineLaw" (207 : Nat) ({ cls := "SparklineModel", name := "jointAnew", desc := "(II)I" } : Jvm.MethodName))) ∈ zT := zT_in 1439 (by decide +kernel) rfl
set_option maxRecDepth 10000 in
theorem wd_1440 : ((Jvm.Cond.instanceMethod ({ cls := "SparklineModel", name := "jointAnew", desc := "(II)I" } : Jvm.MethodName))) ∈ zT := zT_in 1440 (by decide +kernel) rfl
set_option maxRecDepth 10000 in
theorem wd_1441 : ((Jvm.Cond.selects "SparklineModel" ({ cls := "SparklineModel", name := "jointAnew", desc := "(II)I" } : Jvm.MethodName) ({ cls := "SparklineModel", name := "jointAnew", desc := "(II)I" } : Jvm.MethodName))) ∈ zT := zT_in 1441 (by decide +kernel) rfl
set_option maxRecDepth 10000 in
theorem wd_1442 : ((Jvm.Cond.code ({ cls := "SparklineModel", name := "jointAnew", desc := "(II)I" } : Jvm.MethodName) prog_14_method_55_code (3 : Nat) (Option.some Jvm.ClassFile.FieldType.int))) ∈ zT := zT_in 1442 (by decide +kernel) rfl
set_option maxRecDepth 10000 in
theorem wd_1443 : ((Jvm.Cond.methodLink "SparklineLaw" (210 : Nat) ({ cls := "SparklineModel", name := "recall", desc := "(I)I" } : Jvm.MethodName))) ∈ zT := zT_in 1443 (by decide +kernel) rfl
set_option maxRecDepth 10000 in
theorem wd_1444 : ((Jvm.Cond.instanceMethod ({ cls := "SparklineModel", name := "recall", desc := "(I)I" } : Jvm.MethodName))) ∈ zT := zT_in 1444 (by decide +kernel) rfl
set_option maxRecDepth 10000 in
theorem wd_1445 : ((Jvm.Cond.selects "SparklineModel" ({ cls := "SparklineModel", name := "recall", desc := "(I)I" } : Jvm.MethodName) ({ cls := "SparklineModel", name := "recall", desc := "(I)I" } : Jvm.MethodName))) ∈ zT := zT_in 1445 (by decide +kernel) rfl
set_option maxRecDepth 10000 in
theorem wd_1446 : ((Jvm.Cond.code ({ cls := "SparklineModel", name := "recall", desc := "(I)I" } : Jvm.MethodName) prog_14_method_56_code (6 : Nat) (Option.some Jvm.ClassFile.FieldType.int))) ∈ zT := zT_in 1446 (by decide +kernel) rfl
set_option maxRecDepth 10000 in
theorem wd_1447 : ((Jvm.Cond.arrayClass Jvm.ClassFile.FieldType.long)) ∈ zT := zT_in 1447 (by decide +kernel) rfl
set_option maxRecDepth 10000 in
theorem wd_1468 : ((Jvm.Cond.selects "[Ljava/lang/Object;" ({ cls := "java/lang/Object", name := "getClass", desc := "()Ljava/lang/Class;" } : Jvm.MethodName) ({ cls := "java/lang/Object", name := "getClass", desc := "()Ljava/lang/Class;" } : Jvm.MethodName))) ∈ zT := zT_in 1468 (by decide +kernel) rfl
set_option maxRecDepth 10000 in
theorem wn_79 : ((Jvm.Cond.methodLinkNest "Sparkline" (9 : Nat) ({ cls := "Sparkline$Harness", name := "<init>", desc := "()V" } : Jvm.MethodName) "Sparkline")) ∈ zN := zN_in 79 (by decide +kernel) rfl
set_option maxRecDepth 10000 in
theorem wn_138 : ((Jvm.Cond.methodLinkNest "Sparkline" (18 : Nat) ({ cls := "Sparkline$Orders", name := "<init>", desc := "()V" } : Jvm.MethodName) "Sparkline")) ∈ zN := zN_in 138 (by decide +kernel) rfl
set_option maxRecDepth 10000 in
theorem wn_163 : ((Jvm.Cond.methodLinkNest "Sparkline" (25 : Nat) ({ cls := "Sparkline$Crimper", name := "<init>", desc := "()V" } : Jvm.MethodName) "Sparkline")) ∈ zN := zN_in 163 (by decide +kernel) rfl
set_option maxRecDepth 10000 in
theorem wn_261 : ((Jvm.Cond.castable "java/lang/IndexOutOfBoundsException" "java/lang/IndexOutOfBoundsException")) ∈ zN := zN_in 261 (by decide +kernel) rfl
set_option maxRecDepth 10000 in
theorem wn_330 : ((Jvm.Cond.castable "java/lang/IllegalArgumentException" "java/lang/IllegalArgumentException")) ∈ zN := zN_in 330 (by decide +kernel) rfl
set_option maxRecDepth 10000 in
theorem wn_352 : ((Jvm.Cond.castable "java/lang/IllegalStateException" "java/lang/IllegalStateException")) ∈ zN := zN_in 352 (by decide +kernel) rfl
set_option maxRecDepth 10000 in
theorem wn_452 : ((Jvm.Cond.arrayOver (Jvm.ClassFile.FieldType.object "java/lang/Object"))) ∈ zN := zN_in 452 (by decide +kernel) rfl
set_option maxRecDepth 10000 in
theorem wn_764 : ((Jvm.Cond.methodLinkNest "Sparkline$Crimper" (49 : Nat) ({ cls := "Sparkline", name := "divideDown", desc := "(II)I" } : Jvm.MethodName) "Sparkline")) ∈ zN := zN_in 764 (by decide +kernel) rfl
set_option maxRecDepth 10000 in
theorem wn_862 : ((Jvm.Cond.methodLinkNest "Sparkline$Board" (29 : Nat) ({ cls := "Sparkline$Slot", name := "<init>", desc := "()V" } : Jvm.MethodName) "Sparkline")) ∈ zN := zN_in 862 (by decide +kernel) rfl
set_option maxRecDepth 10000 in
theorem wn_935 : ((Jvm.Cond.methodLinkNest "Sparkline$Board" (38 : Nat) ({ cls := "Sparkline", name := "isIndex", desc := "(II)Z" } : Jvm.MethodName) "Sparkline")) ∈ zN := zN_in 935 (by decide +kernel) rfl
set_option maxRecDepth 10000 in
theorem wn_989 : ((Jvm.Cond.methodLinkNest "Sparkline$Oven" (37 : Nat) ({ cls := "Sparkline", name := "divideDown", desc := "(II)I" } : Jvm.MethodName) "Sparkline")) ∈ zN := zN_in 989 (by decide +kernel) rfl
set_option maxRecDepth 10000 in
theorem wn_1449 : ((Jvm.Cond.castable "Sparkline" "java/lang/Object")) ∈ zN := zN_in 1449 (by decide +kernel) rfl
set_option maxRecDepth 10000 in
theorem wn_1450 : ((Jvm.Cond.castable "Sparkline$Harness" "java/lang/Object")) ∈ zN := zN_in 1450 (by decide +kernel) rfl
set_option maxRecDepth 10000 in
theorem wn_1451 : ((Jvm.Cond.castable "java/util/ArrayList" "java/lang/Object")) ∈ zN := zN_in 1451 (by decide +kernel) rfl
set_option maxRecDepth 10000 in
theorem wn_1452 : ((Jvm.Cond.castable "Sparkline$Row" "java/lang/Object")) ∈ zN := zN_in 1452 (by decide +kernel) rfl
set_option maxRecDepth 10000 in
theorem wn_1453 : ((Jvm.Cond.castable "Sparkline$Orders" "java/lang/Object")) ∈ zN := zN_in 1453 (by decide +kernel) rfl
set_option maxRecDepth 10000 in
theorem wn_1454 : ((Jvm.Cond.castable "Sparkline$Crimper" "java/lang/Object")) ∈ zN := zN_in 1454 (by decide +kernel) rfl
set_option maxRecDepth 10000 in
theorem wn_1455 : ((Jvm.Cond.castable "Sparkline$Oven" "java/lang/Object")) ∈ zN := zN_in 1455 (by decide +kernel) rfl
set_option maxRecDepth 10000 in
theorem wn_1456 : ((Jvm.Cond.castable "SparklineModel" "java/lang/Object")) ∈ zN := zN_in 1456 (by decide +kernel) rfl
set_option maxRecDepth 10000 in
theorem wn_1460 : ((Jvm.Cond.castable "Sparkline$Bundle" "java/lang/Object")) ∈ zN := zN_in 1460 (by decide +kernel) rfl
set_option maxRecDepth 10000 in
theorem wn_1461 : ((Jvm.Cond.castable "Sparkline$Connector" "java/lang/Object")) ∈ zN := zN_in 1461 (by decide +kernel) rfl
set_option maxRecDepth 10000 in
theorem wn_1462 : ((Jvm.Cond.castable "Sparkline$Wire" "java/lang/Object")) ∈ zN := zN_in 1462 (by decide +kernel) rfl
set_option maxRecDepth 10000 in
theorem wn_1463 : ((Jvm.Cond.castable "Sparkline$Reel" "java/lang/Object")) ∈ zN := zN_in 1463 (by decide +kernel) rfl
set_option maxRecDepth 10000 in
theorem wn_1464 : ((Jvm.Cond.castable "Sparkline$Board" "java/lang/Object")) ∈ zN := zN_in 1464 (by decide +kernel) rfl
set_option maxRecDepth 10000 in
theorem wn_1465 : ((Jvm.Cond.castable "Sparkline$Slot" "java/lang/Object")) ∈ zN := zN_in 1465 (by decide +kernel) rfl
set_option maxRecDepth 10000 in
theorem wn_1469 : ((Jvm.Cond.declares ({ cls := "java/lang/Object", name := "getClass", desc := "()Ljava/lang/Class;" } : Jvm.MethodName))) ∈ zN := zN_in 1469 (by decide +kernel) rfl
theorem hi_X0 : ∀ w ∈ u_ws RX0 TX0 5, w ∈ zT := List.forall_mem_cons.mpr ⟨wd_908, List.forall_mem_cons.mpr ⟨wd_910, List.forall_mem_cons.mpr ⟨wd_912, List.forall_mem_cons.mpr ⟨wd_914, List.forall_mem_cons.mpr ⟨wd_916, fun _ h => absurd h List.not_mem_nil⟩⟩⟩⟩⟩
theorem df_X0 : ∀ j, j < 5 → defaultValue (tyX0 j) = vp_V [.int 0, .int 0, .int 0, .null, .null] j := by decide +kernel
theorem hi_X1 : ∀ w ∈ u_ws RX1 TX1 5, w ∈ zT := List.forall_mem_cons.mpr ⟨wd_387, List.forall_mem_cons.mpr ⟨wd_389, List.forall_mem_cons.mpr ⟨wd_391, List.forall_mem_cons.mpr ⟨wd_393, List.forall_mem_cons.mpr ⟨wd_395, fun _ h => absurd h List.not_mem_nil⟩⟩⟩⟩⟩
theorem df_X1 : ∀ j, j < 5 → defaultValue (tyX1 j) = vp_V [.int 0, .int 0, .int 0, .int 0, .int 0] j := by decide +kernel
theorem hi_X2 : ∀ w ∈ u_ws RX2 TX2 5, w ∈ zT := List.forall_mem_cons.mpr ⟨wd_489, List.forall_mem_cons.mpr ⟨wd_491, List.forall_mem_cons.mpr ⟨wd_493, List.forall_mem_cons.mpr ⟨wd_495, List.forall_mem_cons.mpr ⟨wd_497, fun _ h => absurd h List.not_mem_nil⟩⟩⟩⟩⟩
theorem df_X2 : ∀ j, j < 5 → defaultValue (tyX2 j) = vp_V [.int 0, .int 0, .int 0, .int 0, .int 0] j := by decide +kernel
theorem hi_X3 : ∀ w ∈ u_ws RX3 TX3 4, w ∈ zT := List.forall_mem_cons.mpr ⟨wd_175, List.forall_mem_cons.mpr ⟨wd_177, List.forall_mem_cons.mpr ⟨wd_179, List.forall_mem_cons.mpr ⟨wd_181, fun _ h => absurd h List.not_mem_nil⟩⟩⟩⟩
theorem df_X3 : ∀ j, j < 4 → defaultValue (tyX3 j) = vp_V [.int 0, .int 0, .null, .int 0] j := by decide +kernel
theorem hi_X4 : ∀ w ∈ u_ws RX4 TX4 4, w ∈ zT := List.forall_mem_cons.mpr ⟨wd_127, List.forall_mem_cons.mpr ⟨wd_129, List.forall_mem_cons.mpr ⟨wd_131, List.forall_mem_cons.mpr ⟨wd_133, fun _ h => absurd h List.not_mem_nil⟩⟩⟩⟩
theorem df_X4 : ∀ j, j < 4 → defaultValue (tyX4 j) = vp_V [.null, .null, .null, .null] j := by decide +kernel
theorem hi_X5 : ∀ w ∈ u_ws RX5 TX5 5, w ∈ zT := List.forall_mem_cons.mpr ⟨wd_150, List.forall_mem_cons.mpr ⟨wd_152, List.forall_mem_cons.mpr ⟨wd_154, List.forall_mem_cons.mpr ⟨wd_156, List.forall_mem_cons.mpr ⟨wd_158, fun _ h => absurd h List.not_mem_nil⟩⟩⟩⟩⟩
theorem df_X5 : ∀ j, j < 5 → defaultValue (tyX5 j) = vp_V [.null, .null, .null, .null, .int 0] j := by decide +kernel
theorem hi_X6 : ∀ w ∈ u_ws RX6 TX6 3, w ∈ zT := List.forall_mem_cons.mpr ⟨wd_209, List.forall_mem_cons.mpr ⟨wd_211, List.forall_mem_cons.mpr ⟨wd_213, fun _ h => absurd h List.not_mem_nil⟩⟩⟩
theorem df_X6 : ∀ j, j < 3 → defaultValue (tyX6 j) = vp_V [.null, .null, .null] j := by decide +kernel
theorem hi_X7 : ∀ w ∈ u_ws RX7 TX7 5, w ∈ zT := List.forall_mem_cons.mpr ⟨wd_805, List.forall_mem_cons.mpr ⟨wd_807, List.forall_mem_cons.mpr ⟨wd_809, List.forall_mem_cons.mpr ⟨wd_811, List.forall_mem_cons.mpr ⟨wd_813, fun _ h => absurd h List.not_mem_nil⟩⟩⟩⟩⟩
theorem df_X7 : ∀ j, j < 5 → defaultValue (tyX7 j) = vp_V [.int 0, .int 0, .int 0, .int 0, .int 0] j := by decide +kernel
theorem hi_X8 : ∀ w ∈ u_ws RX8 TX8 1, w ∈ zT := List.forall_mem_cons.mpr ⟨wd_116, fun _ h => absurd h List.not_mem_nil⟩
theorem df_X8 : ∀ j, j < 1 → defaultValue (tyX8 j) = vp_V [.null] j := by decide +kernel
theorem hi_X9 : ∀ w ∈ u_ws RX9 TX9 8, w ∈ zT := List.forall_mem_cons.mpr ⟨wd_883, List.forall_mem_cons.mpr ⟨wd_885, List.forall_mem_cons.mpr ⟨wd_887, List.forall_mem_cons.mpr ⟨wd_889, List.forall_mem_cons.mpr ⟨wd_891, List.forall_mem_cons.mpr ⟨wd_893, List.forall_mem_cons.mpr ⟨wd_895, List.forall_mem_cons.mpr ⟨wd_897, fun _ h => absurd h List.not_mem_nil⟩⟩⟩⟩⟩⟩⟩⟩
theorem df_X9 : ∀ j, j < 8 → defaultValue (tyX9 j) = vp_V [.int 0, .int 0, .int 0, .int 0, .int 0, .int 0, .int 0, .int 0] j := by decide +kernel
theorem hi_X10 : ∀ w ∈ u_ws RX10 TX10 8, w ∈ zT := List.forall_mem_cons.mpr ⟨wd_598, List.forall_mem_cons.mpr ⟨wd_600, List.forall_mem_cons.mpr ⟨wd_602, List.forall_mem_cons.mpr ⟨wd_604, List.forall_mem_cons.mpr ⟨wd_606, List.forall_mem_cons.mpr ⟨wd_608, List.forall_mem_cons.mpr ⟨wd_610, List.forall_mem_cons.mpr ⟨wd_612, fun _ h => absurd h List.not_mem_nil⟩⟩⟩⟩⟩⟩⟩⟩
theorem df_X10 : ∀ j, j < 8 → defaultValue (tyX10 j) = vp_V [.null, .int 0, .null, .int 0, .int 0, .int 0, .int 0, .null] j := by decide +kernel
theorem hi_X11 : ∀ w ∈ u_ws RX11 TX11 8, w ∈ zT := List.forall_mem_cons.mpr ⟨wd_226, List.forall_mem_cons.mpr ⟨wd_228, List.forall_mem_cons.mpr ⟨wd_230, List.forall_mem_cons.mpr ⟨wd_232, List.forall_mem_cons.mpr ⟨wd_234, List.forall_mem_cons.mpr ⟨wd_236, List.forall_mem_cons.mpr ⟨wd_238, List.forall_mem_cons.mpr ⟨wd_240, fun _ h => absurd h List.not_mem_nil⟩⟩⟩⟩⟩⟩⟩⟩
theorem df_X11 : ∀ j, j < 8 → defaultValue (tyX11 j) = vp_V [.null, .null, .null, .null, .null, .null, .int 0, .int 0] j := by decide +kernel
theorem hi_X12 : ∀ w ∈ u_ws RX12 TX12 45, w ∈ zT := List.forall_mem_cons.mpr ⟨wd_1138, List.forall_mem_cons.mpr ⟨wd_1140, List.forall_mem_cons.mpr ⟨wd_1142, List.forall_mem_cons.mpr ⟨wd_1144, List.forall_mem_cons.mpr ⟨wd_1146, List.forall_mem_cons.mpr ⟨wd_1148, List.forall_mem_cons.mpr ⟨wd_1150, List.forall_mem_cons.mpr ⟨wd_1152, List.forall_mem_cons.mpr ⟨wd_1154, List.forall_mem_cons.mpr ⟨wd_1156, List.forall_mem_cons.mpr ⟨wd_1158, List.forall_mem_cons.mpr ⟨wd_1160, List.forall_mem_cons.mpr ⟨wd_1162, List.forall_mem_cons.mpr ⟨wd_1164, List.forall_mem_cons.mpr ⟨wd_1166, List.forall_mem_cons.mpr ⟨wd_1168, List.forall_mem_cons.mpr ⟨wd_1170, List.forall_mem_cons.mpr ⟨wd_1172, List.forall_mem_cons.mpr ⟨wd_1174, List.forall_mem_cons.mpr ⟨wd_1176, List.forall_mem_cons.mpr ⟨wd_1178, List.forall_mem_cons.mpr ⟨wd_1180, List.forall_mem_cons.mpr ⟨wd_1182, List.forall_mem_cons.mpr ⟨wd_1184, List.forall_mem_cons.mpr ⟨wd_1186, List.forall_mem_cons.mpr ⟨wd_1188, List.forall_mem_cons.mpr ⟨wd_1190, List.forall_mem_cons.mpr ⟨wd_1192, List.forall_mem_cons.mpr ⟨wd_1194, List.forall_mem_cons.mpr ⟨wd_1196, List.forall_mem_cons.mpr ⟨wd_1198, List.forall_mem_cons.mpr ⟨wd_1200, List.forall_mem_cons.mpr ⟨wd_1202, List.forall_mem_cons.mpr ⟨wd_1204, List.forall_mem_cons.mpr ⟨wd_1206, List.forall_mem_cons.mpr ⟨wd_1208, List.forall_mem_cons.mpr ⟨wd_1210, List.forall_mem_cons.mpr ⟨wd_1212, List.forall_mem_cons.mpr ⟨wd_1214, List.forall_mem_cons.mpr ⟨wd_1216, List.forall_mem_cons.mpr ⟨wd_1218, List.forall_mem_cons.mpr ⟨wd_1220, List.forall_mem_cons.mpr ⟨wd_1222, List.forall_mem_cons.mpr ⟨wd_1224, List.forall_mem_cons.mpr ⟨wd_1226, fun _ h => absurd h List.not_mem_nil⟩⟩⟩⟩⟩⟩⟩⟩⟩⟩⟩⟩⟩⟩⟩⟩⟩⟩⟩⟩⟩⟩⟩⟩⟩⟩⟩⟩⟩⟩⟩⟩⟩⟩⟩⟩⟩⟩⟩⟩⟩⟩⟩⟩⟩
theorem df_X12 : ∀ j, j < 45 → defaultValue (tyX12 j) = vp_V [.int 0, .null, .null, .null, .null, .int 0, .null, .null, .null, .null, .int 0, .null, .null, .null, .null, .null, .null, .int 0, .null, .null, .null, .int 0, .int 0, .null, .int 0, .int 0, .null, .null, .null, .null, .null, .null, .null, .null, .int 0, .null, .null, .null, .null, .null, .null, .null, .null, .null, .int 0] j := by decide +kernel
theorem hi_Jx4a65c : ∀ w ∈ u_ws RJx4a65c TJx4a65c 3, w ∈ zT := List.forall_mem_cons.mpr ⟨wd_106, List.forall_mem_cons.mpr ⟨wd_102, List.forall_mem_cons.mpr ⟨wd_104, fun _ h => absurd h List.not_mem_nil⟩⟩⟩
theorem df_Jx4a65c : ∀ j, j < 3 → defaultValue (tyJx4a65c j) = vp_V [.int 0, .null, .int 0] j := by decide +kernel
theorem hca_all : ∀ (ci : Nat) (q : vw_C), vwCl[ci]? = some q → Cond.castable q.1 "java/lang/Object" ∈ zN := by
  have h : ∀ q ∈ vwCl, Cond.castable q.1 "java/lang/Object" ∈ zN := List.forall_mem_cons.mpr ⟨wn_1451, List.forall_mem_cons.mpr ⟨wn_1464, List.forall_mem_cons.mpr ⟨wn_1460, List.forall_mem_cons.mpr ⟨wn_1461, List.forall_mem_cons.mpr ⟨wn_1454, List.forall_mem_cons.mpr ⟨wn_1450, List.forall_mem_cons.mpr ⟨wn_1453, List.forall_mem_cons.mpr ⟨wn_1455, List.forall_mem_cons.mpr ⟨wn_1463, List.forall_mem_cons.mpr ⟨wn_1452, List.forall_mem_cons.mpr ⟨wn_1465, List.forall_mem_cons.mpr ⟨wn_1462, List.forall_mem_cons.mpr ⟨wn_1449, List.forall_mem_cons.mpr ⟨wn_1456, fun _ h => absurd h List.not_mem_nil⟩⟩⟩⟩⟩⟩⟩⟩⟩⟩⟩⟩⟩⟩
  exact fun ci q hq => h q (List.mem_of_getElem? hq)
abbrev zxn : List String := ["java/lang/RuntimeException", "java/lang/Exception"]
theorem th_X11_checkIndex_4 : ∀ w ∈ vx_at0 "Sparkline" 301 "java/lang/IndexOutOfBoundsException" zxn, w ∈ lw_tbl := by decide +kernel
theorem tg_X11_checkIndex_4 : ∀ w ∈ vx_at0 "Sparkline" 301 "java/lang/IndexOutOfBoundsException" zxn, (goodWord w || (zkeep w && w.onTables)) = true := by decide +kernel
theorem to_X11_checkIndex_4 : ∀ w ∈ Cond.classLink "Sparkline" 299 "java/lang/IndexOutOfBoundsException" :: Cond.initialized "java/lang/IndexOutOfBoundsException" :: vx_at0 "Sparkline" 301 "java/lang/IndexOutOfBoundsException" zxn, vx_ot w = true := by decide +kernel
theorem th_X11_checkArgument_4 : ∀ w ∈ vx_at0 "Sparkline" 304 "java/lang/IllegalArgumentException" zxn, w ∈ lw_tbl := by decide +kernel
theorem tg_X11_checkArgument_4 : ∀ w ∈ vx_at0 "Sparkline" 304 "java/lang/IllegalArgumentException" zxn, (goodWord w || (zkeep w && w.onTables)) = true := by decide +kernel
theorem to_X11_checkArgument_4 : ∀ w ∈ Cond.classLink "Sparkline" 302 "java/lang/IllegalArgumentException" :: Cond.initialized "java/lang/IllegalArgumentException" :: vx_at0 "Sparkline" 304 "java/lang/IllegalArgumentException" zxn, vx_ot w = true := by decide +kernel
theorem th_X11_checkState_4 : ∀ w ∈ vx_at0 "Sparkline" 307 "java/lang/IllegalStateException" zxn, w ∈ lw_tbl := by decide +kernel
theorem tg_X11_checkState_4 : ∀ w ∈ vx_at0 "Sparkline" 307 "java/lang/IllegalStateException" zxn, (goodWord w || (zkeep w && w.onTables)) = true := by decide +kernel
theorem to_X11_checkState_4 : ∀ w ∈ Cond.classLink "Sparkline" 305 "java/lang/IllegalStateException" :: Cond.initialized "java/lang/IllegalStateException" :: vx_at0 "Sparkline" 307 "java/lang/IllegalStateException" zxn, vx_ot w = true := by decide +kernel
theorem th_X11_connectorAt_17 : ∀ w ∈ vx_at0 "Sparkline" 301 "java/lang/IndexOutOfBoundsException" zxn, w ∈ lw_tbl := by decide +kernel
theorem tg_X11_connectorAt_17 : ∀ w ∈ vx_at0 "Sparkline" 301 "java/lang/IndexOutOfBoundsException" zxn, (goodWord w || (zkeep w && w.onTables)) = true := by decide +kernel
theorem to_X11_connectorAt_17 : ∀ w ∈ Cond.classLink "Sparkline" 299 "java/lang/IndexOutOfBoundsException" :: Cond.initialized "java/lang/IndexOutOfBoundsException" :: vx_at0 "Sparkline" 301 "java/lang/IndexOutOfBoundsException" zxn, vx_ot w = true := by decide +kernel
theorem th_X11_wireAt_17 : ∀ w ∈ vx_at0 "Sparkline" 301 "java/lang/IndexOutOfBoundsException" zxn, w ∈ lw_tbl := by decide +kernel
theorem tg_X11_wireAt_17 : ∀ w ∈ vx_at0 "Sparkline" 301 "java/lang/IndexOutOfBoundsException" zxn, (goodWord w || (zkeep w && w.onTables)) = true := by decide +kernel
theorem to_X11_wireAt_17 : ∀ w ∈ Cond.classLink "Sparkline" 299 "java/lang/IndexOutOfBoundsException" :: Cond.initialized "java/lang/IndexOutOfBoundsException" :: vx_at0 "Sparkline" 301 "java/lang/IndexOutOfBoundsException" zxn, vx_ot w = true := by decide +kernel
theorem th_X11_reelAt_14 : ∀ w ∈ vx_at0 "Sparkline" 301 "java/lang/IndexOutOfBoundsException" zxn, w ∈ lw_tbl := by decide +kernel
theorem tg_X11_reelAt_14 : ∀ w ∈ vx_at0 "Sparkline" 301 "java/lang/IndexOutOfBoundsException" zxn, (goodWord w || (zkeep w && w.onTables)) = true := by decide +kernel
theorem to_X11_reelAt_14 : ∀ w ∈ Cond.classLink "Sparkline" 299 "java/lang/IndexOutOfBoundsException" :: Cond.initialized "java/lang/IndexOutOfBoundsException" :: vx_at0 "Sparkline" 301 "java/lang/IndexOutOfBoundsException" zxn, vx_ot w = true := by decide +kernel
theorem th_X11_boardAt_14 : ∀ w ∈ vx_at0 "Sparkline" 301 "java/lang/IndexOutOfBoundsException" zxn, w ∈ lw_tbl := by decide +kernel
theorem tg_X11_boardAt_14 : ∀ w ∈ vx_at0 "Sparkline" 301 "java/lang/IndexOutOfBoundsException" zxn, (goodWord w || (zkeep w && w.onTables)) = true := by decide +kernel
theorem to_X11_boardAt_14 : ∀ w ∈ Cond.classLink "Sparkline" 299 "java/lang/IndexOutOfBoundsException" :: Cond.initialized "java/lang/IndexOutOfBoundsException" :: vx_at0 "Sparkline" 301 "java/lang/IndexOutOfBoundsException" zxn, vx_ot w = true := by decide +kernel
theorem th_X0_slotAt_14 : ∀ w ∈ vx_at0 "Sparkline$Board" 44 "java/lang/IndexOutOfBoundsException" zxn, w ∈ lw_tbl := by decide +kernel
theorem tg_X0_slotAt_14 : ∀ w ∈ vx_at0 "Sparkline$Board" 44 "java/lang/IndexOutOfBoundsException" zxn, (goodWord w || (zkeep w && w.onTables)) = true := by decide +kernel
theorem to_X0_slotAt_14 : ∀ w ∈ Cond.classLink "Sparkline$Board" 42 "java/lang/IndexOutOfBoundsException" :: Cond.initialized "java/lang/IndexOutOfBoundsException" :: vx_at0 "Sparkline$Board" 44 "java/lang/IndexOutOfBoundsException" zxn, vx_ot w = true := by decide +kernel
def zi_Jxa1e45_init_da8c8 : zI := (yJxa1e45_init_da8c8, cJxa1e45_init_da8c8, 1, (none : Option ClassFile.FieldType), 1, none)
theorem zw_Jxa1e45_init_da8c8 : zHd (zi_Jxa1e45_init_da8c8) ∈ zT := wd_93
theorem nx_Jxa1e45_init_da8c8 : zNm (zi_Jxa1e45_init_da8c8) 0 := ⟨by decide +kernel, by decide +kernel, by decide +kernel⟩
theorem pf_Jxa1e45_init_da8c8 : plainFor (zi_Jxa1e45_init_da8c8).1 = true := by decide +kernel
def zi_Jxc12de_init_da8c8 : zI := (yJxc12de_init_da8c8, cJxc12de_init_da8c8, 1, (none : Option ClassFile.FieldType), 2, none)
theorem zw_Jxc12de_init_da8c8 : zHd (zi_Jxc12de_init_da8c8) ∈ zT := wd_90
theorem nx_Jxc12de_init_da8c8 : zNm (zi_Jxc12de_init_da8c8) 0 := ⟨by decide +kernel, by decide +kernel, by decide +kernel⟩
theorem pf_Jxc12de_init_da8c8 : plainFor (zi_Jxc12de_init_da8c8).1 = true := by decide +kernel
def zi_Jx4a65c_init_da8c8 : zI := (yJx4a65c_init_da8c8, cJx4a65c_init_da8c8, 1, (none : Option ClassFile.FieldType), 3, none)
theorem zw_Jx4a65c_init_da8c8 : zHd (zi_Jx4a65c_init_da8c8) ∈ zT := wd_87
theorem nx_Jx4a65c_init_da8c8 : zNm (zi_Jx4a65c_init_da8c8) 0 := ⟨by decide +kernel, by decide +kernel, by decide +kernel⟩
theorem pf_Jx4a65c_init_da8c8 : plainFor (zi_Jx4a65c_init_da8c8).1 = true := by decide +kernel
def zi_X8_init : zI := (yX8_init, cX8_init, 2, (none : Option ClassFile.FieldType), 1, none)
theorem zw_X8_init : zHd (zi_X8_init) ∈ zT := wd_113
theorem nx_X8_init : zNm (zi_X8_init) 1 := ⟨by decide +kernel, by decide +kernel, by decide +kernel⟩
theorem pf_X8_init : plainFor (zi_X8_init).1 = true := by decide +kernel
def zi_X4_init : zI := (yX4_init, cX4_init, 1, (none : Option ClassFile.FieldType), 4, none)
theorem zw_X4_init : zHd (zi_X4_init) ∈ zT := wd_81
theorem nx_X4_init : zNm (zi_X4_init) 0 := ⟨by decide +kernel, by decide +kernel, by decide +kernel⟩
theorem pf_X4_init : plainFor (zi_X4_init).1 = true := by decide +kernel
def zi_X5_init : zI := (yX5_init, cX5_init, 1, (none : Option ClassFile.FieldType), 2, none)
theorem zw_X5_init : zHd (zi_X5_init) ∈ zT := wd_140
theorem nx_X5_init : zNm (zi_X5_init) 0 := ⟨by decide +kernel, by decide +kernel, by decide +kernel⟩
theorem pf_X5_init : plainFor (zi_X5_init).1 = true := by decide +kernel
def zi_X3_init : zI := (yX3_init, cX3_init, 1, (none : Option ClassFile.FieldType), 2, none)
theorem zw_X3_init : zHd (zi_X3_init) ∈ zT := wd_165
theorem nx_X3_init : zNm (zi_X3_init) 0 := ⟨by decide +kernel, by decide +kernel, by decide +kernel⟩
theorem pf_X3_init : plainFor (zi_X3_init).1 = true := by decide +kernel
def zi_X8_put : zI := (yX8_put, cX8_put, 3, (none : Option ClassFile.FieldType), 0, none)
theorem zw_X8_put : zHd (zi_X8_put) ∈ zT := wd_195
theorem nx_X8_put : zNm (zi_X8_put) 2 := ⟨by decide +kernel, by decide +kernel, by decide +kernel⟩
theorem pf_X8_put : plainFor (zi_X8_put).1 = true := by decide +kernel
def zi_X8_fill : zI := (yX8_fill, cX8_fill, 3, (none : Option ClassFile.FieldType), 0, none)
theorem zw_X8_fill : zHd (zi_X8_fill) ∈ zT := wd_199
theorem nx_X8_fill : zNm (zi_X8_fill) 1 := ⟨by decide +kernel, by decide +kernel, by decide +kernel⟩
theorem pf_X8_fill : plainFor (zi_X8_fill).1 = true := by decide +kernel
def zi_X6_init : zI := (yX6_init, cX6_init, 1, (none : Option ClassFile.FieldType), 2, none)
theorem zw_X6_init : zHd (zi_X6_init) ∈ zT := wd_188
theorem nx_X6_init : zNm (zi_X6_init) 0 := ⟨by decide +kernel, by decide +kernel, by decide +kernel⟩
theorem pf_X6_init : plainFor (zi_X6_init).1 = true := by decide +kernel
def zi_X11_init : zI := (yX11_init, cX11_init, 1, (none : Option ClassFile.FieldType), 5, none)
theorem zw_X11_init : zHd (zi_X11_init) ∈ zT := wd_73
theorem nx_X11_init : zNm (zi_X11_init) 0 := ⟨by decide +kernel, by decide +kernel, by decide +kernel⟩
theorem pf_X11_init : plainFor (zi_X11_init).1 = true := by decide +kernel
def zi_X12_init : zI := (yX12_init, cX12_init, 2, (none : Option ClassFile.FieldType), 1, none)
theorem zw_X12_init : zHd (zi_X12_init) ∈ zT := wd_1091
theorem nx_X12_init : zNm (zi_X12_init) 0 := ⟨by decide +kernel, by decide +kernel, by decide +kernel⟩
theorem pf_X12_init : plainFor (zi_X12_init).1 = true := by decide +kernel
def zi_X11_isIndex : zI := (yX11_isIndex, cX11_isIndex, 2, (some .boolean), 0, none)
theorem zw_X11_isIndex : zHd (zi_X11_isIndex) ∈ zT := wd_255
theorem nx_X11_isIndex : zNm (zi_X11_isIndex) 2 := ⟨by decide +kernel, by decide +kernel, by decide +kernel⟩
theorem pf_X11_isIndex : plainFor (zi_X11_isIndex).1 = true := by decide +kernel
def zi_X11_checkIndex : zI := (yX11_checkIndex, cX11_checkIndex, 1, (none : Option ClassFile.FieldType), 6, none)
theorem zw_X11_checkIndex : zHd (zi_X11_checkIndex) ∈ zT := wd_258
theorem nx_X11_checkIndex : zNm (zi_X11_checkIndex) 1 := ⟨by decide +kernel, by decide +kernel, by decide +kernel⟩
theorem pf_X11_checkIndex : plainFor (zi_X11_checkIndex).1 = true := by decide +kernel
def zi_X11_isWithin : zI := (yX11_isWithin, cX11_isWithin, 3, (some .boolean), 0, none)
theorem zw_X11_isWithin : zHd (zi_X11_isWithin) ∈ zT := wd_324
theorem nx_X11_isWithin : zNm (zi_X11_isWithin) 3 := ⟨by decide +kernel, by decide +kernel, by decide +kernel⟩
theorem pf_X11_isWithin : plainFor (zi_X11_isWithin).1 = true := by decide +kernel
def zi_X11_checkArgument : zI := (yX11_checkArgument, cX11_checkArgument, 1, (none : Option ClassFile.FieldType), 6, none)
theorem zw_X11_checkArgument : zHd (zi_X11_checkArgument) ∈ zT := wd_327
theorem nx_X11_checkArgument : zNm (zi_X11_checkArgument) 1 := ⟨by decide +kernel, by decide +kernel, by decide +kernel⟩
theorem pf_X11_checkArgument : plainFor (zi_X11_checkArgument).1 = true := by decide +kernel
def zi_Jx4a65c_size_8abf5 : zI := (yJx4a65c_size_8abf5, cJx4a65c_size_8abf5, 1, (some .int), 0, none)
theorem zw_Jx4a65c_size_8abf5 : zHd (zi_Jx4a65c_size_8abf5) ∈ zT := wd_346
theorem nx_Jx4a65c_size_8abf5 : zNm (zi_Jx4a65c_size_8abf5) 0 := ⟨by decide +kernel, by decide +kernel, by decide +kernel⟩
theorem pf_Jx4a65c_size_8abf5 : plainFor (zi_Jx4a65c_size_8abf5).1 = true := by decide +kernel
def zi_X11_checkState : zI := (yX11_checkState, cX11_checkState, 1, (none : Option ClassFile.FieldType), 6, none)
theorem zw_X11_checkState : zHd (zi_X11_checkState) ∈ zT := wd_349
theorem nx_X11_checkState : zNm (zi_X11_checkState) 1 := ⟨by decide +kernel, by decide +kernel, by decide +kernel⟩
theorem pf_X11_checkState : plainFor (zi_X11_checkState).1 = true := by decide +kernel
def zi_X1_init : zI := (yX1_init, cX1_init, 6, (none : Option ClassFile.FieldType), 1, none)
theorem zw_X1_init : zHd (zi_X1_init) ∈ zT := wd_374
theorem nx_X1_init : zNm (zi_X1_init) 5 := ⟨by decide +kernel, by decide +kernel, by decide +kernel⟩
theorem pf_X1_init : plainFor (zi_X1_init).1 = true := by decide +kernel
def zi_J9_max_7cf53 : zI := (yJ9_max_7cf53, cJ9_max_7cf53, 2, (some .int), 0, none)
theorem zw_J9_max_7cf53 : zHd (zi_J9_max_7cf53) ∈ zT := wd_419
theorem nx_J9_max_7cf53 : zNm (zi_J9_max_7cf53) 2 := ⟨by decide +kernel, by decide +kernel, by decide +kernel⟩
theorem pf_J9_max_7cf53 : plainFor (zi_J9_max_7cf53).1 = true := by decide +kernel
def zi_J8_newLength_cabcc : zI := (yJ8_newLength_cabcc, cJ8_newLength_cabcc, 4, (some .int), 1, none)
theorem zw_J8_newLength_cabcc : zHd (zi_J8_newLength_cabcc) ∈ zT := wd_416
theorem nx_J8_newLength_cabcc : zNm (zi_J8_newLength_cabcc) 3 := ⟨by decide +kernel, by decide +kernel, by decide +kernel⟩
theorem pf_J8_newLength_cabcc : plainFor (zi_J8_newLength_cabcc).1 = true := by decide +kernel
def zi_J9_min_7cf53 : zI := (yJ9_min_7cf53, cJ9_min_7cf53, 2, (some .int), 0, none)
theorem zw_J9_min_7cf53 : zHd (zi_J9_min_7cf53) ∈ zT := wd_456
theorem nx_J9_min_7cf53 : zNm (zi_J9_min_7cf53) 2 := ⟨by decide +kernel, by decide +kernel, by decide +kernel⟩
theorem pf_J9_min_7cf53 : plainFor (zi_J9_min_7cf53).1 = true := by decide +kernel
def zi_J7_copyOf_6403c : zI := (yJ7_copyOf_6403c, cJ7_copyOf_6403c, 4, (some (.array (.object "java/lang/Object"))), 1, none)
theorem zw_J7_copyOf_6403c : zHd (zi_J7_copyOf_6403c) ∈ zT := wd_450
theorem nx_J7_copyOf_6403c : zNm (zi_J7_copyOf_6403c) 3 := ⟨by decide +kernel, by decide +kernel, by decide +kernel⟩
theorem pf_J7_copyOf_6403c : plainFor (zi_J7_copyOf_6403c).1 = true := by decide +kernel
def zi_J7_copyOf_1904c : zI := (yJ7_copyOf_1904c, cJ7_copyOf_1904c, 2, (some (.array (.object "java/lang/Object"))), 2, none)
theorem zw_J7_copyOf_1904c : zHd (zi_J7_copyOf_1904c) ∈ zT := wd_426
theorem nx_J7_copyOf_1904c : zNm (zi_J7_copyOf_1904c) 2 := ⟨by decide +kernel, by decide +kernel, by decide +kernel⟩
theorem pf_J7_copyOf_1904c : plainFor (zi_J7_copyOf_1904c).1 = true := by decide +kernel
def zi_Jx4a65c_grow_92f84 : zI := (yJx4a65c_grow_92f84, cJx4a65c_grow_92f84, 4, (some (.array (.object "java/lang/Object"))), 3, none)
theorem zw_Jx4a65c_grow_92f84 : zHd (zi_Jx4a65c_grow_92f84) ∈ zT := wd_413
theorem nx_Jx4a65c_grow_92f84 : zNm (zi_Jx4a65c_grow_92f84) 1 := ⟨by decide +kernel, by decide +kernel, by decide +kernel⟩
theorem pf_Jx4a65c_grow_92f84 : plainFor (zi_Jx4a65c_grow_92f84).1 = true := by decide +kernel
def zi_Jx4a65c_grow_d5877 : zI := (yJx4a65c_grow_d5877, cJx4a65c_grow_d5877, 1, (some (.array (.object "java/lang/Object"))), 4, none)
theorem zw_Jx4a65c_grow_d5877 : zHd (zi_Jx4a65c_grow_d5877) ∈ zT := wd_409
theorem nx_Jx4a65c_grow_d5877 : zNm (zi_Jx4a65c_grow_d5877) 0 := ⟨by decide +kernel, by decide +kernel, by decide +kernel⟩
theorem pf_Jx4a65c_grow_d5877 : plainFor (zi_Jx4a65c_grow_d5877).1 = true := by decide +kernel
def zi_Jx4a65c_add_72be8 : zI := (yJx4a65c_add_72be8, cJx4a65c_add_72be8, 4, (none : Option ClassFile.FieldType), 5, none)
theorem zw_Jx4a65c_add_72be8 : zHd (zi_Jx4a65c_add_72be8) ∈ zT := wd_405
theorem nx_Jx4a65c_add_72be8 : zNm (zi_Jx4a65c_add_72be8) 3 := ⟨by decide +kernel, by decide +kernel, by decide +kernel⟩
theorem pf_Jx4a65c_add_72be8 : plainFor (zi_Jx4a65c_add_72be8).1 = true := by decide +kernel
def zi_Jx4a65c_add_9ea2d : zI := (yJx4a65c_add_9ea2d, cJx4a65c_add_9ea2d, 2, (some .boolean), 6, none)
theorem zw_Jx4a65c_add_9ea2d : zHd (zi_Jx4a65c_add_9ea2d) ∈ zT := wd_401
theorem nx_Jx4a65c_add_9ea2d : zNm (zi_Jx4a65c_add_9ea2d) 1 := ⟨by decide +kernel, by decide +kernel, by decide +kernel⟩
theorem pf_Jx4a65c_add_9ea2d : plainFor (zi_Jx4a65c_add_9ea2d).1 = true := by decide +kernel
def zi_X4_addBundle : zI := (yX4_addBundle, cX4_addBundle, 5, (some .int), 7, none)
theorem zw_X4_addBundle : zHd (zi_X4_addBundle) ∈ zT := wd_368
theorem nx_X4_addBundle : zNm (zi_X4_addBundle) 4 := ⟨by decide +kernel, by decide +kernel, by decide +kernel⟩
theorem pf_X4_addBundle : plainFor (zi_X4_addBundle).1 = true := by decide +kernel
def zi_X11_bundle : zI := (yX11_bundle, cX11_bundle, 5, (some .int), 8, none)
theorem zw_X11_bundle : zHd (zi_X11_bundle) ∈ zT := wd_252
theorem nx_X11_bundle : zNm (zi_X11_bundle) 4 := ⟨by decide +kernel, by decide +kernel, by decide +kernel⟩
theorem pf_X11_bundle : plainFor (zi_X11_bundle).1 = true := by decide +kernel
def zi_L_bundle : zI := (yL_bundle, cL_bundle, 7, (some .int), 9, some [(0, 14, 17, 13), (0, 14, 21, 15), (0, 14, 25, 17)])
theorem zw_L_bundle : zHd (zi_L_bundle) ∈ zT := wd_245
theorem nx_L_bundle : zNm (zi_L_bundle) 6 := ⟨by decide +kernel, by decide +kernel, by decide +kernel⟩
theorem pf_L_bundle : plainFor (zi_L_bundle).1 = true := by decide +kernel
def zi_X12_isIn : zI := (yX12_isIn, cX12_isIn, 3, (some .boolean), 0, none)
theorem zw_X12_isIn : zHd (zi_X12_isIn) ∈ zT := wd_1243
theorem nx_X12_isIn : zNm (zi_X12_isIn) 3 := ⟨by decide +kernel, by decide +kernel, by decide +kernel⟩
theorem pf_X12_isIn : plainFor (zi_X12_isIn).1 = true := by decide +kernel
def zi_X12_isNode : zI := (yX12_isNode, cX12_isNode, 1, (some .boolean), 1, none)
theorem zw_X12_isNode : zHd (zi_X12_isNode) ∈ zT := wd_1240
theorem nx_X12_isNode : zNm (zi_X12_isNode) 1 := ⟨by decide +kernel, by decide +kernel, by decide +kernel⟩
theorem pf_X12_isNode : plainFor (zi_X12_isNode).1 = true := by decide +kernel
def zi_X12_fails : zI := (yX12_fails, cX12_fails, 2, (some .boolean), 0, none)
theorem zw_X12_fails : zHd (zi_X12_fails) ∈ zT := wd_1247
theorem nx_X12_fails : zNm (zi_X12_fails) 1 := ⟨by decide +kernel, by decide +kernel, by decide +kernel⟩
theorem pf_X12_fails : plainFor (zi_X12_fails).1 = true := by decide +kernel
def zi_X12_bundle : zI := (yX12_bundle, cX12_bundle, 7, (some .int), 2, none)
theorem zw_X12_bundle : zHd (zi_X12_bundle) ∈ zT := wd_1237
theorem nx_X12_bundle : zNm (zi_X12_bundle) 4 := ⟨by decide +kernel, by decide +kernel, by decide +kernel⟩
theorem pf_X12_bundle : plainFor (zi_X12_bundle).1 = true := by decide +kernel
def zi_X12_thrown : zI := (yX12_thrown, cX12_thrown, 1, (some .int), 0, none)
theorem zw_X12_thrown : zHd (zi_X12_thrown) ∈ zT := wd_1233
theorem nx_X12_thrown : zNm (zi_X12_thrown) 0 := ⟨by decide +kernel, by decide +kernel, by decide +kernel⟩
theorem pf_X12_thrown : plainFor (zi_X12_thrown).1 = true := by decide +kernel
def zi_X2_init : zI := (yX2_init, cX2_init, 4, (none : Option ClassFile.FieldType), 1, none)
theorem zw_X2_init : zHd (zi_X2_init) ∈ zT := wd_477
theorem nx_X2_init : zNm (zi_X2_init) 3 := ⟨by decide +kernel, by decide +kernel, by decide +kernel⟩
theorem pf_X2_init : plainFor (zi_X2_init).1 = true := by decide +kernel
def zi_X4_addConnector : zI := (yX4_addConnector, cX4_addConnector, 4, (some .int), 7, none)
theorem zw_X4_addConnector : zHd (zi_X4_addConnector) ∈ zT := wd_472
theorem nx_X4_addConnector : zNm (zi_X4_addConnector) 3 := ⟨by decide +kernel, by decide +kernel, by decide +kernel⟩
theorem pf_X4_addConnector : plainFor (zi_X4_addConnector).1 = true := by decide +kernel
def zi_X11_connector : zI := (yX11_connector, cX11_connector, 4, (some .int), 8, none)
theorem zw_X11_connector : zHd (zi_X11_connector) ∈ zT := wd_468
theorem nx_X11_connector : zNm (zi_X11_connector) 3 := ⟨by decide +kernel, by decide +kernel, by decide +kernel⟩
theorem pf_X11_connector : plainFor (zi_X11_connector).1 = true := by decide +kernel
def zi_L_connector : zI := (yL_connector, cL_connector, 6, (some .int), 9, some [(0, 12, 15, 13), (0, 12, 19, 15), (0, 12, 23, 17)])
theorem zw_L_connector : zHd (zi_L_connector) ∈ zT := wd_464
theorem nx_L_connector : zNm (zi_L_connector) 5 := ⟨by decide +kernel, by decide +kernel, by decide +kernel⟩
theorem pf_L_connector : plainFor (zi_L_connector).1 = true := by decide +kernel
def zi_X12_connector : zI := (yX12_connector, cX12_connector, 5, (some .int), 2, none)
theorem zw_X12_connector : zHd (zi_X12_connector) ∈ zT := wd_1251
theorem nx_X12_connector : zNm (zi_X12_connector) 3 := ⟨by decide +kernel, by decide +kernel, by decide +kernel⟩
theorem pf_X12_connector : plainFor (zi_X12_connector).1 = true := by decide +kernel
def zi_J3_checkIndex_8e157 : zI := (yJ3_checkIndex_8e157, cJ3_checkIndex_8e157, 3, (some .int), 0, none)
theorem zw_J3_checkIndex_8e157 : zHd (zi_J3_checkIndex_8e157) ∈ zT := wd_520
theorem nx_J3_checkIndex_8e157 : zNm (zi_J3_checkIndex_8e157) 3 := ⟨by decide +kernel, by decide +kernel, by decide +kernel⟩
theorem pf_J3_checkIndex_8e157 : plainFor (zi_J3_checkIndex_8e157).1 = true := by decide +kernel
def zi_J15_checkIndex_7cf53 : zI := (yJ15_checkIndex_7cf53, cJ15_checkIndex_7cf53, 2, (some .int), 1, none)
theorem zw_J15_checkIndex_7cf53 : zHd (zi_J15_checkIndex_7cf53) ∈ zT := wd_517
theorem nx_J15_checkIndex_7cf53 : zNm (zi_J15_checkIndex_7cf53) 2 := ⟨by decide +kernel, by decide +kernel, by decide +kernel⟩
theorem pf_J15_checkIndex_7cf53 : plainFor (zi_J15_checkIndex_7cf53).1 = true := by decide +kernel
def zi_Jx4a65c_elementData_915e3 : zI := (yJx4a65c_elementData_915e3, cJx4a65c_elementData_915e3, 2, (some (.object "java/lang/Object")), 0, none)
theorem zw_Jx4a65c_elementData_915e3 : zHd (zi_Jx4a65c_elementData_915e3) ∈ zT := wd_524
theorem nx_Jx4a65c_elementData_915e3 : zNm (zi_Jx4a65c_elementData_915e3) 1 := ⟨by decide +kernel, by decide +kernel, by decide +kernel⟩
theorem pf_Jx4a65c_elementData_915e3 : plainFor (zi_Jx4a65c_elementData_915e3).1 = true := by decide +kernel
def zi_Jx4a65c_get_915e3 : zI := (yJx4a65c_get_915e3, cJx4a65c_get_915e3, 2, (some (.object "java/lang/Object")), 2, none)
theorem zw_Jx4a65c_get_915e3 : zHd (zi_Jx4a65c_get_915e3) ∈ zT := wd_514
theorem nx_Jx4a65c_get_915e3 : zNm (zi_Jx4a65c_get_915e3) 1 := ⟨by decide +kernel, by decide +kernel, by decide +kernel⟩
theorem pf_Jx4a65c_get_915e3 : plainFor (zi_Jx4a65c_get_915e3).1 = true := by decide +kernel
def zi_X11_connectorAt : zI := (yX11_connectorAt, cX11_connectorAt, 2, (some (.object "Sparkline$Connector")), 6, none)
theorem zw_X11_connectorAt : zHd (zi_X11_connectorAt) ∈ zT := wd_510
theorem nx_X11_connectorAt : zNm (zi_X11_connectorAt) 1 := ⟨by decide +kernel, by decide +kernel, by decide +kernel⟩
theorem pf_X11_connectorAt : plainFor (zi_X11_connectorAt).1 = true := by decide +kernel
def zi_X2_fits : zI := (yX2_fits, cX2_fits, 2, (some .boolean), 0, none)
theorem zw_X2_fits : zHd (zi_X2_fits) ∈ zT := wd_529
theorem nx_X2_fits : zNm (zi_X2_fits) 1 := ⟨by decide +kernel, by decide +kernel, by decide +kernel⟩
theorem pf_X2_fits : plainFor (zi_X2_fits).1 = true := by decide +kernel
def zi_X4_pairsThatFitWrong : zI := (yX4_pairsThatFitWrong, cX4_pairsThatFitWrong, 5, (some .int), 3, none)
theorem zw_X4_pairsThatFitWrong : zHd (zi_X4_pairsThatFitWrong) ∈ zT := wd_533
theorem nx_X4_pairsThatFitWrong : zNm (zi_X4_pairsThatFitWrong) 0 := ⟨by decide +kernel, by decide +kernel, by decide +kernel⟩
theorem pf_X4_pairsThatFitWrong : plainFor (zi_X4_pairsThatFitWrong).1 = true := by decide +kernel
def zi_X11_mates : zI := (yX11_mates, cX11_mates, 5, (some .int), 7, none)
theorem zw_X11_mates : zHd (zi_X11_mates) ∈ zT := wd_506
theorem nx_X11_mates : zNm (zi_X11_mates) 2 := ⟨by decide +kernel, by decide +kernel, by decide +kernel⟩
theorem pf_X11_mates : plainFor (zi_X11_mates).1 = true := by decide +kernel
def zi_L_mates : zI := (yL_mates, cL_mates, 5, (some .int), 8, some [(0, 10, 13, 13), (0, 10, 17, 15), (0, 10, 21, 17)])
theorem zw_L_mates : zHd (zi_L_mates) ∈ zT := wd_502
theorem nx_L_mates : zNm (zi_L_mates) 4 := ⟨by decide +kernel, by decide +kernel, by decide +kernel⟩
theorem pf_L_mates : plainFor (zi_L_mates).1 = true := by decide +kernel
def zi_X12_isConnector : zI := (yX12_isConnector, cX12_isConnector, 2, (some .boolean), 1, none)
theorem zw_X12_isConnector : zHd (zi_X12_isConnector) ∈ zT := wd_1259
theorem nx_X12_isConnector : zNm (zi_X12_isConnector) 1 := ⟨by decide +kernel, by decide +kernel, by decide +kernel⟩
theorem pf_X12_isConnector : plainFor (zi_X12_isConnector).1 = true := by decide +kernel
def zi_X12_fit : zI := (yX12_fit, cX12_fit, 3, (some .boolean), 0, none)
theorem zw_X12_fit : zHd (zi_X12_fit) ∈ zT := wd_1263
theorem nx_X12_fit : zNm (zi_X12_fit) 2 := ⟨by decide +kernel, by decide +kernel, by decide +kernel⟩
theorem pf_X12_fit : plainFor (zi_X12_fit).1 = true := by decide +kernel
def zi_X12_mates : zI := (yX12_mates, cX12_mates, 7, (some .int), 2, none)
theorem zw_X12_mates : zHd (zi_X12_mates) ∈ zT := wd_1255
theorem nx_X12_mates : zNm (zi_X12_mates) 2 := ⟨by decide +kernel, by decide +kernel, by decide +kernel⟩
theorem pf_X12_mates : plainFor (zi_X12_mates).1 = true := by decide +kernel
def zi_X2_isFree : zI := (yX2_isFree, cX2_isFree, 2, (some .boolean), 0, none)
theorem zw_X2_isFree : zHd (zi_X2_isFree) ∈ zT := wd_546
theorem nx_X2_isFree : zNm (zi_X2_isFree) 1 := ⟨by decide +kernel, by decide +kernel, by decide +kernel⟩
theorem pf_X2_isFree : plainFor (zi_X2_isFree).1 = true := by decide +kernel
def zi_X8_at : zI := (yX8_at, cX8_at, 2, (some .int), 0, none)
theorem zw_X8_at : zHd (zi_X8_at) ∈ zT := wd_565
theorem nx_X8_at : zNm (zi_X8_at) 1 := ⟨by decide +kernel, by decide +kernel, by decide +kernel⟩
theorem pf_X8_at : plainFor (zi_X8_at).1 = true := by decide +kernel
def zi_X1_cost : zI := (yX1_cost, cX1_cost, 1, (some .int), 0, none)
theorem zw_X1_cost : zHd (zi_X1_cost) ∈ zT := wd_569
theorem nx_X1_cost : zNm (zi_X1_cost) 0 := ⟨by decide +kernel, by decide +kernel, by decide +kernel⟩
theorem pf_X1_cost : plainFor (zi_X1_cost).1 = true := by decide +kernel
def zi_X1_across : zI := (yX1_across, cX1_across, 2, (some .int), 0, none)
theorem zw_X1_across : zHd (zi_X1_across) ∈ zT := wd_573
theorem nx_X1_across : zNm (zi_X1_across) 1 := ⟨by decide +kernel, by decide +kernel, by decide +kernel⟩
theorem pf_X1_across : plainFor (zi_X1_across).1 = true := by decide +kernel
def zi_X4_lowerCost : zI := (yX4_lowerCost, cX4_lowerCost, 3, (none : Option ClassFile.FieldType), 1, none)
theorem zw_X4_lowerCost : zHd (zi_X4_lowerCost) ∈ zT := wd_561
theorem nx_X4_lowerCost : zNm (zi_X4_lowerCost) 2 := ⟨by decide +kernel, by decide +kernel, by decide +kernel⟩
theorem pf_X4_lowerCost : plainFor (zi_X4_lowerCost).1 = true := by decide +kernel
def zi_X4_findCosts : zI := (yX4_findCosts, cX4_findCosts, 5, (none : Option ClassFile.FieldType), 3, none)
theorem zw_X4_findCosts : zHd (zi_X4_findCosts) ∈ zT := wd_554
theorem nx_X4_findCosts : zNm (zi_X4_findCosts) 1 := ⟨by decide +kernel, by decide +kernel, by decide +kernel⟩
theorem pf_X4_findCosts : plainFor (zi_X4_findCosts).1 = true := by decide +kernel
def zi_X4_hasWay : zI := (yX4_hasWay, cX4_hasWay, 3, (some .boolean), 4, none)
theorem zw_X4_hasWay : zHd (zi_X4_hasWay) ∈ zT := wd_550
theorem nx_X4_hasWay : zNm (zi_X4_hasWay) 2 := ⟨by decide +kernel, by decide +kernel, by decide +kernel⟩
theorem pf_X4_hasWay : plainFor (zi_X4_hasWay).1 = true := by decide +kernel
def zi_X10_init : zI := (yX10_init, cX10_init, 6, (none : Option ClassFile.FieldType), 4, none)
theorem zw_X10_init : zHd (zi_X10_init) ∈ zT := wd_579
theorem nx_X10_init : zNm (zi_X10_init) 5 := ⟨by decide +kernel, by decide +kernel, by decide +kernel⟩
theorem pf_X10_init : plainFor (zi_X10_init).1 = true := by decide +kernel
def zi_X2_take : zI := (yX2_take, cX2_take, 2, (none : Option ClassFile.FieldType), 0, none)
theorem zw_X2_take : zHd (zi_X2_take) ∈ zT := wd_626
theorem nx_X2_take : zNm (zi_X2_take) 1 := ⟨by decide +kernel, by decide +kernel, by decide +kernel⟩
theorem pf_X2_take : plainFor (zi_X2_take).1 = true := by decide +kernel
def zi_X10_putIn : zI := (yX10_putIn, cX10_putIn, 1, (none : Option ClassFile.FieldType), 1, none)
theorem zw_X10_putIn : zHd (zi_X10_putIn) ∈ zT := wd_622
theorem nx_X10_putIn : zNm (zi_X10_putIn) 0 := ⟨by decide +kernel, by decide +kernel, by decide +kernel⟩
theorem pf_X10_putIn : plainFor (zi_X10_putIn).1 = true := by decide +kernel
def zi_X4_lowestOnward : zI := (yX4_lowestOnward, cX4_lowestOnward, 5, (some (.object "Sparkline$Bundle")), 3, none)
theorem zw_X4_lowestOnward : zHd (zi_X4_lowestOnward) ∈ zT := wd_634
theorem nx_X4_lowestOnward : zNm (zi_X4_lowestOnward) 1 := ⟨by decide +kernel, by decide +kernel, by decide +kernel⟩
theorem pf_X4_lowestOnward : plainFor (zi_X4_lowestOnward).1 = true := by decide +kernel
def zi_X10_goBy : zI := (yX10_goBy, cX10_goBy, 2, (none : Option ClassFile.FieldType), 7, none)
theorem zw_X10_goBy : zHd (zi_X10_goBy) ∈ zT := wd_638
theorem nx_X10_goBy : zNm (zi_X10_goBy) 1 := ⟨by decide +kernel, by decide +kernel, by decide +kernel⟩
theorem pf_X10_goBy : plainFor (zi_X10_goBy).1 = true := by decide +kernel
def zi_X4_layAlong : zI := (yX4_layAlong, cX4_layAlong, 5, (none : Option ClassFile.FieldType), 8, none)
theorem zw_X4_layAlong : zHd (zi_X4_layAlong) ∈ zT := wd_630
theorem nx_X4_layAlong : zNm (zi_X4_layAlong) 1 := ⟨by decide +kernel, by decide +kernel, by decide +kernel⟩
theorem pf_X4_layAlong : plainFor (zi_X4_layAlong).1 = true := by decide +kernel
def zi_X4_addWire : zI := (yX4_addWire, cX4_addWire, 2, (some .int), 9, none)
theorem zw_X4_addWire : zHd (zi_X4_addWire) ∈ zT := wd_618
theorem nx_X4_addWire : zNm (zi_X4_addWire) 1 := ⟨by decide +kernel, by decide +kernel, by decide +kernel⟩
theorem pf_X4_addWire : plainFor (zi_X4_addWire).1 = true := by decide +kernel
def zi_X11_wire : zI := (yX11_wire, cX11_wire, 8, (some .int), 10, none)
theorem zw_X11_wire : zHd (zi_X11_wire) ∈ zT := wd_542
theorem nx_X11_wire : zNm (zi_X11_wire) 5 := ⟨by decide +kernel, by decide +kernel, by decide +kernel⟩
theorem pf_X11_wire : plainFor (zi_X11_wire).1 = true := by decide +kernel
def zi_L_wire : zI := (yL_wire, cL_wire, 8, (some .int), 11, some [(0, 16, 19, 13), (0, 16, 23, 15), (0, 16, 27, 17)])
theorem zw_L_wire : zHd (zi_L_wire) ∈ zT := wd_538
theorem nx_L_wire : zNm (zi_L_wire) 7 := ⟨by decide +kernel, by decide +kernel, by decide +kernel⟩
theorem pf_L_wire : plainFor (zi_L_wire).1 = true := by decide +kernel
def zi_X12_isCavity : zI := (yX12_isCavity, cX12_isCavity, 3, (some .boolean), 2, none)
theorem zw_X12_isCavity : zHd (zi_X12_isCavity) ∈ zT := wd_1271
theorem nx_X12_isCavity : zNm (zi_X12_isCavity) 2 := ⟨by decide +kernel, by decide +kernel, by decide +kernel⟩
theorem pf_X12_isCavity : plainFor (zi_X12_isCavity).1 = true := by decide +kernel
def zi_X12_costOf : zI := (yX12_costOf, cX12_costOf, 2, (some .int), 0, none)
theorem zw_X12_costOf : zHd (zi_X12_costOf) ∈ zT := wd_1280
theorem nx_X12_costOf : zNm (zi_X12_costOf) 1 := ⟨by decide +kernel, by decide +kernel, by decide +kernel⟩
theorem pf_X12_costOf : plainFor (zi_X12_costOf).1 = true := by decide +kernel
def zi_X12_finds : zI := (yX12_finds, cX12_finds, 6, (none : Option ClassFile.FieldType), 1, none)
theorem zw_X12_finds : zHd (zi_X12_finds) ∈ zT := wd_1275
theorem nx_X12_finds : zNm (zi_X12_finds) 1 := ⟨by decide +kernel, by decide +kernel, by decide +kernel⟩
theorem pf_X12_finds : plainFor (zi_X12_finds).1 = true := by decide +kernel
def zi_X12_isTaken : zI := (yX12_isTaken, cX12_isTaken, 4, (some .boolean), 0, none)
theorem zw_X12_isTaken : zHd (zi_X12_isTaken) ∈ zT := wd_1284
theorem nx_X12_isTaken : zNm (zi_X12_isTaken) 1 := ⟨by decide +kernel, by decide +kernel, by decide +kernel⟩
theorem pf_X12_isTaken : plainFor (zi_X12_isTaken).1 = true := by decide +kernel
def zi_X12_across : zI := (yX12_across, cX12_across, 3, (some .int), 0, none)
theorem zw_X12_across : zHd (zi_X12_across) ∈ zT := wd_1292
theorem nx_X12_across : zNm (zi_X12_across) 2 := ⟨by decide +kernel, by decide +kernel, by decide +kernel⟩
theorem pf_X12_across : plainFor (zi_X12_across).1 = true := by decide +kernel
def zi_X12_lays : zI := (yX12_lays, cX12_lays, 7, (none : Option ClassFile.FieldType), 1, none)
theorem zw_X12_lays : zHd (zi_X12_lays) ∈ zT := wd_1288
theorem nx_X12_lays : zNm (zi_X12_lays) 2 := ⟨by decide +kernel, by decide +kernel, by decide +kernel⟩
theorem pf_X12_lays : plainFor (zi_X12_lays).1 = true := by decide +kernel
def zi_X12_wire : zI := (yX12_wire, cX12_wire, 10, (some .int), 3, none)
theorem zw_X12_wire : zHd (zi_X12_wire) ∈ zT := wd_1267
theorem nx_X12_wire : zNm (zi_X12_wire) 5 := ⟨by decide +kernel, by decide +kernel, by decide +kernel⟩
theorem pf_X12_wire : plainFor (zi_X12_wire).1 = true := by decide +kernel
def zi_X11_wireAt : zI := (yX11_wireAt, cX11_wireAt, 2, (some (.object "Sparkline$Wire")), 6, none)
theorem zw_X11_wireAt : zHd (zi_X11_wireAt) ∈ zT := wd_650
theorem nx_X11_wireAt : zNm (zi_X11_wireAt) 1 := ⟨by decide +kernel, by decide +kernel, by decide +kernel⟩
theorem pf_X11_wireAt : plainFor (zi_X11_wireAt).1 = true := by decide +kernel
def zi_X2_release : zI := (yX2_release, cX2_release, 2, (none : Option ClassFile.FieldType), 0, none)
theorem zw_X2_release : zHd (zi_X2_release) ∈ zT := wd_658
theorem nx_X2_release : zNm (zi_X2_release) 1 := ⟨by decide +kernel, by decide +kernel, by decide +kernel⟩
theorem pf_X2_release : plainFor (zi_X2_release).1 = true := by decide +kernel
def zi_X10_takeOut : zI := (yX10_takeOut, cX10_takeOut, 2, (none : Option ClassFile.FieldType), 3, none)
theorem zw_X10_takeOut : zHd (zi_X10_takeOut) ∈ zT := wd_654
theorem nx_X10_takeOut : zNm (zi_X10_takeOut) 0 := ⟨by decide +kernel, by decide +kernel, by decide +kernel⟩
theorem pf_X10_takeOut : plainFor (zi_X10_takeOut).1 = true := by decide +kernel
def zi_X11_pull : zI := (yX11_pull, cX11_pull, 3, (some .int), 7, none)
theorem zw_X11_pull : zHd (zi_X11_pull) ∈ zT := wd_646
theorem nx_X11_pull : zNm (zi_X11_pull) 1 := ⟨by decide +kernel, by decide +kernel, by decide +kernel⟩
theorem pf_X11_pull : plainFor (zi_X11_pull).1 = true := by decide +kernel
def zi_L_pull : zI := (yL_pull, cL_pull, 4, (some .int), 8, some [(0, 9, 12, 13), (0, 9, 15, 17)])
theorem zw_L_pull : zHd (zi_L_pull) ∈ zT := wd_642
theorem nx_L_pull : zNm (zi_L_pull) 3 := ⟨by decide +kernel, by decide +kernel, by decide +kernel⟩
theorem pf_L_pull : plainFor (zi_L_pull).1 = true := by decide +kernel
def zi_X12_isWire : zI := (yX12_isWire, cX12_isWire, 2, (some .boolean), 1, none)
theorem zw_X12_isWire : zHd (zi_X12_isWire) ∈ zT := wd_1300
theorem nx_X12_isWire : zNm (zi_X12_isWire) 1 := ⟨by decide +kernel, by decide +kernel, by decide +kernel⟩
theorem pf_X12_isWire : plainFor (zi_X12_isWire).1 = true := by decide +kernel
def zi_X12_lengthOf : zI := (yX12_lengthOf, cX12_lengthOf, 4, (some .int), 0, none)
theorem zw_X12_lengthOf : zHd (zi_X12_lengthOf) ∈ zT := wd_1304
theorem nx_X12_lengthOf : zNm (zi_X12_lengthOf) 1 := ⟨by decide +kernel, by decide +kernel, by decide +kernel⟩
theorem pf_X12_lengthOf : plainFor (zi_X12_lengthOf).1 = true := by decide +kernel
def zi_X12_pull : zI := (yX12_pull, cX12_pull, 4, (some .int), 2, none)
theorem zw_X12_pull : zHd (zi_X12_pull) ∈ zT := wd_1296
theorem nx_X12_pull : zNm (zi_X12_pull) 1 := ⟨by decide +kernel, by decide +kernel, by decide +kernel⟩
theorem pf_X12_pull : plainFor (zi_X12_pull).1 = true := by decide +kernel
def zi_X10_bundleAt : zI := (yX10_bundleAt, cX10_bundleAt, 2, (some .int), 3, none)
theorem zw_X10_bundleAt : zHd (zi_X10_bundleAt) ∈ zT := wd_672
theorem nx_X10_bundleAt : zNm (zi_X10_bundleAt) 1 := ⟨by decide +kernel, by decide +kernel, by decide +kernel⟩
theorem pf_X10_bundleAt : plainFor (zi_X10_bundleAt).1 = true := by decide +kernel
def zi_X11_ofWire : zI := (yX11_ofWire, cX11_ofWire, 4, (some .int), 7, none)
theorem zw_X11_ofWire : zHd (zi_X11_ofWire) ∈ zT := wd_668
theorem nx_X11_ofWire : zNm (zi_X11_ofWire) 2 := ⟨by decide +kernel, by decide +kernel, by decide +kernel⟩
theorem pf_X11_ofWire : plainFor (zi_X11_ofWire).1 = true := by decide +kernel
def zi_L_ofWire : zI := (yL_ofWire, cL_ofWire, 5, (some .int), 8, some [(0, 10, 13, 13)])
theorem zw_L_ofWire : zHd (zi_L_ofWire) ∈ zT := wd_664
theorem nx_L_ofWire : zNm (zi_L_ofWire) 4 := ⟨by decide +kernel, by decide +kernel, by decide +kernel⟩
theorem pf_L_ofWire : plainFor (zi_L_ofWire).1 = true := by decide +kernel
def zi_X12_ofWire : zI := (yX12_ofWire, cX12_ofWire, 3, (some .int), 2, none)
theorem zw_X12_ofWire : zHd (zi_X12_ofWire) ∈ zT := wd_1308
theorem nx_X12_ofWire : zNm (zi_X12_ofWire) 2 := ⟨by decide +kernel, by decide +kernel, by decide +kernel⟩
theorem pf_X12_ofWire : plainFor (zi_X12_ofWire).1 = true := by decide +kernel
def zi_X4_weightOf : zI := (yX4_weightOf, cX4_weightOf, 5, (some .int), 3, none)
theorem zw_X4_weightOf : zHd (zi_X4_weightOf) ∈ zT := wd_683
theorem nx_X4_weightOf : zNm (zi_X4_weightOf) 1 := ⟨by decide +kernel, by decide +kernel, by decide +kernel⟩
theorem pf_X4_weightOf : plainFor (zi_X4_weightOf).1 = true := by decide +kernel
def zi_X11_weight : zI := (yX11_weight, cX11_weight, 2, (some .int), 7, none)
theorem zw_X11_weight : zHd (zi_X11_weight) ∈ zT := wd_679
theorem nx_X11_weight : zNm (zi_X11_weight) 1 := ⟨by decide +kernel, by decide +kernel, by decide +kernel⟩
theorem pf_X11_weight : plainFor (zi_X11_weight).1 = true := by decide +kernel
def zi_L_weight : zI := (yL_weight, cL_weight, 4, (some .int), 8, some [(0, 9, 12, 15)])
theorem zw_L_weight : zHd (zi_L_weight) ∈ zT := wd_675
theorem nx_L_weight : zNm (zi_L_weight) 3 := ⟨by decide +kernel, by decide +kernel, by decide +kernel⟩
theorem pf_L_weight : plainFor (zi_L_weight).1 = true := by decide +kernel
def zi_X12_areOptions : zI := (yX12_areOptions, cX12_areOptions, 1, (some .boolean), 1, none)
theorem zw_X12_areOptions : zHd (zi_X12_areOptions) ∈ zT := wd_1315
theorem nx_X12_areOptions : zNm (zi_X12_areOptions) 1 := ⟨by decide +kernel, by decide +kernel, by decide +kernel⟩
theorem pf_X12_areOptions : plainFor (zi_X12_areOptions).1 = true := by decide +kernel
def zi_X12_weighs : zI := (yX12_weighs, cX12_weighs, 4, (some .int), 1, none)
theorem zw_X12_weighs : zHd (zi_X12_weighs) ∈ zT := wd_1319
theorem nx_X12_weighs : zNm (zi_X12_weighs) 1 := ⟨by decide +kernel, by decide +kernel, by decide +kernel⟩
theorem pf_X12_weighs : plainFor (zi_X12_weighs).1 = true := by decide +kernel
def zi_X12_weight : zI := (yX12_weight, cX12_weight, 2, (some .int), 2, none)
theorem zw_X12_weight : zHd (zi_X12_weight) ∈ zT := wd_1312
theorem nx_X12_weight : zNm (zi_X12_weight) 1 := ⟨by decide +kernel, by decide +kernel, by decide +kernel⟩
theorem pf_X12_weight : plainFor (zi_X12_weight).1 = true := by decide +kernel
def zi_X5_add : zI := (yX5_add, cX5_add, 3, (some .int), 1, none)
theorem zw_X5_add : zHd (zi_X5_add) ∈ zT := wd_695
theorem nx_X5_add : zNm (zi_X5_add) 2 := ⟨by decide +kernel, by decide +kernel, by decide +kernel⟩
theorem pf_X5_add : plainFor (zi_X5_add).1 = true := by decide +kernel
def zi_X11_order : zI := (yX11_order, cX11_order, 3, (some .int), 7, none)
theorem zw_X11_order : zHd (zi_X11_order) ∈ zT := wd_691
theorem nx_X11_order : zNm (zi_X11_order) 2 := ⟨by decide +kernel, by decide +kernel, by decide +kernel⟩
theorem pf_X11_order : plainFor (zi_X11_order).1 = true := by decide +kernel
def zi_L_order : zI := (yL_order, cL_order, 5, (some .int), 8, some [(0, 10, 13, 15), (0, 10, 17, 17)])
theorem zw_L_order : zHd (zi_L_order) ∈ zT := wd_687
theorem nx_L_order : zNm (zi_L_order) 4 := ⟨by decide +kernel, by decide +kernel, by decide +kernel⟩
theorem pf_L_order : plainFor (zi_L_order).1 = true := by decide +kernel
def zi_X12_order : zI := (yX12_order, cX12_order, 4, (some .int), 2, none)
theorem zw_X12_order : zHd (zi_X12_order) ∈ zT := wd_1323
theorem nx_X12_order : zNm (zi_X12_order) 2 := ⟨by decide +kernel, by decide +kernel, by decide +kernel⟩
theorem pf_X12_order : plainFor (zi_X12_order).1 = true := by decide +kernel
def zi_X5_allOrders : zI := (yX5_allOrders, cX5_allOrders, 1, (some .int), 0, none)
theorem zw_X5_allOrders : zHd (zi_X5_allOrders) ∈ zT := wd_715
theorem nx_X5_allOrders : zNm (zi_X5_allOrders) 0 := ⟨by decide +kernel, by decide +kernel, by decide +kernel⟩
theorem pf_X5_allOrders : plainFor (zi_X5_allOrders).1 = true := by decide +kernel
def zi_X5_weightAsOne : zI := (yX5_weightAsOne, cX5_weightAsOne, 6, (some .int), 4, none)
theorem zw_X5_weightAsOne : zHd (zi_X5_weightAsOne) ∈ zT := wd_719
theorem nx_X5_weightAsOne : zNm (zi_X5_weightAsOne) 2 := ⟨by decide +kernel, by decide +kernel, by decide +kernel⟩
theorem pf_X5_weightAsOne : plainFor (zi_X5_weightAsOne).1 = true := by decide +kernel
def zi_X5_weighSets : zI := (yX5_weighSets, cX5_weighSets, 4, (none : Option ClassFile.FieldType), 5, none)
theorem zw_X5_weighSets : zHd (zi_X5_weighSets) ∈ zT := wd_711
theorem nx_X5_weighSets : zNm (zi_X5_weighSets) 1 := ⟨by decide +kernel, by decide +kernel, by decide +kernel⟩
theorem pf_X5_weighSets : plainFor (zi_X5_weighSets).1 = true := by decide +kernel
def zi_X5_leastOfRest (d : Nat) : zI := (yX5_leastOfRest, cX5_leastOfRest, 7, (some .int), d, none)
theorem zw_X5_leastOfRest (d : Nat) : zHd (zi_X5_leastOfRest d) ∈ zT := wd_724
theorem nx_X5_leastOfRest (d : Nat) : zNm (zi_X5_leastOfRest d) 3 := ⟨(by decide +kernel : yX5_leastOfRest.cls ≠ _), (by decide +kernel : yX5_leastOfRest.cls ≠ _), (by decide +kernel : (parseMethodDescriptor yX5_leastOfRest.desc).map _ = _)⟩
theorem pf_X5_leastOfRest (d : Nat) : plainFor (zi_X5_leastOfRest d).1 = true := (by decide +kernel : plainFor yX5_leastOfRest = true)
def zi_X5_leastByChoice : zI := (yX5_leastByChoice, cX5_leastByChoice, 3, (some .int), 10, none)
theorem zw_X5_leastByChoice : zHd (zi_X5_leastByChoice) ∈ zT := wd_707
theorem nx_X5_leastByChoice : zNm (zi_X5_leastByChoice) 2 := ⟨by decide +kernel, by decide +kernel, by decide +kernel⟩
theorem pf_X5_leastByChoice : plainFor (zi_X5_leastByChoice).1 = true := by decide +kernel
def zi_X11_least : zI := (yX11_least, cX11_least, 2, (some .int), 11, none)
theorem zw_X11_least : zHd (zi_X11_least) ∈ zT := wd_703
theorem nx_X11_least : zNm (zi_X11_least) 1 := ⟨by decide +kernel, by decide +kernel, by decide +kernel⟩
theorem pf_X11_least : plainFor (zi_X11_least).1 = true := by decide +kernel
def zi_L_least : zI := (yL_least, cL_least, 4, (some .int), 12, some [(0, 9, 12, 15)])
theorem zw_L_least : zHd (zi_L_least) ∈ zT := wd_699
theorem nx_L_least : zNm (zi_L_least) 3 := ⟨by decide +kernel, by decide +kernel, by decide +kernel⟩
theorem pf_L_least : plainFor (zi_L_least).1 = true := by decide +kernel
def zi_X12_weightOfFamilies : zI := (yX12_weightOfFamilies, cX12_weightOfFamilies, 7, (some .int), 2, none)
theorem zw_X12_weightOfFamilies : zHd (zi_X12_weightOfFamilies) ∈ zT := wd_1335
theorem nx_X12_weightOfFamilies : zNm (zi_X12_weightOfFamilies) 1 := ⟨by decide +kernel, by decide +kernel, by decide +kernel⟩
theorem pf_X12_weightOfFamilies : plainFor (zi_X12_weightOfFamilies).1 = true := by decide +kernel
def zi_X12_leastOf : zI := (yX12_leastOf, cX12_leastOf, 7, (some .int), 3, none)
theorem zw_X12_leastOf : zHd (zi_X12_leastOf) ∈ zT := wd_1331
theorem nx_X12_leastOf : zNm (zi_X12_leastOf) 1 := ⟨by decide +kernel, by decide +kernel, by decide +kernel⟩
theorem pf_X12_leastOf : plainFor (zi_X12_leastOf).1 = true := by decide +kernel
def zi_X12_least : zI := (yX12_least, cX12_least, 2, (some .int), 4, none)
theorem zw_X12_least : zHd (zi_X12_least) ∈ zT := wd_1327
theorem nx_X12_least : zNm (zi_X12_least) 1 := ⟨by decide +kernel, by decide +kernel, by decide +kernel⟩
theorem pf_X12_least : plainFor (zi_X12_least).1 = true := by decide +kernel
def zi_X5_leastWithOneMore : zI := (yX5_leastWithOneMore, cX5_leastWithOneMore, 4, (some .int), 1, none)
theorem zw_X5_leastWithOneMore : zHd (zi_X5_leastWithOneMore) ∈ zT := wd_746
theorem nx_X5_leastWithOneMore : zNm (zi_X5_leastWithOneMore) 1 := ⟨by decide +kernel, by decide +kernel, by decide +kernel⟩
theorem pf_X5_leastWithOneMore : plainFor (zi_X5_leastWithOneMore).1 = true := by decide +kernel
def zi_X5_addFamily : zI := (yX5_addFamily, cX5_addFamily, 2, (none : Option ClassFile.FieldType), 2, none)
theorem zw_X5_addFamily : zHd (zi_X5_addFamily) ∈ zT := wd_742
theorem nx_X5_addFamily : zNm (zi_X5_addFamily) 0 := ⟨by decide +kernel, by decide +kernel, by decide +kernel⟩
theorem pf_X5_addFamily : plainFor (zi_X5_addFamily).1 = true := by decide +kernel
def zi_X5_leastByTable : zI := (yX5_leastByTable, cX5_leastByTable, 4, (some .int), 6, none)
theorem zw_X5_leastByTable : zHd (zi_X5_leastByTable) ∈ zT := wd_737
theorem nx_X5_leastByTable : zNm (zi_X5_leastByTable) 2 := ⟨by decide +kernel, by decide +kernel, by decide +kernel⟩
theorem pf_X5_leastByTable : plainFor (zi_X5_leastByTable).1 = true := by decide +kernel
def zi_X11_leastAnew : zI := (yX11_leastAnew, cX11_leastAnew, 2, (some .int), 7, none)
theorem zw_X11_leastAnew : zHd (zi_X11_leastAnew) ∈ zT := wd_733
theorem nx_X11_leastAnew : zNm (zi_X11_leastAnew) 1 := ⟨by decide +kernel, by decide +kernel, by decide +kernel⟩
theorem pf_X11_leastAnew : plainFor (zi_X11_leastAnew).1 = true := by decide +kernel
def zi_L_leastAnew : zI := (yL_leastAnew, cL_leastAnew, 4, (some .int), 8, some [(0, 9, 12, 15)])
theorem zw_L_leastAnew : zHd (zi_L_leastAnew) ∈ zT := wd_729
theorem nx_L_leastAnew : zNm (zi_L_leastAnew) 3 := ⟨by decide +kernel, by decide +kernel, by decide +kernel⟩
theorem pf_L_leastAnew : plainFor (zi_L_leastAnew).1 = true := by decide +kernel
def zi_X12_leastAnew : zI := (yX12_leastAnew, cX12_leastAnew, 2, (some .int), 5, none)
theorem zw_X12_leastAnew : zHd (zi_X12_leastAnew) ∈ zT := wd_1339
theorem nx_X12_leastAnew : zNm (zi_X12_leastAnew) 1 := ⟨by decide +kernel, by decide +kernel, by decide +kernel⟩
theorem pf_X12_leastAnew : plainFor (zi_X12_leastAnew).1 = true := by decide +kernel
def zi_J9_floorDiv_7cf53 : zI := (yJ9_floorDiv_7cf53, cJ9_floorDiv_7cf53, 3, (some .int), 0, none)
theorem zw_J9_floorDiv_7cf53 : zHd (zi_J9_floorDiv_7cf53) ∈ zT := wd_769
theorem nx_J9_floorDiv_7cf53 : zNm (zi_J9_floorDiv_7cf53) 2 := ⟨by decide +kernel, by decide +kernel, by decide +kernel⟩
theorem pf_J9_floorDiv_7cf53 : plainFor (zi_J9_floorDiv_7cf53).1 = true := by decide +kernel
def zi_X11_divideDown : zI := (yX11_divideDown, cX11_divideDown, 2, (some .int), 1, none)
theorem zw_X11_divideDown : zHd (zi_X11_divideDown) ∈ zT := wd_766
theorem nx_X11_divideDown : zNm (zi_X11_divideDown) 2 := ⟨by decide +kernel, by decide +kernel, by decide +kernel⟩
theorem pf_X11_divideDown : plainFor (zi_X11_divideDown).1 = true := by decide +kernel
def zi_X3_window : zI := (yX3_window, cX3_window, 3, (some .int), 2, none)
theorem zw_X3_window : zHd (zi_X3_window) ∈ zT := wd_761
theorem nx_X3_window : zNm (zi_X3_window) 0 := ⟨by decide +kernel, by decide +kernel, by decide +kernel⟩
theorem pf_X3_window : plainFor (zi_X3_window).1 = true := by decide +kernel
def zi_J9_abs_0f7a4 : zI := (yJ9_abs_0f7a4, cJ9_abs_0f7a4, 1, (some .int), 0, none)
theorem zw_J9_abs_0f7a4 : zHd (zi_J9_abs_0f7a4) ∈ zT := wd_772
theorem nx_J9_abs_0f7a4 : zNm (zi_J9_abs_0f7a4) 1 := ⟨by decide +kernel, by decide +kernel, by decide +kernel⟩
theorem pf_J9_abs_0f7a4 : plainFor (zi_J9_abs_0f7a4).1 = true := by decide +kernel
def zi_X3_judge : zI := (yX3_judge, cX3_judge, 3, (some .boolean), 3, none)
theorem zw_X3_judge : zHd (zi_X3_judge) ∈ zT := wd_757
theorem nx_X3_judge : zNm (zi_X3_judge) 1 := ⟨by decide +kernel, by decide +kernel, by decide +kernel⟩
theorem pf_X3_judge : plainFor (zi_X3_judge).1 = true := by decide +kernel
def zi_X11_crimp : zI := (yX11_crimp, cX11_crimp, 2, (some .boolean), 7, none)
theorem zw_X11_crimp : zHd (zi_X11_crimp) ∈ zT := wd_753
theorem nx_X11_crimp : zNm (zi_X11_crimp) 1 := ⟨by decide +kernel, by decide +kernel, by decide +kernel⟩
theorem pf_X11_crimp : plainFor (zi_X11_crimp).1 = true := by decide +kernel
def zi_L_crimp : zI := (yL_crimp, cL_crimp, 4, (some .int), 8, some [(0, 16, 19, 15)])
theorem zw_L_crimp : zHd (zi_L_crimp) ∈ zT := wd_749
theorem nx_L_crimp : zNm (zi_L_crimp) 3 := ⟨by decide +kernel, by decide +kernel, by decide +kernel⟩
theorem pf_L_crimp : plainFor (zi_L_crimp).1 = true := by decide +kernel
def zi_X12_window : zI := (yX12_window, cX12_window, 4, (some .int), 0, none)
theorem zw_X12_window : zHd (zi_X12_window) ∈ zT := wd_1348
theorem nx_X12_window : zNm (zi_X12_window) 0 := ⟨by decide +kernel, by decide +kernel, by decide +kernel⟩
theorem pf_X12_window : plainFor (zi_X12_window).1 = true := by decide +kernel
def zi_X12_crimp : zI := (yX12_crimp, cX12_crimp, 4, (some .boolean), 1, none)
theorem zw_X12_crimp : zHd (zi_X12_crimp) ∈ zT := wd_1344
theorem nx_X12_crimp : zNm (zi_X12_crimp) 1 := ⟨by decide +kernel, by decide +kernel, by decide +kernel⟩
theorem pf_X12_crimp : plainFor (zi_X12_crimp).1 = true := by decide +kernel
def zi_X11_crimps : zI := (yX11_crimps, cX11_crimps, 2, (some .int), 7, none)
theorem zw_X11_crimps : zHd (zi_X11_crimps) ∈ zT := wd_780
theorem nx_X11_crimps : zNm (zi_X11_crimps) 1 := ⟨by decide +kernel, by decide +kernel, by decide +kernel⟩
theorem pf_X11_crimps : plainFor (zi_X11_crimps).1 = true := by decide +kernel
def zi_L_crimps : zI := (yL_crimps, cL_crimps, 4, (some .int), 8, some [(0, 9, 12, 15)])
theorem zw_L_crimps : zHd (zi_L_crimps) ∈ zT := wd_776
theorem nx_L_crimps : zNm (zi_L_crimps) 3 := ⟨by decide +kernel, by decide +kernel, by decide +kernel⟩
theorem pf_L_crimps : plainFor (zi_L_crimps).1 = true := by decide +kernel
def zi_X12_crimps : zI := (yX12_crimps, cX12_crimps, 2, (some .int), 1, none)
theorem zw_X12_crimps : zHd (zi_X12_crimps) ∈ zT := wd_1352
theorem nx_X12_crimps : zNm (zi_X12_crimps) 1 := ⟨by decide +kernel, by decide +kernel, by decide +kernel⟩
theorem pf_X12_crimps : plainFor (zi_X12_crimps).1 = true := by decide +kernel
def zi_X7_init : zI := (yX7_init, cX7_init, 4, (none : Option ClassFile.FieldType), 1, none)
theorem zw_X7_init : zHd (zi_X7_init) ∈ zT := wd_793
theorem nx_X7_init : zNm (zi_X7_init) 3 := ⟨by decide +kernel, by decide +kernel, by decide +kernel⟩
theorem pf_X7_init : plainFor (zi_X7_init).1 = true := by decide +kernel
def zi_X11_reel : zI := (yX11_reel, cX11_reel, 4, (some .int), 7, none)
theorem zw_X11_reel : zHd (zi_X11_reel) ∈ zT := wd_788
theorem nx_X11_reel : zNm (zi_X11_reel) 3 := ⟨by decide +kernel, by decide +kernel, by decide +kernel⟩
theorem pf_X11_reel : plainFor (zi_X11_reel).1 = true := by decide +kernel
def zi_L_reel : zI := (yL_reel, cL_reel, 6, (some .int), 8, some [(0, 12, 15, 13), (0, 12, 19, 15), (0, 12, 23, 17)])
theorem zw_L_reel : zHd (zi_L_reel) ∈ zT := wd_784
theorem nx_L_reel : zNm (zi_L_reel) 5 := ⟨by decide +kernel, by decide +kernel, by decide +kernel⟩
theorem pf_L_reel : plainFor (zi_L_reel).1 = true := by decide +kernel
def zi_X12_reel : zI := (yX12_reel, cX12_reel, 5, (some .int), 1, none)
theorem zw_X12_reel : zHd (zi_X12_reel) ∈ zT := wd_1356
theorem nx_X12_reel : zNm (zi_X12_reel) 3 := ⟨by decide +kernel, by decide +kernel, by decide +kernel⟩
theorem pf_X12_reel : plainFor (zi_X12_reel).1 = true := by decide +kernel
def zi_X11_reelAt : zI := (yX11_reelAt, cX11_reelAt, 2, (some (.object "Sparkline$Reel")), 6, none)
theorem zw_X11_reelAt : zHd (zi_X11_reelAt) ∈ zT := wd_827
theorem nx_X11_reelAt : zNm (zi_X11_reelAt) 1 := ⟨by decide +kernel, by decide +kernel, by decide +kernel⟩
theorem pf_X11_reelAt : plainFor (zi_X11_reelAt).1 = true := by decide +kernel
def zi_X7_beginClock : zI := (yX7_beginClock, cX7_beginClock, 2, (none : Option ClassFile.FieldType), 0, none)
theorem zw_X7_beginClock : zHd (zi_X7_beginClock) ∈ zT := wd_831
theorem nx_X7_beginClock : zNm (zi_X7_beginClock) 1 := ⟨by decide +kernel, by decide +kernel, by decide +kernel⟩
theorem pf_X7_beginClock : plainFor (zi_X7_beginClock).1 = true := by decide +kernel
def zi_X7_clockAt : zI := (yX7_clockAt, cX7_clockAt, 3, (some .int), 0, none)
theorem zw_X7_clockAt : zHd (zi_X7_clockAt) ∈ zT := wd_835
theorem nx_X7_clockAt : zNm (zi_X7_clockAt) 1 := ⟨by decide +kernel, by decide +kernel, by decide +kernel⟩
theorem pf_X7_clockAt : plainFor (zi_X7_clockAt).1 = true := by decide +kernel
def zi_X11_open : zI := (yX11_open, cX11_open, 4, (some .int), 7, none)
theorem zw_X11_open : zHd (zi_X11_open) ∈ zT := wd_823
theorem nx_X11_open : zNm (zi_X11_open) 2 := ⟨by decide +kernel, by decide +kernel, by decide +kernel⟩
theorem pf_X11_open : plainFor (zi_X11_open).1 = true := by decide +kernel
def zi_L_open : zI := (yL_open, cL_open, 5, (some .int), 8, some [(0, 10, 13, 13), (0, 10, 17, 17)])
theorem zw_L_open : zHd (zi_L_open) ∈ zT := wd_819
theorem nx_L_open : zNm (zi_L_open) 4 := ⟨by decide +kernel, by decide +kernel, by decide +kernel⟩
theorem pf_L_open : plainFor (zi_L_open).1 = true := by decide +kernel
def zi_X12_isReel : zI := (yX12_isReel, cX12_isReel, 2, (some .boolean), 1, none)
theorem zw_X12_isReel : zHd (zi_X12_isReel) ∈ zT := wd_1364
theorem nx_X12_isReel : zNm (zi_X12_isReel) 1 := ⟨by decide +kernel, by decide +kernel, by decide +kernel⟩
theorem pf_X12_isReel : plainFor (zi_X12_isReel).1 = true := by decide +kernel
def zi_X12_runs : zI := (yX12_runs, cX12_runs, 3, (some .int), 0, none)
theorem zw_X12_runs : zHd (zi_X12_runs) ∈ zT := wd_1368
theorem nx_X12_runs : zNm (zi_X12_runs) 1 := ⟨by decide +kernel, by decide +kernel, by decide +kernel⟩
theorem pf_X12_runs : plainFor (zi_X12_runs).1 = true := by decide +kernel
def zi_X12_open : zI := (yX12_open, cX12_open, 3, (some .int), 2, none)
theorem zw_X12_open : zHd (zi_X12_open) ∈ zT := wd_1360
theorem nx_X12_open : zNm (zi_X12_open) 2 := ⟨by decide +kernel, by decide +kernel, by decide +kernel⟩
theorem pf_X12_open : plainFor (zi_X12_open).1 = true := by decide +kernel
def zi_X11_ofReel : zI := (yX11_ofReel, cX11_ofReel, 4, (some .int), 7, none)
theorem zw_X11_ofReel : zHd (zi_X11_ofReel) ∈ zT := wd_842
theorem nx_X11_ofReel : zNm (zi_X11_ofReel) 2 := ⟨by decide +kernel, by decide +kernel, by decide +kernel⟩
theorem pf_X11_ofReel : plainFor (zi_X11_ofReel).1 = true := by decide +kernel
def zi_L_ofReel : zI := (yL_ofReel, cL_ofReel, 5, (some .int), 8, some [(0, 10, 13, 13)])
theorem zw_L_ofReel : zHd (zi_L_ofReel) ∈ zT := wd_838
theorem nx_L_ofReel : zNm (zi_L_ofReel) 4 := ⟨by decide +kernel, by decide +kernel, by decide +kernel⟩
theorem pf_L_ofReel : plainFor (zi_L_ofReel).1 = true := by decide +kernel
def zi_X12_ofReel : zI := (yX12_ofReel, cX12_ofReel, 3, (some .int), 2, none)
theorem zw_X12_ofReel : zHd (zi_X12_ofReel) ∈ zT := wd_1372
theorem nx_X12_ofReel : zNm (zi_X12_ofReel) 2 := ⟨by decide +kernel, by decide +kernel, by decide +kernel⟩
theorem pf_X12_ofReel : plainFor (zi_X12_ofReel).1 = true := by decide +kernel
def zi_X9_init : zI := (yX9_init, cX9_init, 1, (none : Option ClassFile.FieldType), 1, none)
theorem zw_X9_init : zHd (zi_X9_init) ∈ zT := wd_864
theorem nx_X9_init : zNm (zi_X9_init) 0 := ⟨by decide +kernel, by decide +kernel, by decide +kernel⟩
theorem pf_X9_init : plainFor (zi_X9_init).1 = true := by decide +kernel
def zi_X0_init : zI := (yX0_init, cX0_init, 2, (none : Option ClassFile.FieldType), 7, none)
theorem zw_X0_init : zHd (zi_X0_init) ∈ zT := wd_854
theorem nx_X0_init : zNm (zi_X0_init) 0 := ⟨by decide +kernel, by decide +kernel, by decide +kernel⟩
theorem pf_X0_init : plainFor (zi_X0_init).1 = true := by decide +kernel
def zi_X11_board : zI := (yX11_board, cX11_board, 1, (some .int), 8, none)
theorem zw_X11_board : zHd (zi_X11_board) ∈ zT := wd_849
theorem nx_X11_board : zNm (zi_X11_board) 0 := ⟨by decide +kernel, by decide +kernel, by decide +kernel⟩
theorem pf_X11_board : plainFor (zi_X11_board).1 = true := by decide +kernel
def zi_L_board : zI := (yL_board, cL_board, 3, (some .int), 9, some [(0, 8, 11, 17)])
theorem zw_L_board : zHd (zi_L_board) ∈ zT := wd_845
theorem nx_L_board : zNm (zi_L_board) 2 := ⟨by decide +kernel, by decide +kernel, by decide +kernel⟩
theorem pf_L_board : plainFor (zi_L_board).1 = true := by decide +kernel
def zi_X12_board : zI := (yX12_board, cX12_board, 1, (some .int), 1, none)
theorem zw_X12_board : zHd (zi_X12_board) ∈ zT := wd_1376
theorem nx_X12_board : zNm (zi_X12_board) 0 := ⟨by decide +kernel, by decide +kernel, by decide +kernel⟩
theorem pf_X12_board : plainFor (zi_X12_board).1 = true := by decide +kernel
def zi_X11_boardAt : zI := (yX11_boardAt, cX11_boardAt, 2, (some (.object "Sparkline$Board")), 6, none)
theorem zw_X11_boardAt : zHd (zi_X11_boardAt) ∈ zT := wd_929
theorem nx_X11_boardAt : zNm (zi_X11_boardAt) 1 := ⟨by decide +kernel, by decide +kernel, by decide +kernel⟩
theorem pf_X11_boardAt : plainFor (zi_X11_boardAt).1 = true := by decide +kernel
def zi_X0_slotAt : zI := (yX0_slotAt, cX0_slotAt, 2, (some (.object "Sparkline$Slot")), 6, none)
theorem zw_X0_slotAt : zHd (zi_X0_slotAt) ∈ zT := wd_933
theorem nx_X0_slotAt : zNm (zi_X0_slotAt) 1 := ⟨by decide +kernel, by decide +kernel, by decide +kernel⟩
theorem pf_X0_slotAt : plainFor (zi_X0_slotAt).1 = true := by decide +kernel
def zi_X9_hasPart : zI := (yX9_hasPart, cX9_hasPart, 1, (some .boolean), 0, none)
theorem zw_X9_hasPart : zHd (zi_X9_hasPart) ∈ zT := wd_942
theorem nx_X9_hasPart : zNm (zi_X9_hasPart) 0 := ⟨by decide +kernel, by decide +kernel, by decide +kernel⟩
theorem pf_X9_hasPart : plainFor (zi_X9_hasPart).1 = true := by decide +kernel
def zi_X7_gives : zI := (yX7_gives, cX7_gives, 2, (some .boolean), 1, none)
theorem zw_X7_gives : zHd (zi_X7_gives) ∈ zT := wd_946
theorem nx_X7_gives : zNm (zi_X7_gives) 1 := ⟨by decide +kernel, by decide +kernel, by decide +kernel⟩
theorem pf_X7_gives : plainFor (zi_X7_gives).1 = true := by decide +kernel
def zi_X9_fill : zI := (yX9_fill, cX9_fill, 4, (none : Option ClassFile.FieldType), 0, none)
theorem zw_X9_fill : zHd (zi_X9_fill) ∈ zT := wd_951
theorem nx_X9_fill : zNm (zi_X9_fill) 3 := ⟨by decide +kernel, by decide +kernel, by decide +kernel⟩
theorem pf_X9_fill : plainFor (zi_X9_fill).1 = true := by decide +kernel
def zi_X11_place : zI := (yX11_place, cX11_place, 7, (some .int), 7, none)
theorem zw_X11_place : zHd (zi_X11_place) ∈ zT := wd_925
theorem nx_X11_place : zNm (zi_X11_place) 3 := ⟨by decide +kernel, by decide +kernel, by decide +kernel⟩
theorem pf_X11_place : plainFor (zi_X11_place).1 = true := by decide +kernel
def zi_L_place : zI := (yL_place, cL_place, 6, (some .int), 8, some [(0, 12, 15, 13), (0, 12, 19, 17)])
theorem zw_L_place : zHd (zi_L_place) ∈ zT := wd_921
theorem nx_L_place : zNm (zi_L_place) 5 := ⟨by decide +kernel, by decide +kernel, by decide +kernel⟩
theorem pf_L_place : plainFor (zi_L_place).1 = true := by decide +kernel
def zi_X12_isBoard : zI := (yX12_isBoard, cX12_isBoard, 2, (some .boolean), 1, none)
theorem zw_X12_isBoard : zHd (zi_X12_isBoard) ∈ zT := wd_1384
theorem nx_X12_isBoard : zNm (zi_X12_isBoard) 1 := ⟨by decide +kernel, by decide +kernel, by decide +kernel⟩
theorem pf_X12_isBoard : plainFor (zi_X12_isBoard).1 = true := by decide +kernel
def zi_X12_isSlot : zI := (yX12_isSlot, cX12_isSlot, 1, (some .boolean), 1, none)
theorem zw_X12_isSlot : zHd (zi_X12_isSlot) ∈ zT := wd_1387
theorem nx_X12_isSlot : zNm (zi_X12_isSlot) 1 := ⟨by decide +kernel, by decide +kernel, by decide +kernel⟩
theorem pf_X12_isSlot : plainFor (zi_X12_isSlot).1 = true := by decide +kernel
def zi_X12_gives : zI := (yX12_gives, cX12_gives, 2, (some .boolean), 1, none)
theorem zw_X12_gives : zHd (zi_X12_gives) ∈ zT := wd_1391
theorem nx_X12_gives : zNm (zi_X12_gives) 1 := ⟨by decide +kernel, by decide +kernel, by decide +kernel⟩
theorem pf_X12_gives : plainFor (zi_X12_gives).1 = true := by decide +kernel
def zi_X12_place : zI := (yX12_place, cX12_place, 6, (some .int), 2, none)
theorem zw_X12_place : zHd (zi_X12_place) ∈ zT := wd_1380
theorem nx_X12_place : zNm (zi_X12_place) 3 := ⟨by decide +kernel, by decide +kernel, by decide +kernel⟩
theorem pf_X12_place : plainFor (zi_X12_place).1 = true := by decide +kernel
def zi_X11_limits : zI := (yX11_limits, cX11_limits, 5, (none : Option ClassFile.FieldType), 7, none)
theorem zw_X11_limits : zHd (zi_X11_limits) ∈ zT := wd_958
theorem nx_X11_limits : zNm (zi_X11_limits) 4 := ⟨by decide +kernel, by decide +kernel, by decide +kernel⟩
theorem pf_X11_limits : plainFor (zi_X11_limits).1 = true := by decide +kernel
def zi_L_limits : zI := (yL_limits, cL_limits, 6, (some .int), 8, some [(0, 9, 12, 13), (0, 9, 16, 15)])
theorem zw_L_limits : zHd (zi_L_limits) ∈ zT := wd_954
theorem nx_L_limits : zNm (zi_L_limits) 5 := ⟨by decide +kernel, by decide +kernel, by decide +kernel⟩
theorem pf_L_limits : plainFor (zi_L_limits).1 = true := by decide +kernel
def zi_X12_limits : zI := (yX12_limits, cX12_limits, 7, (none : Option ClassFile.FieldType), 1, none)
theorem zw_X12_limits : zHd (zi_X12_limits) ∈ zT := wd_1395
theorem nx_X12_limits : zNm (zi_X12_limits) 4 := ⟨by decide +kernel, by decide +kernel, by decide +kernel⟩
theorem pf_X12_limits : plainFor (zi_X12_limits).1 = true := by decide +kernel
def zi_X8_copyFrom : zI := (yX8_copyFrom, cX8_copyFrom, 3, (none : Option ClassFile.FieldType), 1, none)
theorem zw_X8_copyFrom : zHd (zi_X8_copyFrom) ∈ zT := wd_974
theorem nx_X8_copyFrom : zNm (zi_X8_copyFrom) 1 := ⟨by decide +kernel, by decide +kernel, by decide +kernel⟩
theorem pf_X8_copyFrom : plainFor (zi_X8_copyFrom).1 = true := by decide +kernel
def zi_X0_mass : zI := (yX0_mass, cX0_mass, 3, (some .int), 3, none)
theorem zw_X0_mass : zHd (zi_X0_mass) ∈ zT := wd_983
theorem nx_X0_mass : zNm (zi_X0_mass) 0 := ⟨by decide +kernel, by decide +kernel, by decide +kernel⟩
theorem pf_X0_mass : plainFor (zi_X0_mass).1 = true := by decide +kernel
def zi_X6_peakOf : zI := (yX6_peakOf, cX6_peakOf, 6, (some .int), 2, none)
theorem zw_X6_peakOf : zHd (zi_X6_peakOf) ∈ zT := wd_987
theorem nx_X6_peakOf : zNm (zi_X6_peakOf) 2 := ⟨by decide +kernel, by decide +kernel, by decide +kernel⟩
theorem pf_X6_peakOf : plainFor (zi_X6_peakOf).1 = true := by decide +kernel
def zi_X0_peak : zI := (yX0_peak, cX0_peak, 1, (some .int), 4, none)
theorem zw_X0_peak : zHd (zi_X0_peak) ∈ zT := wd_979
theorem nx_X0_peak : zNm (zi_X0_peak) 0 := ⟨by decide +kernel, by decide +kernel, by decide +kernel⟩
theorem pf_X0_peak : plainFor (zi_X0_peak).1 = true := by decide +kernel
def zi_X9_jointFor : zI := (yX9_jointFor, cX9_jointFor, 2, (some .int), 0, none)
theorem zw_X9_jointFor : zHd (zi_X9_jointFor) ∈ zT := wd_999
theorem nx_X9_jointFor : zNm (zi_X9_jointFor) 1 := ⟨by decide +kernel, by decide +kernel, by decide +kernel⟩
theorem pf_X9_jointFor : plainFor (zi_X9_jointFor).1 = true := by decide +kernel
def zi_X9_join : zI := (yX9_join, cX9_join, 3, (none : Option ClassFile.FieldType), 1, none)
theorem zw_X9_join : zHd (zi_X9_join) ∈ zT := wd_994
theorem nx_X9_join : zNm (zi_X9_join) 2 := ⟨by decide +kernel, by decide +kernel, by decide +kernel⟩
theorem pf_X9_join : plainFor (zi_X9_join).1 = true := by decide +kernel
def zi_X0_goThrough : zI := (yX0_goThrough, cX0_goThrough, 5, (some .int), 5, none)
theorem zw_X0_goThrough : zHd (zi_X0_goThrough) ∈ zT := wd_970
theorem nx_X0_goThrough : zNm (zi_X0_goThrough) 1 := ⟨by decide +kernel, by decide +kernel, by decide +kernel⟩
theorem pf_X0_goThrough : plainFor (zi_X0_goThrough).1 = true := by decide +kernel
def zi_X11_solder : zI := (yX11_solder, cX11_solder, 3, (some .int), 7, none)
theorem zw_X11_solder : zHd (zi_X11_solder) ∈ zT := wd_966
theorem nx_X11_solder : zNm (zi_X11_solder) 1 := ⟨by decide +kernel, by decide +kernel, by decide +kernel⟩
theorem pf_X11_solder : plainFor (zi_X11_solder).1 = true := by decide +kernel
def zi_L_solder : zI := (yL_solder, cL_solder, 4, (some .int), 8, some [(0, 9, 12, 13), (0, 9, 15, 17)])
theorem zw_L_solder : zHd (zi_L_solder) ∈ zT := wd_962
theorem nx_L_solder : zNm (zi_L_solder) 3 := ⟨by decide +kernel, by decide +kernel, by decide +kernel⟩
theorem pf_L_solder : plainFor (zi_L_solder).1 = true := by decide +kernel
def zi_X12_down : zI := (yX12_down, cX12_down, 3, (some .int), 0, none)
theorem zw_X12_down : zHd (zi_X12_down) ∈ zT := wd_1406
theorem nx_X12_down : zNm (zi_X12_down) 2 := ⟨by decide +kernel, by decide +kernel, by decide +kernel⟩
theorem pf_X12_down : plainFor (zi_X12_down).1 = true := by decide +kernel
def zi_X12_peakOf : zI := (yX12_peakOf, cX12_peakOf, 6, (some .int), 1, none)
theorem zw_X12_peakOf : zHd (zi_X12_peakOf) ∈ zT := wd_1403
theorem nx_X12_peakOf : zNm (zi_X12_peakOf) 1 := ⟨by decide +kernel, by decide +kernel, by decide +kernel⟩
theorem pf_X12_peakOf : plainFor (zi_X12_peakOf).1 = true := by decide +kernel
def zi_X12_solder : zI := (yX12_solder, cX12_solder, 5, (some .int), 2, none)
theorem zw_X12_solder : zHd (zi_X12_solder) ∈ zT := wd_1399
theorem nx_X12_solder : zNm (zi_X12_solder) 1 := ⟨by decide +kernel, by decide +kernel, by decide +kernel⟩
theorem pf_X12_solder : plainFor (zi_X12_solder).1 = true := by decide +kernel
def zi_X11_flaw : zI := (yX11_flaw, cX11_flaw, 5, (none : Option ClassFile.FieldType), 7, none)
theorem zw_X11_flaw : zHd (zi_X11_flaw) ∈ zT := wd_1006
theorem nx_X11_flaw : zNm (zi_X11_flaw) 2 := ⟨by decide +kernel, by decide +kernel, by decide +kernel⟩
theorem pf_X11_flaw : plainFor (zi_X11_flaw).1 = true := by decide +kernel
def zi_L_flaw : zI := (yL_flaw, cL_flaw, 4, (some .int), 8, some [(0, 6, 9, 13), (0, 6, 12, 17)])
theorem zw_L_flaw : zHd (zi_L_flaw) ∈ zT := wd_1002
theorem nx_L_flaw : zNm (zi_L_flaw) 3 := ⟨by decide +kernel, by decide +kernel, by decide +kernel⟩
theorem pf_L_flaw : plainFor (zi_L_flaw).1 = true := by decide +kernel
def zi_X12_flaw : zI := (yX12_flaw, cX12_flaw, 4, (none : Option ClassFile.FieldType), 2, none)
theorem zw_X12_flaw : zHd (zi_X12_flaw) ∈ zT := wd_1410
theorem nx_X12_flaw : zNm (zi_X12_flaw) 2 := ⟨by decide +kernel, by decide +kernel, by decide +kernel⟩
theorem pf_X12_flaw : plainFor (zi_X12_flaw).1 = true := by decide +kernel
def zi_J6_bitCount_0f7a4 : zI := (yJ6_bitCount_0f7a4, cJ6_bitCount_0f7a4, 1, (some .int), 0, none)
theorem zw_J6_bitCount_0f7a4 : zHd (zi_J6_bitCount_0f7a4) ∈ zT := wd_1016
theorem nx_J6_bitCount_0f7a4 : zNm (zi_J6_bitCount_0f7a4) 1 := ⟨by decide +kernel, by decide +kernel, by decide +kernel⟩
theorem pf_J6_bitCount_0f7a4 : plainFor (zi_J6_bitCount_0f7a4).1 = true := by decide +kernel
def zi_X11_cover : zI := (yX11_cover, cX11_cover, 3, (some .int), 7, none)
theorem zw_X11_cover : zHd (zi_X11_cover) ∈ zT := wd_1013
theorem nx_X11_cover : zNm (zi_X11_cover) 2 := ⟨by decide +kernel, by decide +kernel, by decide +kernel⟩
theorem pf_X11_cover : plainFor (zi_X11_cover).1 = true := by decide +kernel
def zi_L_cover : zI := (yL_cover, cL_cover, 5, (some .int), 8, some [(0, 10, 13, 13)])
theorem zw_L_cover : zHd (zi_L_cover) ∈ zT := wd_1009
theorem nx_L_cover : zNm (zi_L_cover) 4 := ⟨by decide +kernel, by decide +kernel, by decide +kernel⟩
theorem pf_L_cover : plainFor (zi_L_cover).1 = true := by decide +kernel
def zi_X12_cover : zI := (yX12_cover, cX12_cover, 5, (some .int), 2, none)
theorem zw_X12_cover : zHd (zi_X12_cover) ∈ zT := wd_1414
theorem nx_X12_cover : zNm (zi_X12_cover) 2 := ⟨by decide +kernel, by decide +kernel, by decide +kernel⟩
theorem pf_X12_cover : plainFor (zi_X12_cover).1 = true := by decide +kernel
def zi_X0_findFaults : zI := (yX0_findFaults, cX0_findFaults, 4, (none : Option ClassFile.FieldType), 3, none)
theorem zw_X0_findFaults : zHd (zi_X0_findFaults) ∈ zT := wd_1030
theorem nx_X0_findFaults : zNm (zi_X0_findFaults) 1 := ⟨by decide +kernel, by decide +kernel, by decide +kernel⟩
theorem pf_X0_findFaults : plainFor (zi_X0_findFaults).1 = true := by decide +kernel
def zi_X0_faultsFound : zI := (yX0_faultsFound, cX0_faultsFound, 5, (some .int), 3, none)
theorem zw_X0_faultsFound : zHd (zi_X0_faultsFound) ∈ zT := wd_1034
theorem nx_X0_faultsFound : zNm (zi_X0_faultsFound) 1 := ⟨by decide +kernel, by decide +kernel, by decide +kernel⟩
theorem pf_X0_faultsFound : plainFor (zi_X0_faultsFound).1 = true := by decide +kernel
def zi_X11_test : zI := (yX11_test, cX11_test, 3, (some .int), 7, none)
theorem zw_X11_test : zHd (zi_X11_test) ∈ zT := wd_1026
theorem nx_X11_test : zNm (zi_X11_test) 1 := ⟨by decide +kernel, by decide +kernel, by decide +kernel⟩
theorem pf_X11_test : plainFor (zi_X11_test).1 = true := by decide +kernel
def zi_L_test : zI := (yL_test, cL_test, 4, (some .int), 8, some [(0, 9, 12, 13), (0, 9, 15, 17)])
theorem zw_L_test : zHd (zi_L_test) ∈ zT := wd_1022
theorem nx_L_test : zNm (zi_L_test) 3 := ⟨by decide +kernel, by decide +kernel, by decide +kernel⟩
theorem pf_L_test : plainFor (zi_L_test).1 = true := by decide +kernel
def zi_X12_faults : zI := (yX12_faults, cX12_faults, 5, (some .int), 0, none)
theorem zw_X12_faults : zHd (zi_X12_faults) ∈ zT := wd_1422
theorem nx_X12_faults : zNm (zi_X12_faults) 2 := ⟨by decide +kernel, by decide +kernel, by decide +kernel⟩
theorem pf_X12_faults : plainFor (zi_X12_faults).1 = true := by decide +kernel
def zi_X12_test : zI := (yX12_test, cX12_test, 4, (some .int), 2, none)
theorem zw_X12_test : zHd (zi_X12_test) ∈ zT := wd_1418
theorem nx_X12_test : zNm (zi_X12_test) 1 := ⟨by decide +kernel, by decide +kernel, by decide +kernel⟩
theorem pf_X12_test : plainFor (zi_X12_test).1 = true := by decide +kernel
def zi_X9_mend : zI := (yX9_mend, cX9_mend, 1, (none : Option ClassFile.FieldType), 0, none)
theorem zw_X9_mend : zHd (zi_X9_mend) ∈ zT := wd_1045
theorem nx_X9_mend : zNm (zi_X9_mend) 0 := ⟨by decide +kernel, by decide +kernel, by decide +kernel⟩
theorem pf_X9_mend : plainFor (zi_X9_mend).1 = true := by decide +kernel
def zi_X11_repair : zI := (yX11_repair, cX11_repair, 7, (some .int), 7, none)
theorem zw_X11_repair : zHd (zi_X11_repair) ∈ zT := wd_1041
theorem nx_X11_repair : zNm (zi_X11_repair) 3 := ⟨by decide +kernel, by decide +kernel, by decide +kernel⟩
theorem pf_X11_repair : plainFor (zi_X11_repair).1 = true := by decide +kernel
def zi_L_repair : zI := (yL_repair, cL_repair, 6, (some .int), 8, some [(0, 12, 15, 13), (0, 12, 19, 17)])
theorem zw_L_repair : zHd (zi_L_repair) ∈ zT := wd_1037
theorem nx_L_repair : zNm (zi_L_repair) 5 := ⟨by decide +kernel, by decide +kernel, by decide +kernel⟩
theorem pf_L_repair : plainFor (zi_L_repair).1 = true := by decide +kernel
def zi_X12_repair : zI := (yX12_repair, cX12_repair, 7, (some .int), 2, none)
theorem zw_X12_repair : zHd (zi_X12_repair) ∈ zT := wd_1426
theorem nx_X12_repair : zNm (zi_X12_repair) 3 := ⟨by decide +kernel, by decide +kernel, by decide +kernel⟩
theorem pf_X12_repair : plainFor (zi_X12_repair).1 = true := by decide +kernel
def zi_X11_ship : zI := (yX11_ship, cX11_ship, 3, (some .int), 7, none)
theorem zw_X11_ship : zHd (zi_X11_ship) ∈ zT := wd_1052
theorem nx_X11_ship : zNm (zi_X11_ship) 1 := ⟨by decide +kernel, by decide +kernel, by decide +kernel⟩
theorem pf_X11_ship : plainFor (zi_X11_ship).1 = true := by decide +kernel
def zi_L_ship : zI := (yL_ship, cL_ship, 4, (some .int), 8, some [(0, 9, 12, 13), (0, 9, 15, 17)])
theorem zw_L_ship : zHd (zi_L_ship) ∈ zT := wd_1048
theorem nx_L_ship : zNm (zi_L_ship) 3 := ⟨by decide +kernel, by decide +kernel, by decide +kernel⟩
theorem pf_L_ship : plainFor (zi_L_ship).1 = true := by decide +kernel
def zi_X12_ship : zI := (yX12_ship, cX12_ship, 2, (some .int), 2, none)
theorem zw_X12_ship : zHd (zi_X12_ship) ∈ zT := wd_1430
theorem nx_X12_ship : zNm (zi_X12_ship) 1 := ⟨by decide +kernel, by decide +kernel, by decide +kernel⟩
theorem pf_X12_ship : plainFor (zi_X12_ship).1 = true := by decide +kernel
def zi_X11_pass : zI := (yX11_pass, cX11_pass, 2, (some .int), 7, none)
theorem zw_X11_pass : zHd (zi_X11_pass) ∈ zT := wd_1059
theorem nx_X11_pass : zNm (zi_X11_pass) 1 := ⟨by decide +kernel, by decide +kernel, by decide +kernel⟩
theorem pf_X11_pass : plainFor (zi_X11_pass).1 = true := by decide +kernel
def zi_L_pass : zI := (yL_pass, cL_pass, 4, (some .int), 8, some [(0, 9, 12, 15), (0, 9, 15, 17)])
theorem zw_L_pass : zHd (zi_L_pass) ∈ zT := wd_1055
theorem nx_L_pass : zNm (zi_L_pass) 3 := ⟨by decide +kernel, by decide +kernel, by decide +kernel⟩
theorem pf_L_pass : plainFor (zi_L_pass).1 = true := by decide +kernel
def zi_X12_pass : zI := (yX12_pass, cX12_pass, 2, (some .int), 1, none)
theorem zw_X12_pass : zHd (zi_X12_pass) ∈ zT := wd_1434
theorem nx_X12_pass : zNm (zi_X12_pass) 1 := ⟨by decide +kernel, by decide +kernel, by decide +kernel⟩
theorem pf_X12_pass : plainFor (zi_X12_pass).1 = true := by decide +kernel
def zi_X11_ofSlot : zI := (yX11_ofSlot, cX11_ofSlot, 5, (some .int), 7, none)
theorem zw_X11_ofSlot : zHd (zi_X11_ofSlot) ∈ zT := wd_1066
theorem nx_X11_ofSlot : zNm (zi_X11_ofSlot) 3 := ⟨by decide +kernel, by decide +kernel, by decide +kernel⟩
theorem pf_X11_ofSlot : plainFor (zi_X11_ofSlot).1 = true := by decide +kernel
def zi_L_ofSlot : zI := (yL_ofSlot, cL_ofSlot, 6, (some .int), 8, some [(0, 12, 15, 13)])
theorem zw_L_ofSlot : zHd (zi_L_ofSlot) ∈ zT := wd_1062
theorem nx_L_ofSlot : zNm (zi_L_ofSlot) 5 := ⟨by decide +kernel, by decide +kernel, by decide +kernel⟩
theorem pf_L_ofSlot : plainFor (zi_L_ofSlot).1 = true := by decide +kernel
def zi_X12_ofSlot : zI := (yX12_ofSlot, cX12_ofSlot, 5, (some .int), 2, none)
theorem zw_X12_ofSlot : zHd (zi_X12_ofSlot) ∈ zT := wd_1438
theorem nx_X12_ofSlot : zNm (zi_X12_ofSlot) 3 := ⟨by decide +kernel, by decide +kernel, by decide +kernel⟩
theorem pf_X12_ofSlot : plainFor (zi_X12_ofSlot).1 = true := by decide +kernel
def zi_X11_jointAnew : zI := (yX11_jointAnew, cX11_jointAnew, 5, (some .int), 7, none)
theorem zw_X11_jointAnew : zHd (zi_X11_jointAnew) ∈ zT := wd_1073
theorem nx_X11_jointAnew : zNm (zi_X11_jointAnew) 2 := ⟨by decide +kernel, by decide +kernel, by decide +kernel⟩
theorem pf_X11_jointAnew : plainFor (zi_X11_jointAnew).1 = true := by decide +kernel
def zi_L_jointAnew : zI := (yL_jointAnew, cL_jointAnew, 5, (some .int), 8, some [(0, 10, 13, 13)])
theorem zw_L_jointAnew : zHd (zi_L_jointAnew) ∈ zT := wd_1069
theorem nx_L_jointAnew : zNm (zi_L_jointAnew) 4 := ⟨by decide +kernel, by decide +kernel, by decide +kernel⟩
theorem pf_L_jointAnew : plainFor (zi_L_jointAnew).1 = true := by decide +kernel
def zi_X12_jointAnew : zI := (yX12_jointAnew, cX12_jointAnew, 3, (some .int), 2, none)
theorem zw_X12_jointAnew : zHd (zi_X12_jointAnew) ∈ zT := wd_1442
theorem nx_X12_jointAnew : zNm (zi_X12_jointAnew) 2 := ⟨by decide +kernel, by decide +kernel, by decide +kernel⟩
theorem pf_X12_jointAnew : plainFor (zi_X12_jointAnew).1 = true := by decide +kernel
def zi_X0_hasPartOf : zI := (yX0_hasPartOf, cX0_hasPartOf, 3, (some .boolean), 3, none)
theorem zw_X0_hasPartOf : zHd (zi_X0_hasPartOf) ∈ zT := wd_1086
theorem nx_X0_hasPartOf : zNm (zi_X0_hasPartOf) 1 := ⟨by decide +kernel, by decide +kernel, by decide +kernel⟩
theorem pf_X0_hasPartOf : plainFor (zi_X0_hasPartOf).1 = true := by decide +kernel
def zi_X11_recall : zI := (yX11_recall, cX11_recall, 5, (some .int), 7, none)
theorem zw_X11_recall : zHd (zi_X11_recall) ∈ zT := wd_1082
theorem nx_X11_recall : zNm (zi_X11_recall) 1 := ⟨by decide +kernel, by decide +kernel, by decide +kernel⟩
theorem pf_X11_recall : plainFor (zi_X11_recall).1 = true := by decide +kernel
def zi_L_recall : zI := (yL_recall, cL_recall, 4, (some .int), 8, some [(0, 9, 12, 13)])
theorem zw_L_recall : zHd (zi_L_recall) ∈ zT := wd_1078
theorem nx_L_recall : zNm (zi_L_recall) 3 := ⟨by decide +kernel, by decide +kernel, by decide +kernel⟩
theorem pf_L_recall : plainFor (zi_L_recall).1 = true := by decide +kernel
def zi_X12_recall : zI := (yX12_recall, cX12_recall, 6, (some .int), 2, none)
theorem zw_X12_recall : zHd (zi_X12_recall) ∈ zT := wd_1446
theorem nx_X12_recall : zNm (zi_X12_recall) 1 := ⟨by decide +kernel, by decide +kernel, by decide +kernel⟩
theorem pf_X12_recall : plainFor (zi_X12_recall).1 = true := by decide +kernel
def zi_L_law : zI := (yL_law, cL_law, 7, (some .boolean), 13, some [])
def zinfo (y : Nat) : Option zI := bif Nat.ble 999 y then some (zi_X5_leastOfRest (y - 999)) else
 bif Nat.ble 103 y then
 (bif Nat.ble 154 y then
 (bif Nat.ble 180 y then
 (bif Nat.ble 193 y then
 (bif Nat.ble 199 y then
 (bif Nat.ble 202 y then
 (bif Nat.ble 204 y then
 (bif Nat.ble 205 y then
 (bif Nat.beq y 205 then some zi_L_law else none)
 else (bif Nat.beq y 204 then some zi_X12_recall else none))
 else (bif Nat.ble 203 y then
 (bif Nat.beq y 203 then some zi_L_recall else none)
 else (bif Nat.beq y 202 then some zi_X11_recall else none)))
 else (bif Nat.ble 200 y then
 (bif Nat.ble 201 y then
 (bif Nat.beq y 201 then some zi_X0_hasPartOf else none)
 else (bif Nat.beq y 200 then some zi_X12_jointAnew else none))
 else (bif Nat.beq y 199 then some zi_L_jointAnew else none)))
 else (bif Nat.ble 196 y then
 (bif Nat.ble 197 y then
 (bif Nat.ble 198 y then
 (bif Nat.beq y 198 then some zi_X11_jointAnew else none)
 else (bif Nat.beq y 197 then some zi_X12_ofSlot else none))
 else (bif Nat.beq y 196 then some zi_L_ofSlot else none))
 else (bif Nat.ble 194 y then
 (bif Nat.ble 195 y then
 (bif Nat.beq y 195 then some zi_X11_ofSlot else none)
 else (bif Nat.beq y 194 then some zi_X12_pass else none))
 else (bif Nat.beq y 193 then some zi_L_pass else none))))
 else (bif Nat.ble 186 y then
 (bif Nat.ble 189 y then
 (bif Nat.ble 191 y then
 (bif Nat.ble 192 y then
 (bif Nat.beq y 192 then some zi_X11_pass else none)
 else (bif Nat.beq y 191 then some zi_X12_ship else none))
 else (bif Nat.ble 190 y then
 (bif Nat.beq y 190 then some zi_L_ship else none)
 else (bif Nat.beq y 189 then some zi_X11_ship else none)))
 else (bif Nat.ble 187 y then
 (bif Nat.ble 188 y then
 (bif Nat.beq y 188 then some zi_X12_repair else none)
 else (bif Nat.beq y 187 then some zi_L_repair else none))
 else (bif Nat.beq y 186 then some zi_X11_repair else none)))
 else (bif Nat.ble 183 y then
 (bif Nat.ble 184 y then
 (bif Nat.ble 185 y then
 (bif Nat.beq y 185 then some zi_X9_mend else none)
 else (bif Nat.beq y 184 then some zi_X12_test else none))
 else (bif Nat.beq y 183 then some zi_X12_faults else none))
 else (bif Nat.ble 181 y then
 (bif Nat.ble 182 y then
 (bif Nat.beq y 182 then some zi_L_test else none)
 else (bif Nat.beq y 181 then some zi_X11_test else none))
 else (bif Nat.beq y 180 then some zi_X0_faultsFound else none)))))
 else (bif Nat.ble 167 y then
 (bif Nat.ble 173 y then
 (bif Nat.ble 176 y then
 (bif Nat.ble 178 y then
 (bif Nat.ble 179 y then
 (bif Nat.beq y 179 then some zi_X0_findFaults else none)
 else (bif Nat.beq y 178 then some zi_X12_cover else none))
 else (bif Nat.ble 177 y then
 (bif Nat.beq y 177 then some zi_L_cover else none)
 else (bif Nat.beq y 176 then some zi_X11_cover else none)))
 else (bif Nat.ble 174 y then
 (bif Nat.ble 175 y then
 (bif Nat.beq y 175 then some zi_J6_bitCount_0f7a4 else none)
 else (bif Nat.beq y 174 then some zi_X12_flaw else none))
 else (bif Nat.beq y 173 then some zi_L_flaw else none)))
 else (bif Nat.ble 170 y then
 (bif Nat.ble 171 y then
 (bif Nat.ble 172 y then
 (bif Nat.beq y 172 then some zi_X11_flaw else none)
 else (bif Nat.beq y 171 then some zi_X12_solder else none))
 else (bif Nat.beq y 170 then some zi_X12_peakOf else none))
 else (bif Nat.ble 168 y then
 (bif Nat.ble 169 y then
 (bif Nat.beq y 169 then some zi_X12_down else none)
 else (bif Nat.beq y 168 then some zi_L_solder else none))
 else (bif Nat.beq y 167 then some zi_X11_solder else none))))
 else (bif Nat.ble 160 y then
 (bif Nat.ble 163 y then
 (bif Nat.ble 165 y then
 (bif Nat.ble 166 y then
 (bif Nat.beq y 166 then some zi_X0_goThrough else none)
 else (bif Nat.beq y 165 then some zi_X9_join else none))
 else (bif Nat.ble 164 y then
 (bif Nat.beq y 164 then some zi_X9_jointFor else none)
 else (bif Nat.beq y 163 then some zi_X0_peak else none)))
 else (bif Nat.ble 161 y then
 (bif Nat.ble 162 y then
 (bif Nat.beq y 162 then some zi_X6_peakOf else none)
 else (bif Nat.beq y 161 then some zi_X0_mass else none))
 else (bif Nat.beq y 160 then some zi_X8_copyFrom else none)))
 else (bif Nat.ble 157 y then
 (bif Nat.ble 158 y then
 (bif Nat.ble 159 y then
 (bif Nat.beq y 159 then some zi_X12_limits else none)
 else (bif Nat.beq y 158 then some zi_L_limits else none))
 else (bif Nat.beq y 157 then some zi_X11_limits else none))
 else (bif Nat.ble 155 y then
 (bif Nat.ble 156 y then
 (bif Nat.beq y 156 then some zi_X12_place else none)
 else (bif Nat.beq y 155 then some zi_X12_gives else none))
 else (bif Nat.beq y 154 then some zi_X12_isSlot else none))))))
 else (bif Nat.ble 128 y then
 (bif Nat.ble 141 y then
 (bif Nat.ble 147 y then
 (bif Nat.ble 150 y then
 (bif Nat.ble 152 y then
 (bif Nat.ble 153 y then
 (bif Nat.beq y 153 then some zi_X12_isBoard else none)
 else (bif Nat.beq y 152 then some zi_L_place else none))
 else (bif Nat.ble 151 y then
 (bif Nat.beq y 151 then some zi_X11_place else none)
 else (bif Nat.beq y 150 then some zi_X9_fill else none)))
 else (bif Nat.ble 148 y then
 (bif Nat.ble 149 y then
 (bif Nat.beq y 149 then some zi_X7_gives else none)
 else (bif Nat.beq y 148 then some zi_X9_hasPart else none))
 else (bif Nat.beq y 147 then some zi_X0_slotAt else none)))
 else (bif Nat.ble 144 y then
 (bif Nat.ble 145 y then
 (bif Nat.ble 146 y then
 (bif Nat.beq y 146 then some zi_X11_boardAt else none)
 else (bif Nat.beq y 145 then some zi_X12_board else none))
 else (bif Nat.beq y 144 then some zi_L_board else none))
 else (bif Nat.ble 142 y then
 (bif Nat.ble 143 y then
 (bif Nat.beq y 143 then some zi_X11_board else none)
 else (bif Nat.beq y 142 then some zi_X0_init else none))
 else (bif Nat.beq y 141 then some zi_X9_init else none))))
 else (bif Nat.ble 134 y then
 (bif Nat.ble 137 y then
 (bif Nat.ble 139 y then
 (bif Nat.ble 140 y then
 (bif Nat.beq y 140 then some zi_X12_ofReel else none)
 else (bif Nat.beq y 139 then some zi_L_ofReel else none))
 else (bif Nat.ble 138 y then
 (bif Nat.beq y 138 then some zi_X11_ofReel else none)
 else (bif Nat.beq y 137 then some zi_X12_open else none)))
 else (bif Nat.ble 135 y then
 (bif Nat.ble 136 y then
 (bif Nat.beq y 136 then some zi_X12_runs else none)
 else (bif Nat.beq y 135 then some zi_X12_isReel else none))
 else (bif Nat.beq y 134 then some zi_L_open else none)))
 else (bif Nat.ble 131 y then
 (bif Nat.ble 132 y then
 (bif Nat.ble 133 y then
 (bif Nat.beq y 133 then some zi_X11_open else none)
 else (bif Nat.beq y 132 then some zi_X7_clockAt else none))
 else (bif Nat.beq y 131 then some zi_X7_beginClock else none))
 else (bif Nat.ble 129 y then
 (bif Nat.ble 130 y then
 (bif Nat.beq y 130 then some zi_X11_reelAt else none)
 else (bif Nat.beq y 129 then some zi_X12_reel else none))
 else (bif Nat.beq y 128 then some zi_L_reel else none)))))
 else (bif Nat.ble 115 y then
 (bif Nat.ble 121 y then
 (bif Nat.ble 124 y then
 (bif Nat.ble 126 y then
 (bif Nat.ble 127 y then
 (bif Nat.beq y 127 then some zi_X11_reel else none)
 else (bif Nat.beq y 126 then some zi_X7_init else none))
 else (bif Nat.ble 125 y then
 (bif Nat.beq y 125 then some zi_X12_crimps else none)
 else (bif Nat.beq y 124 then some zi_L_crimps else none)))
 else (bif Nat.ble 122 y then
 (bif Nat.ble 123 y then
 (bif Nat.beq y 123 then some zi_X11_crimps else none)
 else (bif Nat.beq y 122 then some zi_X12_crimp else none))
 else (bif Nat.beq y 121 then some zi_X12_window else none)))
 else (bif Nat.ble 118 y then
 (bif Nat.ble 119 y then
 (bif Nat.ble 120 y then
 (bif Nat.beq y 120 then some zi_L_crimp else none)
 else (bif Nat.beq y 119 then some zi_X11_crimp else none))
 else (bif Nat.beq y 118 then some zi_X3_judge else none))
 else (bif Nat.ble 116 y then
 (bif Nat.ble 117 y then
 (bif Nat.beq y 117 then some zi_J9_abs_0f7a4 else none)
 else (bif Nat.beq y 116 then some zi_X3_window else none))
 else (bif Nat.beq y 115 then some zi_X11_divideDown else none))))
 else (bif Nat.ble 109 y then
 (bif Nat.ble 112 y then
 (bif Nat.ble 113 y then
 (bif Nat.ble 114 y then
 (bif Nat.beq y 114 then some zi_J9_floorDiv_7cf53 else none)
 else (bif Nat.beq y 113 then some zi_X12_leastAnew else none))
 else (bif Nat.beq y 112 then some zi_L_leastAnew else none))
 else (bif Nat.ble 110 y then
 (bif Nat.ble 111 y then
 (bif Nat.beq y 111 then some zi_X11_leastAnew else none)
 else (bif Nat.beq y 110 then some zi_X5_leastByTable else none))
 else (bif Nat.beq y 109 then some zi_X5_addFamily else none)))
 else (bif Nat.ble 106 y then
 (bif Nat.ble 107 y then
 (bif Nat.ble 108 y then
 (bif Nat.beq y 108 then some zi_X5_leastWithOneMore else none)
 else (bif Nat.beq y 107 then some zi_X12_least else none))
 else (bif Nat.beq y 106 then some zi_X12_leastOf else none))
 else (bif Nat.ble 104 y then
 (bif Nat.ble 105 y then
 (bif Nat.beq y 105 then some zi_X12_weightOfFamilies else none)
 else (bif Nat.beq y 104 then some zi_L_least else none))
 else (bif Nat.beq y 103 then some zi_X11_least else none)))))))
 else (bif Nat.ble 51 y then
 (bif Nat.ble 76 y then
 (bif Nat.ble 89 y then
 (bif Nat.ble 95 y then
 (bif Nat.ble 98 y then
 (bif Nat.ble 100 y then
 (bif Nat.ble 102 y then
 (bif Nat.beq y 102 then some zi_X5_leastByChoice else none)
 else (bif Nat.beq y 100 then some zi_X5_weighSets else none))
 else (bif Nat.ble 99 y then
 (bif Nat.beq y 99 then some zi_X5_weightAsOne else none)
 else (bif Nat.beq y 98 then some zi_X5_allOrders else none)))
 else (bif Nat.ble 96 y then
 (bif Nat.ble 97 y then
 (bif Nat.beq y 97 then some zi_X12_order else none)
 else (bif Nat.beq y 96 then some zi_L_order else none))
 else (bif Nat.beq y 95 then some zi_X11_order else none)))
 else (bif Nat.ble 92 y then
 (bif Nat.ble 93 y then
 (bif Nat.ble 94 y then
 (bif Nat.beq y 94 then some zi_X5_add else none)
 else (bif Nat.beq y 93 then some zi_X12_weight else none))
 else (bif Nat.beq y 92 then some zi_X12_weighs else none))
 else (bif Nat.ble 90 y then
 (bif Nat.ble 91 y then
 (bif Nat.beq y 91 then some zi_X12_areOptions else none)
 else (bif Nat.beq y 90 then some zi_L_weight else none))
 else (bif Nat.beq y 89 then some zi_X11_weight else none))))
 else (bif Nat.ble 82 y then
 (bif Nat.ble 85 y then
 (bif Nat.ble 87 y then
 (bif Nat.ble 88 y then
 (bif Nat.beq y 88 then some zi_X4_weightOf else none)
 else (bif Nat.beq y 87 then some zi_X12_ofWire else none))
 else (bif Nat.ble 86 y then
 (bif Nat.beq y 86 then some zi_L_ofWire else none)
 else (bif Nat.beq y 85 then some zi_X11_ofWire else none)))
 else (bif Nat.ble 83 y then
 (bif Nat.ble 84 y then
 (bif Nat.beq y 84 then some zi_X10_bundleAt else none)
 else (bif Nat.beq y 83 then some zi_X12_pull else none))
 else (bif Nat.beq y 82 then some zi_X12_lengthOf else none)))
 else (bif Nat.ble 79 y then
 (bif Nat.ble 80 y then
 (bif Nat.ble 81 y then
 (bif Nat.beq y 81 then some zi_X12_isWire else none)
 else (bif Nat.beq y 80 then some zi_L_pull else none))
 else (bif Nat.beq y 79 then some zi_X11_pull else none))
 else (bif Nat.ble 77 y then
 (bif Nat.ble 78 y then
 (bif Nat.beq y 78 then some zi_X10_takeOut else none)
 else (bif Nat.beq y 77 then some zi_X2_release else none))
 else (bif Nat.beq y 76 then some zi_X11_wireAt else none)))))
 else (bif Nat.ble 63 y then
 (bif Nat.ble 69 y then
 (bif Nat.ble 72 y then
 (bif Nat.ble 74 y then
 (bif Nat.ble 75 y then
 (bif Nat.beq y 75 then some zi_X12_wire else none)
 else (bif Nat.beq y 74 then some zi_X12_lays else none))
 else (bif Nat.ble 73 y then
 (bif Nat.beq y 73 then some zi_X12_across else none)
 else (bif Nat.beq y 72 then some zi_X12_isTaken else none)))
 else (bif Nat.ble 70 y then
 (bif Nat.ble 71 y then
 (bif Nat.beq y 71 then some zi_X12_finds else none)
 else (bif Nat.beq y 70 then some zi_X12_costOf else none))
 else (bif Nat.beq y 69 then some zi_X12_isCavity else none)))
 else (bif Nat.ble 66 y then
 (bif Nat.ble 67 y then
 (bif Nat.ble 68 y then
 (bif Nat.beq y 68 then some zi_L_wire else none)
 else (bif Nat.beq y 67 then some zi_X11_wire else none))
 else (bif Nat.beq y 66 then some zi_X4_addWire else none))
 else (bif Nat.ble 64 y then
 (bif Nat.ble 65 y then
 (bif Nat.beq y 65 then some zi_X4_layAlong else none)
 else (bif Nat.beq y 64 then some zi_X10_goBy else none))
 else (bif Nat.beq y 63 then some zi_X4_lowestOnward else none))))
 else (bif Nat.ble 57 y then
 (bif Nat.ble 60 y then
 (bif Nat.ble 61 y then
 (bif Nat.ble 62 y then
 (bif Nat.beq y 62 then some zi_X10_putIn else none)
 else (bif Nat.beq y 61 then some zi_X2_take else none))
 else (bif Nat.beq y 60 then some zi_X10_init else none))
 else (bif Nat.ble 58 y then
 (bif Nat.ble 59 y then
 (bif Nat.beq y 59 then some zi_X4_hasWay else none)
 else (bif Nat.beq y 58 then some zi_X4_findCosts else none))
 else (bif Nat.beq y 57 then some zi_X4_lowerCost else none)))
 else (bif Nat.ble 54 y then
 (bif Nat.ble 55 y then
 (bif Nat.ble 56 y then
 (bif Nat.beq y 56 then some zi_X1_across else none)
 else (bif Nat.beq y 55 then some zi_X1_cost else none))
 else (bif Nat.beq y 54 then some zi_X8_at else none))
 else (bif Nat.ble 52 y then
 (bif Nat.ble 53 y then
 (bif Nat.beq y 53 then some zi_X2_isFree else none)
 else (bif Nat.beq y 52 then some zi_X12_mates else none))
 else (bif Nat.beq y 51 then some zi_X12_fit else none))))))
 else (bif Nat.ble 25 y then
 (bif Nat.ble 38 y then
 (bif Nat.ble 44 y then
 (bif Nat.ble 47 y then
 (bif Nat.ble 49 y then
 (bif Nat.ble 50 y then
 (bif Nat.beq y 50 then some zi_X12_isConnector else none)
 else (bif Nat.beq y 49 then some zi_L_mates else none))
 else (bif Nat.ble 48 y then
 (bif Nat.beq y 48 then some zi_X11_mates else none)
 else (bif Nat.beq y 47 then some zi_X4_pairsThatFitWrong else none)))
 else (bif Nat.ble 45 y then
 (bif Nat.ble 46 y then
 (bif Nat.beq y 46 then some zi_X2_fits else none)
 else (bif Nat.beq y 45 then some zi_X11_connectorAt else none))
 else (bif Nat.beq y 44 then some zi_Jx4a65c_get_915e3 else none)))
 else (bif Nat.ble 41 y then
 (bif Nat.ble 42 y then
 (bif Nat.ble 43 y then
 (bif Nat.beq y 43 then some zi_Jx4a65c_elementData_915e3 else none)
 else (bif Nat.beq y 42 then some zi_J15_checkIndex_7cf53 else none))
 else (bif Nat.beq y 41 then some zi_J3_checkIndex_8e157 else none))
 else (bif Nat.ble 39 y then
 (bif Nat.ble 40 y then
 (bif Nat.beq y 40 then some zi_X12_connector else none)
 else (bif Nat.beq y 39 then some zi_L_connector else none))
 else (bif Nat.beq y 38 then some zi_X11_connector else none))))
 else (bif Nat.ble 31 y then
 (bif Nat.ble 34 y then
 (bif Nat.ble 36 y then
 (bif Nat.ble 37 y then
 (bif Nat.beq y 37 then some zi_X4_addConnector else none)
 else (bif Nat.beq y 36 then some zi_X2_init else none))
 else (bif Nat.ble 35 y then
 (bif Nat.beq y 35 then some zi_X12_thrown else none)
 else (bif Nat.beq y 34 then some zi_X12_bundle else none)))
 else (bif Nat.ble 32 y then
 (bif Nat.ble 33 y then
 (bif Nat.beq y 33 then some zi_X12_fails else none)
 else (bif Nat.beq y 32 then some zi_X12_isNode else none))
 else (bif Nat.beq y 31 then some zi_X12_isIn else none)))
 else (bif Nat.ble 28 y then
 (bif Nat.ble 29 y then
 (bif Nat.ble 30 y then
 (bif Nat.beq y 30 then some zi_L_bundle else none)
 else (bif Nat.beq y 29 then some zi_X11_bundle else none))
 else (bif Nat.beq y 28 then some zi_X4_addBundle else none))
 else (bif Nat.ble 26 y then
 (bif Nat.ble 27 y then
 (bif Nat.beq y 27 then some zi_Jx4a65c_add_9ea2d else none)
 else (bif Nat.beq y 26 then some zi_Jx4a65c_add_72be8 else none))
 else (bif Nat.beq y 25 then some zi_Jx4a65c_grow_d5877 else none)))))
 else (bif Nat.ble 12 y then
 (bif Nat.ble 18 y then
 (bif Nat.ble 21 y then
 (bif Nat.ble 23 y then
 (bif Nat.ble 24 y then
 (bif Nat.beq y 24 then some zi_Jx4a65c_grow_92f84 else none)
 else (bif Nat.beq y 23 then some zi_J7_copyOf_1904c else none))
 else (bif Nat.ble 22 y then
 (bif Nat.beq y 22 then some zi_J7_copyOf_6403c else none)
 else (bif Nat.beq y 21 then some zi_J9_min_7cf53 else none)))
 else (bif Nat.ble 19 y then
 (bif Nat.ble 20 y then
 (bif Nat.beq y 20 then some zi_J8_newLength_cabcc else none)
 else (bif Nat.beq y 19 then some zi_J9_max_7cf53 else none))
 else (bif Nat.beq y 18 then some zi_X1_init else none)))
 else (bif Nat.ble 15 y then
 (bif Nat.ble 16 y then
 (bif Nat.ble 17 y then
 (bif Nat.beq y 17 then some zi_X11_checkState else none)
 else (bif Nat.beq y 16 then some zi_Jx4a65c_size_8abf5 else none))
 else (bif Nat.beq y 15 then some zi_X11_checkArgument else none))
 else (bif Nat.ble 13 y then
 (bif Nat.ble 14 y then
 (bif Nat.beq y 14 then some zi_X11_isWithin else none)
 else (bif Nat.beq y 13 then some zi_X11_checkIndex else none))
 else (bif Nat.beq y 12 then some zi_X11_isIndex else none))))
 else (bif Nat.ble 6 y then
 (bif Nat.ble 9 y then
 (bif Nat.ble 10 y then
 (bif Nat.ble 11 y then
 (bif Nat.beq y 11 then some zi_X12_init else none)
 else (bif Nat.beq y 10 then some zi_X11_init else none))
 else (bif Nat.beq y 9 then some zi_X6_init else none))
 else (bif Nat.ble 7 y then
 (bif Nat.ble 8 y then
 (bif Nat.beq y 8 then some zi_X8_fill else none)
 else (bif Nat.beq y 7 then some zi_X8_put else none))
 else (bif Nat.beq y 6 then some zi_X3_init else none)))
 else (bif Nat.ble 3 y then
 (bif Nat.ble 4 y then
 (bif Nat.ble 5 y then
 (bif Nat.beq y 5 then some zi_X5_init else none)
 else (bif Nat.beq y 4 then some zi_X4_init else none))
 else (bif Nat.beq y 3 then some zi_X8_init else none))
 else (bif Nat.ble 1 y then
 (bif Nat.ble 2 y then
 (bif Nat.beq y 2 then some zi_Jx4a65c_init_da8c8 else none)
 else (bif Nat.beq y 1 then some zi_Jxc12de_init_da8c8 else none))
 else (bif Nat.beq y 0 then some zi_Jxa1e45_init_da8c8 else none)))))))
theorem zn_Jxa1e45_init_da8c8 : zinfo 0 = some zi_Jxa1e45_init_da8c8 := rfl
theorem zn_Jxc12de_init_da8c8 : zinfo 1 = some zi_Jxc12de_init_da8c8 := rfl
theorem zn_Jx4a65c_init_da8c8 : zinfo 2 = some zi_Jx4a65c_init_da8c8 := rfl
theorem zn_X8_init : zinfo 3 = some zi_X8_init := rfl
theorem zn_X4_init : zinfo 4 = some zi_X4_init := rfl
theorem zn_X5_init : zinfo 5 = some zi_X5_init := rfl
theorem zn_X3_init : zinfo 6 = some zi_X3_init := rfl
theorem zn_X8_put : zinfo 7 = some zi_X8_put := rfl
theorem zn_X8_fill : zinfo 8 = some zi_X8_fill := rfl
theorem zn_X6_init : zinfo 9 = some zi_X6_init := rfl
theorem zn_X11_init : zinfo 10 = some zi_X11_init := rfl
theorem zn_X12_init : zinfo 11 = some zi_X12_init := rfl
theorem zn_X11_isIndex : zinfo 12 = some zi_X11_isIndex := rfl
theorem zn_X11_checkIndex : zinfo 13 = some zi_X11_checkIndex := rfl
theorem zn_X11_isWithin : zinfo 14 = some zi_X11_isWithin := rfl
theorem zn_X11_checkArgument : zinfo 15 = some zi_X11_checkArgument := rfl
theorem zn_Jx4a65c_size_8abf5 : zinfo 16 = some zi_Jx4a65c_size_8abf5 := rfl
theorem zn_X11_checkState : zinfo 17 = some zi_X11_checkState := rfl
theorem zn_X1_init : zinfo 18 = some zi_X1_init := rfl
theorem zn_J9_max_7cf53 : zinfo 19 = some zi_J9_max_7cf53 := rfl
theorem zn_J8_newLength_cabcc : zinfo 20 = some zi_J8_newLength_cabcc := rfl
theorem zn_J9_min_7cf53 : zinfo 21 = some zi_J9_min_7cf53 := rfl
theorem zn_J7_copyOf_6403c : zinfo 22 = some zi_J7_copyOf_6403c := rfl
theorem zn_J7_copyOf_1904c : zinfo 23 = some zi_J7_copyOf_1904c := rfl
theorem zn_Jx4a65c_grow_92f84 : zinfo 24 = some zi_Jx4a65c_grow_92f84 := rfl
theorem zn_Jx4a65c_grow_d5877 : zinfo 25 = some zi_Jx4a65c_grow_d5877 := rfl
theorem zn_Jx4a65c_add_72be8 : zinfo 26 = some zi_Jx4a65c_add_72be8 := rfl
theorem zn_Jx4a65c_add_9ea2d : zinfo 27 = some zi_Jx4a65c_add_9ea2d := rfl
theorem zn_X4_addBundle : zinfo 28 = some zi_X4_addBundle := rfl
theorem zn_X11_bundle : zinfo 29 = some zi_X11_bundle := rfl
theorem zn_L_bundle : zinfo 30 = some zi_L_bundle := rfl
theorem zn_X12_isIn : zinfo 31 = some zi_X12_isIn := rfl
theorem zn_X12_isNode : zinfo 32 = some zi_X12_isNode := rfl
theorem zn_X12_fails : zinfo 33 = some zi_X12_fails := rfl
theorem zn_X12_bundle : zinfo 34 = some zi_X12_bundle := rfl
theorem zn_X12_thrown : zinfo 35 = some zi_X12_thrown := rfl
theorem zn_X2_init : zinfo 36 = some zi_X2_init := rfl
theorem zn_X4_addConnector : zinfo 37 = some zi_X4_addConnector := rfl
theorem zn_X11_connector : zinfo 38 = some zi_X11_connector := rfl
theorem zn_L_connector : zinfo 39 = some zi_L_connector := rfl
theorem zn_X12_connector : zinfo 40 = some zi_X12_connector := rfl
theorem zn_J3_checkIndex_8e157 : zinfo 41 = some zi_J3_checkIndex_8e157 := rfl
theorem zn_J15_checkIndex_7cf53 : zinfo 42 = some zi_J15_checkIndex_7cf53 := rfl
theorem zn_Jx4a65c_elementData_915e3 : zinfo 43 = some zi_Jx4a65c_elementData_915e3 := rfl
theorem zn_Jx4a65c_get_915e3 : zinfo 44 = some zi_Jx4a65c_get_915e3 := rfl
theorem zn_X11_connectorAt : zinfo 45 = some zi_X11_connectorAt := rfl
theorem zn_X2_fits : zinfo 46 = some zi_X2_fits := rfl
theorem zn_X4_pairsThatFitWrong : zinfo 47 = some zi_X4_pairsThatFitWrong := rfl
theorem zn_X11_mates : zinfo 48 = some zi_X11_mates := rfl
theorem zn_L_mates : zinfo 49 = some zi_L_mates := rfl
theorem zn_X12_isConnector : zinfo 50 = some zi_X12_isConnector := rfl
theorem zn_X12_fit : zinfo 51 = some zi_X12_fit := rfl
theorem zn_X12_mates : zinfo 52 = some zi_X12_mates := rfl
theorem zn_X2_isFree : zinfo 53 = some zi_X2_isFree := rfl
theorem zn_X8_at : zinfo 54 = some zi_X8_at := rfl
theorem zn_X1_cost : zinfo 55 = some zi_X1_cost := rfl
theorem zn_X1_across : zinfo 56 = some zi_X1_across := rfl
theorem zn_X4_lowerCost : zinfo 57 = some zi_X4_lowerCost := rfl
theorem zn_X4_findCosts : zinfo 58 = some zi_X4_findCosts := rfl
theorem zn_X4_hasWay : zinfo 59 = some zi_X4_hasWay := rfl
theorem zn_X10_init : zinfo 60 = some zi_X10_init := rfl
theorem zn_X2_take : zinfo 61 = some zi_X2_take := rfl
theorem zn_X10_putIn : zinfo 62 = some zi_X10_putIn := rfl
theorem zn_X4_lowestOnward : zinfo 63 = some zi_X4_lowestOnward := rfl
theorem zn_X10_goBy : zinfo 64 = some zi_X10_goBy := rfl
theorem zn_X4_layAlong : zinfo 65 = some zi_X4_layAlong := rfl
theorem zn_X4_addWire : zinfo 66 = some zi_X4_addWire := rfl
theorem zn_X11_wire : zinfo 67 = some zi_X11_wire := rfl
theorem zn_L_wire : zinfo 68 = some zi_L_wire := rfl
theorem zn_X12_isCavity : zinfo 69 = some zi_X12_isCavity := rfl
theorem zn_X12_costOf : zinfo 70 = some zi_X12_costOf := rfl
theorem zn_X12_finds : zinfo 71 = some zi_X12_finds := rfl
theorem zn_X12_isTaken : zinfo 72 = some zi_X12_isTaken := rfl
theorem zn_X12_across : zinfo 73 = some zi_X12_across := rfl
theorem zn_X12_lays : zinfo 74 = some zi_X12_lays := rfl
theorem zn_X12_wire : zinfo 75 = some zi_X12_wire := rfl
theorem zn_X11_wireAt : zinfo 76 = some zi_X11_wireAt := rfl
theorem zn_X2_release : zinfo 77 = some zi_X2_release := rfl
theorem zn_X10_takeOut : zinfo 78 = some zi_X10_takeOut := rfl
theorem zn_X11_pull : zinfo 79 = some zi_X11_pull := rfl
theorem zn_L_pull : zinfo 80 = some zi_L_pull := rfl
theorem zn_X12_isWire : zinfo 81 = some zi_X12_isWire := rfl
theorem zn_X12_lengthOf : zinfo 82 = some zi_X12_lengthOf := rfl
theorem zn_X12_pull : zinfo 83 = some zi_X12_pull := rfl
theorem zn_X10_bundleAt : zinfo 84 = some zi_X10_bundleAt := rfl
theorem zn_X11_ofWire : zinfo 85 = some zi_X11_ofWire := rfl
theorem zn_L_ofWire : zinfo 86 = some zi_L_ofWire := rfl
theorem zn_X12_ofWire : zinfo 87 = some zi_X12_ofWire := rfl
theorem zn_X4_weightOf : zinfo 88 = some zi_X4_weightOf := rfl
theorem zn_X11_weight : zinfo 89 = some zi_X11_weight := rfl
theorem zn_L_weight : zinfo 90 = some zi_L_weight := rfl
theorem zn_X12_areOptions : zinfo 91 = some zi_X12_areOptions := rfl
theorem zn_X12_weighs : zinfo 92 = some zi_X12_weighs := rfl
theorem zn_X12_weight : zinfo 93 = some zi_X12_weight := rfl
theorem zn_X5_add : zinfo 94 = some zi_X5_add := rfl
theorem zn_X11_order : zinfo 95 = some zi_X11_order := rfl
theorem zn_L_order : zinfo 96 = some zi_L_order := rfl
theorem zn_X12_order : zinfo 97 = some zi_X12_order := rfl
theorem zn_X5_allOrders : zinfo 98 = some zi_X5_allOrders := rfl
theorem zn_X5_weightAsOne : zinfo 99 = some zi_X5_weightAsOne := rfl
theorem zn_X5_weighSets : zinfo 100 = some zi_X5_weighSets := rfl
theorem zn_X5_leastByChoice : zinfo 102 = some zi_X5_leastByChoice := rfl
theorem zn_X11_least : zinfo 103 = some zi_X11_least := rfl
theorem zn_L_least : zinfo 104 = some zi_L_least := rfl
theorem zn_X12_weightOfFamilies : zinfo 105 = some zi_X12_weightOfFamilies := rfl
theorem zn_X12_leastOf : zinfo 106 = some zi_X12_leastOf := rfl
theorem zn_X12_least : zinfo 107 = some zi_X12_least := rfl
theorem zn_X5_leastWithOneMore : zinfo 108 = some zi_X5_leastWithOneMore := rfl
theorem zn_X5_addFamily : zinfo 109 = some zi_X5_addFamily := rfl
theorem zn_X5_leastByTable : zinfo 110 = some zi_X5_leastByTable := rfl
theorem zn_X11_leastAnew : zinfo 111 = some zi_X11_leastAnew := rfl
theorem zn_L_leastAnew : zinfo 112 = some zi_L_leastAnew := rfl
theorem zn_X12_leastAnew : zinfo 113 = some zi_X12_leastAnew := rfl
theorem zn_J9_floorDiv_7cf53 : zinfo 114 = some zi_J9_floorDiv_7cf53 := rfl
theorem zn_X11_divideDown : zinfo 115 = some zi_X11_divideDown := rfl
theorem zn_X3_window : zinfo 116 = some zi_X3_window := rfl
theorem zn_J9_abs_0f7a4 : zinfo 117 = some zi_J9_abs_0f7a4 := rfl
theorem zn_X3_judge : zinfo 118 = some zi_X3_judge := rfl
theorem zn_X11_crimp : zinfo 119 = some zi_X11_crimp := rfl
theorem zn_L_crimp : zinfo 120 = some zi_L_crimp := rfl
theorem zn_X12_window : zinfo 121 = some zi_X12_window := rfl
theorem zn_X12_crimp : zinfo 122 = some zi_X12_crimp := rfl
theorem zn_X11_crimps : zinfo 123 = some zi_X11_crimps := rfl
theorem zn_L_crimps : zinfo 124 = some zi_L_crimps := rfl
theorem zn_X12_crimps : zinfo 125 = some zi_X12_crimps := rfl
theorem zn_X7_init : zinfo 126 = some zi_X7_init := rfl
theorem zn_X11_reel : zinfo 127 = some zi_X11_reel := rfl
theorem zn_L_reel : zinfo 128 = some zi_L_reel := rfl
theorem zn_X12_reel : zinfo 129 = some zi_X12_reel := rfl
theorem zn_X11_reelAt : zinfo 130 = some zi_X11_reelAt := rfl
theorem zn_X7_beginClock : zinfo 131 = some zi_X7_beginClock := rfl
theorem zn_X7_clockAt : zinfo 132 = some zi_X7_clockAt := rfl
theorem zn_X11_open : zinfo 133 = some zi_X11_open := rfl
theorem zn_L_open : zinfo 134 = some zi_L_open := rfl
theorem zn_X12_isReel : zinfo 135 = some zi_X12_isReel := rfl
theorem zn_X12_runs : zinfo 136 = some zi_X12_runs := rfl
theorem zn_X12_open : zinfo 137 = some zi_X12_open := rfl
theorem zn_X11_ofReel : zinfo 138 = some zi_X11_ofReel := rfl
theorem zn_L_ofReel : zinfo 139 = some zi_L_ofReel := rfl
theorem zn_X12_ofReel : zinfo 140 = some zi_X12_ofReel := rfl
theorem zn_X9_init : zinfo 141 = some zi_X9_init := rfl
theorem zn_X0_init : zinfo 142 = some zi_X0_init := rfl
theorem zn_X11_board : zinfo 143 = some zi_X11_board := rfl
theorem zn_L_board : zinfo 144 = some zi_L_board := rfl
theorem zn_X12_board : zinfo 145 = some zi_X12_board := rfl
theorem zn_X11_boardAt : zinfo 146 = some zi_X11_boardAt := rfl
theorem zn_X0_slotAt : zinfo 147 = some zi_X0_slotAt := rfl
theorem zn_X9_hasPart : zinfo 148 = some zi_X9_hasPart := rfl
theorem zn_X7_gives : zinfo 149 = some zi_X7_gives := rfl
theorem zn_X9_fill : zinfo 150 = some zi_X9_fill := rfl
theorem zn_X11_place : zinfo 151 = some zi_X11_place := rfl
theorem zn_L_place : zinfo 152 = some zi_L_place := rfl
theorem zn_X12_isBoard : zinfo 153 = some zi_X12_isBoard := rfl
theorem zn_X12_isSlot : zinfo 154 = some zi_X12_isSlot := rfl
theorem zn_X12_gives : zinfo 155 = some zi_X12_gives := rfl
theorem zn_X12_place : zinfo 156 = some zi_X12_place := rfl
theorem zn_X11_limits : zinfo 157 = some zi_X11_limits := rfl
theorem zn_L_limits : zinfo 158 = some zi_L_limits := rfl
theorem zn_X12_limits : zinfo 159 = some zi_X12_limits := rfl
theorem zn_X8_copyFrom : zinfo 160 = some zi_X8_copyFrom := rfl
theorem zn_X0_mass : zinfo 161 = some zi_X0_mass := rfl
theorem zn_X6_peakOf : zinfo 162 = some zi_X6_peakOf := rfl
theorem zn_X0_peak : zinfo 163 = some zi_X0_peak := rfl
theorem zn_X9_jointFor : zinfo 164 = some zi_X9_jointFor := rfl
theorem zn_X9_join : zinfo 165 = some zi_X9_join := rfl
theorem zn_X0_goThrough : zinfo 166 = some zi_X0_goThrough := rfl
theorem zn_X11_solder : zinfo 167 = some zi_X11_solder := rfl
theorem zn_L_solder : zinfo 168 = some zi_L_solder := rfl
theorem zn_X12_down : zinfo 169 = some zi_X12_down := rfl
theorem zn_X12_peakOf : zinfo 170 = some zi_X12_peakOf := rfl
theorem zn_X12_solder : zinfo 171 = some zi_X12_solder := rfl
theorem zn_X11_flaw : zinfo 172 = some zi_X11_flaw := rfl
theorem zn_L_flaw : zinfo 173 = some zi_L_flaw := rfl
theorem zn_X12_flaw : zinfo 174 = some zi_X12_flaw := rfl
theorem zn_J6_bitCount_0f7a4 : zinfo 175 = some zi_J6_bitCount_0f7a4 := rfl
theorem zn_X11_cover : zinfo 176 = some zi_X11_cover := rfl
theorem zn_L_cover : zinfo 177 = some zi_L_cover := rfl
theorem zn_X12_cover : zinfo 178 = some zi_X12_cover := rfl
theorem zn_X0_findFaults : zinfo 179 = some zi_X0_findFaults := rfl
theorem zn_X0_faultsFound : zinfo 180 = some zi_X0_faultsFound := rfl
theorem zn_X11_test : zinfo 181 = some zi_X11_test := rfl
theorem zn_L_test : zinfo 182 = some zi_L_test := rfl
theorem zn_X12_faults : zinfo 183 = some zi_X12_faults := rfl
theorem zn_X12_test : zinfo 184 = some zi_X12_test := rfl
theorem zn_X9_mend : zinfo 185 = some zi_X9_mend := rfl
theorem zn_X11_repair : zinfo 186 = some zi_X11_repair := rfl
theorem zn_L_repair : zinfo 187 = some zi_L_repair := rfl
theorem zn_X12_repair : zinfo 188 = some zi_X12_repair := rfl
theorem zn_X11_ship : zinfo 189 = some zi_X11_ship := rfl
theorem zn_L_ship : zinfo 190 = some zi_L_ship := rfl
theorem zn_X12_ship : zinfo 191 = some zi_X12_ship := rfl
theorem zn_X11_pass : zinfo 192 = some zi_X11_pass := rfl
theorem zn_L_pass : zinfo 193 = some zi_L_pass := rfl
theorem zn_X12_pass : zinfo 194 = some zi_X12_pass := rfl
theorem zn_X11_ofSlot : zinfo 195 = some zi_X11_ofSlot := rfl
theorem zn_L_ofSlot : zinfo 196 = some zi_L_ofSlot := rfl
theorem zn_X12_ofSlot : zinfo 197 = some zi_X12_ofSlot := rfl
theorem zn_X11_jointAnew : zinfo 198 = some zi_X11_jointAnew := rfl
theorem zn_L_jointAnew : zinfo 199 = some zi_L_jointAnew := rfl
theorem zn_X12_jointAnew : zinfo 200 = some zi_X12_jointAnew := rfl
theorem zn_X0_hasPartOf : zinfo 201 = some zi_X0_hasPartOf := rfl
theorem zn_X11_recall : zinfo 202 = some zi_X11_recall := rfl
theorem zn_L_recall : zinfo 203 = some zi_L_recall := rfl
theorem zn_X12_recall : zinfo 204 = some zi_X12_recall := rfl
theorem zn_L_law : zinfo 205 = some zi_L_law := rfl
theorem zn_X5_leastOfRest (d : Nat) : zinfo (d + 1000 - 1) = some (zi_X5_leastOfRest d) := by
  unfold zinfo
  rw [show Nat.ble 999 (d + 1000 - 1) = true from Nat.ble_eq_true_of_le (by omega), show d + 1000 - 1 - 999 = d by omega]
  rfl
theorem zn_X5_leastOfRest_1006 : zinfo 1006 = some (zi_X5_leastOfRest 7) := zn_X5_leastOfRest 7
