/-! SOUNDNESS, 6: the tables' words that the methods use, by their places; what is known of each method, by program -/
theorem zT_tbl {w : Cond} (h : w ∈ zT) : w ∈ lw_tbl := (List.mem_filter.mp h).1
theorem zsw_ho {pc : Nat} {offs : Array Int} {ts : List Nat} (h : offs.toList.map (fun o => (pc : Int) + o) = ts.map (fun (t : Nat) => (t : Int))) : ∀ (k t : Nat), ts[k]? = some t → ∃ off : Int, offs[k]? = some off ∧ (pc : Int) + off = (t : Int) := by
  intro k t ht
  have h1 : (ts.map (fun (t : Nat) => (t : Int)))[k]? = some (t : Int) := by rw [List.getElem?_map, ht]; rfl
  rw [← h, List.getElem?_map, Array.getElem?_toList] at h1
  cases ho : offs[k]? with
  | none => rw [ho] at h1; cases h1
  | some o => rw [ho] at h1; exact ⟨o, rfl, Option.some.inj h1⟩
/-- a long code stands at its place: row by row, not by index -/
def zcdb (o : Option Cond) (y : MethodName) (c : ByteArray) (m : Nat) (r : Option FieldType) : Bool := match o with
  | some (.code y' c' m' r') => decide (y' = y) && decide (c'.data.toList = c.data.toList) && decide (m' = m) && decide (r' = r)
  | _ => false
theorem zT_code {y : MethodName} {c : ByteArray} {m : Nat} {r : Option FieldType} (k : Nat) (h : zcdb lw_tbl[k]? y c m r = true) (g : goodWord (Cond.code y c m r) = true) : Cond.code y c m r ∈ zT := by
  refine zT_in k ?_ g
  unfold zcdb at h
  split at h
  next y' c' m' r' e =>
    simp only [Bool.and_eq_true, decide_eq_true_iff] at h
    obtain ⟨⟨⟨h1, h2⟩, h3⟩, h4⟩ := h
    have h5 : c' = c := by
      cases c' with
      | mk d' =>
        cases c with
        | mk d => exact congrArg ByteArray.mk (Array.toList_inj.mp h2)
    rw [e, h1, h5, h3, h4]
  next => cases h
set_option maxRecDepth 10000 in
theorem wd_1 : (Cond.selects "Sparkline$Orders" ⟨"Sparkline$Orders", "weighSets", "(LSparkline$Harness;)V"⟩ ⟨"Sparkline$Orders", "weighSets", "(LSparkline$Harness;)V"⟩) ∈ zT := zT_in 1 (by decide +kernel) rfl
set_option maxRecDepth 10000 in
theorem wd_2 : (Cond.selects "Sparkline$Orders" ⟨"Sparkline$Orders", "allOrders", "()I"⟩ ⟨"Sparkline$Orders", "allOrders", "()I"⟩) ∈ zT := zT_in 2 (by decide +kernel) rfl
set_option maxRecDepth 10000 in
theorem wd_3 : (Cond.selects "Sparkline$Orders" ⟨"Sparkline$Orders", "weightAsOne", "(LSparkline$Harness;I)I"⟩ ⟨"Sparkline$Orders", "weightAsOne", "(LSparkline$Harness;I)I"⟩) ∈ zT := zT_in 3 (by decide +kernel) rfl
set_option maxRecDepth 10000 in
theorem wd_4 : (Cond.selects "Sparkline$Orders" ⟨"Sparkline$Orders", "addFamily", "()V"⟩ ⟨"Sparkline$Orders", "addFamily", "()V"⟩) ∈ zT := zT_in 4 (by decide +kernel) rfl
set_option maxRecDepth 10000 in
theorem wd_5 : (Cond.selects "Sparkline$Orders" ⟨"Sparkline$Orders", "leastWithOneMore", "(I)I"⟩ ⟨"Sparkline$Orders", "leastWithOneMore", "(I)I"⟩) ∈ zT := zT_in 5 (by decide +kernel) rfl
set_option maxRecDepth 10000 in
theorem wd_6 : (Cond.selects "java/util/ArrayList" ⟨"java/util/ArrayList", "add", "(Ljava/lang/Object;[Ljava/lang/Object;I)V"⟩ ⟨"java/util/ArrayList", "add", "(Ljava/lang/Object;[Ljava/lang/Object;I)V"⟩) ∈ zT := zT_in 6 (by decide +kernel) rfl
set_option maxRecDepth 10000 in
theorem wd_7 : (Cond.selects "java/util/ArrayList" ⟨"java/util/ArrayList", "grow", "()[Ljava/lang/Object;"⟩ ⟨"java/util/ArrayList", "grow", "()[Ljava/lang/Object;"⟩) ∈ zT := zT_in 7 (by decide +kernel) rfl
set_option maxRecDepth 10000 in
theorem wd_8 : (Cond.selects "java/util/ArrayList" ⟨"java/util/ArrayList", "grow", "(I)[Ljava/lang/Object;"⟩ ⟨"java/util/ArrayList", "grow", "(I)[Ljava/lang/Object;"⟩) ∈ zT := zT_in 8 (by decide +kernel) rfl
set_option maxRecDepth 10000 in
theorem wd_9 : (Cond.selects "Sparkline" ⟨"Sparkline", "connectorAt", "(I)LSparkline$Connector;"⟩ ⟨"Sparkline", "connectorAt", "(I)LSparkline$Connector;"⟩) ∈ zT := zT_in 9 (by decide +kernel) rfl
set_option maxRecDepth 10000 in
theorem wd_10 : (Cond.selects "Sparkline$Harness" ⟨"Sparkline$Harness", "findCosts", "(I)V"⟩ ⟨"Sparkline$Harness", "findCosts", "(I)V"⟩) ∈ zT := zT_in 10 (by decide +kernel) rfl
set_option maxRecDepth 10000 in
theorem wd_11 : (Cond.selects "Sparkline$Harness" ⟨"Sparkline$Harness", "lowerCost", "(ILSparkline$Bundle;)V"⟩ ⟨"Sparkline$Harness", "lowerCost", "(ILSparkline$Bundle;)V"⟩) ∈ zT := zT_in 11 (by decide +kernel) rfl
set_option maxRecDepth 10000 in
theorem wd_12 : (Cond.selects "Sparkline$Harness" ⟨"Sparkline$Harness", "layAlong", "(LSparkline$Wire;)V"⟩ ⟨"Sparkline$Harness", "layAlong", "(LSparkline$Wire;)V"⟩) ∈ zT := zT_in 12 (by decide +kernel) rfl
set_option maxRecDepth 10000 in
theorem wd_13 : (Cond.selects "Sparkline$Harness" ⟨"Sparkline$Harness", "lowestOnward", "(I)LSparkline$Bundle;"⟩ ⟨"Sparkline$Harness", "lowestOnward", "(I)LSparkline$Bundle;"⟩) ∈ zT := zT_in 13 (by decide +kernel) rfl
set_option maxRecDepth 10000 in
theorem wd_14 : (Cond.selects "Sparkline" ⟨"Sparkline", "wireAt", "(I)LSparkline$Wire;"⟩ ⟨"Sparkline", "wireAt", "(I)LSparkline$Wire;"⟩) ∈ zT := zT_in 14 (by decide +kernel) rfl
set_option maxRecDepth 10000 in
theorem wd_15 : (Cond.selects "Sparkline" ⟨"Sparkline", "reelAt", "(I)LSparkline$Reel;"⟩ ⟨"Sparkline", "reelAt", "(I)LSparkline$Reel;"⟩) ∈ zT := zT_in 15 (by decide +kernel) rfl
set_option maxRecDepth 10000 in
theorem wd_16 : (Cond.selects "Sparkline" ⟨"Sparkline", "boardAt", "(I)LSparkline$Board;"⟩ ⟨"Sparkline", "boardAt", "(I)LSparkline$Board;"⟩) ∈ zT := zT_in 16 (by decide +kernel) rfl
set_option maxRecDepth 10000 in
theorem wd_17 : (Cond.selects "Sparkline$Board" ⟨"Sparkline$Board", "mass", "()I"⟩ ⟨"Sparkline$Board", "mass", "()I"⟩) ∈ zT := zT_in 17 (by decide +kernel) rfl
set_option maxRecDepth 10000 in
theorem wd_18 : ((Jvm.Cond.initialized "SparklineLaw")) ∈ zT := zT_in 18 (by decide +kernel) rfl
set_option maxRecDepth 10000 in
theorem wd_19 : ((Jvm.Cond.initialized "Sparkline")) ∈ zT := zT_in 19 (by decide +kernel) rfl
set_option maxRecDepth 10000 in
theorem wd_20 : ((Jvm.Cond.initialized "Sparkline$Harness")) ∈ zT := zT_in 20 (by decide +kernel) rfl
set_option maxRecDepth 10000 in
theorem wd_21 : ((Jvm.Cond.initialized "java/util/AbstractCollection")) ∈ zT := zT_in 21 (by decide +kernel) rfl
set_option maxRecDepth 10000 in
theorem wd_22 : ((Jvm.Cond.initialized "java/util/AbstractList")) ∈ zT := zT_in 22 (by decide +kernel) rfl
set_option maxRecDepth 10000 in
theorem wd_23 : ((Jvm.Cond.initialized "java/util/ArrayList")) ∈ zT := zT_in 23 (by decide +kernel) rfl
set_option maxRecDepth 10000 in
theorem wd_24 : ((Jvm.Cond.initialized "Sparkline$Row")) ∈ zT := zT_in 24 (by decide +kernel) rfl
set_option maxRecDepth 10000 in
theorem wd_25 : ((Jvm.Cond.initialized "Sparkline$Orders")) ∈ zT := zT_in 25 (by decide +kernel) rfl
set_option maxRecDepth 10000 in
theorem wd_26 : ((Jvm.Cond.initialized "Sparkline$Crimper")) ∈ zT := zT_in 26 (by decide +kernel) rfl
set_option maxRecDepth 10000 in
theorem wd_27 : ((Jvm.Cond.initialized "Sparkline$Oven")) ∈ zT := zT_in 27 (by decide +kernel) rfl
set_option maxRecDepth 10000 in
theorem wd_31 : ((Jvm.Cond.initialized "java/lang/IndexOutOfBoundsException")) ∈ zT := zT_in 31 (by decide +kernel) rfl
set_option maxRecDepth 10000 in
theorem wd_32 : ((Jvm.Cond.initialized "java/lang/IllegalArgumentException")) ∈ zT := zT_in 32 (by decide +kernel) rfl
set_option maxRecDepth 10000 in
theorem wd_33 : ((Jvm.Cond.initialized "java/lang/IllegalStateException")) ∈ zT := zT_in 33 (by decide +kernel) rfl
set_option maxRecDepth 10000 in
theorem wd_34 : ((Jvm.Cond.initialized "Sparkline$Bundle")) ∈ zT := zT_in 34 (by decide +kernel) rfl
set_option maxRecDepth 10000 in
theorem wd_35 : ((Jvm.Cond.initialized "jdk/internal/util/ArraysSupport")) ∈ zT := zT_in 35 (by decide +kernel) rfl
set_option maxRecDepth 10000 in
theorem wd_36 : ((Jvm.Cond.initialized "java/lang/Math")) ∈ zT := zT_in 36 (by decide +kernel) rfl
set_option maxRecDepth 10000 in
theorem wd_37 : ((Jvm.Cond.initialized "java/util/Arrays")) ∈ zT := zT_in 37 (by decide +kernel) rfl
set_option maxRecDepth 10000 in
theorem wd_38 : ((Jvm.Cond.initialized "java/lang/System")) ∈ zT := zT_in 38 (by decide +kernel) rfl
set_option maxRecDepth 10000 in
theorem wd_39 : ((Jvm.Cond.initialized "Sparkline$Connector")) ∈ zT := zT_in 39 (by decide +kernel) rfl
set_option maxRecDepth 10000 in
theorem wd_40 : ((Jvm.Cond.initialized "java/util/Objects")) ∈ zT := zT_in 40 (by decide +kernel) rfl
set_option maxRecDepth 10000 in
theorem wd_41 : ((Jvm.Cond.initialized "jdk/internal/util/Preconditions")) ∈ zT := zT_in 41 (by decide +kernel) rfl
set_option maxRecDepth 10000 in
theorem wd_42 : ((Jvm.Cond.initialized "Sparkline$Wire")) ∈ zT := zT_in 42 (by decide +kernel) rfl
set_option maxRecDepth 10000 in
theorem wd_43 : ((Jvm.Cond.initialized "Sparkline$Reel")) ∈ zT := zT_in 43 (by decide +kernel) rfl
set_option maxRecDepth 10000 in
theorem wd_44 : ((Jvm.Cond.initialized "Sparkline$Board")) ∈ zT := zT_in 44 (by decide +kernel) rfl
set_option maxRecDepth 10000 in
theorem wd_45 : ((Jvm.Cond.initialized "Sparkline$Slot")) ∈ zT := zT_in 45 (by decide +kernel) rfl
set_option maxRecDepth 10000 in
theorem wd_46 : ((Jvm.Cond.initialized "java/lang/Integer")) ∈ zT := zT_in 46 (by decide +kernel) rfl
set_option maxRecDepth 10000 in
theorem wd_47 : ((Jvm.Cond.classLink "SparklineLaw" (9 : Nat) "Sparkline")) ∈ zT := zT_in 47 (by decide +kernel) rfl
set_option maxRecDepth 10000 in
theorem wd_48 : ((Jvm.Cond.instantiable "Sparkline" (8 : Nat))) ∈ zT := zT_in 48 (by decide +kernel) rfl
set_option maxRecDepth 10000 in
theorem wd_49 : ((Jvm.Cond.methodLink "SparklineLaw" (150 : Nat) ({ cls := "Sparkline", name := "<init>", desc := "()V" } : Jvm.MethodName))) ∈ zT := zT_in 49 (by decide +kernel) rfl
set_option maxRecDepth 10000 in
theorem wd_50 : ((Jvm.Cond.instanceMethod ({ cls := "Sparkline", name := "<init>", desc := "()V" } : Jvm.MethodName))) ∈ zT := zT_in 50 (by decide +kernel) rfl
set_option maxRecDepth 10000 in
theorem wd_51 : ((Jvm.Cond.code ({ cls := "Sparkline", name := "<init>", desc := "()V" } : Jvm.MethodName) prog_1_method_1_code (1 : Nat) (Option.none : Option Jvm.ClassFile.FieldType))) ∈ zT := zT_in 51 (by decide +kernel) rfl
set_option maxRecDepth 10000 in
theorem wd_52 : ((Jvm.Cond.methodLink "Sparkline" (1 : Nat) ({ cls := "java/lang/Object", name := "<init>", desc := "()V" } : Jvm.MethodName))) ∈ zT := zT_in 52 (by decide +kernel) rfl
set_option maxRecDepth 10000 in
theorem wd_53 : ((Jvm.Cond.instanceMethod ({ cls := "java/lang/Object", name := "<init>", desc := "()V" } : Jvm.MethodName))) ∈ zT := zT_in 53 (by decide +kernel) rfl
set_option maxRecDepth 10000 in
theorem wd_54 : ((Jvm.Cond.code ({ cls := "java/lang/Object", name := "<init>", desc := "()V" } : Jvm.MethodName) object_method_1_code (1 : Nat) (Option.none : Option Jvm.ClassFile.FieldType))) ∈ zT := zT_in 54 (by decide +kernel) rfl
set_option maxRecDepth 10000 in
theorem wd_55 : ((Jvm.Cond.classLink "Sparkline" (7 : Nat) "Sparkline$Harness")) ∈ zT := zT_in 55 (by decide +kernel) rfl
set_option maxRecDepth 10000 in
theorem wd_56 : ((Jvm.Cond.instantiable "Sparkline$Harness" (4 : Nat))) ∈ zT := zT_in 56 (by decide +kernel) rfl
set_option maxRecDepth 10000 in
theorem wd_58 : ((Jvm.Cond.instanceMethod ({ cls := "Sparkline$Harness", name := "<init>", desc := "()V" } : Jvm.MethodName))) ∈ zT := zT_in 58 (by decide +kernel) rfl
set_option maxRecDepth 10000 in
theorem wd_59 : ((Jvm.Cond.code ({ cls := "Sparkline$Harness", name := "<init>", desc := "()V" } : Jvm.MethodName) prog_6_method_1_code (1 : Nat) (Option.none : Option Jvm.ClassFile.FieldType))) ∈ zT := zT_in 59 (by decide +kernel) rfl
set_option maxRecDepth 10000 in
theorem wd_60 : ((Jvm.Cond.methodLink "Sparkline$Harness" (3 : Nat) ({ cls := "java/lang/Object", name := "<init>", desc := "()V" } : Jvm.MethodName))) ∈ zT := zT_in 60 (by decide +kernel) rfl
set_option maxRecDepth 10000 in
theorem wd_61 : ((Jvm.Cond.classLink "Sparkline$Harness" (9 : Nat) "java/util/ArrayList")) ∈ zT := zT_in 61 (by decide +kernel) rfl
set_option maxRecDepth 10000 in
theorem wd_62 : ((Jvm.Cond.instantiable "java/util/ArrayList" (3 : Nat))) ∈ zT := zT_in 62 (by decide +kernel) rfl
set_option maxRecDepth 10000 in
theorem wd_63 : ((Jvm.Cond.methodLink "Sparkline$Harness" (11 : Nat) ({ cls := "java/util/ArrayList", name := "<init>", desc := "()V" } : Jvm.MethodName))) ∈ zT := zT_in 63 (by decide +kernel) rfl
set_option maxRecDepth 10000 in
theorem wd_64 : ((Jvm.Cond.instanceMethod ({ cls := "java/util/ArrayList", name := "<init>", desc := "()V" } : Jvm.MethodName))) ∈ zT := zT_in 64 (by decide +kernel) rfl
set_option maxRecDepth 10000 in
theorem wd_65 : ((Jvm.Cond.code ({ cls := "java/util/ArrayList", name := "<init>", desc := "()V" } : Jvm.MethodName) prog_29_method_2_code (1 : Nat) (Option.none : Option Jvm.ClassFile.FieldType))) ∈ zT := zT_in 65 (by decide +kernel) rfl
set_option maxRecDepth 10000 in
theorem wd_66 : ((Jvm.Cond.methodLink "java/util/ArrayList" (1 : Nat) ({ cls := "java/util/AbstractList", name := "<init>", desc := "()V" } : Jvm.MethodName))) ∈ zT := zT_in 66 (by decide +kernel) rfl
set_option maxRecDepth 10000 in
theorem wd_67 : ((Jvm.Cond.instanceMethod ({ cls := "java/util/AbstractList", name := "<init>", desc := "()V" } : Jvm.MethodName))) ∈ zT := zT_in 67 (by decide +kernel) rfl
set_option maxRecDepth 10000 in
theorem wd_68 : ((Jvm.Cond.code ({ cls := "java/util/AbstractList", name := "<init>", desc := "()V" } : Jvm.MethodName) prog_28_method_1_code (1 : Nat) (Option.none : Option Jvm.ClassFile.FieldType))) ∈ zT := zT_in 68 (by decide +kernel) rfl
set_option maxRecDepth 10000 in
theorem wd_69 : ((Jvm.Cond.methodLink "java/util/AbstractList" (1 : Nat) ({ cls := "java/util/AbstractCollection", name := "<init>", desc := "()V" } : Jvm.MethodName))) ∈ zT := zT_in 69 (by decide +kernel) rfl
set_option maxRecDepth 10000 in
theorem wd_70 : ((Jvm.Cond.instanceMethod ({ cls := "java/util/AbstractCollection", name := "<init>", desc := "()V" } : Jvm.MethodName))) ∈ zT := zT_in 70 (by decide +kernel) rfl
set_option maxRecDepth 10000 in
theorem wd_71 : ((Jvm.Cond.code ({ cls := "java/util/AbstractCollection", name := "<init>", desc := "()V" } : Jvm.MethodName) prog_27_method_1_code (1 : Nat) (Option.none : Option Jvm.ClassFile.FieldType))) ∈ zT := zT_in 71 (by decide +kernel) rfl
set_option maxRecDepth 10000 in
theorem wd_72 : ((Jvm.Cond.methodLink "java/util/AbstractCollection" (1 : Nat) ({ cls := "java/lang/Object", name := "<init>", desc := "()V" } : Jvm.MethodName))) ∈ zT := zT_in 72 (by decide +kernel) rfl
set_option maxRecDepth 10000 in
theorem wd_73 : ((Jvm.Cond.fieldLink "java/util/ArrayList" (39 : Nat) "java/util/ArrayList" "DEFAULTCAPACITY_EMPTY_ELEMENTDATA" "[Ljava/lang/Object;")) ∈ zT := zT_in 73 (by decide +kernel) rfl
set_option maxRecDepth 10000 in
theorem wd_75 : ((Jvm.Cond.fieldLink "java/util/ArrayList" (9 : Nat) "java/util/ArrayList" "elementData" "[Ljava/lang/Object;")) ∈ zT := zT_in 75 (by decide +kernel) rfl
set_option maxRecDepth 10000 in
theorem wd_76 : ((Jvm.Cond.fieldLink "java/util/ArrayList" (48 : Nat) "java/util/ArrayList" "size" "I")) ∈ zT := zT_in 76 (by decide +kernel) rfl
set_option maxRecDepth 10000 in
theorem wd_77 : ((Jvm.Cond.fieldLink "java/util/AbstractList" (7 : Nat) "java/util/AbstractList" "modCount" "I")) ∈ zT := zT_in 77 (by decide +kernel) rfl
set_option maxRecDepth 10000 in
theorem wd_78 : ((Jvm.Cond.fieldLink "java/util/ArrayList" (63 : Nat) "java/util/ArrayList" "modCount" "I")) ∈ zT := zT_in 78 (by decide +kernel) rfl
set_option maxRecDepth 10000 in
theorem wd_79 : ((Jvm.Cond.sameField "java/util/ArrayList" "java/util/AbstractList" "modCount" "I")) ∈ zT := zT_in 79 (by decide +kernel) rfl
set_option maxRecDepth 10000 in
theorem wd_80 : ((Jvm.Cond.lays "java/util/ArrayList" "java/util/ArrayList" "elementData" "[Ljava/lang/Object;")) ∈ zT := zT_in 80 (by decide +kernel) rfl
set_option maxRecDepth 10000 in
theorem wd_82 : ((Jvm.Cond.lays "java/util/ArrayList" "java/util/ArrayList" "size" "I")) ∈ zT := zT_in 82 (by decide +kernel) rfl
set_option maxRecDepth 10000 in
theorem wd_84 : ((Jvm.Cond.lays "java/util/ArrayList" "java/util/AbstractList" "modCount" "I")) ∈ zT := zT_in 84 (by decide +kernel) rfl
set_option maxRecDepth 10000 in
theorem wd_87 : ((Jvm.Cond.classLink "Sparkline$Harness" (24 : Nat) "Sparkline$Row")) ∈ zT := zT_in 87 (by decide +kernel) rfl
set_option maxRecDepth 10000 in
theorem wd_88 : ((Jvm.Cond.instantiable "Sparkline$Row" (1 : Nat))) ∈ zT := zT_in 88 (by decide +kernel) rfl
set_option maxRecDepth 10000 in
theorem wd_89 : ((Jvm.Cond.methodLink "Sparkline$Harness" (26 : Nat) ({ cls := "Sparkline$Row", name := "<init>", desc := "(I)V" } : Jvm.MethodName))) ∈ zT := zT_in 89 (by decide +kernel) rfl
set_option maxRecDepth 10000 in
theorem wd_90 : ((Jvm.Cond.instanceMethod ({ cls := "Sparkline$Row", name := "<init>", desc := "(I)V" } : Jvm.MethodName))) ∈ zT := zT_in 90 (by decide +kernel) rfl
set_option maxRecDepth 10000 in
theorem wd_91 : ((Jvm.Cond.code ({ cls := "Sparkline$Row", name := "<init>", desc := "(I)V" } : Jvm.MethodName) prog_10_method_1_code (2 : Nat) (Option.none : Option Jvm.ClassFile.FieldType))) ∈ zT := zT_in 91 (by decide +kernel) rfl
set_option maxRecDepth 10000 in
theorem wd_92 : ((Jvm.Cond.methodLink "Sparkline$Row" (1 : Nat) ({ cls := "java/lang/Object", name := "<init>", desc := "()V" } : Jvm.MethodName))) ∈ zT := zT_in 92 (by decide +kernel) rfl
set_option maxRecDepth 10000 in
theorem wd_93 : ((Jvm.Cond.fieldLink "Sparkline$Row" (7 : Nat) "Sparkline$Row" "cells" "[I")) ∈ zT := zT_in 93 (by decide +kernel) rfl
set_option maxRecDepth 10000 in
theorem wd_94 : ((Jvm.Cond.laysFinal "Sparkline$Row" "Sparkline$Row" "cells" "[I")) ∈ zT := zT_in 94 (by decide +kernel) rfl
set_option maxRecDepth 10000 in
theorem wd_97 : ((Jvm.Cond.arrayClass Jvm.ClassFile.FieldType.int)) ∈ zT := zT_in 97 (by decide +kernel) rfl
set_option maxRecDepth 10000 in
theorem wd_98 : ((Jvm.Cond.fieldLink "Sparkline$Harness" (12 : Nat) "Sparkline$Harness" "bundles" "Ljava/util/ArrayList;")) ∈ zT := zT_in 98 (by decide +kernel) rfl
set_option maxRecDepth 10000 in
theorem wd_99 : ((Jvm.Cond.fieldLink "Sparkline" (69 : Nat) "Sparkline$Harness" "bundles" "Ljava/util/ArrayList;")) ∈ zT := zT_in 99 (by decide +kernel) rfl
set_option maxRecDepth 10000 in
theorem wd_100 : ((Jvm.Cond.fieldLink "Sparkline$Harness" (18 : Nat) "Sparkline$Harness" "connectors" "Ljava/util/ArrayList;")) ∈ zT := zT_in 100 (by decide +kernel) rfl
set_option maxRecDepth 10000 in
theorem wd_101 : ((Jvm.Cond.fieldLink "Sparkline" (83 : Nat) "Sparkline$Harness" "connectors" "Ljava/util/ArrayList;")) ∈ zT := zT_in 101 (by decide +kernel) rfl
set_option maxRecDepth 10000 in
theorem wd_102 : ((Jvm.Cond.fieldLink "Sparkline$Harness" (21 : Nat) "Sparkline$Harness" "wires" "Ljava/util/ArrayList;")) ∈ zT := zT_in 102 (by decide +kernel) rfl
set_option maxRecDepth 10000 in
theorem wd_103 : ((Jvm.Cond.fieldLink "Sparkline" (113 : Nat) "Sparkline$Harness" "wires" "Ljava/util/ArrayList;")) ∈ zT := zT_in 103 (by decide +kernel) rfl
set_option maxRecDepth 10000 in
theorem wd_104 : ((Jvm.Cond.fieldLink "Sparkline$Harness" (29 : Nat) "Sparkline$Harness" "costs" "LSparkline$Row;")) ∈ zT := zT_in 104 (by decide +kernel) rfl
set_option maxRecDepth 10000 in
theorem wd_105 : ((Jvm.Cond.laysFinal "Sparkline$Harness" "Sparkline$Harness" "bundles" "Ljava/util/ArrayList;")) ∈ zT := zT_in 105 (by decide +kernel) rfl
set_option maxRecDepth 10000 in
theorem wd_107 : ((Jvm.Cond.laysFinal "Sparkline$Harness" "Sparkline$Harness" "connectors" "Ljava/util/ArrayList;")) ∈ zT := zT_in 107 (by decide +kernel) rfl
set_option maxRecDepth 10000 in
theorem wd_109 : ((Jvm.Cond.laysFinal "Sparkline$Harness" "Sparkline$Harness" "wires" "Ljava/util/ArrayList;")) ∈ zT := zT_in 109 (by decide +kernel) rfl
set_option maxRecDepth 10000 in
theorem wd_111 : ((Jvm.Cond.laysFinal "Sparkline$Harness" "Sparkline$Harness" "costs" "LSparkline$Row;")) ∈ zT := zT_in 111 (by decide +kernel) rfl
set_option maxRecDepth 10000 in
theorem wd_114 : ((Jvm.Cond.classLink "Sparkline" (16 : Nat) "Sparkline$Orders")) ∈ zT := zT_in 114 (by decide +kernel) rfl
set_option maxRecDepth 10000 in
theorem wd_115 : ((Jvm.Cond.instantiable "Sparkline$Orders" (5 : Nat))) ∈ zT := zT_in 115 (by decide +kernel) rfl
set_option maxRecDepth 10000 in
theorem wd_117 : ((Jvm.Cond.instanceMethod ({ cls := "Sparkline$Orders", name := "<init>", desc := "()V" } : Jvm.MethodName))) ∈ zT := zT_in 117 (by decide +kernel) rfl
set_option maxRecDepth 10000 in
theorem wd_118 : ((Jvm.Cond.code ({ cls := "Sparkline$Orders", name := "<init>", desc := "()V" } : Jvm.MethodName) prog_7_method_1_code (1 : Nat) (Option.none : Option Jvm.ClassFile.FieldType))) ∈ zT := zT_in 118 (by decide +kernel) rfl
set_option maxRecDepth 10000 in
theorem wd_119 : ((Jvm.Cond.methodLink "Sparkline$Orders" (3 : Nat) ({ cls := "java/lang/Object", name := "<init>", desc := "()V" } : Jvm.MethodName))) ∈ zT := zT_in 119 (by decide +kernel) rfl
set_option maxRecDepth 10000 in
theorem wd_120 : ((Jvm.Cond.classLink "Sparkline$Orders" (9 : Nat) "Sparkline$Row")) ∈ zT := zT_in 120 (by decide +kernel) rfl
set_option maxRecDepth 10000 in
theorem wd_121 : ((Jvm.Cond.methodLink "Sparkline$Orders" (11 : Nat) ({ cls := "Sparkline$Row", name := "<init>", desc := "(I)V" } : Jvm.MethodName))) ∈ zT := zT_in 121 (by decide +kernel) rfl
set_option maxRecDepth 10000 in
theorem wd_122 : ((Jvm.Cond.fieldLink "Sparkline$Orders" (14 : Nat) "Sparkline$Orders" "options" "LSparkline$Row;")) ∈ zT := zT_in 122 (by decide +kernel) rfl
set_option maxRecDepth 10000 in
theorem wd_123 : ((Jvm.Cond.fieldLink "Sparkline$Orders" (20 : Nat) "Sparkline$Orders" "many" "LSparkline$Row;")) ∈ zT := zT_in 123 (by decide +kernel) rfl
set_option maxRecDepth 10000 in
theorem wd_124 : ((Jvm.Cond.fieldLink "Sparkline$Orders" (23 : Nat) "Sparkline$Orders" "weights" "LSparkline$Row;")) ∈ zT := zT_in 124 (by decide +kernel) rfl
set_option maxRecDepth 10000 in
theorem wd_125 : ((Jvm.Cond.fieldLink "Sparkline$Orders" (26 : Nat) "Sparkline$Orders" "leasts" "LSparkline$Row;")) ∈ zT := zT_in 125 (by decide +kernel) rfl
set_option maxRecDepth 10000 in
theorem wd_126 : ((Jvm.Cond.fieldLink "Sparkline$Orders" (29 : Nat) "Sparkline$Orders" "count" "I")) ∈ zT := zT_in 126 (by decide +kernel) rfl
set_option maxRecDepth 10000 in
theorem wd_127 : ((Jvm.Cond.fieldLink "Sparkline" (152 : Nat) "Sparkline$Orders" "count" "I")) ∈ zT := zT_in 127 (by decide +kernel) rfl
set_option maxRecDepth 10000 in
theorem wd_128 : ((Jvm.Cond.laysFinal "Sparkline$Orders" "Sparkline$Orders" "options" "LSparkline$Row;")) ∈ zT := zT_in 128 (by decide +kernel) rfl
set_option maxRecDepth 10000 in
theorem wd_130 : ((Jvm.Cond.laysFinal "Sparkline$Orders" "Sparkline$Orders" "many" "LSparkline$Row;")) ∈ zT := zT_in 130 (by decide +kernel) rfl
set_option maxRecDepth 10000 in
theorem wd_132 : ((Jvm.Cond.laysFinal "Sparkline$Orders" "Sparkline$Orders" "weights" "LSparkline$Row;")) ∈ zT := zT_in 132 (by decide +kernel) rfl
set_option maxRecDepth 10000 in
theorem wd_134 : ((Jvm.Cond.laysFinal "Sparkline$Orders" "Sparkline$Orders" "leasts" "LSparkline$Row;")) ∈ zT := zT_in 134 (by decide +kernel) rfl
set_option maxRecDepth 10000 in
theorem wd_136 : ((Jvm.Cond.lays "Sparkline$Orders" "Sparkline$Orders" "count" "I")) ∈ zT := zT_in 136 (by decide +kernel) rfl
set_option maxRecDepth 10000 in
theorem wd_139 : ((Jvm.Cond.classLink "Sparkline" (23 : Nat) "Sparkline$Crimper")) ∈ zT := zT_in 139 (by decide +kernel) rfl
set_option maxRecDepth 10000 in
theorem wd_140 : ((Jvm.Cond.instantiable "Sparkline$Crimper" (4 : Nat))) ∈ zT := zT_in 140 (by decide +kernel) rfl
set_option maxRecDepth 10000 in
theorem wd_142 : ((Jvm.Cond.instanceMethod ({ cls := "Sparkline$Crimper", name := "<init>", desc := "()V" } : Jvm.MethodName))) ∈ zT := zT_in 142 (by decide +kernel) rfl
set_option maxRecDepth 10000 in
theorem wd_143 : ((Jvm.Cond.code ({ cls := "Sparkline$Crimper", name := "<init>", desc := "()V" } : Jvm.MethodName) prog_5_method_1_code (1 : Nat) (Option.none : Option Jvm.ClassFile.FieldType))) ∈ zT := zT_in 143 (by decide +kernel) rfl
set_option maxRecDepth 10000 in
theorem wd_144 : ((Jvm.Cond.methodLink "Sparkline$Crimper" (1 : Nat) ({ cls := "java/lang/Object", name := "<init>", desc := "()V" } : Jvm.MethodName))) ∈ zT := zT_in 144 (by decide +kernel) rfl
set_option maxRecDepth 10000 in
theorem wd_145 : ((Jvm.Cond.classLink "Sparkline$Crimper" (7 : Nat) "Sparkline$Row")) ∈ zT := zT_in 145 (by decide +kernel) rfl
set_option maxRecDepth 10000 in
theorem wd_146 : ((Jvm.Cond.methodLink "Sparkline$Crimper" (11 : Nat) ({ cls := "Sparkline$Row", name := "<init>", desc := "(I)V" } : Jvm.MethodName))) ∈ zT := zT_in 146 (by decide +kernel) rfl
set_option maxRecDepth 10000 in
theorem wd_147 : ((Jvm.Cond.fieldLink "Sparkline$Crimper" (32 : Nat) "Sparkline$Crimper" "count" "I")) ∈ zT := zT_in 147 (by decide +kernel) rfl
set_option maxRecDepth 10000 in
theorem wd_148 : ((Jvm.Cond.fieldLink "Sparkline" (169 : Nat) "Sparkline$Crimper" "count" "I")) ∈ zT := zT_in 148 (by decide +kernel) rfl
set_option maxRecDepth 10000 in
theorem wd_149 : ((Jvm.Cond.fieldLink "Sparkline$Crimper" (18 : Nat) "Sparkline$Crimper" "good" "I")) ∈ zT := zT_in 149 (by decide +kernel) rfl
set_option maxRecDepth 10000 in
theorem wd_150 : ((Jvm.Cond.fieldLink "Sparkline" (170 : Nat) "Sparkline$Crimper" "good" "I")) ∈ zT := zT_in 150 (by decide +kernel) rfl
set_option maxRecDepth 10000 in
theorem wd_151 : ((Jvm.Cond.fieldLink "Sparkline$Crimper" (14 : Nat) "Sparkline$Crimper" "latest" "LSparkline$Row;")) ∈ zT := zT_in 151 (by decide +kernel) rfl
set_option maxRecDepth 10000 in
theorem wd_152 : ((Jvm.Cond.fieldLink "Sparkline$Crimper" (35 : Nat) "Sparkline$Crimper" "next" "I")) ∈ zT := zT_in 152 (by decide +kernel) rfl
set_option maxRecDepth 10000 in
theorem wd_153 : ((Jvm.Cond.lays "Sparkline$Crimper" "Sparkline$Crimper" "count" "I")) ∈ zT := zT_in 153 (by decide +kernel) rfl
set_option maxRecDepth 10000 in
theorem wd_155 : ((Jvm.Cond.lays "Sparkline$Crimper" "Sparkline$Crimper" "good" "I")) ∈ zT := zT_in 155 (by decide +kernel) rfl
set_option maxRecDepth 10000 in
theorem wd_157 : ((Jvm.Cond.laysFinal "Sparkline$Crimper" "Sparkline$Crimper" "latest" "LSparkline$Row;")) ∈ zT := zT_in 157 (by decide +kernel) rfl
set_option maxRecDepth 10000 in
theorem wd_159 : ((Jvm.Cond.lays "Sparkline$Crimper" "Sparkline$Crimper" "next" "I")) ∈ zT := zT_in 159 (by decide +kernel) rfl
set_option maxRecDepth 10000 in
theorem wd_162 : ((Jvm.Cond.classLink "Sparkline" (30 : Nat) "Sparkline$Oven")) ∈ zT := zT_in 162 (by decide +kernel) rfl
set_option maxRecDepth 10000 in
theorem wd_163 : ((Jvm.Cond.instantiable "Sparkline$Oven" (3 : Nat))) ∈ zT := zT_in 163 (by decide +kernel) rfl
set_option maxRecDepth 10000 in
theorem wd_164 : ((Jvm.Cond.methodLink "Sparkline" (32 : Nat) ({ cls := "Sparkline$Oven", name := "<init>", desc := "()V" } : Jvm.MethodName))) ∈ zT := zT_in 164 (by decide +kernel) rfl
set_option maxRecDepth 10000 in
theorem wd_165 : ((Jvm.Cond.instanceMethod ({ cls := "Sparkline$Oven", name := "<init>", desc := "()V" } : Jvm.MethodName))) ∈ zT := zT_in 165 (by decide +kernel) rfl
set_option maxRecDepth 10000 in
theorem wd_166 : ((Jvm.Cond.code ({ cls := "Sparkline$Oven", name := "<init>", desc := "()V" } : Jvm.MethodName) prog_8_method_1_code (1 : Nat) (Option.none : Option Jvm.ClassFile.FieldType))) ∈ zT := zT_in 166 (by decide +kernel) rfl
set_option maxRecDepth 10000 in
theorem wd_167 : ((Jvm.Cond.methodLink "Sparkline$Oven" (3 : Nat) ({ cls := "java/lang/Object", name := "<init>", desc := "()V" } : Jvm.MethodName))) ∈ zT := zT_in 167 (by decide +kernel) rfl
set_option maxRecDepth 10000 in
theorem wd_168 : ((Jvm.Cond.classLink "Sparkline$Oven" (9 : Nat) "Sparkline$Row")) ∈ zT := zT_in 168 (by decide +kernel) rfl
set_option maxRecDepth 10000 in
theorem wd_169 : ((Jvm.Cond.methodLink "Sparkline$Oven" (11 : Nat) ({ cls := "Sparkline$Row", name := "<init>", desc := "(I)V" } : Jvm.MethodName))) ∈ zT := zT_in 169 (by decide +kernel) rfl
set_option maxRecDepth 10000 in
theorem wd_170 : ((Jvm.Cond.methodLink "Sparkline$Oven" (26 : Nat) ({ cls := "Sparkline$Row", name := "put", desc := "(II)V" } : Jvm.MethodName))) ∈ zT := zT_in 170 (by decide +kernel) rfl
set_option maxRecDepth 10000 in
theorem wd_171 : ((Jvm.Cond.instanceMethod ({ cls := "Sparkline$Row", name := "put", desc := "(II)V" } : Jvm.MethodName))) ∈ zT := zT_in 171 (by decide +kernel) rfl
set_option maxRecDepth 10000 in
theorem wd_172 : ((Jvm.Cond.selects "Sparkline$Row" ({ cls := "Sparkline$Row", name := "put", desc := "(II)V" } : Jvm.MethodName) ({ cls := "Sparkline$Row", name := "put", desc := "(II)V" } : Jvm.MethodName))) ∈ zT := zT_in 172 (by decide +kernel) rfl
set_option maxRecDepth 10000 in
theorem wd_173 : ((Jvm.Cond.code ({ cls := "Sparkline$Row", name := "put", desc := "(II)V" } : Jvm.MethodName) prog_10_method_3_code (3 : Nat) (Option.none : Option Jvm.ClassFile.FieldType))) ∈ zT := zT_in 173 (by decide +kernel) rfl
set_option maxRecDepth 10000 in
theorem wd_174 : ((Jvm.Cond.methodLink "Sparkline$Oven" (30 : Nat) ({ cls := "Sparkline$Row", name := "fill", desc := "(I)V" } : Jvm.MethodName))) ∈ zT := zT_in 174 (by decide +kernel) rfl
set_option maxRecDepth 10000 in
theorem wd_175 : ((Jvm.Cond.instanceMethod ({ cls := "Sparkline$Row", name := "fill", desc := "(I)V" } : Jvm.MethodName))) ∈ zT := zT_in 175 (by decide +kernel) rfl
set_option maxRecDepth 10000 in
theorem wd_176 : ((Jvm.Cond.selects "Sparkline$Row" ({ cls := "Sparkline$Row", name := "fill", desc := "(I)V" } : Jvm.MethodName) ({ cls := "Sparkline$Row", name := "fill", desc := "(I)V" } : Jvm.MethodName))) ∈ zT := zT_in 176 (by decide +kernel) rfl
set_option maxRecDepth 10000 in
theorem wd_177 : ((Jvm.Cond.code ({ cls := "Sparkline$Row", name := "fill", desc := "(I)V" } : Jvm.MethodName) prog_10_method_4_code (3 : Nat) (Option.none : Option Jvm.ClassFile.FieldType))) ∈ zT := zT_in 177 (by decide +kernel) rfl
set_option maxRecDepth 10000 in
theorem wd_178 : ((Jvm.Cond.fieldLink "Sparkline$Oven" (14 : Nat) "Sparkline$Oven" "heats" "LSparkline$Row;")) ∈ zT := zT_in 178 (by decide +kernel) rfl
set_option maxRecDepth 10000 in
theorem wd_179 : ((Jvm.Cond.fieldLink "Sparkline$Board" (62 : Nat) "Sparkline$Oven" "heats" "LSparkline$Row;")) ∈ zT := zT_in 179 (by decide +kernel) rfl
set_option maxRecDepth 10000 in
theorem wd_180 : ((Jvm.Cond.fieldLink "Sparkline" (231 : Nat) "Sparkline$Oven" "heats" "LSparkline$Row;")) ∈ zT := zT_in 180 (by decide +kernel) rfl
set_option maxRecDepth 10000 in
theorem wd_181 : ((Jvm.Cond.fieldLink "Sparkline$Oven" (20 : Nat) "Sparkline$Oven" "lows" "LSparkline$Row;")) ∈ zT := zT_in 181 (by decide +kernel) rfl
set_option maxRecDepth 10000 in
theorem wd_182 : ((Jvm.Cond.fieldLink "Sparkline$Slot" (30 : Nat) "Sparkline$Oven" "lows" "LSparkline$Row;")) ∈ zT := zT_in 182 (by decide +kernel) rfl
set_option maxRecDepth 10000 in
theorem wd_183 : ((Jvm.Cond.fieldLink "Sparkline" (241 : Nat) "Sparkline$Oven" "lows" "LSparkline$Row;")) ∈ zT := zT_in 183 (by decide +kernel) rfl
set_option maxRecDepth 10000 in
theorem wd_184 : ((Jvm.Cond.fieldLink "Sparkline$Oven" (23 : Nat) "Sparkline$Oven" "highs" "LSparkline$Row;")) ∈ zT := zT_in 184 (by decide +kernel) rfl
set_option maxRecDepth 10000 in
theorem wd_185 : ((Jvm.Cond.fieldLink "Sparkline$Slot" (45 : Nat) "Sparkline$Oven" "highs" "LSparkline$Row;")) ∈ zT := zT_in 185 (by decide +kernel) rfl
set_option maxRecDepth 10000 in
theorem wd_186 : ((Jvm.Cond.fieldLink "Sparkline" (244 : Nat) "Sparkline$Oven" "highs" "LSparkline$Row;")) ∈ zT := zT_in 186 (by decide +kernel) rfl
set_option maxRecDepth 10000 in
theorem wd_187 : ((Jvm.Cond.laysFinal "Sparkline$Oven" "Sparkline$Oven" "heats" "LSparkline$Row;")) ∈ zT := zT_in 187 (by decide +kernel) rfl
set_option maxRecDepth 10000 in
theorem wd_189 : ((Jvm.Cond.laysFinal "Sparkline$Oven" "Sparkline$Oven" "lows" "LSparkline$Row;")) ∈ zT := zT_in 189 (by decide +kernel) rfl
set_option maxRecDepth 10000 in
theorem wd_191 : ((Jvm.Cond.laysFinal "Sparkline$Oven" "Sparkline$Oven" "highs" "LSparkline$Row;")) ∈ zT := zT_in 191 (by decide +kernel) rfl
set_option maxRecDepth 10000 in
theorem wd_194 : ((Jvm.Cond.classLink "Sparkline" (37 : Nat) "java/util/ArrayList")) ∈ zT := zT_in 194 (by decide +kernel) rfl
set_option maxRecDepth 10000 in
theorem wd_195 : ((Jvm.Cond.methodLink "Sparkline" (39 : Nat) ({ cls := "java/util/ArrayList", name := "<init>", desc := "()V" } : Jvm.MethodName))) ∈ zT := zT_in 195 (by decide +kernel) rfl
set_option maxRecDepth 10000 in
theorem wd_196 : ((Jvm.Cond.fieldLink "Sparkline" (10 : Nat) "Sparkline" "harness" "LSparkline$Harness;")) ∈ zT := zT_in 196 (by decide +kernel) rfl
set_option maxRecDepth 10000 in
theorem wd_197 : ((Jvm.Cond.fieldLink "Sparkline" (19 : Nat) "Sparkline" "orders" "LSparkline$Orders;")) ∈ zT := zT_in 197 (by decide +kernel) rfl
set_option maxRecDepth 10000 in
theorem wd_198 : ((Jvm.Cond.fieldLink "Sparkline" (26 : Nat) "Sparkline" "crimper" "LSparkline$Crimper;")) ∈ zT := zT_in 198 (by decide +kernel) rfl
set_option maxRecDepth 10000 in
theorem wd_199 : ((Jvm.Cond.fieldLink "Sparkline" (33 : Nat) "Sparkline" "oven" "LSparkline$Oven;")) ∈ zT := zT_in 199 (by decide +kernel) rfl
set_option maxRecDepth 10000 in
theorem wd_200 : ((Jvm.Cond.fieldLink "Sparkline" (40 : Nat) "Sparkline" "reels" "Ljava/util/ArrayList;")) ∈ zT := zT_in 200 (by decide +kernel) rfl
set_option maxRecDepth 10000 in
theorem wd_201 : ((Jvm.Cond.fieldLink "Sparkline" (44 : Nat) "Sparkline" "boards" "Ljava/util/ArrayList;")) ∈ zT := zT_in 201 (by decide +kernel) rfl
set_option maxRecDepth 10000 in
theorem wd_202 : ((Jvm.Cond.fieldLink "Sparkline" (47 : Nat) "Sparkline" "covered" "I")) ∈ zT := zT_in 202 (by decide +kernel) rfl
set_option maxRecDepth 10000 in
theorem wd_203 : ((Jvm.Cond.fieldLink "Sparkline" (51 : Nat) "Sparkline" "minute" "I")) ∈ zT := zT_in 203 (by decide +kernel) rfl
set_option maxRecDepth 10000 in
theorem wd_204 : ((Jvm.Cond.laysFinal "Sparkline" "Sparkline" "harness" "LSparkline$Harness;")) ∈ zT := zT_in 204 (by decide +kernel) rfl
set_option maxRecDepth 10000 in
theorem wd_206 : ((Jvm.Cond.laysFinal "Sparkline" "Sparkline" "orders" "LSparkline$Orders;")) ∈ zT := zT_in 206 (by decide +kernel) rfl
set_option maxRecDepth 10000 in
theorem wd_208 : ((Jvm.Cond.laysFinal "Sparkline" "Sparkline" "crimper" "LSparkline$Crimper;")) ∈ zT := zT_in 208 (by decide +kernel) rfl
set_option maxRecDepth 10000 in
theorem wd_210 : ((Jvm.Cond.laysFinal "Sparkline" "Sparkline" "oven" "LSparkline$Oven;")) ∈ zT := zT_in 210 (by decide +kernel) rfl
set_option maxRecDepth 10000 in
theorem wd_212 : ((Jvm.Cond.laysFinal "Sparkline" "Sparkline" "reels" "Ljava/util/ArrayList;")) ∈ zT := zT_in 212 (by decide +kernel) rfl
set_option maxRecDepth 10000 in
theorem wd_214 : ((Jvm.Cond.laysFinal "Sparkline" "Sparkline" "boards" "Ljava/util/ArrayList;")) ∈ zT := zT_in 214 (by decide +kernel) rfl
set_option maxRecDepth 10000 in
theorem wd_216 : ((Jvm.Cond.lays "Sparkline" "Sparkline" "covered" "I")) ∈ zT := zT_in 216 (by decide +kernel) rfl
set_option maxRecDepth 10000 in
theorem wd_218 : ((Jvm.Cond.lays "Sparkline" "Sparkline" "minute" "I")) ∈ zT := zT_in 218 (by decide +kernel) rfl
set_option maxRecDepth 10000 in
theorem wd_221 : ((Jvm.Cond.methodLink "SparklineLaw" (151 : Nat) ({ cls := "Sparkline", name := "least", desc := "(I)I" } : Jvm.MethodName))) ∈ zT := zT_in 221 (by decide +kernel) rfl
set_option maxRecDepth 10000 in
theorem wd_222 : ((Jvm.Cond.instanceMethod ({ cls := "Sparkline", name := "least", desc := "(I)I" } : Jvm.MethodName))) ∈ zT := zT_in 222 (by decide +kernel) rfl
set_option maxRecDepth 10000 in
theorem wd_223 : ((Jvm.Cond.selects "Sparkline" ({ cls := "Sparkline", name := "least", desc := "(I)I" } : Jvm.MethodName) ({ cls := "Sparkline", name := "least", desc := "(I)I" } : Jvm.MethodName))) ∈ zT := zT_in 223 (by decide +kernel) rfl
set_option maxRecDepth 10000 in
theorem wd_224 : ((Jvm.Cond.code ({ cls := "Sparkline", name := "least", desc := "(I)I" } : Jvm.MethodName) prog_1_method_10_code (2 : Nat) (Option.some Jvm.ClassFile.FieldType.int))) ∈ zT := zT_in 224 (by decide +kernel) rfl
set_option maxRecDepth 10000 in
theorem wd_225 : ((Jvm.Cond.methodLink "Sparkline" (62 : Nat) ({ cls := "Sparkline", name := "isWithin", desc := "(III)Z" } : Jvm.MethodName))) ∈ zT := zT_in 225 (by decide +kernel) rfl
set_option maxRecDepth 10000 in
theorem wd_226 : ((Jvm.Cond.static ({ cls := "Sparkline", name := "isWithin", desc := "(III)Z" } : Jvm.MethodName))) ∈ zT := zT_in 226 (by decide +kernel) rfl
set_option maxRecDepth 10000 in
theorem wd_227 : ((Jvm.Cond.code ({ cls := "Sparkline", name := "isWithin", desc := "(III)Z" } : Jvm.MethodName) prog_1_method_33_code (3 : Nat) (Option.some Jvm.ClassFile.FieldType.boolean))) ∈ zT := zT_in 227 (by decide +kernel) rfl
set_option maxRecDepth 10000 in
theorem wd_228 : ((Jvm.Cond.methodLink "Sparkline" (66 : Nat) ({ cls := "Sparkline", name := "checkArgument", desc := "(Z)V" } : Jvm.MethodName))) ∈ zT := zT_in 228 (by decide +kernel) rfl
set_option maxRecDepth 10000 in
theorem wd_229 : ((Jvm.Cond.static ({ cls := "Sparkline", name := "checkArgument", desc := "(Z)V" } : Jvm.MethodName))) ∈ zT := zT_in 229 (by decide +kernel) rfl
set_option maxRecDepth 10000 in
theorem wd_230 : ((Jvm.Cond.code ({ cls := "Sparkline", name := "checkArgument", desc := "(Z)V" } : Jvm.MethodName) prog_1_method_31_code (1 : Nat) (Option.none : Option Jvm.ClassFile.FieldType))) ∈ zT := zT_in 230 (by decide +kernel) rfl
set_option maxRecDepth 10000 in
theorem wd_231 : ((Jvm.Cond.classLink "Sparkline" (302 : Nat) "java/lang/IllegalArgumentException")) ∈ zT := zT_in 231 (by decide +kernel) rfl
set_option maxRecDepth 10000 in
theorem wd_294 : ((Jvm.Cond.methodLink "Sparkline" (159 : Nat) ({ cls := "Sparkline$Orders", name := "leastByChoice", desc := "(LSparkline$Harness;I)I" } : Jvm.MethodName))) ∈ zT := zT_in 294 (by decide +kernel) rfl
set_option maxRecDepth 10000 in
theorem wd_295 : ((Jvm.Cond.instanceMethod ({ cls := "Sparkline$Orders", name := "leastByChoice", desc := "(LSparkline$Harness;I)I" } : Jvm.MethodName))) ∈ zT := zT_in 295 (by decide +kernel) rfl
set_option maxRecDepth 10000 in
theorem wd_296 : ((Jvm.Cond.selects "Sparkline$Orders" ({ cls := "Sparkline$Orders", name := "leastByChoice", desc := "(LSparkline$Harness;I)I" } : Jvm.MethodName) ({ cls := "Sparkline$Orders", name := "leastByChoice", desc := "(LSparkline$Harness;I)I" } : Jvm.MethodName))) ∈ zT := zT_in 296 (by decide +kernel) rfl
set_option maxRecDepth 10000 in
theorem wd_297 : ((Jvm.Cond.code ({ cls := "Sparkline$Orders", name := "leastByChoice", desc := "(LSparkline$Harness;I)I" } : Jvm.MethodName) prog_7_method_6_code (3 : Nat) (Option.some Jvm.ClassFile.FieldType.int))) ∈ zT := zT_in 297 (by decide +kernel) rfl
set_option maxRecDepth 10000 in
theorem wd_298 : ((Jvm.Cond.methodLink "Sparkline$Orders" (54 : Nat) ({ cls := "Sparkline$Orders", name := "weighSets", desc := "(LSparkline$Harness;)V" } : Jvm.MethodName))) ∈ zT := zT_in 298 (by decide +kernel) rfl
set_option maxRecDepth 10000 in
theorem wd_300 : ((Jvm.Cond.instanceMethod ({ cls := "Sparkline$Orders", name := "weighSets", desc := "(LSparkline$Harness;)V" } : Jvm.MethodName))) ∈ zT := zT_in 300 (by decide +kernel) rfl
set_option maxRecDepth 10000 in
theorem wd_301 : ((Jvm.Cond.code ({ cls := "Sparkline$Orders", name := "weighSets", desc := "(LSparkline$Harness;)V" } : Jvm.MethodName) prog_7_method_4_code (4 : Nat) (Option.none : Option Jvm.ClassFile.FieldType))) ∈ zT := zT_in 301 (by decide +kernel) rfl
set_option maxRecDepth 10000 in
theorem wd_302 : ((Jvm.Cond.methodLink "Sparkline$Orders" (37 : Nat) ({ cls := "Sparkline$Orders", name := "allOrders", desc := "()I" } : Jvm.MethodName))) ∈ zT := zT_in 302 (by decide +kernel) rfl
set_option maxRecDepth 10000 in
theorem wd_304 : ((Jvm.Cond.instanceMethod ({ cls := "Sparkline$Orders", name := "allOrders", desc := "()I" } : Jvm.MethodName))) ∈ zT := zT_in 304 (by decide +kernel) rfl
set_option maxRecDepth 10000 in
theorem wd_305 : ((Jvm.Cond.code ({ cls := "Sparkline$Orders", name := "allOrders", desc := "()I" } : Jvm.MethodName) prog_7_method_3_code (1 : Nat) (Option.some Jvm.ClassFile.FieldType.int))) ∈ zT := zT_in 305 (by decide +kernel) rfl
set_option maxRecDepth 10000 in
theorem wd_306 : ((Jvm.Cond.methodLink "Sparkline$Orders" (41 : Nat) ({ cls := "Sparkline$Orders", name := "weightAsOne", desc := "(LSparkline$Harness;I)I" } : Jvm.MethodName))) ∈ zT := zT_in 306 (by decide +kernel) rfl
set_option maxRecDepth 10000 in
theorem wd_308 : ((Jvm.Cond.instanceMethod ({ cls := "Sparkline$Orders", name := "weightAsOne", desc := "(LSparkline$Harness;I)I" } : Jvm.MethodName))) ∈ zT := zT_in 308 (by decide +kernel) rfl
set_option maxRecDepth 10000 in
theorem wd_309 : ((Jvm.Cond.code ({ cls := "Sparkline$Orders", name := "weightAsOne", desc := "(LSparkline$Harness;I)I" } : Jvm.MethodName) prog_7_method_5_code (6 : Nat) (Option.some Jvm.ClassFile.FieldType.int))) ∈ zT := zT_in 309 (by decide +kernel) rfl
set_option maxRecDepth 10000 in
theorem wd_310 : ((Jvm.Cond.methodLink "Sparkline$Orders" (45 : Nat) ({ cls := "Sparkline$Row", name := "at", desc := "(I)I" } : Jvm.MethodName))) ∈ zT := zT_in 310 (by decide +kernel) rfl
set_option maxRecDepth 10000 in
theorem wd_311 : ((Jvm.Cond.instanceMethod ({ cls := "Sparkline$Row", name := "at", desc := "(I)I" } : Jvm.MethodName))) ∈ zT := zT_in 311 (by decide +kernel) rfl
set_option maxRecDepth 10000 in
theorem wd_312 : ((Jvm.Cond.selects "Sparkline$Row" ({ cls := "Sparkline$Row", name := "at", desc := "(I)I" } : Jvm.MethodName) ({ cls := "Sparkline$Row", name := "at", desc := "(I)I" } : Jvm.MethodName))) ∈ zT := zT_in 312 (by decide +kernel) rfl
set_option maxRecDepth 10000 in
theorem wd_313 : ((Jvm.Cond.code ({ cls := "Sparkline$Row", name := "at", desc := "(I)I" } : Jvm.MethodName) prog_10_method_2_code (2 : Nat) (Option.some Jvm.ClassFile.FieldType.int))) ∈ zT := zT_in 313 (by decide +kernel) rfl
set_option maxRecDepth 10000 in
theorem wd_314 : ((Jvm.Cond.methodLink "Sparkline$Orders" (49 : Nat) ({ cls := "Sparkline$Harness", name := "weightOf", desc := "(I)I" } : Jvm.MethodName))) ∈ zT := zT_in 314 (by decide +kernel) rfl
set_option maxRecDepth 10000 in
theorem wd_315 : ((Jvm.Cond.instanceMethod ({ cls := "Sparkline$Harness", name := "weightOf", desc := "(I)I" } : Jvm.MethodName))) ∈ zT := zT_in 315 (by decide +kernel) rfl
set_option maxRecDepth 10000 in
theorem wd_316 : ((Jvm.Cond.selects "Sparkline$Harness" ({ cls := "Sparkline$Harness", name := "weightOf", desc := "(I)I" } : Jvm.MethodName) ({ cls := "Sparkline$Harness", name := "weightOf", desc := "(I)I" } : Jvm.MethodName))) ∈ zT := zT_in 316 (by decide +kernel) rfl
set_option maxRecDepth 10000 in
theorem wd_317 : ((Jvm.Cond.code ({ cls := "Sparkline$Harness", name := "weightOf", desc := "(I)I" } : Jvm.MethodName) prog_6_method_11_code (5 : Nat) (Option.some Jvm.ClassFile.FieldType.int))) ∈ zT := zT_in 317 (by decide +kernel) rfl
set_option maxRecDepth 10000 in
theorem wd_318 : ((Jvm.Cond.methodLink "Sparkline$Harness" (35 : Nat) ({ cls := "java/util/ArrayList", name := "size", desc := "()I" } : Jvm.MethodName))) ∈ zT := zT_in 318 (by decide +kernel) rfl
set_option maxRecDepth 10000 in
theorem wd_319 : ((Jvm.Cond.instanceMethod ({ cls := "java/util/ArrayList", name := "size", desc := "()I" } : Jvm.MethodName))) ∈ zT := zT_in 319 (by decide +kernel) rfl
set_option maxRecDepth 10000 in
theorem wd_320 : ((Jvm.Cond.selects "java/util/ArrayList" ({ cls := "java/util/ArrayList", name := "size", desc := "()I" } : Jvm.MethodName) ({ cls := "java/util/ArrayList", name := "size", desc := "()I" } : Jvm.MethodName))) ∈ zT := zT_in 320 (by decide +kernel) rfl
set_option maxRecDepth 10000 in
theorem wd_321 : ((Jvm.Cond.code ({ cls := "java/util/ArrayList", name := "size", desc := "()I" } : Jvm.MethodName) prog_29_method_8_code (1 : Nat) (Option.some Jvm.ClassFile.FieldType.int))) ∈ zT := zT_in 321 (by decide +kernel) rfl
set_option maxRecDepth 10000 in
theorem wd_322 : ((Jvm.Cond.methodLink "Sparkline$Harness" (51 : Nat) ({ cls := "java/util/ArrayList", name := "get", desc := "(I)Ljava/lang/Object;" } : Jvm.MethodName))) ∈ zT := zT_in 322 (by decide +kernel) rfl
set_option maxRecDepth 10000 in
theorem wd_323 : ((Jvm.Cond.instanceMethod ({ cls := "java/util/ArrayList", name := "get", desc := "(I)Ljava/lang/Object;" } : Jvm.MethodName))) ∈ zT := zT_in 323 (by decide +kernel) rfl
set_option maxRecDepth 10000 in
theorem wd_324 : ((Jvm.Cond.selects "java/util/ArrayList" ({ cls := "java/util/ArrayList", name := "get", desc := "(I)Ljava/lang/Object;" } : Jvm.MethodName) ({ cls := "java/util/ArrayList", name := "get", desc := "(I)Ljava/lang/Object;" } : Jvm.MethodName))) ∈ zT := zT_in 324 (by decide +kernel) rfl
set_option maxRecDepth 10000 in
theorem wd_325 : ((Jvm.Cond.code ({ cls := "java/util/ArrayList", name := "get", desc := "(I)Ljava/lang/Object;" } : Jvm.MethodName) prog_29_method_20_code (2 : Nat) (Option.some (Jvm.ClassFile.FieldType.object "java/lang/Object")))) ∈ zT := zT_in 325 (by decide +kernel) rfl
set_option maxRecDepth 10000 in
theorem wd_326 : ((Jvm.Cond.methodLink "java/util/ArrayList" (118 : Nat) ({ cls := "java/util/Objects", name := "checkIndex", desc := "(II)I" } : Jvm.MethodName))) ∈ zT := zT_in 326 (by decide +kernel) rfl
set_option maxRecDepth 10000 in
theorem wd_327 : ((Jvm.Cond.static ({ cls := "java/util/Objects", name := "checkIndex", desc := "(II)I" } : Jvm.MethodName))) ∈ zT := zT_in 327 (by decide +kernel) rfl
set_option maxRecDepth 10000 in
theorem wd_328 : ((Jvm.Cond.code ({ cls := "java/util/Objects", name := "checkIndex", desc := "(II)I" } : Jvm.MethodName) prog_33_method_17_code (2 : Nat) (Option.some Jvm.ClassFile.FieldType.int))) ∈ zT := zT_in 328 (by decide +kernel) rfl
set_option maxRecDepth 10000 in
theorem wd_329 : ((Jvm.Cond.methodLink "java/util/Objects" (105 : Nat) ({ cls := "jdk/internal/util/Preconditions", name := "checkIndex", desc := "(IILjava/util/function/BiFunction;)I" } : Jvm.MethodName))) ∈ zT := zT_in 329 (by decide +kernel) rfl
set_option maxRecDepth 10000 in
theorem wd_330 : ((Jvm.Cond.static ({ cls := "jdk/internal/util/Preconditions", name := "checkIndex", desc := "(IILjava/util/function/BiFunction;)I" } : Jvm.MethodName))) ∈ zT := zT_in 330 (by decide +kernel) rfl
set_option maxRecDepth 10000 in
theorem wd_331 : ((Jvm.Cond.code ({ cls := "jdk/internal/util/Preconditions", name := "checkIndex", desc := "(IILjava/util/function/BiFunction;)I" } : Jvm.MethodName) prog_37_method_11_code (3 : Nat) (Option.some Jvm.ClassFile.FieldType.int))) ∈ zT := zT_in 331 (by decide +kernel) rfl
set_option maxRecDepth 10000 in
theorem wd_332 : ((Jvm.Cond.methodLink "java/util/ArrayList" (123 : Nat) ({ cls := "java/util/ArrayList", name := "elementData", desc := "(I)Ljava/lang/Object;" } : Jvm.MethodName))) ∈ zT := zT_in 332 (by decide +kernel) rfl
set_option maxRecDepth 10000 in
theorem wd_333 : ((Jvm.Cond.instanceMethod ({ cls := "java/util/ArrayList", name := "elementData", desc := "(I)Ljava/lang/Object;" } : Jvm.MethodName))) ∈ zT := zT_in 333 (by decide +kernel) rfl
set_option maxRecDepth 10000 in
theorem wd_334 : ((Jvm.Cond.selects "java/util/ArrayList" ({ cls := "java/util/ArrayList", name := "elementData", desc := "(I)Ljava/lang/Object;" } : Jvm.MethodName) ({ cls := "java/util/ArrayList", name := "elementData", desc := "(I)Ljava/lang/Object;" } : Jvm.MethodName))) ∈ zT := zT_in 334 (by decide +kernel) rfl
set_option maxRecDepth 10000 in
theorem wd_335 : ((Jvm.Cond.code ({ cls := "java/util/ArrayList", name := "elementData", desc := "(I)Ljava/lang/Object;" } : Jvm.MethodName) prog_29_method_18_code (2 : Nat) (Option.some (Jvm.ClassFile.FieldType.object "java/lang/Object")))) ∈ zT := zT_in 335 (by decide +kernel) rfl
set_option maxRecDepth 10000 in
theorem wd_336 : ((Jvm.Cond.classLink "Sparkline$Harness" (104 : Nat) "Sparkline$Wire")) ∈ zT := zT_in 336 (by decide +kernel) rfl
set_option maxRecDepth 10000 in
theorem wd_337 : ((Jvm.Cond.methodLink "Sparkline$Orders" (33 : Nat) ({ cls := "Sparkline$Row", name := "put", desc := "(II)V" } : Jvm.MethodName))) ∈ zT := zT_in 337 (by decide +kernel) rfl
set_option maxRecDepth 10000 in
theorem wd_338 : ((Jvm.Cond.methodLink "Sparkline$Orders" (58 : Nat) ({ cls := "Sparkline$Orders", name := "leastOfRest", desc := "(LSparkline$Row;II)I" } : Jvm.MethodName))) ∈ zT := zT_in 338 (by decide +kernel) rfl
set_option maxRecDepth 10000 in
theorem wd_339 : ((Jvm.Cond.static ({ cls := "Sparkline$Orders", name := "leastOfRest", desc := "(LSparkline$Row;II)I" } : Jvm.MethodName))) ∈ zT := zT_in 339 (by decide +kernel) rfl
set_option maxRecDepth 10000 in
theorem wd_340 : ((Jvm.Cond.code ({ cls := "Sparkline$Orders", name := "leastOfRest", desc := "(LSparkline$Row;II)I" } : Jvm.MethodName) prog_7_method_7_code (7 : Nat) (Option.some Jvm.ClassFile.FieldType.int))) ∈ zT := zT_in 340 (by decide +kernel) rfl
set_option maxRecDepth 10000 in
theorem wd_341 : ((Jvm.Cond.constant "Sparkline$Orders" (62 : Nat) (1000000000 : Int32))) ∈ zT := zT_in 341 (by decide +kernel) rfl
set_option maxRecDepth 10000 in
theorem wd_342 : ((Jvm.Cond.methodLink "Sparkline$Orders" (63 : Nat) ({ cls := "java/lang/Math", name := "min", desc := "(II)I" } : Jvm.MethodName))) ∈ zT := zT_in 342 (by decide +kernel) rfl
set_option maxRecDepth 10000 in
theorem wd_343 : ((Jvm.Cond.static ({ cls := "java/lang/Math", name := "min", desc := "(II)I" } : Jvm.MethodName))) ∈ zT := zT_in 343 (by decide +kernel) rfl
set_option maxRecDepth 10000 in
theorem wd_344 : ((Jvm.Cond.code ({ cls := "java/lang/Math", name := "min", desc := "(II)I" } : Jvm.MethodName) prog_23_method_69_code (2 : Nat) (Option.some Jvm.ClassFile.FieldType.int))) ∈ zT := zT_in 344 (by decide +kernel) rfl
set_option maxRecDepth 10000 in
theorem wd_345 : ((Jvm.Cond.methodLink "SparklineLaw" (154 : Nat) ({ cls := "Sparkline", name := "leastAnew", desc := "(I)I" } : Jvm.MethodName))) ∈ zT := zT_in 345 (by decide +kernel) rfl
set_option maxRecDepth 10000 in
theorem wd_346 : ((Jvm.Cond.instanceMethod ({ cls := "Sparkline", name := "leastAnew", desc := "(I)I" } : Jvm.MethodName))) ∈ zT := zT_in 346 (by decide +kernel) rfl
set_option maxRecDepth 10000 in
theorem wd_347 : ((Jvm.Cond.selects "Sparkline" ({ cls := "Sparkline", name := "leastAnew", desc := "(I)I" } : Jvm.MethodName) ({ cls := "Sparkline", name := "leastAnew", desc := "(I)I" } : Jvm.MethodName))) ∈ zT := zT_in 347 (by decide +kernel) rfl
set_option maxRecDepth 10000 in
theorem wd_348 : ((Jvm.Cond.code ({ cls := "Sparkline", name := "leastAnew", desc := "(I)I" } : Jvm.MethodName) prog_1_method_11_code (2 : Nat) (Option.some Jvm.ClassFile.FieldType.int))) ∈ zT := zT_in 348 (by decide +kernel) rfl
set_option maxRecDepth 10000 in
theorem wd_349 : ((Jvm.Cond.methodLink "Sparkline" (163 : Nat) ({ cls := "Sparkline$Orders", name := "leastByTable", desc := "(LSparkline$Harness;I)I" } : Jvm.MethodName))) ∈ zT := zT_in 349 (by decide +kernel) rfl
set_option maxRecDepth 10000 in
theorem wd_350 : ((Jvm.Cond.instanceMethod ({ cls := "Sparkline$Orders", name := "leastByTable", desc := "(LSparkline$Harness;I)I" } : Jvm.MethodName))) ∈ zT := zT_in 350 (by decide +kernel) rfl
set_option maxRecDepth 10000 in
theorem wd_351 : ((Jvm.Cond.selects "Sparkline$Orders" ({ cls := "Sparkline$Orders", name := "leastByTable", desc := "(LSparkline$Harness;I)I" } : Jvm.MethodName) ({ cls := "Sparkline$Orders", name := "leastByTable", desc := "(LSparkline$Harness;I)I" } : Jvm.MethodName))) ∈ zT := zT_in 351 (by decide +kernel) rfl
set_option maxRecDepth 10000 in
theorem wd_352 : ((Jvm.Cond.code ({ cls := "Sparkline$Orders", name := "leastByTable", desc := "(LSparkline$Harness;I)I" } : Jvm.MethodName) prog_7_method_8_code (4 : Nat) (Option.some Jvm.ClassFile.FieldType.int))) ∈ zT := zT_in 352 (by decide +kernel) rfl
set_option maxRecDepth 10000 in
theorem wd_353 : ((Jvm.Cond.methodLink "Sparkline$Orders" (69 : Nat) ({ cls := "Sparkline$Row", name := "fill", desc := "(I)V" } : Jvm.MethodName))) ∈ zT := zT_in 353 (by decide +kernel) rfl
set_option maxRecDepth 10000 in
theorem wd_354 : ((Jvm.Cond.methodLink "Sparkline$Orders" (72 : Nat) ({ cls := "Sparkline$Orders", name := "addFamily", desc := "()V" } : Jvm.MethodName))) ∈ zT := zT_in 354 (by decide +kernel) rfl
set_option maxRecDepth 10000 in
theorem wd_356 : ((Jvm.Cond.instanceMethod ({ cls := "Sparkline$Orders", name := "addFamily", desc := "()V" } : Jvm.MethodName))) ∈ zT := zT_in 356 (by decide +kernel) rfl
set_option maxRecDepth 10000 in
theorem wd_357 : ((Jvm.Cond.code ({ cls := "Sparkline$Orders", name := "addFamily", desc := "()V" } : Jvm.MethodName) prog_7_method_9_code (2 : Nat) (Option.none : Option Jvm.ClassFile.FieldType))) ∈ zT := zT_in 357 (by decide +kernel) rfl
set_option maxRecDepth 10000 in
theorem wd_358 : ((Jvm.Cond.methodLink "Sparkline$Orders" (75 : Nat) ({ cls := "Sparkline$Orders", name := "leastWithOneMore", desc := "(I)I" } : Jvm.MethodName))) ∈ zT := zT_in 358 (by decide +kernel) rfl
set_option maxRecDepth 10000 in
theorem wd_360 : ((Jvm.Cond.instanceMethod ({ cls := "Sparkline$Orders", name := "leastWithOneMore", desc := "(I)I" } : Jvm.MethodName))) ∈ zT := zT_in 360 (by decide +kernel) rfl
set_option maxRecDepth 10000 in
theorem wd_361 : ((Jvm.Cond.code ({ cls := "Sparkline$Orders", name := "leastWithOneMore", desc := "(I)I" } : Jvm.MethodName) prog_7_method_10_code (4 : Nat) (Option.some Jvm.ClassFile.FieldType.int))) ∈ zT := zT_in 361 (by decide +kernel) rfl
set_option maxRecDepth 10000 in
theorem wd_362 : ((Jvm.Cond.methodLink "SparklineLaw" (157 : Nat) ({ cls := "SparklineLaw", name := "part", desc := "([III)I" } : Jvm.MethodName))) ∈ zT := zT_in 362 (by decide +kernel) rfl
set_option maxRecDepth 10000 in
theorem wd_363 : ((Jvm.Cond.static ({ cls := "SparklineLaw", name := "part", desc := "([III)I" } : Jvm.MethodName))) ∈ zT := zT_in 363 (by decide +kernel) rfl
set_option maxRecDepth 10000 in
theorem wd_364 : ((Jvm.Cond.code ({ cls := "SparklineLaw", name := "part", desc := "([III)I" } : Jvm.MethodName) method_2_code (4 : Nat) (Option.some Jvm.ClassFile.FieldType.int))) ∈ zT := zT_code 364 (by decide +kernel) rfl
set_option maxRecDepth 10000 in
theorem wd_365 : ((Jvm.Cond.constant "SparklineLaw" (7 : Nat) (2147483647 : Int32))) ∈ zT := zT_in 365 (by decide +kernel) rfl
set_option maxRecDepth 10000 in
theorem wd_366 : ((Jvm.Cond.methodLink "SparklineLaw" (128 : Nat) ({ cls := "SparklineLaw", name := "does", desc := "(LSparkline;IIIIII)I" } : Jvm.MethodName))) ∈ zT := zT_in 366 (by decide +kernel) rfl
set_option maxRecDepth 10000 in
theorem wd_367 : ((Jvm.Cond.static ({ cls := "SparklineLaw", name := "does", desc := "(LSparkline;IIIIII)I" } : Jvm.MethodName))) ∈ zT := zT_in 367 (by decide +kernel) rfl
set_option maxRecDepth 10000 in
theorem wd_368 : ((Jvm.Cond.codeWith ({ cls := "SparklineLaw", name := "does", desc := "(LSparkline;IIIIII)I" } : Jvm.MethodName) method_3_code (8 : Nat) (Option.some Jvm.ClassFile.FieldType.int) [((0 : Nat), (370 : Nat), (371 : Nat), (91 : Nat)), ((0 : Nat), (370 : Nat), (376 : Nat), (94 : Nat)), ((0 : Nat), (370 : Nat), (381 : Nat), (97 : Nat))])) ∈ zT := zT_in 368 (by decide +kernel) rfl
set_option maxRecDepth 10000 in
theorem wd_369 : ((Jvm.Cond.classLink "SparklineLaw" (91 : Nat) "java/lang/IndexOutOfBoundsException")) ∈ zT := zT_in 369 (by decide +kernel) rfl
set_option maxRecDepth 10000 in
theorem wd_370 : ((Jvm.Cond.classLink "SparklineLaw" (94 : Nat) "java/lang/IllegalArgumentException")) ∈ zT := zT_in 370 (by decide +kernel) rfl
set_option maxRecDepth 10000 in
theorem wd_371 : ((Jvm.Cond.classLink "SparklineLaw" (97 : Nat) "java/lang/IllegalStateException")) ∈ zT := zT_in 371 (by decide +kernel) rfl
set_option maxRecDepth 10000 in
theorem wd_372 : ((Jvm.Cond.methodLink "SparklineLaw" (8 : Nat) ({ cls := "Sparkline", name := "bundle", desc := "(IIII)I" } : Jvm.MethodName))) ∈ zT := zT_in 372 (by decide +kernel) rfl
set_option maxRecDepth 10000 in
theorem wd_373 : ((Jvm.Cond.instanceMethod ({ cls := "Sparkline", name := "bundle", desc := "(IIII)I" } : Jvm.MethodName))) ∈ zT := zT_in 373 (by decide +kernel) rfl
set_option maxRecDepth 10000 in
theorem wd_374 : ((Jvm.Cond.selects "Sparkline" ({ cls := "Sparkline", name := "bundle", desc := "(IIII)I" } : Jvm.MethodName) ({ cls := "Sparkline", name := "bundle", desc := "(IIII)I" } : Jvm.MethodName))) ∈ zT := zT_in 374 (by decide +kernel) rfl
set_option maxRecDepth 10000 in
theorem wd_375 : ((Jvm.Cond.code ({ cls := "Sparkline", name := "bundle", desc := "(IIII)I" } : Jvm.MethodName) prog_1_method_2_code (5 : Nat) (Option.some Jvm.ClassFile.FieldType.int))) ∈ zT := zT_in 375 (by decide +kernel) rfl
set_option maxRecDepth 10000 in
theorem wd_376 : ((Jvm.Cond.methodLink "Sparkline" (54 : Nat) ({ cls := "Sparkline", name := "isIndex", desc := "(II)Z" } : Jvm.MethodName))) ∈ zT := zT_in 376 (by decide +kernel) rfl
set_option maxRecDepth 10000 in
theorem wd_377 : ((Jvm.Cond.static ({ cls := "Sparkline", name := "isIndex", desc := "(II)Z" } : Jvm.MethodName))) ∈ zT := zT_in 377 (by decide +kernel) rfl
set_option maxRecDepth 10000 in
theorem wd_378 : ((Jvm.Cond.code ({ cls := "Sparkline", name := "isIndex", desc := "(II)Z" } : Jvm.MethodName) prog_1_method_34_code (2 : Nat) (Option.some Jvm.ClassFile.FieldType.boolean))) ∈ zT := zT_in 378 (by decide +kernel) rfl
set_option maxRecDepth 10000 in
theorem wd_379 : ((Jvm.Cond.methodLink "Sparkline" (58 : Nat) ({ cls := "Sparkline", name := "checkIndex", desc := "(Z)V" } : Jvm.MethodName))) ∈ zT := zT_in 379 (by decide +kernel) rfl
set_option maxRecDepth 10000 in
theorem wd_380 : ((Jvm.Cond.static ({ cls := "Sparkline", name := "checkIndex", desc := "(Z)V" } : Jvm.MethodName))) ∈ zT := zT_in 380 (by decide +kernel) rfl
set_option maxRecDepth 10000 in
theorem wd_381 : ((Jvm.Cond.code ({ cls := "Sparkline", name := "checkIndex", desc := "(Z)V" } : Jvm.MethodName) prog_1_method_30_code (1 : Nat) (Option.none : Option Jvm.ClassFile.FieldType))) ∈ zT := zT_in 381 (by decide +kernel) rfl
set_option maxRecDepth 10000 in
theorem wd_382 : ((Jvm.Cond.classLink "Sparkline" (299 : Nat) "java/lang/IndexOutOfBoundsException")) ∈ zT := zT_in 382 (by decide +kernel) rfl
set_option maxRecDepth 10000 in
theorem wd_397 : ((Jvm.Cond.methodLink "Sparkline" (72 : Nat) ({ cls := "java/util/ArrayList", name := "size", desc := "()I" } : Jvm.MethodName))) ∈ zT := zT_in 397 (by decide +kernel) rfl
set_option maxRecDepth 10000 in
theorem wd_398 : ((Jvm.Cond.methodLink "Sparkline" (76 : Nat) ({ cls := "Sparkline", name := "checkState", desc := "(Z)V" } : Jvm.MethodName))) ∈ zT := zT_in 398 (by decide +kernel) rfl
set_option maxRecDepth 10000 in
theorem wd_399 : ((Jvm.Cond.static ({ cls := "Sparkline", name := "checkState", desc := "(Z)V" } : Jvm.MethodName))) ∈ zT := zT_in 399 (by decide +kernel) rfl
set_option maxRecDepth 10000 in
theorem wd_400 : ((Jvm.Cond.code ({ cls := "Sparkline", name := "checkState", desc := "(Z)V" } : Jvm.MethodName) prog_1_method_32_code (1 : Nat) (Option.none : Option Jvm.ClassFile.FieldType))) ∈ zT := zT_in 400 (by decide +kernel) rfl
set_option maxRecDepth 10000 in
theorem wd_401 : ((Jvm.Cond.classLink "Sparkline" (305 : Nat) "java/lang/IllegalStateException")) ∈ zT := zT_in 401 (by decide +kernel) rfl
set_option maxRecDepth 10000 in
theorem wd_416 : ((Jvm.Cond.methodLink "Sparkline" (79 : Nat) ({ cls := "Sparkline$Harness", name := "addBundle", desc := "(IIII)I" } : Jvm.MethodName))) ∈ zT := zT_in 416 (by decide +kernel) rfl
set_option maxRecDepth 10000 in
theorem wd_417 : ((Jvm.Cond.instanceMethod ({ cls := "Sparkline$Harness", name := "addBundle", desc := "(IIII)I" } : Jvm.MethodName))) ∈ zT := zT_in 417 (by decide +kernel) rfl
set_option maxRecDepth 10000 in
theorem wd_418 : ((Jvm.Cond.selects "Sparkline$Harness" ({ cls := "Sparkline$Harness", name := "addBundle", desc := "(IIII)I" } : Jvm.MethodName) ({ cls := "Sparkline$Harness", name := "addBundle", desc := "(IIII)I" } : Jvm.MethodName))) ∈ zT := zT_in 418 (by decide +kernel) rfl
set_option maxRecDepth 10000 in
theorem wd_419 : ((Jvm.Cond.code ({ cls := "Sparkline$Harness", name := "addBundle", desc := "(IIII)I" } : Jvm.MethodName) prog_6_method_2_code (5 : Nat) (Option.some Jvm.ClassFile.FieldType.int))) ∈ zT := zT_in 419 (by decide +kernel) rfl
set_option maxRecDepth 10000 in
theorem wd_420 : ((Jvm.Cond.classLink "Sparkline$Harness" (33 : Nat) "Sparkline$Bundle")) ∈ zT := zT_in 420 (by decide +kernel) rfl
set_option maxRecDepth 10000 in
theorem wd_421 : ((Jvm.Cond.instantiable "Sparkline$Bundle" (5 : Nat))) ∈ zT := zT_in 421 (by decide +kernel) rfl
set_option maxRecDepth 10000 in
theorem wd_422 : ((Jvm.Cond.methodLink "Sparkline$Harness" (39 : Nat) ({ cls := "Sparkline$Bundle", name := "<init>", desc := "(IIIII)V" } : Jvm.MethodName))) ∈ zT := zT_in 422 (by decide +kernel) rfl
set_option maxRecDepth 10000 in
theorem wd_423 : ((Jvm.Cond.instanceMethod ({ cls := "Sparkline$Bundle", name := "<init>", desc := "(IIIII)V" } : Jvm.MethodName))) ∈ zT := zT_in 423 (by decide +kernel) rfl
set_option maxRecDepth 10000 in
theorem wd_424 : ((Jvm.Cond.code ({ cls := "Sparkline$Bundle", name := "<init>", desc := "(IIIII)V" } : Jvm.MethodName) prog_3_method_1_code (6 : Nat) (Option.none : Option Jvm.ClassFile.FieldType))) ∈ zT := zT_in 424 (by decide +kernel) rfl
set_option maxRecDepth 10000 in
theorem wd_425 : ((Jvm.Cond.methodLink "Sparkline$Bundle" (3 : Nat) ({ cls := "java/lang/Object", name := "<init>", desc := "()V" } : Jvm.MethodName))) ∈ zT := zT_in 425 (by decide +kernel) rfl
set_option maxRecDepth 10000 in
theorem wd_426 : ((Jvm.Cond.fieldLink "Sparkline$Bundle" (9 : Nat) "Sparkline$Bundle" "number" "I")) ∈ zT := zT_in 426 (by decide +kernel) rfl
set_option maxRecDepth 10000 in
theorem wd_427 : ((Jvm.Cond.fieldLink "Sparkline$Wire" (69 : Nat) "Sparkline$Bundle" "number" "I")) ∈ zT := zT_in 427 (by decide +kernel) rfl
set_option maxRecDepth 10000 in
theorem wd_428 : ((Jvm.Cond.fieldLink "Sparkline$Bundle" (15 : Nat) "Sparkline$Bundle" "node" "I")) ∈ zT := zT_in 428 (by decide +kernel) rfl
set_option maxRecDepth 10000 in
theorem wd_429 : ((Jvm.Cond.fieldLink "Sparkline$Harness" (81 : Nat) "Sparkline$Bundle" "node" "I")) ∈ zT := zT_in 429 (by decide +kernel) rfl
set_option maxRecDepth 10000 in
theorem wd_430 : ((Jvm.Cond.fieldLink "Sparkline$Bundle" (18 : Nat) "Sparkline$Bundle" "other" "I")) ∈ zT := zT_in 430 (by decide +kernel) rfl
set_option maxRecDepth 10000 in
theorem wd_431 : ((Jvm.Cond.fieldLink "Sparkline$Harness" (88 : Nat) "Sparkline$Bundle" "other" "I")) ∈ zT := zT_in 431 (by decide +kernel) rfl
set_option maxRecDepth 10000 in
theorem wd_432 : ((Jvm.Cond.fieldLink "Sparkline$Bundle" (21 : Nat) "Sparkline$Bundle" "length" "I")) ∈ zT := zT_in 432 (by decide +kernel) rfl
set_option maxRecDepth 10000 in
theorem wd_433 : ((Jvm.Cond.fieldLink "Sparkline$Wire" (53 : Nat) "Sparkline$Bundle" "length" "I")) ∈ zT := zT_in 433 (by decide +kernel) rfl
set_option maxRecDepth 10000 in
theorem wd_434 : ((Jvm.Cond.fieldLink "Sparkline$Bundle" (24 : Nat) "Sparkline$Bundle" "room" "I")) ∈ zT := zT_in 434 (by decide +kernel) rfl
set_option maxRecDepth 10000 in
theorem wd_435 : ((Jvm.Cond.fieldLink "Sparkline$Wire" (45 : Nat) "Sparkline$Bundle" "room" "I")) ∈ zT := zT_in 435 (by decide +kernel) rfl
set_option maxRecDepth 10000 in
theorem wd_436 : ((Jvm.Cond.fieldLink "Sparkline$Harness" (78 : Nat) "Sparkline$Bundle" "room" "I")) ∈ zT := zT_in 436 (by decide +kernel) rfl
set_option maxRecDepth 10000 in
theorem wd_437 : ((Jvm.Cond.laysFinal "Sparkline$Bundle" "Sparkline$Bundle" "number" "I")) ∈ zT := zT_in 437 (by decide +kernel) rfl
set_option maxRecDepth 10000 in
theorem wd_439 : ((Jvm.Cond.laysFinal "Sparkline$Bundle" "Sparkline$Bundle" "node" "I")) ∈ zT := zT_in 439 (by decide +kernel) rfl
set_option maxRecDepth 10000 in
theorem wd_441 : ((Jvm.Cond.laysFinal "Sparkline$Bundle" "Sparkline$Bundle" "other" "I")) ∈ zT := zT_in 441 (by decide +kernel) rfl
set_option maxRecDepth 10000 in
theorem wd_443 : ((Jvm.Cond.laysFinal "Sparkline$Bundle" "Sparkline$Bundle" "length" "I")) ∈ zT := zT_in 443 (by decide +kernel) rfl
set_option maxRecDepth 10000 in
theorem wd_445 : ((Jvm.Cond.lays "Sparkline$Bundle" "Sparkline$Bundle" "room" "I")) ∈ zT := zT_in 445 (by decide +kernel) rfl
set_option maxRecDepth 10000 in
theorem wd_448 : ((Jvm.Cond.methodLink "Sparkline$Harness" (42 : Nat) ({ cls := "java/util/ArrayList", name := "add", desc := "(Ljava/lang/Object;)Z" } : Jvm.MethodName))) ∈ zT := zT_in 448 (by decide +kernel) rfl
set_option maxRecDepth 10000 in
theorem wd_449 : ((Jvm.Cond.instanceMethod ({ cls := "java/util/ArrayList", name := "add", desc := "(Ljava/lang/Object;)Z" } : Jvm.MethodName))) ∈ zT := zT_in 449 (by decide +kernel) rfl
set_option maxRecDepth 10000 in
theorem wd_450 : ((Jvm.Cond.selects "java/util/ArrayList" ({ cls := "java/util/ArrayList", name := "add", desc := "(Ljava/lang/Object;)Z" } : Jvm.MethodName) ({ cls := "java/util/ArrayList", name := "add", desc := "(Ljava/lang/Object;)Z" } : Jvm.MethodName))) ∈ zT := zT_in 450 (by decide +kernel) rfl
set_option maxRecDepth 10000 in
theorem wd_451 : ((Jvm.Cond.code ({ cls := "java/util/ArrayList", name := "add", desc := "(Ljava/lang/Object;)Z" } : Jvm.MethodName) prog_29_method_25_code (2 : Nat) (Option.some Jvm.ClassFile.FieldType.boolean))) ∈ zT := zT_in 451 (by decide +kernel) rfl
set_option maxRecDepth 10000 in
theorem wd_452 : ((Jvm.Cond.methodLink "java/util/ArrayList" (131 : Nat) ({ cls := "java/util/ArrayList", name := "add", desc := "(Ljava/lang/Object;[Ljava/lang/Object;I)V" } : Jvm.MethodName))) ∈ zT := zT_in 452 (by decide +kernel) rfl
set_option maxRecDepth 10000 in
theorem wd_454 : ((Jvm.Cond.instanceMethod ({ cls := "java/util/ArrayList", name := "add", desc := "(Ljava/lang/Object;[Ljava/lang/Object;I)V" } : Jvm.MethodName))) ∈ zT := zT_in 454 (by decide +kernel) rfl
set_option maxRecDepth 10000 in
theorem wd_455 : ((Jvm.Cond.code ({ cls := "java/util/ArrayList", name := "add", desc := "(Ljava/lang/Object;[Ljava/lang/Object;I)V" } : Jvm.MethodName) prog_29_method_24_code (4 : Nat) (Option.none : Option Jvm.ClassFile.FieldType))) ∈ zT := zT_in 455 (by decide +kernel) rfl
set_option maxRecDepth 10000 in
theorem wd_456 : ((Jvm.Cond.methodLink "java/util/ArrayList" (129 : Nat) ({ cls := "java/util/ArrayList", name := "grow", desc := "()[Ljava/lang/Object;" } : Jvm.MethodName))) ∈ zT := zT_in 456 (by decide +kernel) rfl
set_option maxRecDepth 10000 in
theorem wd_458 : ((Jvm.Cond.instanceMethod ({ cls := "java/util/ArrayList", name := "grow", desc := "()[Ljava/lang/Object;" } : Jvm.MethodName))) ∈ zT := zT_in 458 (by decide +kernel) rfl
set_option maxRecDepth 10000 in
theorem wd_459 : ((Jvm.Cond.code ({ cls := "java/util/ArrayList", name := "grow", desc := "()[Ljava/lang/Object;" } : Jvm.MethodName) prog_29_method_7_code (1 : Nat) (Option.some (Jvm.ClassFile.FieldType.array (Jvm.ClassFile.FieldType.object "java/lang/Object"))))) ∈ zT := zT_in 459 (by decide +kernel) rfl
set_option maxRecDepth 10000 in
theorem wd_460 : ((Jvm.Cond.methodLink "java/util/ArrayList" (69 : Nat) ({ cls := "java/util/ArrayList", name := "grow", desc := "(I)[Ljava/lang/Object;" } : Jvm.MethodName))) ∈ zT := zT_in 460 (by decide +kernel) rfl
set_option maxRecDepth 10000 in
theorem wd_462 : ((Jvm.Cond.instanceMethod ({ cls := "java/util/ArrayList", name := "grow", desc := "(I)[Ljava/lang/Object;" } : Jvm.MethodName))) ∈ zT := zT_in 462 (by decide +kernel) rfl
set_option maxRecDepth 10000 in
theorem wd_463 : ((Jvm.Cond.code ({ cls := "java/util/ArrayList", name := "grow", desc := "(I)[Ljava/lang/Object;" } : Jvm.MethodName) prog_29_method_6_code (4 : Nat) (Option.some (Jvm.ClassFile.FieldType.array (Jvm.ClassFile.FieldType.object "java/lang/Object"))))) ∈ zT := zT_in 463 (by decide +kernel) rfl
set_option maxRecDepth 10000 in
theorem wd_464 : ((Jvm.Cond.methodLink "java/util/ArrayList" (73 : Nat) ({ cls := "jdk/internal/util/ArraysSupport", name := "newLength", desc := "(III)I" } : Jvm.MethodName))) ∈ zT := zT_in 464 (by decide +kernel) rfl
set_option maxRecDepth 10000 in
theorem wd_465 : ((Jvm.Cond.static ({ cls := "jdk/internal/util/ArraysSupport", name := "newLength", desc := "(III)I" } : Jvm.MethodName))) ∈ zT := zT_in 465 (by decide +kernel) rfl
set_option maxRecDepth 10000 in
theorem wd_466 : ((Jvm.Cond.code ({ cls := "jdk/internal/util/ArraysSupport", name := "newLength", desc := "(III)I" } : Jvm.MethodName) prog_36_method_27_code (4 : Nat) (Option.some Jvm.ClassFile.FieldType.int))) ∈ zT := zT_in 466 (by decide +kernel) rfl
set_option maxRecDepth 10000 in
theorem wd_467 : ((Jvm.Cond.methodLink "jdk/internal/util/ArraysSupport" (194 : Nat) ({ cls := "java/lang/Math", name := "max", desc := "(II)I" } : Jvm.MethodName))) ∈ zT := zT_in 467 (by decide +kernel) rfl
set_option maxRecDepth 10000 in
theorem wd_468 : ((Jvm.Cond.static ({ cls := "java/lang/Math", name := "max", desc := "(II)I" } : Jvm.MethodName))) ∈ zT := zT_in 468 (by decide +kernel) rfl
set_option maxRecDepth 10000 in
theorem wd_469 : ((Jvm.Cond.code ({ cls := "java/lang/Math", name := "max", desc := "(II)I" } : Jvm.MethodName) prog_23_method_65_code (2 : Nat) (Option.some Jvm.ClassFile.FieldType.int))) ∈ zT := zT_in 469 (by decide +kernel) rfl
set_option maxRecDepth 10000 in
theorem wd_470 : ((Jvm.Cond.constant "jdk/internal/util/ArraysSupport" (200 : Nat) (2147483639 : Int32))) ∈ zT := zT_in 470 (by decide +kernel) rfl
set_option maxRecDepth 10000 in
theorem wd_474 : ((Jvm.Cond.methodLink "java/util/ArrayList" (66 : Nat) ({ cls := "java/util/Arrays", name := "copyOf", desc := "([Ljava/lang/Object;I)[Ljava/lang/Object;" } : Jvm.MethodName))) ∈ zT := zT_in 474 (by decide +kernel) rfl
set_option maxRecDepth 10000 in
theorem wd_475 : ((Jvm.Cond.static ({ cls := "java/util/Arrays", name := "copyOf", desc := "([Ljava/lang/Object;I)[Ljava/lang/Object;" } : Jvm.MethodName))) ∈ zT := zT_in 475 (by decide +kernel) rfl
set_option maxRecDepth 10000 in
theorem wd_476 : ((Jvm.Cond.code ({ cls := "java/util/Arrays", name := "copyOf", desc := "([Ljava/lang/Object;I)[Ljava/lang/Object;" } : Jvm.MethodName) prog_30_method_119_code (2 : Nat) (Option.some (Jvm.ClassFile.FieldType.array (Jvm.ClassFile.FieldType.object "java/lang/Object"))))) ∈ zT := zT_in 476 (by decide +kernel) rfl
set_option maxRecDepth 10000 in
theorem wd_477 : ((Jvm.Cond.methodLink "java/util/Arrays" (86 : Nat) ({ cls := "java/lang/Object", name := "getClass", desc := "()Ljava/lang/Class;" } : Jvm.MethodName))) ∈ zT := zT_in 477 (by decide +kernel) rfl
set_option maxRecDepth 10000 in
theorem wd_478 : ((Jvm.Cond.instanceMethod ({ cls := "java/lang/Object", name := "getClass", desc := "()Ljava/lang/Class;" } : Jvm.MethodName))) ∈ zT := zT_in 478 (by decide +kernel) rfl
set_option maxRecDepth 10000 in
theorem wd_496 : ((Jvm.Cond.native ({ cls := "java/lang/Object", name := "getClass", desc := "()Ljava/lang/Class;" } : Jvm.MethodName))) ∈ zT := zT_in 496 (by decide +kernel) rfl
set_option maxRecDepth 10000 in
theorem wd_497 : ((Jvm.Cond.methodLink "java/util/Arrays" (300 : Nat) ({ cls := "java/util/Arrays", name := "copyOf", desc := "([Ljava/lang/Object;ILjava/lang/Class;)[Ljava/lang/Object;" } : Jvm.MethodName))) ∈ zT := zT_in 497 (by decide +kernel) rfl
set_option maxRecDepth 10000 in
theorem wd_498 : ((Jvm.Cond.static ({ cls := "java/util/Arrays", name := "copyOf", desc := "([Ljava/lang/Object;ILjava/lang/Class;)[Ljava/lang/Object;" } : Jvm.MethodName))) ∈ zT := zT_in 498 (by decide +kernel) rfl
set_option maxRecDepth 10000 in
theorem wd_499 : ((Jvm.Cond.code ({ cls := "java/util/Arrays", name := "copyOf", desc := "([Ljava/lang/Object;ILjava/lang/Class;)[Ljava/lang/Object;" } : Jvm.MethodName) prog_30_method_120_code (4 : Nat) (Option.some (Jvm.ClassFile.FieldType.array (Jvm.ClassFile.FieldType.object "java/lang/Object"))))) ∈ zT := zT_in 499 (by decide +kernel) rfl
set_option maxRecDepth 10000 in
theorem wd_500 : ((Jvm.Cond.classLink "java/util/Arrays" (110 : Nat) "[Ljava/lang/Object;")) ∈ zT := zT_in 500 (by decide +kernel) rfl
set_option maxRecDepth 10000 in
theorem wd_502 : ((Jvm.Cond.classLink "java/util/Arrays" (2 : Nat) "java/lang/Object")) ∈ zT := zT_in 502 (by decide +kernel) rfl
set_option maxRecDepth 10000 in
theorem wd_503 : ((Jvm.Cond.methodLink "java/util/Arrays" (304 : Nat) ({ cls := "java/lang/Math", name := "min", desc := "(II)I" } : Jvm.MethodName))) ∈ zT := zT_in 503 (by decide +kernel) rfl
set_option maxRecDepth 10000 in
theorem wd_504 : ((Jvm.Cond.methodLink "java/util/Arrays" (150 : Nat) ({ cls := "java/lang/System", name := "arraycopy", desc := "(Ljava/lang/Object;ILjava/lang/Object;II)V" } : Jvm.MethodName))) ∈ zT := zT_in 504 (by decide +kernel) rfl
set_option maxRecDepth 10000 in
theorem wd_505 : ((Jvm.Cond.static ({ cls := "java/lang/System", name := "arraycopy", desc := "(Ljava/lang/Object;ILjava/lang/Object;II)V" } : Jvm.MethodName))) ∈ zT := zT_in 505 (by decide +kernel) rfl
set_option maxRecDepth 10000 in
theorem wd_506 : ((Jvm.Cond.native ({ cls := "java/lang/System", name := "arraycopy", desc := "(Ljava/lang/Object;ILjava/lang/Object;II)V" } : Jvm.MethodName))) ∈ zT := zT_in 506 (by decide +kernel) rfl
set_option maxRecDepth 10000 in
theorem wd_507 : ((Jvm.Cond.methodLink "java/util/ArrayList" (79 : Nat) ({ cls := "java/lang/Math", name := "max", desc := "(II)I" } : Jvm.MethodName))) ∈ zT := zT_in 507 (by decide +kernel) rfl
set_option maxRecDepth 10000 in
theorem wd_508 : ((Jvm.Cond.classLink "java/util/ArrayList" (7 : Nat) "java/lang/Object")) ∈ zT := zT_in 508 (by decide +kernel) rfl
set_option maxRecDepth 10000 in
theorem wd_509 : ((Jvm.Cond.methodLink "SparklineLaw" (14 : Nat) ({ cls := "Sparkline", name := "connector", desc := "(III)I" } : Jvm.MethodName))) ∈ zT := zT_in 509 (by decide +kernel) rfl
set_option maxRecDepth 10000 in
theorem wd_510 : ((Jvm.Cond.instanceMethod ({ cls := "Sparkline", name := "connector", desc := "(III)I" } : Jvm.MethodName))) ∈ zT := zT_in 510 (by decide +kernel) rfl
set_option maxRecDepth 10000 in
theorem wd_511 : ((Jvm.Cond.selects "Sparkline" ({ cls := "Sparkline", name := "connector", desc := "(III)I" } : Jvm.MethodName) ({ cls := "Sparkline", name := "connector", desc := "(III)I" } : Jvm.MethodName))) ∈ zT := zT_in 511 (by decide +kernel) rfl
set_option maxRecDepth 10000 in
theorem wd_512 : ((Jvm.Cond.code ({ cls := "Sparkline", name := "connector", desc := "(III)I" } : Jvm.MethodName) prog_1_method_3_code (4 : Nat) (Option.some Jvm.ClassFile.FieldType.int))) ∈ zT := zT_in 512 (by decide +kernel) rfl
set_option maxRecDepth 10000 in
theorem wd_513 : ((Jvm.Cond.methodLink "Sparkline" (86 : Nat) ({ cls := "Sparkline$Harness", name := "addConnector", desc := "(III)I" } : Jvm.MethodName))) ∈ zT := zT_in 513 (by decide +kernel) rfl
set_option maxRecDepth 10000 in
theorem wd_514 : ((Jvm.Cond.instanceMethod ({ cls := "Sparkline$Harness", name := "addConnector", desc := "(III)I" } : Jvm.MethodName))) ∈ zT := zT_in 514 (by decide +kernel) rfl
set_option maxRecDepth 10000 in
theorem wd_515 : ((Jvm.Cond.selects "Sparkline$Harness" ({ cls := "Sparkline$Harness", name := "addConnector", desc := "(III)I" } : Jvm.MethodName) ({ cls := "Sparkline$Harness", name := "addConnector", desc := "(III)I" } : Jvm.MethodName))) ∈ zT := zT_in 515 (by decide +kernel) rfl
set_option maxRecDepth 10000 in
theorem wd_516 : ((Jvm.Cond.code ({ cls := "Sparkline$Harness", name := "addConnector", desc := "(III)I" } : Jvm.MethodName) prog_6_method_3_code (4 : Nat) (Option.some Jvm.ClassFile.FieldType.int))) ∈ zT := zT_in 516 (by decide +kernel) rfl
set_option maxRecDepth 10000 in
theorem wd_517 : ((Jvm.Cond.classLink "Sparkline$Harness" (46 : Nat) "Sparkline$Connector")) ∈ zT := zT_in 517 (by decide +kernel) rfl
set_option maxRecDepth 10000 in
theorem wd_518 : ((Jvm.Cond.instantiable "Sparkline$Connector" (5 : Nat))) ∈ zT := zT_in 518 (by decide +kernel) rfl
set_option maxRecDepth 10000 in
theorem wd_519 : ((Jvm.Cond.methodLink "Sparkline$Harness" (48 : Nat) ({ cls := "Sparkline$Connector", name := "<init>", desc := "(III)V" } : Jvm.MethodName))) ∈ zT := zT_in 519 (by decide +kernel) rfl
set_option maxRecDepth 10000 in
theorem wd_520 : ((Jvm.Cond.instanceMethod ({ cls := "Sparkline$Connector", name := "<init>", desc := "(III)V" } : Jvm.MethodName))) ∈ zT := zT_in 520 (by decide +kernel) rfl
set_option maxRecDepth 10000 in
theorem wd_521 : ((Jvm.Cond.code ({ cls := "Sparkline$Connector", name := "<init>", desc := "(III)V" } : Jvm.MethodName) prog_4_method_1_code (4 : Nat) (Option.none : Option Jvm.ClassFile.FieldType))) ∈ zT := zT_in 521 (by decide +kernel) rfl
set_option maxRecDepth 10000 in
theorem wd_522 : ((Jvm.Cond.methodLink "Sparkline$Connector" (3 : Nat) ({ cls := "java/lang/Object", name := "<init>", desc := "()V" } : Jvm.MethodName))) ∈ zT := zT_in 522 (by decide +kernel) rfl
set_option maxRecDepth 10000 in
theorem wd_523 : ((Jvm.Cond.fieldLink "Sparkline$Connector" (15 : Nat) "Sparkline$Connector" "node" "I")) ∈ zT := zT_in 523 (by decide +kernel) rfl
set_option maxRecDepth 10000 in
theorem wd_524 : ((Jvm.Cond.fieldLink "Sparkline" (116 : Nat) "Sparkline$Connector" "node" "I")) ∈ zT := zT_in 524 (by decide +kernel) rfl
set_option maxRecDepth 10000 in
theorem wd_525 : ((Jvm.Cond.fieldLink "Sparkline$Harness" (116 : Nat) "Sparkline$Connector" "node" "I")) ∈ zT := zT_in 525 (by decide +kernel) rfl
set_option maxRecDepth 10000 in
theorem wd_526 : ((Jvm.Cond.fieldLink "Sparkline$Connector" (18 : Nat) "Sparkline$Connector" "cavities" "I")) ∈ zT := zT_in 526 (by decide +kernel) rfl
set_option maxRecDepth 10000 in
theorem wd_527 : ((Jvm.Cond.fieldLink "Sparkline" (106 : Nat) "Sparkline$Connector" "cavities" "I")) ∈ zT := zT_in 527 (by decide +kernel) rfl
set_option maxRecDepth 10000 in
theorem wd_528 : ((Jvm.Cond.fieldLink "Sparkline$Connector" (21 : Nat) "Sparkline$Connector" "key" "I")) ∈ zT := zT_in 528 (by decide +kernel) rfl
set_option maxRecDepth 10000 in
theorem wd_529 : ((Jvm.Cond.fieldLink "Sparkline$Connector" (9 : Nat) "Sparkline$Connector" "mate" "I")) ∈ zT := zT_in 529 (by decide +kernel) rfl
set_option maxRecDepth 10000 in
theorem wd_530 : ((Jvm.Cond.fieldLink "Sparkline" (100 : Nat) "Sparkline$Connector" "mate" "I")) ∈ zT := zT_in 530 (by decide +kernel) rfl
set_option maxRecDepth 10000 in
theorem wd_531 : ((Jvm.Cond.fieldLink "Sparkline$Harness" (59 : Nat) "Sparkline$Connector" "mate" "I")) ∈ zT := zT_in 531 (by decide +kernel) rfl
set_option maxRecDepth 10000 in
theorem wd_532 : ((Jvm.Cond.fieldLink "Sparkline$Connector" (24 : Nat) "Sparkline$Connector" "taken" "I")) ∈ zT := zT_in 532 (by decide +kernel) rfl
set_option maxRecDepth 10000 in
theorem wd_533 : ((Jvm.Cond.laysFinal "Sparkline$Connector" "Sparkline$Connector" "node" "I")) ∈ zT := zT_in 533 (by decide +kernel) rfl
set_option maxRecDepth 10000 in
theorem wd_535 : ((Jvm.Cond.laysFinal "Sparkline$Connector" "Sparkline$Connector" "cavities" "I")) ∈ zT := zT_in 535 (by decide +kernel) rfl
set_option maxRecDepth 10000 in
theorem wd_537 : ((Jvm.Cond.laysFinal "Sparkline$Connector" "Sparkline$Connector" "key" "I")) ∈ zT := zT_in 537 (by decide +kernel) rfl
set_option maxRecDepth 10000 in
theorem wd_539 : ((Jvm.Cond.lays "Sparkline$Connector" "Sparkline$Connector" "mate" "I")) ∈ zT := zT_in 539 (by decide +kernel) rfl
set_option maxRecDepth 10000 in
theorem wd_541 : ((Jvm.Cond.lays "Sparkline$Connector" "Sparkline$Connector" "taken" "I")) ∈ zT := zT_in 541 (by decide +kernel) rfl
set_option maxRecDepth 10000 in
theorem wd_544 : ((Jvm.Cond.methodLink "SparklineLaw" (18 : Nat) ({ cls := "Sparkline", name := "mates", desc := "(II)I" } : Jvm.MethodName))) ∈ zT := zT_in 544 (by decide +kernel) rfl
set_option maxRecDepth 10000 in
theorem wd_545 : ((Jvm.Cond.instanceMethod ({ cls := "Sparkline", name := "mates", desc := "(II)I" } : Jvm.MethodName))) ∈ zT := zT_in 545 (by decide +kernel) rfl
set_option maxRecDepth 10000 in
theorem wd_546 : ((Jvm.Cond.selects "Sparkline" ({ cls := "Sparkline", name := "mates", desc := "(II)I" } : Jvm.MethodName) ({ cls := "Sparkline", name := "mates", desc := "(II)I" } : Jvm.MethodName))) ∈ zT := zT_in 546 (by decide +kernel) rfl
set_option maxRecDepth 10000 in
theorem wd_547 : ((Jvm.Cond.code ({ cls := "Sparkline", name := "mates", desc := "(II)I" } : Jvm.MethodName) prog_1_method_4_code (5 : Nat) (Option.some Jvm.ClassFile.FieldType.int))) ∈ zT := zT_in 547 (by decide +kernel) rfl
set_option maxRecDepth 10000 in
theorem wd_548 : ((Jvm.Cond.methodLink "Sparkline" (90 : Nat) ({ cls := "Sparkline", name := "connectorAt", desc := "(I)LSparkline$Connector;" } : Jvm.MethodName))) ∈ zT := zT_in 548 (by decide +kernel) rfl
set_option maxRecDepth 10000 in
theorem wd_550 : ((Jvm.Cond.instanceMethod ({ cls := "Sparkline", name := "connectorAt", desc := "(I)LSparkline$Connector;" } : Jvm.MethodName))) ∈ zT := zT_in 550 (by decide +kernel) rfl
set_option maxRecDepth 10000 in
theorem wd_551 : ((Jvm.Cond.code ({ cls := "Sparkline", name := "connectorAt", desc := "(I)LSparkline$Connector;" } : Jvm.MethodName) prog_1_method_36_code (2 : Nat) (Option.some (Jvm.ClassFile.FieldType.object "Sparkline$Connector")))) ∈ zT := zT_in 551 (by decide +kernel) rfl
set_option maxRecDepth 10000 in
theorem wd_552 : ((Jvm.Cond.methodLink "Sparkline" (292 : Nat) ({ cls := "java/util/ArrayList", name := "get", desc := "(I)Ljava/lang/Object;" } : Jvm.MethodName))) ∈ zT := zT_in 552 (by decide +kernel) rfl
set_option maxRecDepth 10000 in
theorem wd_553 : ((Jvm.Cond.classLink "Sparkline" (95 : Nat) "Sparkline$Connector")) ∈ zT := zT_in 553 (by decide +kernel) rfl
set_option maxRecDepth 10000 in
theorem wd_554 : ((Jvm.Cond.methodLink "Sparkline" (94 : Nat) ({ cls := "Sparkline$Connector", name := "fits", desc := "(LSparkline$Connector;)Z" } : Jvm.MethodName))) ∈ zT := zT_in 554 (by decide +kernel) rfl
set_option maxRecDepth 10000 in
theorem wd_555 : ((Jvm.Cond.instanceMethod ({ cls := "Sparkline$Connector", name := "fits", desc := "(LSparkline$Connector;)Z" } : Jvm.MethodName))) ∈ zT := zT_in 555 (by decide +kernel) rfl
set_option maxRecDepth 10000 in
theorem wd_556 : ((Jvm.Cond.selects "Sparkline$Connector" ({ cls := "Sparkline$Connector", name := "fits", desc := "(LSparkline$Connector;)Z" } : Jvm.MethodName) ({ cls := "Sparkline$Connector", name := "fits", desc := "(LSparkline$Connector;)Z" } : Jvm.MethodName))) ∈ zT := zT_in 556 (by decide +kernel) rfl
set_option maxRecDepth 10000 in
theorem wd_557 : ((Jvm.Cond.code ({ cls := "Sparkline$Connector", name := "fits", desc := "(LSparkline$Connector;)Z" } : Jvm.MethodName) prog_4_method_2_code (2 : Nat) (Option.some Jvm.ClassFile.FieldType.boolean))) ∈ zT := zT_in 557 (by decide +kernel) rfl
set_option maxRecDepth 10000 in
theorem wd_558 : ((Jvm.Cond.methodLink "Sparkline" (103 : Nat) ({ cls := "Sparkline$Harness", name := "pairsThatFitWrong", desc := "()I" } : Jvm.MethodName))) ∈ zT := zT_in 558 (by decide +kernel) rfl
set_option maxRecDepth 10000 in
theorem wd_559 : ((Jvm.Cond.instanceMethod ({ cls := "Sparkline$Harness", name := "pairsThatFitWrong", desc := "()I" } : Jvm.MethodName))) ∈ zT := zT_in 559 (by decide +kernel) rfl
set_option maxRecDepth 10000 in
theorem wd_560 : ((Jvm.Cond.selects "Sparkline$Harness" ({ cls := "Sparkline$Harness", name := "pairsThatFitWrong", desc := "()I" } : Jvm.MethodName) ({ cls := "Sparkline$Harness", name := "pairsThatFitWrong", desc := "()I" } : Jvm.MethodName))) ∈ zT := zT_in 560 (by decide +kernel) rfl
set_option maxRecDepth 10000 in
theorem wd_561 : ((Jvm.Cond.code ({ cls := "Sparkline$Harness", name := "pairsThatFitWrong", desc := "()I" } : Jvm.MethodName) prog_6_method_4_code (5 : Nat) (Option.some Jvm.ClassFile.FieldType.int))) ∈ zT := zT_in 561 (by decide +kernel) rfl
set_option maxRecDepth 10000 in
theorem wd_562 : ((Jvm.Cond.methodLink "Sparkline$Harness" (55 : Nat) ({ cls := "Sparkline$Connector", name := "fits", desc := "(LSparkline$Connector;)Z" } : Jvm.MethodName))) ∈ zT := zT_in 562 (by decide +kernel) rfl
set_option maxRecDepth 10000 in
theorem wd_563 : ((Jvm.Cond.methodLink "SparklineLaw" (22 : Nat) ({ cls := "Sparkline", name := "wire", desc := "(IIIII)I" } : Jvm.MethodName))) ∈ zT := zT_in 563 (by decide +kernel) rfl
set_option maxRecDepth 10000 in
theorem wd_564 : ((Jvm.Cond.instanceMethod ({ cls := "Sparkline", name := "wire", desc := "(IIIII)I" } : Jvm.MethodName))) ∈ zT := zT_in 564 (by decide +kernel) rfl
set_option maxRecDepth 10000 in
theorem wd_565 : ((Jvm.Cond.selects "Sparkline" ({ cls := "Sparkline", name := "wire", desc := "(IIIII)I" } : Jvm.MethodName) ({ cls := "Sparkline", name := "wire", desc := "(IIIII)I" } : Jvm.MethodName))) ∈ zT := zT_in 565 (by decide +kernel) rfl
set_option maxRecDepth 10000 in
theorem wd_566 : ((Jvm.Cond.code ({ cls := "Sparkline", name := "wire", desc := "(IIIII)I" } : Jvm.MethodName) prog_1_method_5_code (8 : Nat) (Option.some Jvm.ClassFile.FieldType.int))) ∈ zT := zT_in 566 (by decide +kernel) rfl
set_option maxRecDepth 10000 in
theorem wd_567 : ((Jvm.Cond.methodLink "Sparkline" (109 : Nat) ({ cls := "Sparkline$Connector", name := "isFree", desc := "(I)Z" } : Jvm.MethodName))) ∈ zT := zT_in 567 (by decide +kernel) rfl
set_option maxRecDepth 10000 in
theorem wd_568 : ((Jvm.Cond.instanceMethod ({ cls := "Sparkline$Connector", name := "isFree", desc := "(I)Z" } : Jvm.MethodName))) ∈ zT := zT_in 568 (by decide +kernel) rfl
set_option maxRecDepth 10000 in
theorem wd_569 : ((Jvm.Cond.selects "Sparkline$Connector" ({ cls := "Sparkline$Connector", name := "isFree", desc := "(I)Z" } : Jvm.MethodName) ({ cls := "Sparkline$Connector", name := "isFree", desc := "(I)Z" } : Jvm.MethodName))) ∈ zT := zT_in 569 (by decide +kernel) rfl
set_option maxRecDepth 10000 in
theorem wd_570 : ((Jvm.Cond.code ({ cls := "Sparkline$Connector", name := "isFree", desc := "(I)Z" } : Jvm.MethodName) prog_4_method_3_code (2 : Nat) (Option.some Jvm.ClassFile.FieldType.boolean))) ∈ zT := zT_in 570 (by decide +kernel) rfl
set_option maxRecDepth 10000 in
theorem wd_571 : ((Jvm.Cond.methodLink "Sparkline" (119 : Nat) ({ cls := "Sparkline$Harness", name := "hasWay", desc := "(II)Z" } : Jvm.MethodName))) ∈ zT := zT_in 571 (by decide +kernel) rfl
set_option maxRecDepth 10000 in
theorem wd_572 : ((Jvm.Cond.instanceMethod ({ cls := "Sparkline$Harness", name := "hasWay", desc := "(II)Z" } : Jvm.MethodName))) ∈ zT := zT_in 572 (by decide +kernel) rfl
set_option maxRecDepth 10000 in
theorem wd_573 : ((Jvm.Cond.selects "Sparkline$Harness" ({ cls := "Sparkline$Harness", name := "hasWay", desc := "(II)Z" } : Jvm.MethodName) ({ cls := "Sparkline$Harness", name := "hasWay", desc := "(II)Z" } : Jvm.MethodName))) ∈ zT := zT_in 573 (by decide +kernel) rfl
set_option maxRecDepth 10000 in
theorem wd_574 : ((Jvm.Cond.code ({ cls := "Sparkline$Harness", name := "hasWay", desc := "(II)Z" } : Jvm.MethodName) prog_6_method_5_code (3 : Nat) (Option.some Jvm.ClassFile.FieldType.boolean))) ∈ zT := zT_in 574 (by decide +kernel) rfl
set_option maxRecDepth 10000 in
theorem wd_575 : ((Jvm.Cond.methodLink "Sparkline$Harness" (63 : Nat) ({ cls := "Sparkline$Harness", name := "findCosts", desc := "(I)V" } : Jvm.MethodName))) ∈ zT := zT_in 575 (by decide +kernel) rfl
set_option maxRecDepth 10000 in
theorem wd_577 : ((Jvm.Cond.instanceMethod ({ cls := "Sparkline$Harness", name := "findCosts", desc := "(I)V" } : Jvm.MethodName))) ∈ zT := zT_in 577 (by decide +kernel) rfl
set_option maxRecDepth 10000 in
theorem wd_578 : ((Jvm.Cond.code ({ cls := "Sparkline$Harness", name := "findCosts", desc := "(I)V" } : Jvm.MethodName) prog_6_method_6_code (5 : Nat) (Option.none : Option Jvm.ClassFile.FieldType))) ∈ zT := zT_in 578 (by decide +kernel) rfl
set_option maxRecDepth 10000 in
theorem wd_579 : ((Jvm.Cond.constant "Sparkline$Harness" (70 : Nat) (1000000 : Int32))) ∈ zT := zT_in 579 (by decide +kernel) rfl
set_option maxRecDepth 10000 in
theorem wd_580 : ((Jvm.Cond.methodLink "Sparkline$Harness" (71 : Nat) ({ cls := "Sparkline$Row", name := "fill", desc := "(I)V" } : Jvm.MethodName))) ∈ zT := zT_in 580 (by decide +kernel) rfl
set_option maxRecDepth 10000 in
theorem wd_581 : ((Jvm.Cond.methodLink "Sparkline$Harness" (74 : Nat) ({ cls := "Sparkline$Row", name := "put", desc := "(II)V" } : Jvm.MethodName))) ∈ zT := zT_in 581 (by decide +kernel) rfl
set_option maxRecDepth 10000 in
theorem wd_582 : ((Jvm.Cond.methodLink "Sparkline$Harness" (84 : Nat) ({ cls := "Sparkline$Harness", name := "lowerCost", desc := "(ILSparkline$Bundle;)V" } : Jvm.MethodName))) ∈ zT := zT_in 582 (by decide +kernel) rfl
set_option maxRecDepth 10000 in
theorem wd_584 : ((Jvm.Cond.instanceMethod ({ cls := "Sparkline$Harness", name := "lowerCost", desc := "(ILSparkline$Bundle;)V" } : Jvm.MethodName))) ∈ zT := zT_in 584 (by decide +kernel) rfl
set_option maxRecDepth 10000 in
theorem wd_585 : ((Jvm.Cond.code ({ cls := "Sparkline$Harness", name := "lowerCost", desc := "(ILSparkline$Bundle;)V" } : Jvm.MethodName) prog_6_method_7_code (3 : Nat) (Option.none : Option Jvm.ClassFile.FieldType))) ∈ zT := zT_in 585 (by decide +kernel) rfl
set_option maxRecDepth 10000 in
theorem wd_586 : ((Jvm.Cond.methodLink "Sparkline$Harness" (66 : Nat) ({ cls := "Sparkline$Row", name := "at", desc := "(I)I" } : Jvm.MethodName))) ∈ zT := zT_in 586 (by decide +kernel) rfl
set_option maxRecDepth 10000 in
theorem wd_587 : ((Jvm.Cond.methodLink "Sparkline$Harness" (91 : Nat) ({ cls := "Sparkline$Bundle", name := "cost", desc := "()I" } : Jvm.MethodName))) ∈ zT := zT_in 587 (by decide +kernel) rfl
set_option maxRecDepth 10000 in
theorem wd_588 : ((Jvm.Cond.instanceMethod ({ cls := "Sparkline$Bundle", name := "cost", desc := "()I" } : Jvm.MethodName))) ∈ zT := zT_in 588 (by decide +kernel) rfl
set_option maxRecDepth 10000 in
theorem wd_589 : ((Jvm.Cond.selects "Sparkline$Bundle" ({ cls := "Sparkline$Bundle", name := "cost", desc := "()I" } : Jvm.MethodName) ({ cls := "Sparkline$Bundle", name := "cost", desc := "()I" } : Jvm.MethodName))) ∈ zT := zT_in 589 (by decide +kernel) rfl
set_option maxRecDepth 10000 in
theorem wd_590 : ((Jvm.Cond.code ({ cls := "Sparkline$Bundle", name := "cost", desc := "()I" } : Jvm.MethodName) prog_3_method_2_code (1 : Nat) (Option.some Jvm.ClassFile.FieldType.int))) ∈ zT := zT_in 590 (by decide +kernel) rfl
set_option maxRecDepth 10000 in
theorem wd_591 : ((Jvm.Cond.methodLink "Sparkline$Harness" (94 : Nat) ({ cls := "Sparkline$Bundle", name := "across", desc := "(I)I" } : Jvm.MethodName))) ∈ zT := zT_in 591 (by decide +kernel) rfl
set_option maxRecDepth 10000 in
theorem wd_592 : ((Jvm.Cond.instanceMethod ({ cls := "Sparkline$Bundle", name := "across", desc := "(I)I" } : Jvm.MethodName))) ∈ zT := zT_in 592 (by decide +kernel) rfl
set_option maxRecDepth 10000 in
theorem wd_593 : ((Jvm.Cond.selects "Sparkline$Bundle" ({ cls := "Sparkline$Bundle", name := "across", desc := "(I)I" } : Jvm.MethodName) ({ cls := "Sparkline$Bundle", name := "across", desc := "(I)I" } : Jvm.MethodName))) ∈ zT := zT_in 593 (by decide +kernel) rfl
set_option maxRecDepth 10000 in
theorem wd_594 : ((Jvm.Cond.code ({ cls := "Sparkline$Bundle", name := "across", desc := "(I)I" } : Jvm.MethodName) prog_3_method_3_code (2 : Nat) (Option.some Jvm.ClassFile.FieldType.int))) ∈ zT := zT_in 594 (by decide +kernel) rfl
set_option maxRecDepth 10000 in
theorem wd_595 : ((Jvm.Cond.methodLink "Sparkline$Harness" (97 : Nat) ({ cls := "java/lang/Math", name := "min", desc := "(II)I" } : Jvm.MethodName))) ∈ zT := zT_in 595 (by decide +kernel) rfl
set_option maxRecDepth 10000 in
theorem wd_596 : ((Jvm.Cond.classLink "Sparkline" (122 : Nat) "Sparkline$Wire")) ∈ zT := zT_in 596 (by decide +kernel) rfl
set_option maxRecDepth 10000 in
theorem wd_597 : ((Jvm.Cond.instantiable "Sparkline$Wire" (8 : Nat))) ∈ zT := zT_in 597 (by decide +kernel) rfl
set_option maxRecDepth 10000 in
theorem wd_598 : ((Jvm.Cond.methodLink "Sparkline" (124 : Nat) ({ cls := "Sparkline$Wire", name := "<init>", desc := "(LSparkline$Connector;ILSparkline$Connector;II)V" } : Jvm.MethodName))) ∈ zT := zT_in 598 (by decide +kernel) rfl
set_option maxRecDepth 10000 in
theorem wd_599 : ((Jvm.Cond.instanceMethod ({ cls := "Sparkline$Wire", name := "<init>", desc := "(LSparkline$Connector;ILSparkline$Connector;II)V" } : Jvm.MethodName))) ∈ zT := zT_in 599 (by decide +kernel) rfl
set_option maxRecDepth 10000 in
theorem wd_600 : ((Jvm.Cond.code ({ cls := "Sparkline$Wire", name := "<init>", desc := "(LSparkline$Connector;ILSparkline$Connector;II)V" } : Jvm.MethodName) prog_12_method_1_code (6 : Nat) (Option.none : Option Jvm.ClassFile.FieldType))) ∈ zT := zT_in 600 (by decide +kernel) rfl
set_option maxRecDepth 10000 in
theorem wd_601 : ((Jvm.Cond.methodLink "Sparkline$Wire" (3 : Nat) ({ cls := "java/lang/Object", name := "<init>", desc := "()V" } : Jvm.MethodName))) ∈ zT := zT_in 601 (by decide +kernel) rfl
set_option maxRecDepth 10000 in
theorem wd_602 : ((Jvm.Cond.classLink "Sparkline$Wire" (28 : Nat) "java/util/ArrayList")) ∈ zT := zT_in 602 (by decide +kernel) rfl
set_option maxRecDepth 10000 in
theorem wd_603 : ((Jvm.Cond.methodLink "Sparkline$Wire" (30 : Nat) ({ cls := "java/util/ArrayList", name := "<init>", desc := "()V" } : Jvm.MethodName))) ∈ zT := zT_in 603 (by decide +kernel) rfl
set_option maxRecDepth 10000 in
theorem wd_604 : ((Jvm.Cond.fieldLink "Sparkline$Wire" (9 : Nat) "Sparkline$Wire" "one" "LSparkline$Connector;")) ∈ zT := zT_in 604 (by decide +kernel) rfl
set_option maxRecDepth 10000 in
theorem wd_605 : ((Jvm.Cond.fieldLink "Sparkline$Harness" (117 : Nat) "Sparkline$Wire" "one" "LSparkline$Connector;")) ∈ zT := zT_in 605 (by decide +kernel) rfl
set_option maxRecDepth 10000 in
theorem wd_606 : ((Jvm.Cond.fieldLink "Sparkline$Wire" (15 : Nat) "Sparkline$Wire" "cavity" "I")) ∈ zT := zT_in 606 (by decide +kernel) rfl
set_option maxRecDepth 10000 in
theorem wd_607 : ((Jvm.Cond.fieldLink "Sparkline$Wire" (19 : Nat) "Sparkline$Wire" "two" "LSparkline$Connector;")) ∈ zT := zT_in 607 (by decide +kernel) rfl
set_option maxRecDepth 10000 in
theorem wd_608 : ((Jvm.Cond.fieldLink "Sparkline$Harness" (112 : Nat) "Sparkline$Wire" "two" "LSparkline$Connector;")) ∈ zT := zT_in 608 (by decide +kernel) rfl
set_option maxRecDepth 10000 in
theorem wd_609 : ((Jvm.Cond.fieldLink "Sparkline$Wire" (22 : Nat) "Sparkline$Wire" "others" "I")) ∈ zT := zT_in 609 (by decide +kernel) rfl
set_option maxRecDepth 10000 in
theorem wd_610 : ((Jvm.Cond.fieldLink "Sparkline$Wire" (25 : Nat) "Sparkline$Wire" "option" "I")) ∈ zT := zT_in 610 (by decide +kernel) rfl
set_option maxRecDepth 10000 in
theorem wd_611 : ((Jvm.Cond.fieldLink "Sparkline$Harness" (132 : Nat) "Sparkline$Wire" "option" "I")) ∈ zT := zT_in 611 (by decide +kernel) rfl
set_option maxRecDepth 10000 in
theorem wd_612 : ((Jvm.Cond.fieldLink "Sparkline$Wire" (50 : Nat) "Sparkline$Wire" "length" "I")) ∈ zT := zT_in 612 (by decide +kernel) rfl
set_option maxRecDepth 10000 in
theorem wd_613 : ((Jvm.Cond.fieldLink "Sparkline" (142 : Nat) "Sparkline$Wire" "length" "I")) ∈ zT := zT_in 613 (by decide +kernel) rfl
set_option maxRecDepth 10000 in
theorem wd_614 : ((Jvm.Cond.fieldLink "Sparkline$Harness" (135 : Nat) "Sparkline$Wire" "length" "I")) ∈ zT := zT_in 614 (by decide +kernel) rfl
set_option maxRecDepth 10000 in
theorem wd_615 : ((Jvm.Cond.fieldLink "Sparkline$Wire" (54 : Nat) "Sparkline$Wire" "isPulled" "Z")) ∈ zT := zT_in 615 (by decide +kernel) rfl
set_option maxRecDepth 10000 in
theorem wd_616 : ((Jvm.Cond.fieldLink "Sparkline" (135 : Nat) "Sparkline$Wire" "isPulled" "Z")) ∈ zT := zT_in 616 (by decide +kernel) rfl
set_option maxRecDepth 10000 in
theorem wd_617 : ((Jvm.Cond.fieldLink "Sparkline$Harness" (128 : Nat) "Sparkline$Wire" "isPulled" "Z")) ∈ zT := zT_in 617 (by decide +kernel) rfl
set_option maxRecDepth 10000 in
theorem wd_618 : ((Jvm.Cond.fieldLink "Sparkline$Wire" (31 : Nat) "Sparkline$Wire" "way" "Ljava/util/ArrayList;")) ∈ zT := zT_in 618 (by decide +kernel) rfl
set_option maxRecDepth 10000 in
theorem wd_619 : ((Jvm.Cond.laysFinal "Sparkline$Wire" "Sparkline$Wire" "one" "LSparkline$Connector;")) ∈ zT := zT_in 619 (by decide +kernel) rfl
set_option maxRecDepth 10000 in
theorem wd_621 : ((Jvm.Cond.laysFinal "Sparkline$Wire" "Sparkline$Wire" "cavity" "I")) ∈ zT := zT_in 621 (by decide +kernel) rfl
set_option maxRecDepth 10000 in
theorem wd_623 : ((Jvm.Cond.laysFinal "Sparkline$Wire" "Sparkline$Wire" "two" "LSparkline$Connector;")) ∈ zT := zT_in 623 (by decide +kernel) rfl
set_option maxRecDepth 10000 in
theorem wd_625 : ((Jvm.Cond.laysFinal "Sparkline$Wire" "Sparkline$Wire" "others" "I")) ∈ zT := zT_in 625 (by decide +kernel) rfl
set_option maxRecDepth 10000 in
theorem wd_627 : ((Jvm.Cond.laysFinal "Sparkline$Wire" "Sparkline$Wire" "option" "I")) ∈ zT := zT_in 627 (by decide +kernel) rfl
set_option maxRecDepth 10000 in
theorem wd_629 : ((Jvm.Cond.lays "Sparkline$Wire" "Sparkline$Wire" "length" "I")) ∈ zT := zT_in 629 (by decide +kernel) rfl
set_option maxRecDepth 10000 in
theorem wd_631 : ((Jvm.Cond.lays "Sparkline$Wire" "Sparkline$Wire" "isPulled" "Z")) ∈ zT := zT_in 631 (by decide +kernel) rfl
set_option maxRecDepth 10000 in
theorem wd_633 : ((Jvm.Cond.laysFinal "Sparkline$Wire" "Sparkline$Wire" "way" "Ljava/util/ArrayList;")) ∈ zT := zT_in 633 (by decide +kernel) rfl
set_option maxRecDepth 10000 in
theorem wd_636 : ((Jvm.Cond.methodLink "Sparkline" (127 : Nat) ({ cls := "Sparkline$Harness", name := "addWire", desc := "(LSparkline$Wire;)I" } : Jvm.MethodName))) ∈ zT := zT_in 636 (by decide +kernel) rfl
set_option maxRecDepth 10000 in
theorem wd_637 : ((Jvm.Cond.instanceMethod ({ cls := "Sparkline$Harness", name := "addWire", desc := "(LSparkline$Wire;)I" } : Jvm.MethodName))) ∈ zT := zT_in 637 (by decide +kernel) rfl
set_option maxRecDepth 10000 in
theorem wd_638 : ((Jvm.Cond.selects "Sparkline$Harness" ({ cls := "Sparkline$Harness", name := "addWire", desc := "(LSparkline$Wire;)I" } : Jvm.MethodName) ({ cls := "Sparkline$Harness", name := "addWire", desc := "(LSparkline$Wire;)I" } : Jvm.MethodName))) ∈ zT := zT_in 638 (by decide +kernel) rfl
set_option maxRecDepth 10000 in
theorem wd_639 : ((Jvm.Cond.code ({ cls := "Sparkline$Harness", name := "addWire", desc := "(LSparkline$Wire;)I" } : Jvm.MethodName) prog_6_method_8_code (2 : Nat) (Option.some Jvm.ClassFile.FieldType.int))) ∈ zT := zT_in 639 (by decide +kernel) rfl
set_option maxRecDepth 10000 in
theorem wd_640 : ((Jvm.Cond.methodLink "Sparkline$Harness" (103 : Nat) ({ cls := "Sparkline$Wire", name := "putIn", desc := "()V" } : Jvm.MethodName))) ∈ zT := zT_in 640 (by decide +kernel) rfl
set_option maxRecDepth 10000 in
theorem wd_641 : ((Jvm.Cond.instanceMethod ({ cls := "Sparkline$Wire", name := "putIn", desc := "()V" } : Jvm.MethodName))) ∈ zT := zT_in 641 (by decide +kernel) rfl
set_option maxRecDepth 10000 in
theorem wd_642 : ((Jvm.Cond.selects "Sparkline$Wire" ({ cls := "Sparkline$Wire", name := "putIn", desc := "()V" } : Jvm.MethodName) ({ cls := "Sparkline$Wire", name := "putIn", desc := "()V" } : Jvm.MethodName))) ∈ zT := zT_in 642 (by decide +kernel) rfl
set_option maxRecDepth 10000 in
theorem wd_643 : ((Jvm.Cond.code ({ cls := "Sparkline$Wire", name := "putIn", desc := "()V" } : Jvm.MethodName) prog_12_method_2_code (1 : Nat) (Option.none : Option Jvm.ClassFile.FieldType))) ∈ zT := zT_in 643 (by decide +kernel) rfl
set_option maxRecDepth 10000 in
theorem wd_644 : ((Jvm.Cond.methodLink "Sparkline$Wire" (35 : Nat) ({ cls := "Sparkline$Connector", name := "take", desc := "(I)V" } : Jvm.MethodName))) ∈ zT := zT_in 644 (by decide +kernel) rfl
set_option maxRecDepth 10000 in
theorem wd_645 : ((Jvm.Cond.instanceMethod ({ cls := "Sparkline$Connector", name := "take", desc := "(I)V" } : Jvm.MethodName))) ∈ zT := zT_in 645 (by decide +kernel) rfl
set_option maxRecDepth 10000 in
theorem wd_646 : ((Jvm.Cond.selects "Sparkline$Connector" ({ cls := "Sparkline$Connector", name := "take", desc := "(I)V" } : Jvm.MethodName) ({ cls := "Sparkline$Connector", name := "take", desc := "(I)V" } : Jvm.MethodName))) ∈ zT := zT_in 646 (by decide +kernel) rfl
set_option maxRecDepth 10000 in
theorem wd_647 : ((Jvm.Cond.code ({ cls := "Sparkline$Connector", name := "take", desc := "(I)V" } : Jvm.MethodName) prog_4_method_4_code (2 : Nat) (Option.none : Option Jvm.ClassFile.FieldType))) ∈ zT := zT_in 647 (by decide +kernel) rfl
set_option maxRecDepth 10000 in
theorem wd_648 : ((Jvm.Cond.methodLink "Sparkline$Harness" (108 : Nat) ({ cls := "Sparkline$Harness", name := "layAlong", desc := "(LSparkline$Wire;)V" } : Jvm.MethodName))) ∈ zT := zT_in 648 (by decide +kernel) rfl
set_option maxRecDepth 10000 in
theorem wd_650 : ((Jvm.Cond.instanceMethod ({ cls := "Sparkline$Harness", name := "layAlong", desc := "(LSparkline$Wire;)V" } : Jvm.MethodName))) ∈ zT := zT_in 650 (by decide +kernel) rfl
set_option maxRecDepth 10000 in
theorem wd_651 : ((Jvm.Cond.code ({ cls := "Sparkline$Harness", name := "layAlong", desc := "(LSparkline$Wire;)V" } : Jvm.MethodName) prog_6_method_9_code (5 : Nat) (Option.none : Option Jvm.ClassFile.FieldType))) ∈ zT := zT_in 651 (by decide +kernel) rfl
set_option maxRecDepth 10000 in
theorem wd_652 : ((Jvm.Cond.methodLink "Sparkline$Harness" (120 : Nat) ({ cls := "Sparkline$Harness", name := "lowestOnward", desc := "(I)LSparkline$Bundle;" } : Jvm.MethodName))) ∈ zT := zT_in 652 (by decide +kernel) rfl
set_option maxRecDepth 10000 in
theorem wd_654 : ((Jvm.Cond.instanceMethod ({ cls := "Sparkline$Harness", name := "lowestOnward", desc := "(I)LSparkline$Bundle;" } : Jvm.MethodName))) ∈ zT := zT_in 654 (by decide +kernel) rfl
set_option maxRecDepth 10000 in
theorem wd_655 : ((Jvm.Cond.code ({ cls := "Sparkline$Harness", name := "lowestOnward", desc := "(I)LSparkline$Bundle;" } : Jvm.MethodName) prog_6_method_10_code (5 : Nat) (Option.some (Jvm.ClassFile.FieldType.object "Sparkline$Bundle")))) ∈ zT := zT_in 655 (by decide +kernel) rfl
set_option maxRecDepth 10000 in
theorem wd_656 : ((Jvm.Cond.methodLink "Sparkline$Harness" (124 : Nat) ({ cls := "Sparkline$Wire", name := "goBy", desc := "(LSparkline$Bundle;)V" } : Jvm.MethodName))) ∈ zT := zT_in 656 (by decide +kernel) rfl
set_option maxRecDepth 10000 in
theorem wd_657 : ((Jvm.Cond.instanceMethod ({ cls := "Sparkline$Wire", name := "goBy", desc := "(LSparkline$Bundle;)V" } : Jvm.MethodName))) ∈ zT := zT_in 657 (by decide +kernel) rfl
set_option maxRecDepth 10000 in
theorem wd_658 : ((Jvm.Cond.selects "Sparkline$Wire" ({ cls := "Sparkline$Wire", name := "goBy", desc := "(LSparkline$Bundle;)V" } : Jvm.MethodName) ({ cls := "Sparkline$Wire", name := "goBy", desc := "(LSparkline$Bundle;)V" } : Jvm.MethodName))) ∈ zT := zT_in 658 (by decide +kernel) rfl
set_option maxRecDepth 10000 in
theorem wd_659 : ((Jvm.Cond.code ({ cls := "Sparkline$Wire", name := "goBy", desc := "(LSparkline$Bundle;)V" } : Jvm.MethodName) prog_12_method_3_code (2 : Nat) (Option.none : Option Jvm.ClassFile.FieldType))) ∈ zT := zT_in 659 (by decide +kernel) rfl
set_option maxRecDepth 10000 in
theorem wd_660 : ((Jvm.Cond.methodLink "Sparkline$Wire" (41 : Nat) ({ cls := "java/util/ArrayList", name := "add", desc := "(Ljava/lang/Object;)Z" } : Jvm.MethodName))) ∈ zT := zT_in 660 (by decide +kernel) rfl
set_option maxRecDepth 10000 in
theorem wd_661 : ((Jvm.Cond.methodLink "SparklineLaw" (26 : Nat) ({ cls := "Sparkline", name := "pull", desc := "(I)I" } : Jvm.MethodName))) ∈ zT := zT_in 661 (by decide +kernel) rfl
set_option maxRecDepth 10000 in
theorem wd_662 : ((Jvm.Cond.instanceMethod ({ cls := "Sparkline", name := "pull", desc := "(I)I" } : Jvm.MethodName))) ∈ zT := zT_in 662 (by decide +kernel) rfl
set_option maxRecDepth 10000 in
theorem wd_663 : ((Jvm.Cond.selects "Sparkline" ({ cls := "Sparkline", name := "pull", desc := "(I)I" } : Jvm.MethodName) ({ cls := "Sparkline", name := "pull", desc := "(I)I" } : Jvm.MethodName))) ∈ zT := zT_in 663 (by decide +kernel) rfl
set_option maxRecDepth 10000 in
theorem wd_664 : ((Jvm.Cond.code ({ cls := "Sparkline", name := "pull", desc := "(I)I" } : Jvm.MethodName) prog_1_method_6_code (3 : Nat) (Option.some Jvm.ClassFile.FieldType.int))) ∈ zT := zT_in 664 (by decide +kernel) rfl
set_option maxRecDepth 10000 in
theorem wd_665 : ((Jvm.Cond.methodLink "Sparkline" (131 : Nat) ({ cls := "Sparkline", name := "wireAt", desc := "(I)LSparkline$Wire;" } : Jvm.MethodName))) ∈ zT := zT_in 665 (by decide +kernel) rfl
set_option maxRecDepth 10000 in
theorem wd_667 : ((Jvm.Cond.instanceMethod ({ cls := "Sparkline", name := "wireAt", desc := "(I)LSparkline$Wire;" } : Jvm.MethodName))) ∈ zT := zT_in 667 (by decide +kernel) rfl
set_option maxRecDepth 10000 in
theorem wd_668 : ((Jvm.Cond.code ({ cls := "Sparkline", name := "wireAt", desc := "(I)LSparkline$Wire;" } : Jvm.MethodName) prog_1_method_37_code (2 : Nat) (Option.some (Jvm.ClassFile.FieldType.object "Sparkline$Wire")))) ∈ zT := zT_in 668 (by decide +kernel) rfl
set_option maxRecDepth 10000 in
theorem wd_669 : ((Jvm.Cond.methodLink "Sparkline" (139 : Nat) ({ cls := "Sparkline$Wire", name := "takeOut", desc := "()V" } : Jvm.MethodName))) ∈ zT := zT_in 669 (by decide +kernel) rfl
set_option maxRecDepth 10000 in
theorem wd_670 : ((Jvm.Cond.instanceMethod ({ cls := "Sparkline$Wire", name := "takeOut", desc := "()V" } : Jvm.MethodName))) ∈ zT := zT_in 670 (by decide +kernel) rfl
set_option maxRecDepth 10000 in
theorem wd_671 : ((Jvm.Cond.selects "Sparkline$Wire" ({ cls := "Sparkline$Wire", name := "takeOut", desc := "()V" } : Jvm.MethodName) ({ cls := "Sparkline$Wire", name := "takeOut", desc := "()V" } : Jvm.MethodName))) ∈ zT := zT_in 671 (by decide +kernel) rfl
set_option maxRecDepth 10000 in
theorem wd_672 : ((Jvm.Cond.code ({ cls := "Sparkline$Wire", name := "takeOut", desc := "()V" } : Jvm.MethodName) prog_12_method_4_code (2 : Nat) (Option.none : Option Jvm.ClassFile.FieldType))) ∈ zT := zT_in 672 (by decide +kernel) rfl
set_option maxRecDepth 10000 in
theorem wd_673 : ((Jvm.Cond.methodLink "Sparkline$Wire" (58 : Nat) ({ cls := "Sparkline$Connector", name := "release", desc := "(I)V" } : Jvm.MethodName))) ∈ zT := zT_in 673 (by decide +kernel) rfl
set_option maxRecDepth 10000 in
theorem wd_674 : ((Jvm.Cond.instanceMethod ({ cls := "Sparkline$Connector", name := "release", desc := "(I)V" } : Jvm.MethodName))) ∈ zT := zT_in 674 (by decide +kernel) rfl
set_option maxRecDepth 10000 in
theorem wd_675 : ((Jvm.Cond.selects "Sparkline$Connector" ({ cls := "Sparkline$Connector", name := "release", desc := "(I)V" } : Jvm.MethodName) ({ cls := "Sparkline$Connector", name := "release", desc := "(I)V" } : Jvm.MethodName))) ∈ zT := zT_in 675 (by decide +kernel) rfl
set_option maxRecDepth 10000 in
theorem wd_676 : ((Jvm.Cond.code ({ cls := "Sparkline$Connector", name := "release", desc := "(I)V" } : Jvm.MethodName) prog_4_method_5_code (2 : Nat) (Option.none : Option Jvm.ClassFile.FieldType))) ∈ zT := zT_in 676 (by decide +kernel) rfl
set_option maxRecDepth 10000 in
theorem wd_677 : ((Jvm.Cond.methodLink "Sparkline$Wire" (61 : Nat) ({ cls := "java/util/ArrayList", name := "size", desc := "()I" } : Jvm.MethodName))) ∈ zT := zT_in 677 (by decide +kernel) rfl
set_option maxRecDepth 10000 in
theorem wd_678 : ((Jvm.Cond.methodLink "Sparkline$Wire" (65 : Nat) ({ cls := "java/util/ArrayList", name := "get", desc := "(I)Ljava/lang/Object;" } : Jvm.MethodName))) ∈ zT := zT_in 678 (by decide +kernel) rfl
set_option maxRecDepth 10000 in
theorem wd_679 : ((Jvm.Cond.classLink "Sparkline$Wire" (46 : Nat) "Sparkline$Bundle")) ∈ zT := zT_in 679 (by decide +kernel) rfl
set_option maxRecDepth 10000 in
theorem wd_680 : ((Jvm.Cond.methodLink "SparklineLaw" (30 : Nat) ({ cls := "Sparkline", name := "ofWire", desc := "(II)I" } : Jvm.MethodName))) ∈ zT := zT_in 680 (by decide +kernel) rfl
set_option maxRecDepth 10000 in
theorem wd_681 : ((Jvm.Cond.instanceMethod ({ cls := "Sparkline", name := "ofWire", desc := "(II)I" } : Jvm.MethodName))) ∈ zT := zT_in 681 (by decide +kernel) rfl
set_option maxRecDepth 10000 in
theorem wd_682 : ((Jvm.Cond.selects "Sparkline" ({ cls := "Sparkline", name := "ofWire", desc := "(II)I" } : Jvm.MethodName) ({ cls := "Sparkline", name := "ofWire", desc := "(II)I" } : Jvm.MethodName))) ∈ zT := zT_in 682 (by decide +kernel) rfl
set_option maxRecDepth 10000 in
theorem wd_683 : ((Jvm.Cond.code ({ cls := "Sparkline", name := "ofWire", desc := "(II)I" } : Jvm.MethodName) prog_1_method_7_code (4 : Nat) (Option.some Jvm.ClassFile.FieldType.int))) ∈ zT := zT_in 683 (by decide +kernel) rfl
set_option maxRecDepth 10000 in
theorem wd_684 : ((Jvm.Cond.methodLink "Sparkline" (145 : Nat) ({ cls := "Sparkline$Wire", name := "bundleAt", desc := "(I)I" } : Jvm.MethodName))) ∈ zT := zT_in 684 (by decide +kernel) rfl
set_option maxRecDepth 10000 in
theorem wd_685 : ((Jvm.Cond.instanceMethod ({ cls := "Sparkline$Wire", name := "bundleAt", desc := "(I)I" } : Jvm.MethodName))) ∈ zT := zT_in 685 (by decide +kernel) rfl
set_option maxRecDepth 10000 in
theorem wd_686 : ((Jvm.Cond.selects "Sparkline$Wire" ({ cls := "Sparkline$Wire", name := "bundleAt", desc := "(I)I" } : Jvm.MethodName) ({ cls := "Sparkline$Wire", name := "bundleAt", desc := "(I)I" } : Jvm.MethodName))) ∈ zT := zT_in 686 (by decide +kernel) rfl
set_option maxRecDepth 10000 in
theorem wd_687 : ((Jvm.Cond.code ({ cls := "Sparkline$Wire", name := "bundleAt", desc := "(I)I" } : Jvm.MethodName) prog_12_method_5_code (2 : Nat) (Option.some Jvm.ClassFile.FieldType.int))) ∈ zT := zT_in 687 (by decide +kernel) rfl
set_option maxRecDepth 10000 in
theorem wd_688 : ((Jvm.Cond.methodLink "SparklineLaw" (33 : Nat) ({ cls := "Sparkline", name := "order", desc := "(II)I" } : Jvm.MethodName))) ∈ zT := zT_in 688 (by decide +kernel) rfl
set_option maxRecDepth 10000 in
theorem wd_689 : ((Jvm.Cond.instanceMethod ({ cls := "Sparkline", name := "order", desc := "(II)I" } : Jvm.MethodName))) ∈ zT := zT_in 689 (by decide +kernel) rfl
set_option maxRecDepth 10000 in
theorem wd_690 : ((Jvm.Cond.selects "Sparkline" ({ cls := "Sparkline", name := "order", desc := "(II)I" } : Jvm.MethodName) ({ cls := "Sparkline", name := "order", desc := "(II)I" } : Jvm.MethodName))) ∈ zT := zT_in 690 (by decide +kernel) rfl
set_option maxRecDepth 10000 in
theorem wd_691 : ((Jvm.Cond.code ({ cls := "Sparkline", name := "order", desc := "(II)I" } : Jvm.MethodName) prog_1_method_9_code (3 : Nat) (Option.some Jvm.ClassFile.FieldType.int))) ∈ zT := zT_in 691 (by decide +kernel) rfl
set_option maxRecDepth 10000 in
theorem wd_692 : ((Jvm.Cond.methodLink "Sparkline" (155 : Nat) ({ cls := "Sparkline$Orders", name := "add", desc := "(II)I" } : Jvm.MethodName))) ∈ zT := zT_in 692 (by decide +kernel) rfl
set_option maxRecDepth 10000 in
theorem wd_693 : ((Jvm.Cond.instanceMethod ({ cls := "Sparkline$Orders", name := "add", desc := "(II)I" } : Jvm.MethodName))) ∈ zT := zT_in 693 (by decide +kernel) rfl
set_option maxRecDepth 10000 in
theorem wd_694 : ((Jvm.Cond.selects "Sparkline$Orders" ({ cls := "Sparkline$Orders", name := "add", desc := "(II)I" } : Jvm.MethodName) ({ cls := "Sparkline$Orders", name := "add", desc := "(II)I" } : Jvm.MethodName))) ∈ zT := zT_in 694 (by decide +kernel) rfl
set_option maxRecDepth 10000 in
theorem wd_695 : ((Jvm.Cond.code ({ cls := "Sparkline$Orders", name := "add", desc := "(II)I" } : Jvm.MethodName) prog_7_method_2_code (3 : Nat) (Option.some Jvm.ClassFile.FieldType.int))) ∈ zT := zT_in 695 (by decide +kernel) rfl
set_option maxRecDepth 10000 in
theorem wd_696 : ((Jvm.Cond.methodLink "SparklineLaw" (36 : Nat) ({ cls := "Sparkline", name := "crimp", desc := "(I)Z" } : Jvm.MethodName))) ∈ zT := zT_in 696 (by decide +kernel) rfl
set_option maxRecDepth 10000 in
theorem wd_697 : ((Jvm.Cond.instanceMethod ({ cls := "Sparkline", name := "crimp", desc := "(I)Z" } : Jvm.MethodName))) ∈ zT := zT_in 697 (by decide +kernel) rfl
set_option maxRecDepth 10000 in
theorem wd_698 : ((Jvm.Cond.selects "Sparkline" ({ cls := "Sparkline", name := "crimp", desc := "(I)Z" } : Jvm.MethodName) ({ cls := "Sparkline", name := "crimp", desc := "(I)Z" } : Jvm.MethodName))) ∈ zT := zT_in 698 (by decide +kernel) rfl
set_option maxRecDepth 10000 in
theorem wd_699 : ((Jvm.Cond.code ({ cls := "Sparkline", name := "crimp", desc := "(I)Z" } : Jvm.MethodName) prog_1_method_12_code (2 : Nat) (Option.some Jvm.ClassFile.FieldType.boolean))) ∈ zT := zT_in 699 (by decide +kernel) rfl
set_option maxRecDepth 10000 in
theorem wd_700 : ((Jvm.Cond.methodLink "Sparkline" (166 : Nat) ({ cls := "Sparkline$Crimper", name := "judge", desc := "(I)Z" } : Jvm.MethodName))) ∈ zT := zT_in 700 (by decide +kernel) rfl
set_option maxRecDepth 10000 in
theorem wd_701 : ((Jvm.Cond.instanceMethod ({ cls := "Sparkline$Crimper", name := "judge", desc := "(I)Z" } : Jvm.MethodName))) ∈ zT := zT_in 701 (by decide +kernel) rfl
set_option maxRecDepth 10000 in
theorem wd_702 : ((Jvm.Cond.selects "Sparkline$Crimper" ({ cls := "Sparkline$Crimper", name := "judge", desc := "(I)Z" } : Jvm.MethodName) ({ cls := "Sparkline$Crimper", name := "judge", desc := "(I)Z" } : Jvm.MethodName))) ∈ zT := zT_in 702 (by decide +kernel) rfl
set_option maxRecDepth 10000 in
theorem wd_703 : ((Jvm.Cond.code ({ cls := "Sparkline$Crimper", name := "judge", desc := "(I)Z" } : Jvm.MethodName) prog_5_method_2_code (3 : Nat) (Option.some Jvm.ClassFile.FieldType.boolean))) ∈ zT := zT_in 703 (by decide +kernel) rfl
set_option maxRecDepth 10000 in
theorem wd_704 : ((Jvm.Cond.methodLink "Sparkline$Crimper" (22 : Nat) ({ cls := "Sparkline$Crimper", name := "window", desc := "()I" } : Jvm.MethodName))) ∈ zT := zT_in 704 (by decide +kernel) rfl
set_option maxRecDepth 10000 in
theorem wd_705 : ((Jvm.Cond.instanceMethod ({ cls := "Sparkline$Crimper", name := "window", desc := "()I" } : Jvm.MethodName))) ∈ zT := zT_in 705 (by decide +kernel) rfl
set_option maxRecDepth 10000 in
theorem wd_706 : ((Jvm.Cond.selects "Sparkline$Crimper" ({ cls := "Sparkline$Crimper", name := "window", desc := "()I" } : Jvm.MethodName) ({ cls := "Sparkline$Crimper", name := "window", desc := "()I" } : Jvm.MethodName))) ∈ zT := zT_in 706 (by decide +kernel) rfl
set_option maxRecDepth 10000 in
theorem wd_707 : ((Jvm.Cond.code ({ cls := "Sparkline$Crimper", name := "window", desc := "()I" } : Jvm.MethodName) prog_5_method_3_code (3 : Nat) (Option.some Jvm.ClassFile.FieldType.int))) ∈ zT := zT_in 707 (by decide +kernel) rfl
set_option maxRecDepth 10000 in
theorem wd_708 : ((Jvm.Cond.methodLink "Sparkline$Crimper" (42 : Nat) ({ cls := "Sparkline$Row", name := "at", desc := "(I)I" } : Jvm.MethodName))) ∈ zT := zT_in 708 (by decide +kernel) rfl
set_option maxRecDepth 10000 in
theorem wd_709 : ((Jvm.Cond.methodLink "Sparkline$Crimper" (45 : Nat) ({ cls := "java/lang/Math", name := "min", desc := "(II)I" } : Jvm.MethodName))) ∈ zT := zT_in 709 (by decide +kernel) rfl
set_option maxRecDepth 10000 in
theorem wd_711 : ((Jvm.Cond.static ({ cls := "Sparkline", name := "divideDown", desc := "(II)I" } : Jvm.MethodName))) ∈ zT := zT_in 711 (by decide +kernel) rfl
set_option maxRecDepth 10000 in
theorem wd_712 : ((Jvm.Cond.code ({ cls := "Sparkline", name := "divideDown", desc := "(II)I" } : Jvm.MethodName) prog_1_method_35_code (2 : Nat) (Option.some Jvm.ClassFile.FieldType.int))) ∈ zT := zT_in 712 (by decide +kernel) rfl
set_option maxRecDepth 10000 in
theorem wd_713 : ((Jvm.Cond.methodLink "Sparkline" (308 : Nat) ({ cls := "java/lang/Math", name := "floorDiv", desc := "(II)I" } : Jvm.MethodName))) ∈ zT := zT_in 713 (by decide +kernel) rfl
set_option maxRecDepth 10000 in
theorem wd_714 : ((Jvm.Cond.static ({ cls := "java/lang/Math", name := "floorDiv", desc := "(II)I" } : Jvm.MethodName))) ∈ zT := zT_in 714 (by decide +kernel) rfl
set_option maxRecDepth 10000 in
theorem wd_715 : ((Jvm.Cond.code ({ cls := "java/lang/Math", name := "floorDiv", desc := "(II)I" } : Jvm.MethodName) prog_23_method_47_code (3 : Nat) (Option.some Jvm.ClassFile.FieldType.int))) ∈ zT := zT_in 715 (by decide +kernel) rfl
set_option maxRecDepth 10000 in
theorem wd_716 : ((Jvm.Cond.methodLink "Sparkline$Crimper" (26 : Nat) ({ cls := "java/lang/Math", name := "abs", desc := "(I)I" } : Jvm.MethodName))) ∈ zT := zT_in 716 (by decide +kernel) rfl
set_option maxRecDepth 10000 in
theorem wd_717 : ((Jvm.Cond.static ({ cls := "java/lang/Math", name := "abs", desc := "(I)I" } : Jvm.MethodName))) ∈ zT := zT_in 717 (by decide +kernel) rfl
set_option maxRecDepth 10000 in
theorem wd_718 : ((Jvm.Cond.code ({ cls := "java/lang/Math", name := "abs", desc := "(I)I" } : Jvm.MethodName) prog_23_method_59_code (1 : Nat) (Option.some Jvm.ClassFile.FieldType.int))) ∈ zT := zT_in 718 (by decide +kernel) rfl
set_option maxRecDepth 10000 in
theorem wd_719 : ((Jvm.Cond.methodLink "Sparkline$Crimper" (38 : Nat) ({ cls := "Sparkline$Row", name := "put", desc := "(II)V" } : Jvm.MethodName))) ∈ zT := zT_in 719 (by decide +kernel) rfl
set_option maxRecDepth 10000 in
theorem wd_720 : ((Jvm.Cond.methodLink "SparklineLaw" (40 : Nat) ({ cls := "Sparkline", name := "reel", desc := "(III)I" } : Jvm.MethodName))) ∈ zT := zT_in 720 (by decide +kernel) rfl
set_option maxRecDepth 10000 in
theorem wd_721 : ((Jvm.Cond.instanceMethod ({ cls := "Sparkline", name := "reel", desc := "(III)I" } : Jvm.MethodName))) ∈ zT := zT_in 721 (by decide +kernel) rfl
set_option maxRecDepth 10000 in
theorem wd_722 : ((Jvm.Cond.selects "Sparkline" ({ cls := "Sparkline", name := "reel", desc := "(III)I" } : Jvm.MethodName) ({ cls := "Sparkline", name := "reel", desc := "(III)I" } : Jvm.MethodName))) ∈ zT := zT_in 722 (by decide +kernel) rfl
set_option maxRecDepth 10000 in
theorem wd_723 : ((Jvm.Cond.code ({ cls := "Sparkline", name := "reel", desc := "(III)I" } : Jvm.MethodName) prog_1_method_14_code (4 : Nat) (Option.some Jvm.ClassFile.FieldType.int))) ∈ zT := zT_in 723 (by decide +kernel) rfl
set_option maxRecDepth 10000 in
theorem wd_724 : ((Jvm.Cond.classLink "Sparkline" (176 : Nat) "Sparkline$Reel")) ∈ zT := zT_in 724 (by decide +kernel) rfl
set_option maxRecDepth 10000 in
theorem wd_725 : ((Jvm.Cond.instantiable "Sparkline$Reel" (5 : Nat))) ∈ zT := zT_in 725 (by decide +kernel) rfl
set_option maxRecDepth 10000 in
theorem wd_726 : ((Jvm.Cond.methodLink "Sparkline" (178 : Nat) ({ cls := "Sparkline$Reel", name := "<init>", desc := "(III)V" } : Jvm.MethodName))) ∈ zT := zT_in 726 (by decide +kernel) rfl
set_option maxRecDepth 10000 in
theorem wd_727 : ((Jvm.Cond.instanceMethod ({ cls := "Sparkline$Reel", name := "<init>", desc := "(III)V" } : Jvm.MethodName))) ∈ zT := zT_in 727 (by decide +kernel) rfl
set_option maxRecDepth 10000 in
theorem wd_728 : ((Jvm.Cond.code ({ cls := "Sparkline$Reel", name := "<init>", desc := "(III)V" } : Jvm.MethodName) prog_9_method_1_code (4 : Nat) (Option.none : Option Jvm.ClassFile.FieldType))) ∈ zT := zT_in 728 (by decide +kernel) rfl
set_option maxRecDepth 10000 in
theorem wd_729 : ((Jvm.Cond.methodLink "Sparkline$Reel" (3 : Nat) ({ cls := "java/lang/Object", name := "<init>", desc := "()V" } : Jvm.MethodName))) ∈ zT := zT_in 729 (by decide +kernel) rfl
set_option maxRecDepth 10000 in
theorem wd_730 : ((Jvm.Cond.fieldLink "Sparkline$Reel" (9 : Nat) "Sparkline$Reel" "part" "I")) ∈ zT := zT_in 730 (by decide +kernel) rfl
set_option maxRecDepth 10000 in
theorem wd_731 : ((Jvm.Cond.fieldLink "Sparkline$Slot" (29 : Nat) "Sparkline$Reel" "part" "I")) ∈ zT := zT_in 731 (by decide +kernel) rfl
set_option maxRecDepth 10000 in
theorem wd_732 : ((Jvm.Cond.fieldLink "Sparkline" (198 : Nat) "Sparkline$Reel" "part" "I")) ∈ zT := zT_in 732 (by decide +kernel) rfl
set_option maxRecDepth 10000 in
theorem wd_733 : ((Jvm.Cond.fieldLink "Sparkline$Reel" (15 : Nat) "Sparkline$Reel" "life" "I")) ∈ zT := zT_in 733 (by decide +kernel) rfl
set_option maxRecDepth 10000 in
theorem wd_734 : ((Jvm.Cond.fieldLink "Sparkline$Reel" (18 : Nat) "Sparkline$Reel" "left" "I")) ∈ zT := zT_in 734 (by decide +kernel) rfl
set_option maxRecDepth 10000 in
theorem wd_735 : ((Jvm.Cond.fieldLink "Sparkline$Slot" (24 : Nat) "Sparkline$Reel" "left" "I")) ∈ zT := zT_in 735 (by decide +kernel) rfl
set_option maxRecDepth 10000 in
theorem wd_736 : ((Jvm.Cond.fieldLink "Sparkline" (201 : Nat) "Sparkline$Reel" "left" "I")) ∈ zT := zT_in 736 (by decide +kernel) rfl
set_option maxRecDepth 10000 in
theorem wd_737 : ((Jvm.Cond.fieldLink "Sparkline$Reel" (21 : Nat) "Sparkline$Reel" "isOpen" "Z")) ∈ zT := zT_in 737 (by decide +kernel) rfl
set_option maxRecDepth 10000 in
theorem wd_738 : ((Jvm.Cond.fieldLink "Sparkline" (188 : Nat) "Sparkline$Reel" "isOpen" "Z")) ∈ zT := zT_in 738 (by decide +kernel) rfl
set_option maxRecDepth 10000 in
theorem wd_739 : ((Jvm.Cond.fieldLink "Sparkline$Reel" (25 : Nat) "Sparkline$Reel" "begun" "I")) ∈ zT := zT_in 739 (by decide +kernel) rfl
set_option maxRecDepth 10000 in
theorem wd_740 : ((Jvm.Cond.laysFinal "Sparkline$Reel" "Sparkline$Reel" "part" "I")) ∈ zT := zT_in 740 (by decide +kernel) rfl
set_option maxRecDepth 10000 in
theorem wd_742 : ((Jvm.Cond.laysFinal "Sparkline$Reel" "Sparkline$Reel" "life" "I")) ∈ zT := zT_in 742 (by decide +kernel) rfl
set_option maxRecDepth 10000 in
theorem wd_744 : ((Jvm.Cond.lays "Sparkline$Reel" "Sparkline$Reel" "left" "I")) ∈ zT := zT_in 744 (by decide +kernel) rfl
set_option maxRecDepth 10000 in
theorem wd_746 : ((Jvm.Cond.lays "Sparkline$Reel" "Sparkline$Reel" "isOpen" "Z")) ∈ zT := zT_in 746 (by decide +kernel) rfl
set_option maxRecDepth 10000 in
theorem wd_748 : ((Jvm.Cond.lays "Sparkline$Reel" "Sparkline$Reel" "begun" "I")) ∈ zT := zT_in 748 (by decide +kernel) rfl
set_option maxRecDepth 10000 in
theorem wd_751 : ((Jvm.Cond.methodLink "Sparkline" (181 : Nat) ({ cls := "java/util/ArrayList", name := "add", desc := "(Ljava/lang/Object;)Z" } : Jvm.MethodName))) ∈ zT := zT_in 751 (by decide +kernel) rfl
set_option maxRecDepth 10000 in
theorem wd_752 : ((Jvm.Cond.methodLink "SparklineLaw" (43 : Nat) ({ cls := "Sparkline", name := "open", desc := "(IZ)I" } : Jvm.MethodName))) ∈ zT := zT_in 752 (by decide +kernel) rfl
set_option maxRecDepth 10000 in
theorem wd_753 : ((Jvm.Cond.instanceMethod ({ cls := "Sparkline", name := "open", desc := "(IZ)I" } : Jvm.MethodName))) ∈ zT := zT_in 753 (by decide +kernel) rfl
set_option maxRecDepth 10000 in
theorem wd_754 : ((Jvm.Cond.selects "Sparkline" ({ cls := "Sparkline", name := "open", desc := "(IZ)I" } : Jvm.MethodName) ({ cls := "Sparkline", name := "open", desc := "(IZ)I" } : Jvm.MethodName))) ∈ zT := zT_in 754 (by decide +kernel) rfl
set_option maxRecDepth 10000 in
theorem wd_755 : ((Jvm.Cond.code ({ cls := "Sparkline", name := "open", desc := "(IZ)I" } : Jvm.MethodName) prog_1_method_15_code (4 : Nat) (Option.some Jvm.ClassFile.FieldType.int))) ∈ zT := zT_in 755 (by decide +kernel) rfl
set_option maxRecDepth 10000 in
theorem wd_756 : ((Jvm.Cond.methodLink "Sparkline" (184 : Nat) ({ cls := "Sparkline", name := "reelAt", desc := "(I)LSparkline$Reel;" } : Jvm.MethodName))) ∈ zT := zT_in 756 (by decide +kernel) rfl
set_option maxRecDepth 10000 in
theorem wd_758 : ((Jvm.Cond.instanceMethod ({ cls := "Sparkline", name := "reelAt", desc := "(I)LSparkline$Reel;" } : Jvm.MethodName))) ∈ zT := zT_in 758 (by decide +kernel) rfl
set_option maxRecDepth 10000 in
theorem wd_759 : ((Jvm.Cond.code ({ cls := "Sparkline", name := "reelAt", desc := "(I)LSparkline$Reel;" } : Jvm.MethodName) prog_1_method_38_code (2 : Nat) (Option.some (Jvm.ClassFile.FieldType.object "Sparkline$Reel")))) ∈ zT := zT_in 759 (by decide +kernel) rfl
set_option maxRecDepth 10000 in
theorem wd_760 : ((Jvm.Cond.methodLink "Sparkline" (191 : Nat) ({ cls := "Sparkline$Reel", name := "beginClock", desc := "(I)V" } : Jvm.MethodName))) ∈ zT := zT_in 760 (by decide +kernel) rfl
set_option maxRecDepth 10000 in
theorem wd_761 : ((Jvm.Cond.instanceMethod ({ cls := "Sparkline$Reel", name := "beginClock", desc := "(I)V" } : Jvm.MethodName))) ∈ zT := zT_in 761 (by decide +kernel) rfl
set_option maxRecDepth 10000 in
theorem wd_762 : ((Jvm.Cond.selects "Sparkline$Reel" ({ cls := "Sparkline$Reel", name := "beginClock", desc := "(I)V" } : Jvm.MethodName) ({ cls := "Sparkline$Reel", name := "beginClock", desc := "(I)V" } : Jvm.MethodName))) ∈ zT := zT_in 762 (by decide +kernel) rfl
set_option maxRecDepth 10000 in
theorem wd_763 : ((Jvm.Cond.code ({ cls := "Sparkline$Reel", name := "beginClock", desc := "(I)V" } : Jvm.MethodName) prog_9_method_2_code (2 : Nat) (Option.none : Option Jvm.ClassFile.FieldType))) ∈ zT := zT_in 763 (by decide +kernel) rfl
set_option maxRecDepth 10000 in
theorem wd_764 : ((Jvm.Cond.methodLink "Sparkline" (195 : Nat) ({ cls := "Sparkline$Reel", name := "clockAt", desc := "(I)I" } : Jvm.MethodName))) ∈ zT := zT_in 764 (by decide +kernel) rfl
set_option maxRecDepth 10000 in
theorem wd_765 : ((Jvm.Cond.instanceMethod ({ cls := "Sparkline$Reel", name := "clockAt", desc := "(I)I" } : Jvm.MethodName))) ∈ zT := zT_in 765 (by decide +kernel) rfl
set_option maxRecDepth 10000 in
theorem wd_766 : ((Jvm.Cond.selects "Sparkline$Reel" ({ cls := "Sparkline$Reel", name := "clockAt", desc := "(I)I" } : Jvm.MethodName) ({ cls := "Sparkline$Reel", name := "clockAt", desc := "(I)I" } : Jvm.MethodName))) ∈ zT := zT_in 766 (by decide +kernel) rfl
set_option maxRecDepth 10000 in
theorem wd_767 : ((Jvm.Cond.code ({ cls := "Sparkline$Reel", name := "clockAt", desc := "(I)I" } : Jvm.MethodName) prog_9_method_3_code (3 : Nat) (Option.some Jvm.ClassFile.FieldType.int))) ∈ zT := zT_in 767 (by decide +kernel) rfl
set_option maxRecDepth 10000 in
theorem wd_768 : ((Jvm.Cond.methodLink "SparklineLaw" (47 : Nat) ({ cls := "Sparkline", name := "ofReel", desc := "(II)I" } : Jvm.MethodName))) ∈ zT := zT_in 768 (by decide +kernel) rfl
set_option maxRecDepth 10000 in
theorem wd_769 : ((Jvm.Cond.instanceMethod ({ cls := "Sparkline", name := "ofReel", desc := "(II)I" } : Jvm.MethodName))) ∈ zT := zT_in 769 (by decide +kernel) rfl
set_option maxRecDepth 10000 in
theorem wd_770 : ((Jvm.Cond.selects "Sparkline" ({ cls := "Sparkline", name := "ofReel", desc := "(II)I" } : Jvm.MethodName) ({ cls := "Sparkline", name := "ofReel", desc := "(II)I" } : Jvm.MethodName))) ∈ zT := zT_in 770 (by decide +kernel) rfl
set_option maxRecDepth 10000 in
theorem wd_771 : ((Jvm.Cond.code ({ cls := "Sparkline", name := "ofReel", desc := "(II)I" } : Jvm.MethodName) prog_1_method_16_code (4 : Nat) (Option.some Jvm.ClassFile.FieldType.int))) ∈ zT := zT_in 771 (by decide +kernel) rfl
set_option maxRecDepth 10000 in
theorem wd_772 : ((Jvm.Cond.methodLink "SparklineLaw" (50 : Nat) ({ cls := "Sparkline", name := "board", desc := "()I" } : Jvm.MethodName))) ∈ zT := zT_in 772 (by decide +kernel) rfl
set_option maxRecDepth 10000 in
theorem wd_773 : ((Jvm.Cond.instanceMethod ({ cls := "Sparkline", name := "board", desc := "()I" } : Jvm.MethodName))) ∈ zT := zT_in 773 (by decide +kernel) rfl
set_option maxRecDepth 10000 in
theorem wd_774 : ((Jvm.Cond.selects "Sparkline" ({ cls := "Sparkline", name := "board", desc := "()I" } : Jvm.MethodName) ({ cls := "Sparkline", name := "board", desc := "()I" } : Jvm.MethodName))) ∈ zT := zT_in 774 (by decide +kernel) rfl
set_option maxRecDepth 10000 in
theorem wd_775 : ((Jvm.Cond.code ({ cls := "Sparkline", name := "board", desc := "()I" } : Jvm.MethodName) prog_1_method_17_code (1 : Nat) (Option.some Jvm.ClassFile.FieldType.int))) ∈ zT := zT_in 775 (by decide +kernel) rfl
set_option maxRecDepth 10000 in
theorem wd_776 : ((Jvm.Cond.classLink "Sparkline" (204 : Nat) "Sparkline$Board")) ∈ zT := zT_in 776 (by decide +kernel) rfl
set_option maxRecDepth 10000 in
theorem wd_777 : ((Jvm.Cond.instantiable "Sparkline$Board" (5 : Nat))) ∈ zT := zT_in 777 (by decide +kernel) rfl
set_option maxRecDepth 10000 in
theorem wd_778 : ((Jvm.Cond.methodLink "Sparkline" (206 : Nat) ({ cls := "Sparkline$Board", name := "<init>", desc := "()V" } : Jvm.MethodName))) ∈ zT := zT_in 778 (by decide +kernel) rfl
set_option maxRecDepth 10000 in
theorem wd_779 : ((Jvm.Cond.instanceMethod ({ cls := "Sparkline$Board", name := "<init>", desc := "()V" } : Jvm.MethodName))) ∈ zT := zT_in 779 (by decide +kernel) rfl
set_option maxRecDepth 10000 in
theorem wd_780 : ((Jvm.Cond.code ({ cls := "Sparkline$Board", name := "<init>", desc := "()V" } : Jvm.MethodName) prog_2_method_1_code (2 : Nat) (Option.none : Option Jvm.ClassFile.FieldType))) ∈ zT := zT_in 780 (by decide +kernel) rfl
set_option maxRecDepth 10000 in
theorem wd_781 : ((Jvm.Cond.methodLink "Sparkline$Board" (3 : Nat) ({ cls := "java/lang/Object", name := "<init>", desc := "()V" } : Jvm.MethodName))) ∈ zT := zT_in 781 (by decide +kernel) rfl
set_option maxRecDepth 10000 in
theorem wd_782 : ((Jvm.Cond.classLink "Sparkline$Board" (9 : Nat) "java/util/ArrayList")) ∈ zT := zT_in 782 (by decide +kernel) rfl
set_option maxRecDepth 10000 in
theorem wd_783 : ((Jvm.Cond.methodLink "Sparkline$Board" (11 : Nat) ({ cls := "java/util/ArrayList", name := "<init>", desc := "()V" } : Jvm.MethodName))) ∈ zT := zT_in 783 (by decide +kernel) rfl
set_option maxRecDepth 10000 in
theorem wd_784 : ((Jvm.Cond.classLink "Sparkline$Board" (18 : Nat) "Sparkline$Row")) ∈ zT := zT_in 784 (by decide +kernel) rfl
set_option maxRecDepth 10000 in
theorem wd_785 : ((Jvm.Cond.methodLink "Sparkline$Board" (20 : Nat) ({ cls := "Sparkline$Row", name := "<init>", desc := "(I)V" } : Jvm.MethodName))) ∈ zT := zT_in 785 (by decide +kernel) rfl
set_option maxRecDepth 10000 in
theorem wd_786 : ((Jvm.Cond.classLink "Sparkline$Board" (27 : Nat) "Sparkline$Slot")) ∈ zT := zT_in 786 (by decide +kernel) rfl
set_option maxRecDepth 10000 in
theorem wd_787 : ((Jvm.Cond.instantiable "Sparkline$Slot" (8 : Nat))) ∈ zT := zT_in 787 (by decide +kernel) rfl
set_option maxRecDepth 10000 in
theorem wd_789 : ((Jvm.Cond.instanceMethod ({ cls := "Sparkline$Slot", name := "<init>", desc := "()V" } : Jvm.MethodName))) ∈ zT := zT_in 789 (by decide +kernel) rfl
set_option maxRecDepth 10000 in
theorem wd_790 : ((Jvm.Cond.code ({ cls := "Sparkline$Slot", name := "<init>", desc := "()V" } : Jvm.MethodName) prog_11_method_1_code (1 : Nat) (Option.none : Option Jvm.ClassFile.FieldType))) ∈ zT := zT_in 790 (by decide +kernel) rfl
set_option maxRecDepth 10000 in
theorem wd_791 : ((Jvm.Cond.methodLink "Sparkline$Slot" (3 : Nat) ({ cls := "java/lang/Object", name := "<init>", desc := "()V" } : Jvm.MethodName))) ∈ zT := zT_in 791 (by decide +kernel) rfl
set_option maxRecDepth 10000 in
theorem wd_792 : ((Jvm.Cond.fieldLink "Sparkline$Slot" (9 : Nat) "Sparkline$Slot" "part" "I")) ∈ zT := zT_in 792 (by decide +kernel) rfl
set_option maxRecDepth 10000 in
theorem wd_793 : ((Jvm.Cond.fieldLink "Sparkline" (275 : Nat) "Sparkline$Slot" "part" "I")) ∈ zT := zT_in 793 (by decide +kernel) rfl
set_option maxRecDepth 10000 in
theorem wd_794 : ((Jvm.Cond.fieldLink "Sparkline$Slot" (15 : Nat) "Sparkline$Slot" "reel" "I")) ∈ zT := zT_in 794 (by decide +kernel) rfl
set_option maxRecDepth 10000 in
theorem wd_795 : ((Jvm.Cond.fieldLink "Sparkline$Board" (88 : Nat) "Sparkline$Slot" "reel" "I")) ∈ zT := zT_in 795 (by decide +kernel) rfl
set_option maxRecDepth 10000 in
theorem wd_796 : ((Jvm.Cond.fieldLink "Sparkline" (282 : Nat) "Sparkline$Slot" "reel" "I")) ∈ zT := zT_in 796 (by decide +kernel) rfl
set_option maxRecDepth 10000 in
theorem wd_797 : ((Jvm.Cond.fieldLink "Sparkline$Slot" (18 : Nat) "Sparkline$Slot" "minute" "I")) ∈ zT := zT_in 797 (by decide +kernel) rfl
set_option maxRecDepth 10000 in
theorem wd_798 : ((Jvm.Cond.fieldLink "Sparkline" (285 : Nat) "Sparkline$Slot" "minute" "I")) ∈ zT := zT_in 798 (by decide +kernel) rfl
set_option maxRecDepth 10000 in
theorem wd_799 : ((Jvm.Cond.fieldLink "Sparkline$Slot" (21 : Nat) "Sparkline$Slot" "fault" "I")) ∈ zT := zT_in 799 (by decide +kernel) rfl
set_option maxRecDepth 10000 in
theorem wd_800 : ((Jvm.Cond.fieldLink "Sparkline$Board" (81 : Nat) "Sparkline$Slot" "fault" "I")) ∈ zT := zT_in 800 (by decide +kernel) rfl
set_option maxRecDepth 10000 in
theorem wd_801 : ((Jvm.Cond.fieldLink "Sparkline" (254 : Nat) "Sparkline$Slot" "fault" "I")) ∈ zT := zT_in 801 (by decide +kernel) rfl
set_option maxRecDepth 10000 in
theorem wd_802 : ((Jvm.Cond.fieldLink "Sparkline$Slot" (54 : Nat) "Sparkline$Slot" "isFound" "Z")) ∈ zT := zT_in 802 (by decide +kernel) rfl
set_option maxRecDepth 10000 in
theorem wd_803 : ((Jvm.Cond.fieldLink "Sparkline$Board" (85 : Nat) "Sparkline$Slot" "isFound" "Z")) ∈ zT := zT_in 803 (by decide +kernel) rfl
set_option maxRecDepth 10000 in
theorem wd_804 : ((Jvm.Cond.fieldLink "Sparkline" (257 : Nat) "Sparkline$Slot" "isFound" "Z")) ∈ zT := zT_in 804 (by decide +kernel) rfl
set_option maxRecDepth 10000 in
theorem wd_805 : ((Jvm.Cond.fieldLink "Sparkline$Slot" (58 : Nat) "Sparkline$Slot" "isRepaired" "Z")) ∈ zT := zT_in 805 (by decide +kernel) rfl
set_option maxRecDepth 10000 in
theorem wd_806 : ((Jvm.Cond.fieldLink "Sparkline" (272 : Nat) "Sparkline$Slot" "isRepaired" "Z")) ∈ zT := zT_in 806 (by decide +kernel) rfl
set_option maxRecDepth 10000 in
theorem wd_807 : ((Jvm.Cond.fieldLink "Sparkline$Slot" (42 : Nat) "Sparkline$Slot" "low" "I")) ∈ zT := zT_in 807 (by decide +kernel) rfl
set_option maxRecDepth 10000 in
theorem wd_808 : ((Jvm.Cond.fieldLink "Sparkline$Slot" (48 : Nat) "Sparkline$Slot" "high" "I")) ∈ zT := zT_in 808 (by decide +kernel) rfl
set_option maxRecDepth 10000 in
theorem wd_809 : ((Jvm.Cond.lays "Sparkline$Slot" "Sparkline$Slot" "part" "I")) ∈ zT := zT_in 809 (by decide +kernel) rfl
set_option maxRecDepth 10000 in
theorem wd_811 : ((Jvm.Cond.lays "Sparkline$Slot" "Sparkline$Slot" "reel" "I")) ∈ zT := zT_in 811 (by decide +kernel) rfl
set_option maxRecDepth 10000 in
theorem wd_813 : ((Jvm.Cond.lays "Sparkline$Slot" "Sparkline$Slot" "minute" "I")) ∈ zT := zT_in 813 (by decide +kernel) rfl
set_option maxRecDepth 10000 in
theorem wd_815 : ((Jvm.Cond.lays "Sparkline$Slot" "Sparkline$Slot" "fault" "I")) ∈ zT := zT_in 815 (by decide +kernel) rfl
set_option maxRecDepth 10000 in
theorem wd_817 : ((Jvm.Cond.lays "Sparkline$Slot" "Sparkline$Slot" "isFound" "Z")) ∈ zT := zT_in 817 (by decide +kernel) rfl
set_option maxRecDepth 10000 in
theorem wd_819 : ((Jvm.Cond.lays "Sparkline$Slot" "Sparkline$Slot" "isRepaired" "Z")) ∈ zT := zT_in 819 (by decide +kernel) rfl
set_option maxRecDepth 10000 in
theorem wd_821 : ((Jvm.Cond.lays "Sparkline$Slot" "Sparkline$Slot" "low" "I")) ∈ zT := zT_in 821 (by decide +kernel) rfl
set_option maxRecDepth 10000 in
theorem wd_823 : ((Jvm.Cond.lays "Sparkline$Slot" "Sparkline$Slot" "high" "I")) ∈ zT := zT_in 823 (by decide +kernel) rfl
set_option maxRecDepth 10000 in
theorem wd_826 : ((Jvm.Cond.methodLink "Sparkline$Board" (30 : Nat) ({ cls := "java/util/ArrayList", name := "add", desc := "(Ljava/lang/Object;)Z" } : Jvm.MethodName))) ∈ zT := zT_in 826 (by decide +kernel) rfl
set_option maxRecDepth 10000 in
theorem wd_827 : ((Jvm.Cond.fieldLink "Sparkline$Board" (67 : Nat) "Sparkline$Board" "isSoldered" "Z")) ∈ zT := zT_in 827 (by decide +kernel) rfl
set_option maxRecDepth 10000 in
theorem wd_828 : ((Jvm.Cond.fieldLink "Sparkline" (215 : Nat) "Sparkline$Board" "isSoldered" "Z")) ∈ zT := zT_in 828 (by decide +kernel) rfl
set_option maxRecDepth 10000 in
theorem wd_829 : ((Jvm.Cond.fieldLink "Sparkline$Board" (78 : Nat) "Sparkline$Board" "isTested" "Z")) ∈ zT := zT_in 829 (by decide +kernel) rfl
set_option maxRecDepth 10000 in
theorem wd_830 : ((Jvm.Cond.fieldLink "Sparkline" (279 : Nat) "Sparkline$Board" "isTested" "Z")) ∈ zT := zT_in 830 (by decide +kernel) rfl
set_option maxRecDepth 10000 in
theorem wd_831 : ((Jvm.Cond.fieldLink "Sparkline" (251 : Nat) "Sparkline$Board" "isShipped" "Z")) ∈ zT := zT_in 831 (by decide +kernel) rfl
set_option maxRecDepth 10000 in
theorem wd_832 : ((Jvm.Cond.fieldLink "Sparkline$Board" (12 : Nat) "Sparkline$Board" "slots" "Ljava/util/ArrayList;")) ∈ zT := zT_in 832 (by decide +kernel) rfl
set_option maxRecDepth 10000 in
theorem wd_833 : ((Jvm.Cond.fieldLink "Sparkline$Board" (23 : Nat) "Sparkline$Board" "heats" "LSparkline$Row;")) ∈ zT := zT_in 833 (by decide +kernel) rfl
set_option maxRecDepth 10000 in
theorem wd_834 : ((Jvm.Cond.lays "Sparkline$Board" "Sparkline$Board" "isSoldered" "Z")) ∈ zT := zT_in 834 (by decide +kernel) rfl
set_option maxRecDepth 10000 in
theorem wd_836 : ((Jvm.Cond.lays "Sparkline$Board" "Sparkline$Board" "isTested" "Z")) ∈ zT := zT_in 836 (by decide +kernel) rfl
set_option maxRecDepth 10000 in
theorem wd_838 : ((Jvm.Cond.lays "Sparkline$Board" "Sparkline$Board" "isShipped" "Z")) ∈ zT := zT_in 838 (by decide +kernel) rfl
set_option maxRecDepth 10000 in
theorem wd_840 : ((Jvm.Cond.laysFinal "Sparkline$Board" "Sparkline$Board" "slots" "Ljava/util/ArrayList;")) ∈ zT := zT_in 840 (by decide +kernel) rfl
set_option maxRecDepth 10000 in
theorem wd_842 : ((Jvm.Cond.laysFinal "Sparkline$Board" "Sparkline$Board" "heats" "LSparkline$Row;")) ∈ zT := zT_in 842 (by decide +kernel) rfl
set_option maxRecDepth 10000 in
theorem wd_845 : ((Jvm.Cond.methodLink "SparklineLaw" (54 : Nat) ({ cls := "Sparkline", name := "place", desc := "(III)I" } : Jvm.MethodName))) ∈ zT := zT_in 845 (by decide +kernel) rfl
set_option maxRecDepth 10000 in
theorem wd_846 : ((Jvm.Cond.instanceMethod ({ cls := "Sparkline", name := "place", desc := "(III)I" } : Jvm.MethodName))) ∈ zT := zT_in 846 (by decide +kernel) rfl
set_option maxRecDepth 10000 in
theorem wd_847 : ((Jvm.Cond.selects "Sparkline" ({ cls := "Sparkline", name := "place", desc := "(III)I" } : Jvm.MethodName) ({ cls := "Sparkline", name := "place", desc := "(III)I" } : Jvm.MethodName))) ∈ zT := zT_in 847 (by decide +kernel) rfl
set_option maxRecDepth 10000 in
theorem wd_848 : ((Jvm.Cond.code ({ cls := "Sparkline", name := "place", desc := "(III)I" } : Jvm.MethodName) prog_1_method_18_code (7 : Nat) (Option.some Jvm.ClassFile.FieldType.int))) ∈ zT := zT_in 848 (by decide +kernel) rfl
set_option maxRecDepth 10000 in
theorem wd_849 : ((Jvm.Cond.methodLink "Sparkline" (207 : Nat) ({ cls := "Sparkline", name := "boardAt", desc := "(I)LSparkline$Board;" } : Jvm.MethodName))) ∈ zT := zT_in 849 (by decide +kernel) rfl
set_option maxRecDepth 10000 in
theorem wd_851 : ((Jvm.Cond.instanceMethod ({ cls := "Sparkline", name := "boardAt", desc := "(I)LSparkline$Board;" } : Jvm.MethodName))) ∈ zT := zT_in 851 (by decide +kernel) rfl
set_option maxRecDepth 10000 in
theorem wd_852 : ((Jvm.Cond.code ({ cls := "Sparkline", name := "boardAt", desc := "(I)LSparkline$Board;" } : Jvm.MethodName) prog_1_method_39_code (2 : Nat) (Option.some (Jvm.ClassFile.FieldType.object "Sparkline$Board")))) ∈ zT := zT_in 852 (by decide +kernel) rfl
set_option maxRecDepth 10000 in
theorem wd_853 : ((Jvm.Cond.methodLink "Sparkline" (211 : Nat) ({ cls := "Sparkline$Board", name := "slotAt", desc := "(I)LSparkline$Slot;" } : Jvm.MethodName))) ∈ zT := zT_in 853 (by decide +kernel) rfl
set_option maxRecDepth 10000 in
theorem wd_854 : ((Jvm.Cond.instanceMethod ({ cls := "Sparkline$Board", name := "slotAt", desc := "(I)LSparkline$Slot;" } : Jvm.MethodName))) ∈ zT := zT_in 854 (by decide +kernel) rfl
set_option maxRecDepth 10000 in
theorem wd_855 : ((Jvm.Cond.selects "Sparkline$Board" ({ cls := "Sparkline$Board", name := "slotAt", desc := "(I)LSparkline$Slot;" } : Jvm.MethodName) ({ cls := "Sparkline$Board", name := "slotAt", desc := "(I)LSparkline$Slot;" } : Jvm.MethodName))) ∈ zT := zT_in 855 (by decide +kernel) rfl
set_option maxRecDepth 10000 in
theorem wd_856 : ((Jvm.Cond.code ({ cls := "Sparkline$Board", name := "slotAt", desc := "(I)LSparkline$Slot;" } : Jvm.MethodName) prog_2_method_2_code (2 : Nat) (Option.some (Jvm.ClassFile.FieldType.object "Sparkline$Slot")))) ∈ zT := zT_in 856 (by decide +kernel) rfl
set_option maxRecDepth 10000 in
theorem wd_857 : ((Jvm.Cond.methodLink "Sparkline$Board" (34 : Nat) ({ cls := "java/util/ArrayList", name := "size", desc := "()I" } : Jvm.MethodName))) ∈ zT := zT_in 857 (by decide +kernel) rfl
set_option maxRecDepth 10000 in
theorem wd_859 : ((Jvm.Cond.classLink "Sparkline$Board" (42 : Nat) "java/lang/IndexOutOfBoundsException")) ∈ zT := zT_in 859 (by decide +kernel) rfl
set_option maxRecDepth 10000 in
theorem wd_861 : ((Jvm.Cond.methodLink "Sparkline$Board" (45 : Nat) ({ cls := "java/util/ArrayList", name := "get", desc := "(I)Ljava/lang/Object;" } : Jvm.MethodName))) ∈ zT := zT_in 861 (by decide +kernel) rfl
set_option maxRecDepth 10000 in
theorem wd_862 : ((Jvm.Cond.methodLink "Sparkline" (218 : Nat) ({ cls := "Sparkline$Slot", name := "hasPart", desc := "()Z" } : Jvm.MethodName))) ∈ zT := zT_in 862 (by decide +kernel) rfl
set_option maxRecDepth 10000 in
theorem wd_863 : ((Jvm.Cond.instanceMethod ({ cls := "Sparkline$Slot", name := "hasPart", desc := "()Z" } : Jvm.MethodName))) ∈ zT := zT_in 863 (by decide +kernel) rfl
set_option maxRecDepth 10000 in
theorem wd_864 : ((Jvm.Cond.selects "Sparkline$Slot" ({ cls := "Sparkline$Slot", name := "hasPart", desc := "()Z" } : Jvm.MethodName) ({ cls := "Sparkline$Slot", name := "hasPart", desc := "()Z" } : Jvm.MethodName))) ∈ zT := zT_in 864 (by decide +kernel) rfl
set_option maxRecDepth 10000 in
theorem wd_865 : ((Jvm.Cond.code ({ cls := "Sparkline$Slot", name := "hasPart", desc := "()Z" } : Jvm.MethodName) prog_11_method_2_code (1 : Nat) (Option.some Jvm.ClassFile.FieldType.boolean))) ∈ zT := zT_in 865 (by decide +kernel) rfl
set_option maxRecDepth 10000 in
theorem wd_866 : ((Jvm.Cond.methodLink "Sparkline" (224 : Nat) ({ cls := "Sparkline$Reel", name := "gives", desc := "(I)Z" } : Jvm.MethodName))) ∈ zT := zT_in 866 (by decide +kernel) rfl
set_option maxRecDepth 10000 in
theorem wd_867 : ((Jvm.Cond.instanceMethod ({ cls := "Sparkline$Reel", name := "gives", desc := "(I)Z" } : Jvm.MethodName))) ∈ zT := zT_in 867 (by decide +kernel) rfl
set_option maxRecDepth 10000 in
theorem wd_868 : ((Jvm.Cond.selects "Sparkline$Reel" ({ cls := "Sparkline$Reel", name := "gives", desc := "(I)Z" } : Jvm.MethodName) ({ cls := "Sparkline$Reel", name := "gives", desc := "(I)Z" } : Jvm.MethodName))) ∈ zT := zT_in 868 (by decide +kernel) rfl
set_option maxRecDepth 10000 in
theorem wd_869 : ((Jvm.Cond.code ({ cls := "Sparkline$Reel", name := "gives", desc := "(I)Z" } : Jvm.MethodName) prog_9_method_4_code (2 : Nat) (Option.some Jvm.ClassFile.FieldType.boolean))) ∈ zT := zT_in 869 (by decide +kernel) rfl
set_option maxRecDepth 10000 in
theorem wd_870 : ((Jvm.Cond.methodLink "Sparkline$Reel" (28 : Nat) ({ cls := "Sparkline$Reel", name := "clockAt", desc := "(I)I" } : Jvm.MethodName))) ∈ zT := zT_in 870 (by decide +kernel) rfl
set_option maxRecDepth 10000 in
theorem wd_871 : ((Jvm.Cond.methodLink "Sparkline" (227 : Nat) ({ cls := "Sparkline$Slot", name := "fill", desc := "(ILSparkline$Reel;I)V" } : Jvm.MethodName))) ∈ zT := zT_in 871 (by decide +kernel) rfl
set_option maxRecDepth 10000 in
theorem wd_872 : ((Jvm.Cond.instanceMethod ({ cls := "Sparkline$Slot", name := "fill", desc := "(ILSparkline$Reel;I)V" } : Jvm.MethodName))) ∈ zT := zT_in 872 (by decide +kernel) rfl
set_option maxRecDepth 10000 in
theorem wd_873 : ((Jvm.Cond.selects "Sparkline$Slot" ({ cls := "Sparkline$Slot", name := "fill", desc := "(ILSparkline$Reel;I)V" } : Jvm.MethodName) ({ cls := "Sparkline$Slot", name := "fill", desc := "(ILSparkline$Reel;I)V" } : Jvm.MethodName))) ∈ zT := zT_in 873 (by decide +kernel) rfl
set_option maxRecDepth 10000 in
theorem wd_874 : ((Jvm.Cond.code ({ cls := "Sparkline$Slot", name := "fill", desc := "(ILSparkline$Reel;I)V" } : Jvm.MethodName) prog_11_method_3_code (4 : Nat) (Option.none : Option Jvm.ClassFile.FieldType))) ∈ zT := zT_in 874 (by decide +kernel) rfl
set_option maxRecDepth 10000 in
theorem wd_875 : ((Jvm.Cond.methodLink "SparklineLaw" (57 : Nat) ({ cls := "SparklineLaw", name := "limited", desc := "(LSparkline;IIII)I" } : Jvm.MethodName))) ∈ zT := zT_in 875 (by decide +kernel) rfl
set_option maxRecDepth 10000 in
theorem wd_876 : ((Jvm.Cond.static ({ cls := "SparklineLaw", name := "limited", desc := "(LSparkline;IIII)I" } : Jvm.MethodName))) ∈ zT := zT_in 876 (by decide +kernel) rfl
set_option maxRecDepth 10000 in
theorem wd_877 : ((Jvm.Cond.code ({ cls := "SparklineLaw", name := "limited", desc := "(LSparkline;IIII)I" } : Jvm.MethodName) method_4_code (5 : Nat) (Option.some Jvm.ClassFile.FieldType.int))) ∈ zT := zT_code 877 (by decide +kernel) rfl
set_option maxRecDepth 10000 in
theorem wd_878 : ((Jvm.Cond.methodLink "SparklineLaw" (100 : Nat) ({ cls := "Sparkline", name := "limits", desc := "(ZIII)V" } : Jvm.MethodName))) ∈ zT := zT_in 878 (by decide +kernel) rfl
set_option maxRecDepth 10000 in
theorem wd_879 : ((Jvm.Cond.instanceMethod ({ cls := "Sparkline", name := "limits", desc := "(ZIII)V" } : Jvm.MethodName))) ∈ zT := zT_in 879 (by decide +kernel) rfl
set_option maxRecDepth 10000 in
theorem wd_880 : ((Jvm.Cond.selects "Sparkline" ({ cls := "Sparkline", name := "limits", desc := "(ZIII)V" } : Jvm.MethodName) ({ cls := "Sparkline", name := "limits", desc := "(ZIII)V" } : Jvm.MethodName))) ∈ zT := zT_in 880 (by decide +kernel) rfl
set_option maxRecDepth 10000 in
theorem wd_881 : ((Jvm.Cond.code ({ cls := "Sparkline", name := "limits", desc := "(ZIII)V" } : Jvm.MethodName) prog_1_method_19_code (5 : Nat) (Option.none : Option Jvm.ClassFile.FieldType))) ∈ zT := zT_in 881 (by decide +kernel) rfl
set_option maxRecDepth 10000 in
theorem wd_882 : ((Jvm.Cond.methodLink "Sparkline" (235 : Nat) ({ cls := "Sparkline$Row", name := "put", desc := "(II)V" } : Jvm.MethodName))) ∈ zT := zT_in 882 (by decide +kernel) rfl
set_option maxRecDepth 10000 in
theorem wd_883 : ((Jvm.Cond.methodLink "SparklineLaw" (63 : Nat) ({ cls := "Sparkline", name := "solder", desc := "(I)I" } : Jvm.MethodName))) ∈ zT := zT_in 883 (by decide +kernel) rfl
set_option maxRecDepth 10000 in
theorem wd_884 : ((Jvm.Cond.instanceMethod ({ cls := "Sparkline", name := "solder", desc := "(I)I" } : Jvm.MethodName))) ∈ zT := zT_in 884 (by decide +kernel) rfl
set_option maxRecDepth 10000 in
theorem wd_885 : ((Jvm.Cond.selects "Sparkline" ({ cls := "Sparkline", name := "solder", desc := "(I)I" } : Jvm.MethodName) ({ cls := "Sparkline", name := "solder", desc := "(I)I" } : Jvm.MethodName))) ∈ zT := zT_in 885 (by decide +kernel) rfl
set_option maxRecDepth 10000 in
theorem wd_886 : ((Jvm.Cond.code ({ cls := "Sparkline", name := "solder", desc := "(I)I" } : Jvm.MethodName) prog_1_method_20_code (3 : Nat) (Option.some Jvm.ClassFile.FieldType.int))) ∈ zT := zT_in 886 (by decide +kernel) rfl
set_option maxRecDepth 10000 in
theorem wd_887 : ((Jvm.Cond.methodLink "Sparkline" (247 : Nat) ({ cls := "Sparkline$Board", name := "goThrough", desc := "(LSparkline$Oven;)I" } : Jvm.MethodName))) ∈ zT := zT_in 887 (by decide +kernel) rfl
set_option maxRecDepth 10000 in
theorem wd_888 : ((Jvm.Cond.instanceMethod ({ cls := "Sparkline$Board", name := "goThrough", desc := "(LSparkline$Oven;)I" } : Jvm.MethodName))) ∈ zT := zT_in 888 (by decide +kernel) rfl
set_option maxRecDepth 10000 in
theorem wd_889 : ((Jvm.Cond.selects "Sparkline$Board" ({ cls := "Sparkline$Board", name := "goThrough", desc := "(LSparkline$Oven;)I" } : Jvm.MethodName) ({ cls := "Sparkline$Board", name := "goThrough", desc := "(LSparkline$Oven;)I" } : Jvm.MethodName))) ∈ zT := zT_in 889 (by decide +kernel) rfl
set_option maxRecDepth 10000 in
theorem wd_890 : ((Jvm.Cond.code ({ cls := "Sparkline$Board", name := "goThrough", desc := "(LSparkline$Oven;)I" } : Jvm.MethodName) prog_2_method_5_code (5 : Nat) (Option.some Jvm.ClassFile.FieldType.int))) ∈ zT := zT_in 890 (by decide +kernel) rfl
set_option maxRecDepth 10000 in
theorem wd_891 : ((Jvm.Cond.methodLink "Sparkline$Board" (63 : Nat) ({ cls := "Sparkline$Row", name := "copyFrom", desc := "(LSparkline$Row;)V" } : Jvm.MethodName))) ∈ zT := zT_in 891 (by decide +kernel) rfl
set_option maxRecDepth 10000 in
theorem wd_892 : ((Jvm.Cond.instanceMethod ({ cls := "Sparkline$Row", name := "copyFrom", desc := "(LSparkline$Row;)V" } : Jvm.MethodName))) ∈ zT := zT_in 892 (by decide +kernel) rfl
set_option maxRecDepth 10000 in
theorem wd_893 : ((Jvm.Cond.selects "Sparkline$Row" ({ cls := "Sparkline$Row", name := "copyFrom", desc := "(LSparkline$Row;)V" } : Jvm.MethodName) ({ cls := "Sparkline$Row", name := "copyFrom", desc := "(LSparkline$Row;)V" } : Jvm.MethodName))) ∈ zT := zT_in 893 (by decide +kernel) rfl
set_option maxRecDepth 10000 in
theorem wd_894 : ((Jvm.Cond.code ({ cls := "Sparkline$Row", name := "copyFrom", desc := "(LSparkline$Row;)V" } : Jvm.MethodName) prog_10_method_5_code (3 : Nat) (Option.none : Option Jvm.ClassFile.FieldType))) ∈ zT := zT_in 894 (by decide +kernel) rfl
set_option maxRecDepth 10000 in
theorem wd_895 : ((Jvm.Cond.methodLink "Sparkline$Row" (13 : Nat) ({ cls := "Sparkline$Row", name := "at", desc := "(I)I" } : Jvm.MethodName))) ∈ zT := zT_in 895 (by decide +kernel) rfl
set_option maxRecDepth 10000 in
theorem wd_896 : ((Jvm.Cond.methodLink "Sparkline$Board" (71 : Nat) ({ cls := "Sparkline$Board", name := "peak", desc := "()I" } : Jvm.MethodName))) ∈ zT := zT_in 896 (by decide +kernel) rfl
set_option maxRecDepth 10000 in
theorem wd_897 : ((Jvm.Cond.instanceMethod ({ cls := "Sparkline$Board", name := "peak", desc := "()I" } : Jvm.MethodName))) ∈ zT := zT_in 897 (by decide +kernel) rfl
set_option maxRecDepth 10000 in
theorem wd_898 : ((Jvm.Cond.selects "Sparkline$Board" ({ cls := "Sparkline$Board", name := "peak", desc := "()I" } : Jvm.MethodName) ({ cls := "Sparkline$Board", name := "peak", desc := "()I" } : Jvm.MethodName))) ∈ zT := zT_in 898 (by decide +kernel) rfl
set_option maxRecDepth 10000 in
theorem wd_899 : ((Jvm.Cond.code ({ cls := "Sparkline$Board", name := "peak", desc := "()I" } : Jvm.MethodName) prog_2_method_4_code (1 : Nat) (Option.some Jvm.ClassFile.FieldType.int))) ∈ zT := zT_in 899 (by decide +kernel) rfl
set_option maxRecDepth 10000 in
theorem wd_900 : ((Jvm.Cond.methodLink "Sparkline$Board" (53 : Nat) ({ cls := "Sparkline$Board", name := "mass", desc := "()I" } : Jvm.MethodName))) ∈ zT := zT_in 900 (by decide +kernel) rfl
set_option maxRecDepth 10000 in
theorem wd_902 : ((Jvm.Cond.instanceMethod ({ cls := "Sparkline$Board", name := "mass", desc := "()I" } : Jvm.MethodName))) ∈ zT := zT_in 902 (by decide +kernel) rfl
set_option maxRecDepth 10000 in
theorem wd_903 : ((Jvm.Cond.code ({ cls := "Sparkline$Board", name := "mass", desc := "()I" } : Jvm.MethodName) prog_2_method_3_code (3 : Nat) (Option.some Jvm.ClassFile.FieldType.int))) ∈ zT := zT_in 903 (by decide +kernel) rfl
set_option maxRecDepth 10000 in
theorem wd_904 : ((Jvm.Cond.methodLink "Sparkline$Board" (49 : Nat) ({ cls := "Sparkline$Slot", name := "hasPart", desc := "()Z" } : Jvm.MethodName))) ∈ zT := zT_in 904 (by decide +kernel) rfl
set_option maxRecDepth 10000 in
theorem wd_905 : ((Jvm.Cond.methodLink "Sparkline$Board" (56 : Nat) ({ cls := "Sparkline$Oven", name := "peakOf", desc := "(LSparkline$Row;I)I" } : Jvm.MethodName))) ∈ zT := zT_in 905 (by decide +kernel) rfl
set_option maxRecDepth 10000 in
theorem wd_906 : ((Jvm.Cond.static ({ cls := "Sparkline$Oven", name := "peakOf", desc := "(LSparkline$Row;I)I" } : Jvm.MethodName))) ∈ zT := zT_in 906 (by decide +kernel) rfl
set_option maxRecDepth 10000 in
theorem wd_907 : ((Jvm.Cond.code ({ cls := "Sparkline$Oven", name := "peakOf", desc := "(LSparkline$Row;I)I" } : Jvm.MethodName) prog_8_method_2_code (6 : Nat) (Option.some Jvm.ClassFile.FieldType.int))) ∈ zT := zT_in 907 (by decide +kernel) rfl
set_option maxRecDepth 10000 in
theorem wd_908 : ((Jvm.Cond.methodLink "Sparkline$Oven" (33 : Nat) ({ cls := "Sparkline$Row", name := "at", desc := "(I)I" } : Jvm.MethodName))) ∈ zT := zT_in 908 (by decide +kernel) rfl
set_option maxRecDepth 10000 in
theorem wd_910 : ((Jvm.Cond.methodLink "Sparkline$Oven" (41 : Nat) ({ cls := "java/lang/Math", name := "max", desc := "(II)I" } : Jvm.MethodName))) ∈ zT := zT_in 910 (by decide +kernel) rfl
set_option maxRecDepth 10000 in
theorem wd_911 : ((Jvm.Cond.methodLink "Sparkline$Board" (74 : Nat) ({ cls := "Sparkline$Slot", name := "join", desc := "(LSparkline$Oven;I)V" } : Jvm.MethodName))) ∈ zT := zT_in 911 (by decide +kernel) rfl
set_option maxRecDepth 10000 in
theorem wd_912 : ((Jvm.Cond.instanceMethod ({ cls := "Sparkline$Slot", name := "join", desc := "(LSparkline$Oven;I)V" } : Jvm.MethodName))) ∈ zT := zT_in 912 (by decide +kernel) rfl
set_option maxRecDepth 10000 in
theorem wd_913 : ((Jvm.Cond.selects "Sparkline$Slot" ({ cls := "Sparkline$Slot", name := "join", desc := "(LSparkline$Oven;I)V" } : Jvm.MethodName) ({ cls := "Sparkline$Slot", name := "join", desc := "(LSparkline$Oven;I)V" } : Jvm.MethodName))) ∈ zT := zT_in 913 (by decide +kernel) rfl
set_option maxRecDepth 10000 in
theorem wd_914 : ((Jvm.Cond.code ({ cls := "Sparkline$Slot", name := "join", desc := "(LSparkline$Oven;I)V" } : Jvm.MethodName) prog_11_method_4_code (3 : Nat) (Option.none : Option Jvm.ClassFile.FieldType))) ∈ zT := zT_in 914 (by decide +kernel) rfl
set_option maxRecDepth 10000 in
theorem wd_915 : ((Jvm.Cond.methodLink "Sparkline$Slot" (36 : Nat) ({ cls := "Sparkline$Row", name := "at", desc := "(I)I" } : Jvm.MethodName))) ∈ zT := zT_in 915 (by decide +kernel) rfl
set_option maxRecDepth 10000 in
theorem wd_916 : ((Jvm.Cond.methodLink "Sparkline$Slot" (51 : Nat) ({ cls := "Sparkline$Slot", name := "jointFor", desc := "(I)I" } : Jvm.MethodName))) ∈ zT := zT_in 916 (by decide +kernel) rfl
set_option maxRecDepth 10000 in
theorem wd_917 : ((Jvm.Cond.instanceMethod ({ cls := "Sparkline$Slot", name := "jointFor", desc := "(I)I" } : Jvm.MethodName))) ∈ zT := zT_in 917 (by decide +kernel) rfl
set_option maxRecDepth 10000 in
theorem wd_918 : ((Jvm.Cond.selects "Sparkline$Slot" ({ cls := "Sparkline$Slot", name := "jointFor", desc := "(I)I" } : Jvm.MethodName) ({ cls := "Sparkline$Slot", name := "jointFor", desc := "(I)I" } : Jvm.MethodName))) ∈ zT := zT_in 918 (by decide +kernel) rfl
set_option maxRecDepth 10000 in
theorem wd_919 : ((Jvm.Cond.code ({ cls := "Sparkline$Slot", name := "jointFor", desc := "(I)I" } : Jvm.MethodName) prog_11_method_5_code (2 : Nat) (Option.some Jvm.ClassFile.FieldType.int))) ∈ zT := zT_in 919 (by decide +kernel) rfl
set_option maxRecDepth 10000 in
theorem wd_920 : ((Jvm.Cond.methodLink "SparklineLaw" (66 : Nat) ({ cls := "SparklineLaw", name := "flawed", desc := "(LSparkline;II)I" } : Jvm.MethodName))) ∈ zT := zT_in 920 (by decide +kernel) rfl
set_option maxRecDepth 10000 in
theorem wd_921 : ((Jvm.Cond.static ({ cls := "SparklineLaw", name := "flawed", desc := "(LSparkline;II)I" } : Jvm.MethodName))) ∈ zT := zT_in 921 (by decide +kernel) rfl
set_option maxRecDepth 10000 in
theorem wd_922 : ((Jvm.Cond.code ({ cls := "SparklineLaw", name := "flawed", desc := "(LSparkline;II)I" } : Jvm.MethodName) method_5_code (3 : Nat) (Option.some Jvm.ClassFile.FieldType.int))) ∈ zT := zT_code 922 (by decide +kernel) rfl
set_option maxRecDepth 10000 in
theorem wd_923 : ((Jvm.Cond.methodLink "SparklineLaw" (104 : Nat) ({ cls := "Sparkline", name := "flaw", desc := "(II)V" } : Jvm.MethodName))) ∈ zT := zT_in 923 (by decide +kernel) rfl
set_option maxRecDepth 10000 in
theorem wd_924 : ((Jvm.Cond.instanceMethod ({ cls := "Sparkline", name := "flaw", desc := "(II)V" } : Jvm.MethodName))) ∈ zT := zT_in 924 (by decide +kernel) rfl
set_option maxRecDepth 10000 in
theorem wd_925 : ((Jvm.Cond.selects "Sparkline" ({ cls := "Sparkline", name := "flaw", desc := "(II)V" } : Jvm.MethodName) ({ cls := "Sparkline", name := "flaw", desc := "(II)V" } : Jvm.MethodName))) ∈ zT := zT_in 925 (by decide +kernel) rfl
set_option maxRecDepth 10000 in
theorem wd_926 : ((Jvm.Cond.code ({ cls := "Sparkline", name := "flaw", desc := "(II)V" } : Jvm.MethodName) prog_1_method_21_code (5 : Nat) (Option.none : Option Jvm.ClassFile.FieldType))) ∈ zT := zT_in 926 (by decide +kernel) rfl
set_option maxRecDepth 10000 in
theorem wd_927 : ((Jvm.Cond.methodLink "SparklineLaw" (70 : Nat) ({ cls := "Sparkline", name := "cover", desc := "(IZ)I" } : Jvm.MethodName))) ∈ zT := zT_in 927 (by decide +kernel) rfl
set_option maxRecDepth 10000 in
theorem wd_928 : ((Jvm.Cond.instanceMethod ({ cls := "Sparkline", name := "cover", desc := "(IZ)I" } : Jvm.MethodName))) ∈ zT := zT_in 928 (by decide +kernel) rfl
set_option maxRecDepth 10000 in
theorem wd_929 : ((Jvm.Cond.selects "Sparkline" ({ cls := "Sparkline", name := "cover", desc := "(IZ)I" } : Jvm.MethodName) ({ cls := "Sparkline", name := "cover", desc := "(IZ)I" } : Jvm.MethodName))) ∈ zT := zT_in 929 (by decide +kernel) rfl
set_option maxRecDepth 10000 in
theorem wd_930 : ((Jvm.Cond.code ({ cls := "Sparkline", name := "cover", desc := "(IZ)I" } : Jvm.MethodName) prog_1_method_22_code (3 : Nat) (Option.some Jvm.ClassFile.FieldType.int))) ∈ zT := zT_in 930 (by decide +kernel) rfl
set_option maxRecDepth 10000 in
theorem wd_931 : ((Jvm.Cond.methodLink "Sparkline" (260 : Nat) ({ cls := "java/lang/Integer", name := "bitCount", desc := "(I)I" } : Jvm.MethodName))) ∈ zT := zT_in 931 (by decide +kernel) rfl
set_option maxRecDepth 10000 in
theorem wd_932 : ((Jvm.Cond.static ({ cls := "java/lang/Integer", name := "bitCount", desc := "(I)I" } : Jvm.MethodName))) ∈ zT := zT_in 932 (by decide +kernel) rfl
set_option maxRecDepth 10000 in
theorem wd_933 : ((Jvm.Cond.code ({ cls := "java/lang/Integer", name := "bitCount", desc := "(I)I" } : Jvm.MethodName) prog_21_method_49_code (1 : Nat) (Option.some Jvm.ClassFile.FieldType.int))) ∈ zT := zT_in 933 (by decide +kernel) rfl
set_option maxRecDepth 10000 in
theorem wd_934 : ((Jvm.Cond.constant "java/lang/Integer" (265 : Nat) (1431655765 : Int32))) ∈ zT := zT_in 934 (by decide +kernel) rfl
set_option maxRecDepth 10000 in
theorem wd_935 : ((Jvm.Cond.constant "java/lang/Integer" (266 : Nat) (858993459 : Int32))) ∈ zT := zT_in 935 (by decide +kernel) rfl
set_option maxRecDepth 10000 in
theorem wd_936 : ((Jvm.Cond.constant "java/lang/Integer" (267 : Nat) (252645135 : Int32))) ∈ zT := zT_in 936 (by decide +kernel) rfl
set_option maxRecDepth 10000 in
theorem wd_937 : ((Jvm.Cond.methodLink "SparklineLaw" (73 : Nat) ({ cls := "Sparkline", name := "test", desc := "(I)I" } : Jvm.MethodName))) ∈ zT := zT_in 937 (by decide +kernel) rfl
set_option maxRecDepth 10000 in
theorem wd_938 : ((Jvm.Cond.instanceMethod ({ cls := "Sparkline", name := "test", desc := "(I)I" } : Jvm.MethodName))) ∈ zT := zT_in 938 (by decide +kernel) rfl
set_option maxRecDepth 10000 in
theorem wd_939 : ((Jvm.Cond.selects "Sparkline" ({ cls := "Sparkline", name := "test", desc := "(I)I" } : Jvm.MethodName) ({ cls := "Sparkline", name := "test", desc := "(I)I" } : Jvm.MethodName))) ∈ zT := zT_in 939 (by decide +kernel) rfl
set_option maxRecDepth 10000 in
theorem wd_940 : ((Jvm.Cond.code ({ cls := "Sparkline", name := "test", desc := "(I)I" } : Jvm.MethodName) prog_1_method_23_code (3 : Nat) (Option.some Jvm.ClassFile.FieldType.int))) ∈ zT := zT_in 940 (by decide +kernel) rfl
set_option maxRecDepth 10000 in
theorem wd_941 : ((Jvm.Cond.methodLink "Sparkline" (265 : Nat) ({ cls := "Sparkline$Board", name := "findFaults", desc := "(I)V" } : Jvm.MethodName))) ∈ zT := zT_in 941 (by decide +kernel) rfl
set_option maxRecDepth 10000 in
theorem wd_942 : ((Jvm.Cond.instanceMethod ({ cls := "Sparkline$Board", name := "findFaults", desc := "(I)V" } : Jvm.MethodName))) ∈ zT := zT_in 942 (by decide +kernel) rfl
set_option maxRecDepth 10000 in
theorem wd_943 : ((Jvm.Cond.selects "Sparkline$Board" ({ cls := "Sparkline$Board", name := "findFaults", desc := "(I)V" } : Jvm.MethodName) ({ cls := "Sparkline$Board", name := "findFaults", desc := "(I)V" } : Jvm.MethodName))) ∈ zT := zT_in 943 (by decide +kernel) rfl
set_option maxRecDepth 10000 in
theorem wd_944 : ((Jvm.Cond.code ({ cls := "Sparkline$Board", name := "findFaults", desc := "(I)V" } : Jvm.MethodName) prog_2_method_6_code (4 : Nat) (Option.none : Option Jvm.ClassFile.FieldType))) ∈ zT := zT_in 944 (by decide +kernel) rfl
set_option maxRecDepth 10000 in
theorem wd_945 : ((Jvm.Cond.methodLink "Sparkline" (268 : Nat) ({ cls := "Sparkline$Board", name := "faultsFound", desc := "(Z)I" } : Jvm.MethodName))) ∈ zT := zT_in 945 (by decide +kernel) rfl
set_option maxRecDepth 10000 in
theorem wd_946 : ((Jvm.Cond.instanceMethod ({ cls := "Sparkline$Board", name := "faultsFound", desc := "(Z)I" } : Jvm.MethodName))) ∈ zT := zT_in 946 (by decide +kernel) rfl
set_option maxRecDepth 10000 in
theorem wd_947 : ((Jvm.Cond.selects "Sparkline$Board" ({ cls := "Sparkline$Board", name := "faultsFound", desc := "(Z)I" } : Jvm.MethodName) ({ cls := "Sparkline$Board", name := "faultsFound", desc := "(Z)I" } : Jvm.MethodName))) ∈ zT := zT_in 947 (by decide +kernel) rfl
set_option maxRecDepth 10000 in
theorem wd_948 : ((Jvm.Cond.code ({ cls := "Sparkline$Board", name := "faultsFound", desc := "(Z)I" } : Jvm.MethodName) prog_2_method_7_code (5 : Nat) (Option.some Jvm.ClassFile.FieldType.int))) ∈ zT := zT_in 948 (by decide +kernel) rfl
set_option maxRecDepth 10000 in
theorem wd_949 : ((Jvm.Cond.methodLink "SparklineLaw" (76 : Nat) ({ cls := "Sparkline", name := "repair", desc := "(III)I" } : Jvm.MethodName))) ∈ zT := zT_in 949 (by decide +kernel) rfl
set_option maxRecDepth 10000 in
theorem wd_950 : ((Jvm.Cond.instanceMethod ({ cls := "Sparkline", name := "repair", desc := "(III)I" } : Jvm.MethodName))) ∈ zT := zT_in 950 (by decide +kernel) rfl
set_option maxRecDepth 10000 in
theorem wd_951 : ((Jvm.Cond.selects "Sparkline" ({ cls := "Sparkline", name := "repair", desc := "(III)I" } : Jvm.MethodName) ({ cls := "Sparkline", name := "repair", desc := "(III)I" } : Jvm.MethodName))) ∈ zT := zT_in 951 (by decide +kernel) rfl
set_option maxRecDepth 10000 in
theorem wd_952 : ((Jvm.Cond.code ({ cls := "Sparkline", name := "repair", desc := "(III)I" } : Jvm.MethodName) prog_1_method_24_code (7 : Nat) (Option.some Jvm.ClassFile.FieldType.int))) ∈ zT := zT_in 952 (by decide +kernel) rfl
set_option maxRecDepth 10000 in
theorem wd_953 : ((Jvm.Cond.methodLink "Sparkline" (276 : Nat) ({ cls := "Sparkline$Slot", name := "mend", desc := "()V" } : Jvm.MethodName))) ∈ zT := zT_in 953 (by decide +kernel) rfl
set_option maxRecDepth 10000 in
theorem wd_954 : ((Jvm.Cond.instanceMethod ({ cls := "Sparkline$Slot", name := "mend", desc := "()V" } : Jvm.MethodName))) ∈ zT := zT_in 954 (by decide +kernel) rfl
set_option maxRecDepth 10000 in
theorem wd_955 : ((Jvm.Cond.selects "Sparkline$Slot" ({ cls := "Sparkline$Slot", name := "mend", desc := "()V" } : Jvm.MethodName) ({ cls := "Sparkline$Slot", name := "mend", desc := "()V" } : Jvm.MethodName))) ∈ zT := zT_in 955 (by decide +kernel) rfl
set_option maxRecDepth 10000 in
theorem wd_956 : ((Jvm.Cond.code ({ cls := "Sparkline$Slot", name := "mend", desc := "()V" } : Jvm.MethodName) prog_11_method_6_code (1 : Nat) (Option.none : Option Jvm.ClassFile.FieldType))) ∈ zT := zT_in 956 (by decide +kernel) rfl
set_option maxRecDepth 10000 in
theorem wd_957 : ((Jvm.Cond.methodLink "SparklineLaw" (79 : Nat) ({ cls := "Sparkline", name := "ship", desc := "(I)I" } : Jvm.MethodName))) ∈ zT := zT_in 957 (by decide +kernel) rfl
set_option maxRecDepth 10000 in
theorem wd_958 : ((Jvm.Cond.instanceMethod ({ cls := "Sparkline", name := "ship", desc := "(I)I" } : Jvm.MethodName))) ∈ zT := zT_in 958 (by decide +kernel) rfl
set_option maxRecDepth 10000 in
theorem wd_959 : ((Jvm.Cond.selects "Sparkline" ({ cls := "Sparkline", name := "ship", desc := "(I)I" } : Jvm.MethodName) ({ cls := "Sparkline", name := "ship", desc := "(I)I" } : Jvm.MethodName))) ∈ zT := zT_in 959 (by decide +kernel) rfl
set_option maxRecDepth 10000 in
theorem wd_960 : ((Jvm.Cond.code ({ cls := "Sparkline", name := "ship", desc := "(I)I" } : Jvm.MethodName) prog_1_method_25_code (3 : Nat) (Option.some Jvm.ClassFile.FieldType.int))) ∈ zT := zT_in 960 (by decide +kernel) rfl
set_option maxRecDepth 10000 in
theorem wd_961 : ((Jvm.Cond.methodLink "SparklineLaw" (82 : Nat) ({ cls := "Sparkline", name := "pass", desc := "(I)I" } : Jvm.MethodName))) ∈ zT := zT_in 961 (by decide +kernel) rfl
set_option maxRecDepth 10000 in
theorem wd_962 : ((Jvm.Cond.instanceMethod ({ cls := "Sparkline", name := "pass", desc := "(I)I" } : Jvm.MethodName))) ∈ zT := zT_in 962 (by decide +kernel) rfl
set_option maxRecDepth 10000 in
theorem wd_963 : ((Jvm.Cond.selects "Sparkline" ({ cls := "Sparkline", name := "pass", desc := "(I)I" } : Jvm.MethodName) ({ cls := "Sparkline", name := "pass", desc := "(I)I" } : Jvm.MethodName))) ∈ zT := zT_in 963 (by decide +kernel) rfl
set_option maxRecDepth 10000 in
theorem wd_964 : ((Jvm.Cond.code ({ cls := "Sparkline", name := "pass", desc := "(I)I" } : Jvm.MethodName) prog_1_method_26_code (2 : Nat) (Option.some Jvm.ClassFile.FieldType.int))) ∈ zT := zT_in 964 (by decide +kernel) rfl
set_option maxRecDepth 10000 in
theorem wd_965 : ((Jvm.Cond.methodLink "SparklineLaw" (85 : Nat) ({ cls := "Sparkline", name := "ofSlot", desc := "(III)I" } : Jvm.MethodName))) ∈ zT := zT_in 965 (by decide +kernel) rfl
set_option maxRecDepth 10000 in
theorem wd_966 : ((Jvm.Cond.instanceMethod ({ cls := "Sparkline", name := "ofSlot", desc := "(III)I" } : Jvm.MethodName))) ∈ zT := zT_in 966 (by decide +kernel) rfl
set_option maxRecDepth 10000 in
theorem wd_967 : ((Jvm.Cond.selects "Sparkline" ({ cls := "Sparkline", name := "ofSlot", desc := "(III)I" } : Jvm.MethodName) ({ cls := "Sparkline", name := "ofSlot", desc := "(III)I" } : Jvm.MethodName))) ∈ zT := zT_in 967 (by decide +kernel) rfl
set_option maxRecDepth 10000 in
theorem wd_968 : ((Jvm.Cond.code ({ cls := "Sparkline", name := "ofSlot", desc := "(III)I" } : Jvm.MethodName) prog_1_method_27_code (5 : Nat) (Option.some Jvm.ClassFile.FieldType.int))) ∈ zT := zT_in 968 (by decide +kernel) rfl
set_option maxRecDepth 10000 in
theorem wd_969 : ((Jvm.Cond.methodLink "SparklineLaw" (88 : Nat) ({ cls := "Sparkline", name := "recall", desc := "(I)I" } : Jvm.MethodName))) ∈ zT := zT_in 969 (by decide +kernel) rfl
set_option maxRecDepth 10000 in
theorem wd_970 : ((Jvm.Cond.instanceMethod ({ cls := "Sparkline", name := "recall", desc := "(I)I" } : Jvm.MethodName))) ∈ zT := zT_in 970 (by decide +kernel) rfl
set_option maxRecDepth 10000 in
theorem wd_971 : ((Jvm.Cond.selects "Sparkline" ({ cls := "Sparkline", name := "recall", desc := "(I)I" } : Jvm.MethodName) ({ cls := "Sparkline", name := "recall", desc := "(I)I" } : Jvm.MethodName))) ∈ zT := zT_in 971 (by decide +kernel) rfl
set_option maxRecDepth 10000 in
theorem wd_972 : ((Jvm.Cond.code ({ cls := "Sparkline", name := "recall", desc := "(I)I" } : Jvm.MethodName) prog_1_method_29_code (5 : Nat) (Option.some Jvm.ClassFile.FieldType.int))) ∈ zT := zT_in 972 (by decide +kernel) rfl
set_option maxRecDepth 10000 in
theorem wd_973 : ((Jvm.Cond.methodLink "Sparkline" (296 : Nat) ({ cls := "Sparkline$Board", name := "hasPartOf", desc := "(I)Z" } : Jvm.MethodName))) ∈ zT := zT_in 973 (by decide +kernel) rfl
set_option maxRecDepth 10000 in
theorem wd_974 : ((Jvm.Cond.instanceMethod ({ cls := "Sparkline$Board", name := "hasPartOf", desc := "(I)Z" } : Jvm.MethodName))) ∈ zT := zT_in 974 (by decide +kernel) rfl
set_option maxRecDepth 10000 in
theorem wd_975 : ((Jvm.Cond.selects "Sparkline$Board" ({ cls := "Sparkline$Board", name := "hasPartOf", desc := "(I)Z" } : Jvm.MethodName) ({ cls := "Sparkline$Board", name := "hasPartOf", desc := "(I)Z" } : Jvm.MethodName))) ∈ zT := zT_in 975 (by decide +kernel) rfl
set_option maxRecDepth 10000 in
theorem wd_976 : ((Jvm.Cond.code ({ cls := "Sparkline$Board", name := "hasPartOf", desc := "(I)Z" } : Jvm.MethodName) prog_2_method_8_code (3 : Nat) (Option.some Jvm.ClassFile.FieldType.boolean))) ∈ zT := zT_in 976 (by decide +kernel) rfl
set_option maxRecDepth 10000 in
theorem wd_977 : ((Jvm.Cond.constant "SparklineLaw" (93 : Nat) (-3000000 : Int32))) ∈ zT := zT_in 977 (by decide +kernel) rfl
set_option maxRecDepth 10000 in
theorem wd_978 : ((Jvm.Cond.constant "SparklineLaw" (96 : Nat) (-2000000 : Int32))) ∈ zT := zT_in 978 (by decide +kernel) rfl
set_option maxRecDepth 10000 in
theorem wd_979 : ((Jvm.Cond.constant "SparklineLaw" (99 : Nat) (-1000000 : Int32))) ∈ zT := zT_in 979 (by decide +kernel) rfl
set_option maxRecDepth 10000 in
theorem wd_980 : ((Jvm.Cond.methodLink "SparklineLaw" (176 : Nat) ({ cls := "SparklineLaw", name := "isSo", desc := "(LSparkline;[I[I[I[I[I[I[I[I[I[I[II)Z" } : Jvm.MethodName))) ∈ zT := zT_in 980 (by decide +kernel) rfl
set_option maxRecDepth 10000 in
theorem wd_981 : ((Jvm.Cond.static ({ cls := "SparklineLaw", name := "isSo", desc := "(LSparkline;[I[I[I[I[I[I[I[I[I[I[II)Z" } : Jvm.MethodName))) ∈ zT := zT_in 981 (by decide +kernel) rfl
set_option maxRecDepth 10000 in
theorem wd_982 : ((Jvm.Cond.code ({ cls := "SparklineLaw", name := "isSo", desc := "(LSparkline;[I[I[I[I[I[I[I[I[I[I[II)Z" } : Jvm.MethodName) method_13_code (19 : Nat) (Option.some Jvm.ClassFile.FieldType.boolean))) ∈ zT := zT_code 982 (by decide +kernel) rfl
set_option maxRecDepth 10000 in
theorem wd_983 : ((Jvm.Cond.methodLink "SparklineLaw" (113 : Nat) ({ cls := "Sparkline", name := "crimps", desc := "(I)I" } : Jvm.MethodName))) ∈ zT := zT_in 983 (by decide +kernel) rfl
set_option maxRecDepth 10000 in
theorem wd_984 : ((Jvm.Cond.instanceMethod ({ cls := "Sparkline", name := "crimps", desc := "(I)I" } : Jvm.MethodName))) ∈ zT := zT_in 984 (by decide +kernel) rfl
set_option maxRecDepth 10000 in
theorem wd_985 : ((Jvm.Cond.selects "Sparkline" ({ cls := "Sparkline", name := "crimps", desc := "(I)I" } : Jvm.MethodName) ({ cls := "Sparkline", name := "crimps", desc := "(I)I" } : Jvm.MethodName))) ∈ zT := zT_in 985 (by decide +kernel) rfl
set_option maxRecDepth 10000 in
theorem wd_986 : ((Jvm.Cond.code ({ cls := "Sparkline", name := "crimps", desc := "(I)I" } : Jvm.MethodName) prog_1_method_13_code (2 : Nat) (Option.some Jvm.ClassFile.FieldType.int))) ∈ zT := zT_in 986 (by decide +kernel) rfl
set_option maxRecDepth 10000 in
theorem wd_987 : ((Jvm.Cond.methodLink "Sparkline" (173 : Nat) ({ cls := "Sparkline$Crimper", name := "window", desc := "()I" } : Jvm.MethodName))) ∈ zT := zT_in 987 (by decide +kernel) rfl
set_option maxRecDepth 10000 in
theorem wd_988 : ((Jvm.Cond.methodLink "SparklineLaw" (116 : Nat) ({ cls := "SparklineLaw", name := "window", desc := "([I[I)I" } : Jvm.MethodName))) ∈ zT := zT_in 988 (by decide +kernel) rfl
set_option maxRecDepth 10000 in
theorem wd_989 : ((Jvm.Cond.static ({ cls := "SparklineLaw", name := "window", desc := "([I[I)I" } : Jvm.MethodName))) ∈ zT := zT_in 989 (by decide +kernel) rfl
set_option maxRecDepth 10000 in
theorem wd_990 : ((Jvm.Cond.code ({ cls := "SparklineLaw", name := "window", desc := "([I[I)I" } : Jvm.MethodName) method_11_code (5 : Nat) (Option.some Jvm.ClassFile.FieldType.int))) ∈ zT := zT_code 990 (by decide +kernel) rfl
set_option maxRecDepth 10000 in
theorem wd_991 : ((Jvm.Cond.methodLink "SparklineLaw" (120 : Nat) ({ cls := "Sparkline", name := "weight", desc := "(I)I" } : Jvm.MethodName))) ∈ zT := zT_in 991 (by decide +kernel) rfl
set_option maxRecDepth 10000 in
theorem wd_992 : ((Jvm.Cond.instanceMethod ({ cls := "Sparkline", name := "weight", desc := "(I)I" } : Jvm.MethodName))) ∈ zT := zT_in 992 (by decide +kernel) rfl
set_option maxRecDepth 10000 in
theorem wd_993 : ((Jvm.Cond.selects "Sparkline" ({ cls := "Sparkline", name := "weight", desc := "(I)I" } : Jvm.MethodName) ({ cls := "Sparkline", name := "weight", desc := "(I)I" } : Jvm.MethodName))) ∈ zT := zT_in 993 (by decide +kernel) rfl
set_option maxRecDepth 10000 in
theorem wd_994 : ((Jvm.Cond.code ({ cls := "Sparkline", name := "weight", desc := "(I)I" } : Jvm.MethodName) prog_1_method_8_code (2 : Nat) (Option.some Jvm.ClassFile.FieldType.int))) ∈ zT := zT_in 994 (by decide +kernel) rfl
set_option maxRecDepth 10000 in
theorem wd_995 : ((Jvm.Cond.methodLink "Sparkline" (149 : Nat) ({ cls := "Sparkline$Harness", name := "weightOf", desc := "(I)I" } : Jvm.MethodName))) ∈ zT := zT_in 995 (by decide +kernel) rfl
set_option maxRecDepth 10000 in
theorem wd_996 : ((Jvm.Cond.methodLink "SparklineLaw" (123 : Nat) ({ cls := "SparklineLaw", name := "weight", desc := "([I[I[II)I" } : Jvm.MethodName))) ∈ zT := zT_in 996 (by decide +kernel) rfl
set_option maxRecDepth 10000 in
theorem wd_997 : ((Jvm.Cond.static ({ cls := "SparklineLaw", name := "weight", desc := "([I[I[II)I" } : Jvm.MethodName))) ∈ zT := zT_in 997 (by decide +kernel) rfl
set_option maxRecDepth 10000 in
theorem wd_998 : ((Jvm.Cond.code ({ cls := "SparklineLaw", name := "weight", desc := "([I[I[II)I" } : Jvm.MethodName) method_7_code (6 : Nat) (Option.some Jvm.ClassFile.FieldType.int))) ∈ zT := zT_code 998 (by decide +kernel) rfl
set_option maxRecDepth 10000 in
theorem wd_999 : ((Jvm.Cond.constant "SparklineLaw" (108 : Nat) (32768 : Int32))) ∈ zT := zT_in 999 (by decide +kernel) rfl
set_option maxRecDepth 10000 in
theorem wd_1000 : ((Jvm.Cond.methodLink "SparklineLaw" (109 : Nat) ({ cls := "SparklineLaw", name := "runs", desc := "([I[I[II)I" } : Jvm.MethodName))) ∈ zT := zT_in 1000 (by decide +kernel) rfl
set_option maxRecDepth 10000 in
theorem wd_1001 : ((Jvm.Cond.static ({ cls := "SparklineLaw", name := "runs", desc := "([I[I[II)I" } : Jvm.MethodName))) ∈ zT := zT_in 1001 (by decide +kernel) rfl
set_option maxRecDepth 10000 in
theorem wd_1002 : ((Jvm.Cond.code ({ cls := "SparklineLaw", name := "runs", desc := "([I[I[II)I" } : Jvm.MethodName) method_9_code (5 : Nat) (Option.some Jvm.ClassFile.FieldType.int))) ∈ zT := zT_code 1002 (by decide +kernel) rfl
set_option maxRecDepth 10000 in
theorem wd_1003 : ((Jvm.Cond.methodLink "SparklineLaw" (125 : Nat) ({ cls := "Sparkline", name := "jointAnew", desc := "(II)I" } : Jvm.MethodName))) ∈ zT := zT_in 1003 (by decide +kernel) rfl
set_option maxRecDepth 10000 in
theorem wd_1004 : ((Jvm.Cond.instanceMethod ({ cls := "Sparkline", name := "jointAnew", desc := "(II)I" } : Jvm.MethodName))) ∈ zT := zT_in 1004 (by decide +kernel) rfl
set_option maxRecDepth 10000 in
theorem wd_1005 : ((Jvm.Cond.selects "Sparkline" ({ cls := "Sparkline", name := "jointAnew", desc := "(II)I" } : Jvm.MethodName) ({ cls := "Sparkline", name := "jointAnew", desc := "(II)I" } : Jvm.MethodName))) ∈ zT := zT_in 1005 (by decide +kernel) rfl
set_option maxRecDepth 10000 in
theorem wd_1006 : ((Jvm.Cond.code ({ cls := "Sparkline", name := "jointAnew", desc := "(II)I" } : Jvm.MethodName) prog_1_method_28_code (5 : Nat) (Option.some Jvm.ClassFile.FieldType.int))) ∈ zT := zT_in 1006 (by decide +kernel) rfl
set_option maxRecDepth 10000 in
theorem wd_1007 : ((Jvm.Cond.methodLink "Sparkline" (286 : Nat) ({ cls := "Sparkline$Board", name := "peak", desc := "()I" } : Jvm.MethodName))) ∈ zT := zT_in 1007 (by decide +kernel) rfl
set_option maxRecDepth 10000 in
theorem wd_1008 : ((Jvm.Cond.methodLink "Sparkline" (289 : Nat) ({ cls := "Sparkline$Slot", name := "jointFor", desc := "(I)I" } : Jvm.MethodName))) ∈ zT := zT_in 1008 (by decide +kernel) rfl
set_option maxRecDepth 10000 in
theorem wd_1009 : ((Jvm.Cond.methodLink "SparklineLaw" (161 : Nat) ({ cls := "SparklineLaw", name := "isHarness", desc := "(LSparkline;[I[I[I[I[I[IIII)Z" } : Jvm.MethodName))) ∈ zT := zT_in 1009 (by decide +kernel) rfl
set_option maxRecDepth 10000 in
theorem wd_1010 : ((Jvm.Cond.static ({ cls := "SparklineLaw", name := "isHarness", desc := "(LSparkline;[I[I[I[I[I[IIII)Z" } : Jvm.MethodName))) ∈ zT := zT_in 1010 (by decide +kernel) rfl
set_option maxRecDepth 10000 in
theorem wd_1011 : ((Jvm.Cond.code ({ cls := "SparklineLaw", name := "isHarness", desc := "(LSparkline;[I[I[I[I[I[IIII)Z" } : Jvm.MethodName) method_14_code (24 : Nat) (Option.some Jvm.ClassFile.FieldType.boolean))) ∈ zT := zT_code 1011 (by decide +kernel) rfl
set_option maxRecDepth 10000 in
theorem wd_1012 : ((Jvm.Cond.methodLink "SparklineLaw" (132 : Nat) ({ cls := "SparklineLaw", name := "wrong", desc := "([I[I)I" } : Jvm.MethodName))) ∈ zT := zT_in 1012 (by decide +kernel) rfl
set_option maxRecDepth 10000 in
theorem wd_1013 : ((Jvm.Cond.static ({ cls := "SparklineLaw", name := "wrong", desc := "([I[I)I" } : Jvm.MethodName))) ∈ zT := zT_in 1013 (by decide +kernel) rfl
set_option maxRecDepth 10000 in
theorem wd_1014 : ((Jvm.Cond.code ({ cls := "SparklineLaw", name := "wrong", desc := "([I[I)I" } : Jvm.MethodName) method_8_code (5 : Nat) (Option.some Jvm.ClassFile.FieldType.int))) ∈ zT := zT_code 1014 (by decide +kernel) rfl
set_option maxRecDepth 10000 in
theorem wd_1015 : ((Jvm.Cond.methodLink "SparklineLaw" (135 : Nat) ({ cls := "SparklineLaw", name := "way", desc := "([I[I[III[I)I" } : Jvm.MethodName))) ∈ zT := zT_in 1015 (by decide +kernel) rfl
set_option maxRecDepth 10000 in
theorem wd_1016 : ((Jvm.Cond.static ({ cls := "SparklineLaw", name := "way", desc := "([I[I[III[I)I" } : Jvm.MethodName))) ∈ zT := zT_in 1016 (by decide +kernel) rfl
set_option maxRecDepth 10000 in
theorem wd_1017 : ((Jvm.Cond.code ({ cls := "SparklineLaw", name := "way", desc := "([I[I[III[I)I" } : Jvm.MethodName) method_6_code (16 : Nat) (Option.some Jvm.ClassFile.FieldType.int))) ∈ zT := zT_code 1017 (by decide +kernel) rfl
set_option maxRecDepth 10000 in
theorem wd_1018 : ((Jvm.Cond.methodLink "SparklineLaw" (165 : Nat) ({ cls := "SparklineLaw", name := "isReel", desc := "(LSparkline;[I[I[I[I[I[IIII)Z" } : Jvm.MethodName))) ∈ zT := zT_in 1018 (by decide +kernel) rfl
set_option maxRecDepth 10000 in
theorem wd_1019 : ((Jvm.Cond.static ({ cls := "SparklineLaw", name := "isReel", desc := "(LSparkline;[I[I[I[I[I[IIII)Z" } : Jvm.MethodName))) ∈ zT := zT_in 1019 (by decide +kernel) rfl
set_option maxRecDepth 10000 in
theorem wd_1020 : ((Jvm.Cond.code ({ cls := "SparklineLaw", name := "isReel", desc := "(LSparkline;[I[I[I[I[I[IIII)Z" } : Jvm.MethodName) method_15_code (15 : Nat) (Option.some Jvm.ClassFile.FieldType.boolean))) ∈ zT := zT_code 1020 (by decide +kernel) rfl
set_option maxRecDepth 10000 in
theorem wd_1021 : ((Jvm.Cond.methodLink "SparklineLaw" (168 : Nat) ({ cls := "SparklineLaw", name := "isBoard", desc := "(LSparkline;[I[I[I[I[I[I[I[IIII)Z" } : Jvm.MethodName))) ∈ zT := zT_in 1021 (by decide +kernel) rfl
set_option maxRecDepth 10000 in
theorem wd_1022 : ((Jvm.Cond.static ({ cls := "SparklineLaw", name := "isBoard", desc := "(LSparkline;[I[I[I[I[I[I[I[IIII)Z" } : Jvm.MethodName))) ∈ zT := zT_in 1022 (by decide +kernel) rfl
set_option maxRecDepth 10000 in
theorem wd_1023 : ((Jvm.Cond.code ({ cls := "SparklineLaw", name := "isBoard", desc := "(LSparkline;[I[I[I[I[I[I[I[IIII)Z" } : Jvm.MethodName) method_17_code (22 : Nat) (Option.some Jvm.ClassFile.FieldType.boolean))) ∈ zT := zT_code 1023 (by decide +kernel) rfl
set_option maxRecDepth 10000 in
theorem wd_1024 : ((Jvm.Cond.methodLink "SparklineLaw" (139 : Nat) ({ cls := "SparklineLaw", name := "gives", desc := "([I[I[I[II)Z" } : Jvm.MethodName))) ∈ zT := zT_in 1024 (by decide +kernel) rfl
set_option maxRecDepth 10000 in
theorem wd_1025 : ((Jvm.Cond.static ({ cls := "SparklineLaw", name := "gives", desc := "([I[I[I[II)Z" } : Jvm.MethodName))) ∈ zT := zT_in 1025 (by decide +kernel) rfl
set_option maxRecDepth 10000 in
theorem wd_1026 : ((Jvm.Cond.code ({ cls := "SparklineLaw", name := "gives", desc := "([I[I[I[II)Z" } : Jvm.MethodName) method_10_code (5 : Nat) (Option.some Jvm.ClassFile.FieldType.boolean))) ∈ zT := zT_code 1026 (by decide +kernel) rfl
set_option maxRecDepth 10000 in
theorem wd_1027 : ((Jvm.Cond.methodLink "SparklineLaw" (143 : Nat) ({ cls := "SparklineLaw", name := "soldered", desc := "([I[I[II)I" } : Jvm.MethodName))) ∈ zT := zT_in 1027 (by decide +kernel) rfl
set_option maxRecDepth 10000 in
theorem wd_1028 : ((Jvm.Cond.static ({ cls := "SparklineLaw", name := "soldered", desc := "([I[I[II)I" } : Jvm.MethodName))) ∈ zT := zT_in 1028 (by decide +kernel) rfl
set_option maxRecDepth 10000 in
theorem wd_1029 : ((Jvm.Cond.code ({ cls := "SparklineLaw", name := "soldered", desc := "([I[I[II)I" } : Jvm.MethodName) method_16_code (10 : Nat) (Option.some Jvm.ClassFile.FieldType.int))) ∈ zT := zT_code 1029 (by decide +kernel) rfl
set_option maxRecDepth 10000 in
theorem wd_1030 : ((Jvm.Cond.methodLink "SparklineLaw" (146 : Nat) ({ cls := "SparklineLaw", name := "faults", desc := "([III)I" } : Jvm.MethodName))) ∈ zT := zT_in 1030 (by decide +kernel) rfl
set_option maxRecDepth 10000 in
theorem wd_1031 : ((Jvm.Cond.static ({ cls := "SparklineLaw", name := "faults", desc := "([III)I" } : Jvm.MethodName))) ∈ zT := zT_in 1031 (by decide +kernel) rfl
set_option maxRecDepth 10000 in
theorem wd_1032 : ((Jvm.Cond.code ({ cls := "SparklineLaw", name := "faults", desc := "([III)I" } : Jvm.MethodName) method_12_code (6 : Nat) (Option.some Jvm.ClassFile.FieldType.int))) ∈ zT := zT_code 1032 (by decide +kernel) rfl
set_option maxRecDepth 10000 in
theorem wd_1033 : ((Jvm.Cond.methodLink "SparklineLaw" (172 : Nat) ({ cls := "SparklineLaw", name := "isTold", desc := "(LSparkline;[I[IIII)Z" } : Jvm.MethodName))) ∈ zT := zT_in 1033 (by decide +kernel) rfl
set_option maxRecDepth 10000 in
theorem wd_1034 : ((Jvm.Cond.static ({ cls := "SparklineLaw", name := "isTold", desc := "(LSparkline;[I[IIII)Z" } : Jvm.MethodName))) ∈ zT := zT_in 1034 (by decide +kernel) rfl
set_option maxRecDepth 10000 in
theorem wd_1035 : ((Jvm.Cond.code ({ cls := "SparklineLaw", name := "isTold", desc := "(LSparkline;[I[IIII)Z" } : Jvm.MethodName) method_18_code (12 : Nat) (Option.some Jvm.ClassFile.FieldType.boolean))) ∈ zT := zT_code 1035 (by decide +kernel) rfl
set_option maxRecDepth 10000 in
theorem wd_1036 : ((Jvm.Cond.constant "SparklineLaw" (160 : Nat) (60000 : Int32))) ∈ zT := zT_in 1036 (by decide +kernel) rfl
set_option maxRecDepth 10000 in
theorem wd_1056 : ((Jvm.Cond.selects "[Ljava/lang/Object;" ({ cls := "java/lang/Object", name := "getClass", desc := "()Ljava/lang/Class;" } : Jvm.MethodName) ({ cls := "java/lang/Object", name := "getClass", desc := "()Ljava/lang/Class;" } : Jvm.MethodName))) ∈ zT := zT_in 1056 (by decide +kernel) rfl
set_option maxRecDepth 10000 in
theorem wn_57 : ((Jvm.Cond.methodLinkNest "Sparkline" (9 : Nat) ({ cls := "Sparkline$Harness", name := "<init>", desc := "()V" } : Jvm.MethodName) "Sparkline")) ∈ zN := zN_in 57 (by decide +kernel) rfl
set_option maxRecDepth 10000 in
theorem wn_116 : ((Jvm.Cond.methodLinkNest "Sparkline" (18 : Nat) ({ cls := "Sparkline$Orders", name := "<init>", desc := "()V" } : Jvm.MethodName) "Sparkline")) ∈ zN := zN_in 116 (by decide +kernel) rfl
set_option maxRecDepth 10000 in
theorem wn_141 : ((Jvm.Cond.methodLinkNest "Sparkline" (25 : Nat) ({ cls := "Sparkline$Crimper", name := "<init>", desc := "()V" } : Jvm.MethodName) "Sparkline")) ∈ zN := zN_in 141 (by decide +kernel) rfl
set_option maxRecDepth 10000 in
theorem wn_233 : ((Jvm.Cond.castable "java/lang/IllegalArgumentException" "java/lang/IllegalArgumentException")) ∈ zN := zN_in 233 (by decide +kernel) rfl
set_option maxRecDepth 10000 in
theorem wn_384 : ((Jvm.Cond.castable "java/lang/IndexOutOfBoundsException" "java/lang/IndexOutOfBoundsException")) ∈ zN := zN_in 384 (by decide +kernel) rfl
set_option maxRecDepth 10000 in
theorem wn_403 : ((Jvm.Cond.castable "java/lang/IllegalStateException" "java/lang/IllegalStateException")) ∈ zN := zN_in 403 (by decide +kernel) rfl
set_option maxRecDepth 10000 in
theorem wn_501 : ((Jvm.Cond.arrayOver (Jvm.ClassFile.FieldType.object "java/lang/Object"))) ∈ zN := zN_in 501 (by decide +kernel) rfl
set_option maxRecDepth 10000 in
theorem wn_710 : ((Jvm.Cond.methodLinkNest "Sparkline$Crimper" (49 : Nat) ({ cls := "Sparkline", name := "divideDown", desc := "(II)I" } : Jvm.MethodName) "Sparkline")) ∈ zN := zN_in 710 (by decide +kernel) rfl
set_option maxRecDepth 10000 in
theorem wn_788 : ((Jvm.Cond.methodLinkNest "Sparkline$Board" (29 : Nat) ({ cls := "Sparkline$Slot", name := "<init>", desc := "()V" } : Jvm.MethodName) "Sparkline")) ∈ zN := zN_in 788 (by decide +kernel) rfl
set_option maxRecDepth 10000 in
theorem wn_858 : ((Jvm.Cond.methodLinkNest "Sparkline$Board" (38 : Nat) ({ cls := "Sparkline", name := "isIndex", desc := "(II)Z" } : Jvm.MethodName) "Sparkline")) ∈ zN := zN_in 858 (by decide +kernel) rfl
set_option maxRecDepth 10000 in
theorem wn_909 : ((Jvm.Cond.methodLinkNest "Sparkline$Oven" (37 : Nat) ({ cls := "Sparkline", name := "divideDown", desc := "(II)I" } : Jvm.MethodName) "Sparkline")) ∈ zN := zN_in 909 (by decide +kernel) rfl
set_option maxRecDepth 10000 in
theorem wn_1038 : ((Jvm.Cond.castable "Sparkline" "java/lang/Object")) ∈ zN := zN_in 1038 (by decide +kernel) rfl
set_option maxRecDepth 10000 in
theorem wn_1039 : ((Jvm.Cond.castable "Sparkline$Harness" "java/lang/Object")) ∈ zN := zN_in 1039 (by decide +kernel) rfl
set_option maxRecDepth 10000 in
theorem wn_1040 : ((Jvm.Cond.castable "java/util/ArrayList" "java/lang/Object")) ∈ zN := zN_in 1040 (by decide +kernel) rfl
set_option maxRecDepth 10000 in
theorem wn_1041 : ((Jvm.Cond.castable "Sparkline$Row" "java/lang/Object")) ∈ zN := zN_in 1041 (by decide +kernel) rfl
set_option maxRecDepth 10000 in
theorem wn_1042 : ((Jvm.Cond.castable "Sparkline$Orders" "java/lang/Object")) ∈ zN := zN_in 1042 (by decide +kernel) rfl
set_option maxRecDepth 10000 in
theorem wn_1043 : ((Jvm.Cond.castable "Sparkline$Crimper" "java/lang/Object")) ∈ zN := zN_in 1043 (by decide +kernel) rfl
set_option maxRecDepth 10000 in
theorem wn_1044 : ((Jvm.Cond.castable "Sparkline$Oven" "java/lang/Object")) ∈ zN := zN_in 1044 (by decide +kernel) rfl
set_option maxRecDepth 10000 in
theorem wn_1048 : ((Jvm.Cond.castable "Sparkline$Bundle" "java/lang/Object")) ∈ zN := zN_in 1048 (by decide +kernel) rfl
set_option maxRecDepth 10000 in
theorem wn_1049 : ((Jvm.Cond.castable "Sparkline$Connector" "java/lang/Object")) ∈ zN := zN_in 1049 (by decide +kernel) rfl
set_option maxRecDepth 10000 in
theorem wn_1050 : ((Jvm.Cond.castable "Sparkline$Wire" "java/lang/Object")) ∈ zN := zN_in 1050 (by decide +kernel) rfl
set_option maxRecDepth 10000 in
theorem wn_1051 : ((Jvm.Cond.castable "Sparkline$Reel" "java/lang/Object")) ∈ zN := zN_in 1051 (by decide +kernel) rfl
set_option maxRecDepth 10000 in
theorem wn_1052 : ((Jvm.Cond.castable "Sparkline$Board" "java/lang/Object")) ∈ zN := zN_in 1052 (by decide +kernel) rfl
set_option maxRecDepth 10000 in
theorem wn_1053 : ((Jvm.Cond.castable "Sparkline$Slot" "java/lang/Object")) ∈ zN := zN_in 1053 (by decide +kernel) rfl
set_option maxRecDepth 10000 in
theorem wn_1057 : ((Jvm.Cond.declares ({ cls := "java/lang/Object", name := "getClass", desc := "()Ljava/lang/Class;" } : Jvm.MethodName))) ∈ zN := zN_in 1057 (by decide +kernel) rfl
theorem hi_X0 : ∀ w ∈ u_ws RX0 TX0 5, w ∈ zT := List.forall_mem_cons.mpr ⟨wd_834, List.forall_mem_cons.mpr ⟨wd_836, List.forall_mem_cons.mpr ⟨wd_838, List.forall_mem_cons.mpr ⟨wd_840, List.forall_mem_cons.mpr ⟨wd_842, fun _ h => absurd h List.not_mem_nil⟩⟩⟩⟩⟩
theorem df_X0 : ∀ j, j < 5 → defaultValue (tyX0 j) = vp_V [.int 0, .int 0, .int 0, .null, .null] j := by decide +kernel
theorem hi_X1 : ∀ w ∈ u_ws RX1 TX1 5, w ∈ zT := List.forall_mem_cons.mpr ⟨wd_437, List.forall_mem_cons.mpr ⟨wd_439, List.forall_mem_cons.mpr ⟨wd_441, List.forall_mem_cons.mpr ⟨wd_443, List.forall_mem_cons.mpr ⟨wd_445, fun _ h => absurd h List.not_mem_nil⟩⟩⟩⟩⟩
theorem df_X1 : ∀ j, j < 5 → defaultValue (tyX1 j) = vp_V [.int 0, .int 0, .int 0, .int 0, .int 0] j := by decide +kernel
theorem hi_X2 : ∀ w ∈ u_ws RX2 TX2 5, w ∈ zT := List.forall_mem_cons.mpr ⟨wd_533, List.forall_mem_cons.mpr ⟨wd_535, List.forall_mem_cons.mpr ⟨wd_537, List.forall_mem_cons.mpr ⟨wd_539, List.forall_mem_cons.mpr ⟨wd_541, fun _ h => absurd h List.not_mem_nil⟩⟩⟩⟩⟩
theorem df_X2 : ∀ j, j < 5 → defaultValue (tyX2 j) = vp_V [.int 0, .int 0, .int 0, .int 0, .int 0] j := by decide +kernel
theorem hi_X3 : ∀ w ∈ u_ws RX3 TX3 4, w ∈ zT := List.forall_mem_cons.mpr ⟨wd_153, List.forall_mem_cons.mpr ⟨wd_155, List.forall_mem_cons.mpr ⟨wd_157, List.forall_mem_cons.mpr ⟨wd_159, fun _ h => absurd h List.not_mem_nil⟩⟩⟩⟩
theorem df_X3 : ∀ j, j < 4 → defaultValue (tyX3 j) = vp_V [.int 0, .int 0, .null, .int 0] j := by decide +kernel
theorem hi_X4 : ∀ w ∈ u_ws RX4 TX4 4, w ∈ zT := List.forall_mem_cons.mpr ⟨wd_105, List.forall_mem_cons.mpr ⟨wd_107, List.forall_mem_cons.mpr ⟨wd_109, List.forall_mem_cons.mpr ⟨wd_111, fun _ h => absurd h List.not_mem_nil⟩⟩⟩⟩
theorem df_X4 : ∀ j, j < 4 → defaultValue (tyX4 j) = vp_V [.null, .null, .null, .null] j := by decide +kernel
theorem hi_X5 : ∀ w ∈ u_ws RX5 TX5 5, w ∈ zT := List.forall_mem_cons.mpr ⟨wd_128, List.forall_mem_cons.mpr ⟨wd_130, List.forall_mem_cons.mpr ⟨wd_132, List.forall_mem_cons.mpr ⟨wd_134, List.forall_mem_cons.mpr ⟨wd_136, fun _ h => absurd h List.not_mem_nil⟩⟩⟩⟩⟩
theorem df_X5 : ∀ j, j < 5 → defaultValue (tyX5 j) = vp_V [.null, .null, .null, .null, .int 0] j := by decide +kernel
theorem hi_X6 : ∀ w ∈ u_ws RX6 TX6 3, w ∈ zT := List.forall_mem_cons.mpr ⟨wd_187, List.forall_mem_cons.mpr ⟨wd_189, List.forall_mem_cons.mpr ⟨wd_191, fun _ h => absurd h List.not_mem_nil⟩⟩⟩
theorem df_X6 : ∀ j, j < 3 → defaultValue (tyX6 j) = vp_V [.null, .null, .null] j := by decide +kernel
theorem hi_X7 : ∀ w ∈ u_ws RX7 TX7 5, w ∈ zT := List.forall_mem_cons.mpr ⟨wd_740, List.forall_mem_cons.mpr ⟨wd_742, List.forall_mem_cons.mpr ⟨wd_744, List.forall_mem_cons.mpr ⟨wd_746, List.forall_mem_cons.mpr ⟨wd_748, fun _ h => absurd h List.not_mem_nil⟩⟩⟩⟩⟩
theorem df_X7 : ∀ j, j < 5 → defaultValue (tyX7 j) = vp_V [.int 0, .int 0, .int 0, .int 0, .int 0] j := by decide +kernel
theorem hi_X8 : ∀ w ∈ u_ws RX8 TX8 1, w ∈ zT := List.forall_mem_cons.mpr ⟨wd_94, fun _ h => absurd h List.not_mem_nil⟩
theorem df_X8 : ∀ j, j < 1 → defaultValue (tyX8 j) = vp_V [.null] j := by decide +kernel
theorem hi_X9 : ∀ w ∈ u_ws RX9 TX9 8, w ∈ zT := List.forall_mem_cons.mpr ⟨wd_809, List.forall_mem_cons.mpr ⟨wd_811, List.forall_mem_cons.mpr ⟨wd_813, List.forall_mem_cons.mpr ⟨wd_815, List.forall_mem_cons.mpr ⟨wd_817, List.forall_mem_cons.mpr ⟨wd_819, List.forall_mem_cons.mpr ⟨wd_821, List.forall_mem_cons.mpr ⟨wd_823, fun _ h => absurd h List.not_mem_nil⟩⟩⟩⟩⟩⟩⟩⟩
theorem df_X9 : ∀ j, j < 8 → defaultValue (tyX9 j) = vp_V [.int 0, .int 0, .int 0, .int 0, .int 0, .int 0, .int 0, .int 0] j := by decide +kernel
theorem hi_X10 : ∀ w ∈ u_ws RX10 TX10 8, w ∈ zT := List.forall_mem_cons.mpr ⟨wd_619, List.forall_mem_cons.mpr ⟨wd_621, List.forall_mem_cons.mpr ⟨wd_623, List.forall_mem_cons.mpr ⟨wd_625, List.forall_mem_cons.mpr ⟨wd_627, List.forall_mem_cons.mpr ⟨wd_629, List.forall_mem_cons.mpr ⟨wd_631, List.forall_mem_cons.mpr ⟨wd_633, fun _ h => absurd h List.not_mem_nil⟩⟩⟩⟩⟩⟩⟩⟩
theorem df_X10 : ∀ j, j < 8 → defaultValue (tyX10 j) = vp_V [.null, .int 0, .null, .int 0, .int 0, .int 0, .int 0, .null] j := by decide +kernel
theorem hi_X11 : ∀ w ∈ u_ws RX11 TX11 8, w ∈ zT := List.forall_mem_cons.mpr ⟨wd_204, List.forall_mem_cons.mpr ⟨wd_206, List.forall_mem_cons.mpr ⟨wd_208, List.forall_mem_cons.mpr ⟨wd_210, List.forall_mem_cons.mpr ⟨wd_212, List.forall_mem_cons.mpr ⟨wd_214, List.forall_mem_cons.mpr ⟨wd_216, List.forall_mem_cons.mpr ⟨wd_218, fun _ h => absurd h List.not_mem_nil⟩⟩⟩⟩⟩⟩⟩⟩
theorem df_X11 : ∀ j, j < 8 → defaultValue (tyX11 j) = vp_V [.null, .null, .null, .null, .null, .null, .int 0, .int 0] j := by decide +kernel
theorem hi_Jx4a65c : ∀ w ∈ u_ws RJx4a65c TJx4a65c 3, w ∈ zT := List.forall_mem_cons.mpr ⟨wd_84, List.forall_mem_cons.mpr ⟨wd_80, List.forall_mem_cons.mpr ⟨wd_82, fun _ h => absurd h List.not_mem_nil⟩⟩⟩
theorem df_Jx4a65c : ∀ j, j < 3 → defaultValue (tyJx4a65c j) = vp_V [.int 0, .null, .int 0] j := by decide +kernel
theorem hca_all : ∀ (ci : Nat) (q : vw_C), vwCl[ci]? = some q → Cond.castable q.1 "java/lang/Object" ∈ zN := by
  have h : ∀ q ∈ vwCl, Cond.castable q.1 "java/lang/Object" ∈ zN := List.forall_mem_cons.mpr ⟨wn_1040, List.forall_mem_cons.mpr ⟨wn_1052, List.forall_mem_cons.mpr ⟨wn_1048, List.forall_mem_cons.mpr ⟨wn_1049, List.forall_mem_cons.mpr ⟨wn_1043, List.forall_mem_cons.mpr ⟨wn_1039, List.forall_mem_cons.mpr ⟨wn_1042, List.forall_mem_cons.mpr ⟨wn_1044, List.forall_mem_cons.mpr ⟨wn_1051, List.forall_mem_cons.mpr ⟨wn_1041, List.forall_mem_cons.mpr ⟨wn_1053, List.forall_mem_cons.mpr ⟨wn_1050, List.forall_mem_cons.mpr ⟨wn_1038, fun _ h => absurd h List.not_mem_nil⟩⟩⟩⟩⟩⟩⟩⟩⟩⟩⟩⟩⟩
  exact fun ci q hq => h q (List.mem_of_getElem? hq)
abbrev zxn : List String := ["java/lang/RuntimeException", "java/lang/Exception"]
theorem th_X11_checkIndex_4 : ∀ w ∈ vx_at0 "Sparkline" 301 "java/lang/IndexOutOfBoundsException" zxn, w ∈ lw_tbl := by decide +kernel
theorem tg_X11_checkIndex_4 : ∀ w ∈ vx_at0 "Sparkline" 301 "java/lang/IndexOutOfBoundsException" zxn, (goodWord w || (zkeep w && w.onTables)) = true := by decide +kernel
theorem to_X11_checkIndex_4 : ∀ w ∈ Cond.classLink "Sparkline" 299 "java/lang/IndexOutOfBoundsException" :: Cond.initialized "java/lang/IndexOutOfBoundsException" :: vx_at0 "Sparkline" 301 "java/lang/IndexOutOfBoundsException" zxn, vx_ot w = true := by decide +kernel
theorem th_X11_checkArgument_4 : ∀ w ∈ vx_at0 "Sparkline" 304 "java/lang/IllegalArgumentException" zxn, w ∈ lw_tbl := by decide +kernel
theorem tg_X11_checkArgument_4 : ∀ w ∈ vx_at0 "Sparkline" 304 "java/lang/IllegalArgumentException" zxn, (goodWord w || (zkeep w && w.onTables)) = true := by decide +kernel
theorem to_X11_checkArgument_4 : ∀ w ∈ Cond.classLink "Sparkline" 302 "java/lang/IllegalArgumentException" :: Cond.initialized "java/lang/IllegalArgumentException" :: vx_at0 "Sparkline" 304 "java/lang/IllegalArgumentException" zxn, vx_ot w = true := by decide +kernel
theorem th_X11_checkState_4 : ∀ w ∈ vx_at0 "Sparkline" 307 "java/lang/IllegalStateException" zxn, w ∈ lw_tbl := by decide +kernel
theorem tg_X11_checkState_4 : ∀ w ∈ vx_at0 "Sparkline" 307 "java/lang/IllegalStateException" zxn, (goodWord w || (zkeep w && w.onTables)) = true := by decide +kernel
theorem to_X11_checkState_4 : ∀ w ∈ Cond.classLink "Sparkline" 305 "java/lang/IllegalStateException" :: Cond.initialized "java/lang/IllegalStateException" :: vx_at0 "Sparkline" 307 "java/lang/IllegalStateException" zxn, vx_ot w = true := by decide +kernel
theorem th_X11_connectorAt_17 : ∀ w ∈ vx_at0 "Sparkline" 301 "java/lang/IndexOutOfBoundsException" zxn, w ∈ lw_tbl := by decide +kernel
theorem tg_X11_connectorAt_17 : ∀ w ∈ vx_at0 "Sparkline" 301 "java/lang/IndexOutOfBoundsException" zxn, (goodWord w || (zkeep w && w.onTables)) = true := by decide +kernel
theorem to_X11_connectorAt_17 : ∀ w ∈ Cond.classLink "Sparkline" 299 "java/lang/IndexOutOfBoundsException" :: Cond.initialized "java/lang/IndexOutOfBoundsException" :: vx_at0 "Sparkline" 301 "java/lang/IndexOutOfBoundsException" zxn, vx_ot w = true := by decide +kernel
theorem th_X11_wireAt_17 : ∀ w ∈ vx_at0 "Sparkline" 301 "java/lang/IndexOutOfBoundsException" zxn, w ∈ lw_tbl := by decide +kernel
theorem tg_X11_wireAt_17 : ∀ w ∈ vx_at0 "Sparkline" 301 "java/lang/IndexOutOfBoundsException" zxn, (goodWord w || (zkeep w && w.onTables)) = true := by decide +kernel
theorem to_X11_wireAt_17 : ∀ w ∈ Cond.classLink "Sparkline" 299 "java/lang/IndexOutOfBoundsException" :: Cond.initialized "java/lang/IndexOutOfBoundsException" :: vx_at0 "Sparkline" 301 "java/lang/IndexOutOfBoundsException" zxn, vx_ot w = true := by decide +kernel
theorem th_X11_reelAt_14 : ∀ w ∈ vx_at0 "Sparkline" 301 "java/lang/IndexOutOfBoundsException" zxn, w ∈ lw_tbl := by decide +kernel
theorem tg_X11_reelAt_14 : ∀ w ∈ vx_at0 "Sparkline" 301 "java/lang/IndexOutOfBoundsException" zxn, (goodWord w || (zkeep w && w.onTables)) = true := by decide +kernel
theorem to_X11_reelAt_14 : ∀ w ∈ Cond.classLink "Sparkline" 299 "java/lang/IndexOutOfBoundsException" :: Cond.initialized "java/lang/IndexOutOfBoundsException" :: vx_at0 "Sparkline" 301 "java/lang/IndexOutOfBoundsException" zxn, vx_ot w = true := by decide +kernel
theorem th_X11_boardAt_14 : ∀ w ∈ vx_at0 "Sparkline" 301 "java/lang/IndexOutOfBoundsException" zxn, w ∈ lw_tbl := by decide +kernel
theorem tg_X11_boardAt_14 : ∀ w ∈ vx_at0 "Sparkline" 301 "java/lang/IndexOutOfBoundsException" zxn, (goodWord w || (zkeep w && w.onTables)) = true := by decide +kernel
theorem to_X11_boardAt_14 : ∀ w ∈ Cond.classLink "Sparkline" 299 "java/lang/IndexOutOfBoundsException" :: Cond.initialized "java/lang/IndexOutOfBoundsException" :: vx_at0 "Sparkline" 301 "java/lang/IndexOutOfBoundsException" zxn, vx_ot w = true := by decide +kernel
theorem th_X0_slotAt_14 : ∀ w ∈ vx_at0 "Sparkline$Board" 44 "java/lang/IndexOutOfBoundsException" zxn, w ∈ lw_tbl := by decide +kernel
theorem tg_X0_slotAt_14 : ∀ w ∈ vx_at0 "Sparkline$Board" 44 "java/lang/IndexOutOfBoundsException" zxn, (goodWord w || (zkeep w && w.onTables)) = true := by decide +kernel
theorem to_X0_slotAt_14 : ∀ w ∈ Cond.classLink "Sparkline$Board" 42 "java/lang/IndexOutOfBoundsException" :: Cond.initialized "java/lang/IndexOutOfBoundsException" :: vx_at0 "Sparkline$Board" 44 "java/lang/IndexOutOfBoundsException" zxn, vx_ot w = true := by decide +kernel
def zi_Jxa1e45_init_da8c8 : zI := (yJxa1e45_init_da8c8, cJxa1e45_init_da8c8, 1, (none : Option ClassFile.FieldType), 1, none)
theorem zw_Jxa1e45_init_da8c8 : zHd (zi_Jxa1e45_init_da8c8) ∈ zT := wd_71
theorem nx_Jxa1e45_init_da8c8 : zNm (zi_Jxa1e45_init_da8c8) 0 := ⟨by decide +kernel, by decide +kernel, by decide +kernel⟩
theorem pf_Jxa1e45_init_da8c8 : plainFor (zi_Jxa1e45_init_da8c8).1 = true := by decide +kernel
def zi_Jxc12de_init_da8c8 : zI := (yJxc12de_init_da8c8, cJxc12de_init_da8c8, 1, (none : Option ClassFile.FieldType), 2, none)
theorem zw_Jxc12de_init_da8c8 : zHd (zi_Jxc12de_init_da8c8) ∈ zT := wd_68
theorem nx_Jxc12de_init_da8c8 : zNm (zi_Jxc12de_init_da8c8) 0 := ⟨by decide +kernel, by decide +kernel, by decide +kernel⟩
theorem pf_Jxc12de_init_da8c8 : plainFor (zi_Jxc12de_init_da8c8).1 = true := by decide +kernel
def zi_Jx4a65c_init_da8c8 : zI := (yJx4a65c_init_da8c8, cJx4a65c_init_da8c8, 1, (none : Option ClassFile.FieldType), 3, none)
theorem zw_Jx4a65c_init_da8c8 : zHd (zi_Jx4a65c_init_da8c8) ∈ zT := wd_65
theorem nx_Jx4a65c_init_da8c8 : zNm (zi_Jx4a65c_init_da8c8) 0 := ⟨by decide +kernel, by decide +kernel, by decide +kernel⟩
theorem pf_Jx4a65c_init_da8c8 : plainFor (zi_Jx4a65c_init_da8c8).1 = true := by decide +kernel
def zi_X8_init : zI := (yX8_init, cX8_init, 2, (none : Option ClassFile.FieldType), 1, none)
theorem zw_X8_init : zHd (zi_X8_init) ∈ zT := wd_91
theorem nx_X8_init : zNm (zi_X8_init) 1 := ⟨by decide +kernel, by decide +kernel, by decide +kernel⟩
theorem pf_X8_init : plainFor (zi_X8_init).1 = true := by decide +kernel
def zi_X4_init : zI := (yX4_init, cX4_init, 1, (none : Option ClassFile.FieldType), 4, none)
theorem zw_X4_init : zHd (zi_X4_init) ∈ zT := wd_59
theorem nx_X4_init : zNm (zi_X4_init) 0 := ⟨by decide +kernel, by decide +kernel, by decide +kernel⟩
theorem pf_X4_init : plainFor (zi_X4_init).1 = true := by decide +kernel
def zi_X5_init : zI := (yX5_init, cX5_init, 1, (none : Option ClassFile.FieldType), 2, none)
theorem zw_X5_init : zHd (zi_X5_init) ∈ zT := wd_118
theorem nx_X5_init : zNm (zi_X5_init) 0 := ⟨by decide +kernel, by decide +kernel, by decide +kernel⟩
theorem pf_X5_init : plainFor (zi_X5_init).1 = true := by decide +kernel
def zi_X3_init : zI := (yX3_init, cX3_init, 1, (none : Option ClassFile.FieldType), 2, none)
theorem zw_X3_init : zHd (zi_X3_init) ∈ zT := wd_143
theorem nx_X3_init : zNm (zi_X3_init) 0 := ⟨by decide +kernel, by decide +kernel, by decide +kernel⟩
theorem pf_X3_init : plainFor (zi_X3_init).1 = true := by decide +kernel
def zi_X8_put : zI := (yX8_put, cX8_put, 3, (none : Option ClassFile.FieldType), 0, none)
theorem zw_X8_put : zHd (zi_X8_put) ∈ zT := wd_173
theorem nx_X8_put : zNm (zi_X8_put) 2 := ⟨by decide +kernel, by decide +kernel, by decide +kernel⟩
theorem pf_X8_put : plainFor (zi_X8_put).1 = true := by decide +kernel
def zi_X8_fill : zI := (yX8_fill, cX8_fill, 3, (none : Option ClassFile.FieldType), 0, none)
theorem zw_X8_fill : zHd (zi_X8_fill) ∈ zT := wd_177
theorem nx_X8_fill : zNm (zi_X8_fill) 1 := ⟨by decide +kernel, by decide +kernel, by decide +kernel⟩
theorem pf_X8_fill : plainFor (zi_X8_fill).1 = true := by decide +kernel
def zi_X6_init : zI := (yX6_init, cX6_init, 1, (none : Option ClassFile.FieldType), 2, none)
theorem zw_X6_init : zHd (zi_X6_init) ∈ zT := wd_166
theorem nx_X6_init : zNm (zi_X6_init) 0 := ⟨by decide +kernel, by decide +kernel, by decide +kernel⟩
theorem pf_X6_init : plainFor (zi_X6_init).1 = true := by decide +kernel
def zi_X11_init : zI := (yX11_init, cX11_init, 1, (none : Option ClassFile.FieldType), 5, none)
theorem zw_X11_init : zHd (zi_X11_init) ∈ zT := wd_51
theorem nx_X11_init : zNm (zi_X11_init) 0 := ⟨by decide +kernel, by decide +kernel, by decide +kernel⟩
theorem pf_X11_init : plainFor (zi_X11_init).1 = true := by decide +kernel
def zi_X11_isIndex : zI := (yX11_isIndex, cX11_isIndex, 2, (some .boolean), 0, none)
theorem zw_X11_isIndex : zHd (zi_X11_isIndex) ∈ zT := wd_378
theorem nx_X11_isIndex : zNm (zi_X11_isIndex) 2 := ⟨by decide +kernel, by decide +kernel, by decide +kernel⟩
theorem pf_X11_isIndex : plainFor (zi_X11_isIndex).1 = true := by decide +kernel
def zi_X11_checkIndex : zI := (yX11_checkIndex, cX11_checkIndex, 1, (none : Option ClassFile.FieldType), 6, none)
theorem zw_X11_checkIndex : zHd (zi_X11_checkIndex) ∈ zT := wd_381
theorem nx_X11_checkIndex : zNm (zi_X11_checkIndex) 1 := ⟨by decide +kernel, by decide +kernel, by decide +kernel⟩
theorem pf_X11_checkIndex : plainFor (zi_X11_checkIndex).1 = true := by decide +kernel
def zi_X11_isWithin : zI := (yX11_isWithin, cX11_isWithin, 3, (some .boolean), 0, none)
theorem zw_X11_isWithin : zHd (zi_X11_isWithin) ∈ zT := wd_227
theorem nx_X11_isWithin : zNm (zi_X11_isWithin) 3 := ⟨by decide +kernel, by decide +kernel, by decide +kernel⟩
theorem pf_X11_isWithin : plainFor (zi_X11_isWithin).1 = true := by decide +kernel
def zi_X11_checkArgument : zI := (yX11_checkArgument, cX11_checkArgument, 1, (none : Option ClassFile.FieldType), 6, none)
theorem zw_X11_checkArgument : zHd (zi_X11_checkArgument) ∈ zT := wd_230
theorem nx_X11_checkArgument : zNm (zi_X11_checkArgument) 1 := ⟨by decide +kernel, by decide +kernel, by decide +kernel⟩
theorem pf_X11_checkArgument : plainFor (zi_X11_checkArgument).1 = true := by decide +kernel
def zi_Jx4a65c_size_8abf5 : zI := (yJx4a65c_size_8abf5, cJx4a65c_size_8abf5, 1, (some .int), 0, none)
theorem zw_Jx4a65c_size_8abf5 : zHd (zi_Jx4a65c_size_8abf5) ∈ zT := wd_321
theorem nx_Jx4a65c_size_8abf5 : zNm (zi_Jx4a65c_size_8abf5) 0 := ⟨by decide +kernel, by decide +kernel, by decide +kernel⟩
theorem pf_Jx4a65c_size_8abf5 : plainFor (zi_Jx4a65c_size_8abf5).1 = true := by decide +kernel
def zi_X11_checkState : zI := (yX11_checkState, cX11_checkState, 1, (none : Option ClassFile.FieldType), 6, none)
theorem zw_X11_checkState : zHd (zi_X11_checkState) ∈ zT := wd_400
theorem nx_X11_checkState : zNm (zi_X11_checkState) 1 := ⟨by decide +kernel, by decide +kernel, by decide +kernel⟩
theorem pf_X11_checkState : plainFor (zi_X11_checkState).1 = true := by decide +kernel
def zi_X1_init : zI := (yX1_init, cX1_init, 6, (none : Option ClassFile.FieldType), 1, none)
theorem zw_X1_init : zHd (zi_X1_init) ∈ zT := wd_424
theorem nx_X1_init : zNm (zi_X1_init) 5 := ⟨by decide +kernel, by decide +kernel, by decide +kernel⟩
theorem pf_X1_init : plainFor (zi_X1_init).1 = true := by decide +kernel
def zi_J9_max_7cf53 : zI := (yJ9_max_7cf53, cJ9_max_7cf53, 2, (some .int), 0, none)
theorem zw_J9_max_7cf53 : zHd (zi_J9_max_7cf53) ∈ zT := wd_469
theorem nx_J9_max_7cf53 : zNm (zi_J9_max_7cf53) 2 := ⟨by decide +kernel, by decide +kernel, by decide +kernel⟩
theorem pf_J9_max_7cf53 : plainFor (zi_J9_max_7cf53).1 = true := by decide +kernel
def zi_J8_newLength_cabcc : zI := (yJ8_newLength_cabcc, cJ8_newLength_cabcc, 4, (some .int), 1, none)
theorem zw_J8_newLength_cabcc : zHd (zi_J8_newLength_cabcc) ∈ zT := wd_466
theorem nx_J8_newLength_cabcc : zNm (zi_J8_newLength_cabcc) 3 := ⟨by decide +kernel, by decide +kernel, by decide +kernel⟩
theorem pf_J8_newLength_cabcc : plainFor (zi_J8_newLength_cabcc).1 = true := by decide +kernel
def zi_J9_min_7cf53 : zI := (yJ9_min_7cf53, cJ9_min_7cf53, 2, (some .int), 0, none)
theorem zw_J9_min_7cf53 : zHd (zi_J9_min_7cf53) ∈ zT := wd_344
theorem nx_J9_min_7cf53 : zNm (zi_J9_min_7cf53) 2 := ⟨by decide +kernel, by decide +kernel, by decide +kernel⟩
theorem pf_J9_min_7cf53 : plainFor (zi_J9_min_7cf53).1 = true := by decide +kernel
def zi_J7_copyOf_6403c : zI := (yJ7_copyOf_6403c, cJ7_copyOf_6403c, 4, (some (.array (.object "java/lang/Object"))), 1, none)
theorem zw_J7_copyOf_6403c : zHd (zi_J7_copyOf_6403c) ∈ zT := wd_499
theorem nx_J7_copyOf_6403c : zNm (zi_J7_copyOf_6403c) 3 := ⟨by decide +kernel, by decide +kernel, by decide +kernel⟩
theorem pf_J7_copyOf_6403c : plainFor (zi_J7_copyOf_6403c).1 = true := by decide +kernel
def zi_J7_copyOf_1904c : zI := (yJ7_copyOf_1904c, cJ7_copyOf_1904c, 2, (some (.array (.object "java/lang/Object"))), 2, none)
theorem zw_J7_copyOf_1904c : zHd (zi_J7_copyOf_1904c) ∈ zT := wd_476
theorem nx_J7_copyOf_1904c : zNm (zi_J7_copyOf_1904c) 2 := ⟨by decide +kernel, by decide +kernel, by decide +kernel⟩
theorem pf_J7_copyOf_1904c : plainFor (zi_J7_copyOf_1904c).1 = true := by decide +kernel
def zi_Jx4a65c_grow_92f84 : zI := (yJx4a65c_grow_92f84, cJx4a65c_grow_92f84, 4, (some (.array (.object "java/lang/Object"))), 3, none)
theorem zw_Jx4a65c_grow_92f84 : zHd (zi_Jx4a65c_grow_92f84) ∈ zT := wd_463
theorem nx_Jx4a65c_grow_92f84 : zNm (zi_Jx4a65c_grow_92f84) 1 := ⟨by decide +kernel, by decide +kernel, by decide +kernel⟩
theorem pf_Jx4a65c_grow_92f84 : plainFor (zi_Jx4a65c_grow_92f84).1 = true := by decide +kernel
def zi_Jx4a65c_grow_d5877 : zI := (yJx4a65c_grow_d5877, cJx4a65c_grow_d5877, 1, (some (.array (.object "java/lang/Object"))), 4, none)
theorem zw_Jx4a65c_grow_d5877 : zHd (zi_Jx4a65c_grow_d5877) ∈ zT := wd_459
theorem nx_Jx4a65c_grow_d5877 : zNm (zi_Jx4a65c_grow_d5877) 0 := ⟨by decide +kernel, by decide +kernel, by decide +kernel⟩
theorem pf_Jx4a65c_grow_d5877 : plainFor (zi_Jx4a65c_grow_d5877).1 = true := by decide +kernel
def zi_Jx4a65c_add_72be8 : zI := (yJx4a65c_add_72be8, cJx4a65c_add_72be8, 4, (none : Option ClassFile.FieldType), 5, none)
theorem zw_Jx4a65c_add_72be8 : zHd (zi_Jx4a65c_add_72be8) ∈ zT := wd_455
theorem nx_Jx4a65c_add_72be8 : zNm (zi_Jx4a65c_add_72be8) 3 := ⟨by decide +kernel, by decide +kernel, by decide +kernel⟩
theorem pf_Jx4a65c_add_72be8 : plainFor (zi_Jx4a65c_add_72be8).1 = true := by decide +kernel
def zi_Jx4a65c_add_9ea2d : zI := (yJx4a65c_add_9ea2d, cJx4a65c_add_9ea2d, 2, (some .boolean), 6, none)
theorem zw_Jx4a65c_add_9ea2d : zHd (zi_Jx4a65c_add_9ea2d) ∈ zT := wd_451
theorem nx_Jx4a65c_add_9ea2d : zNm (zi_Jx4a65c_add_9ea2d) 1 := ⟨by decide +kernel, by decide +kernel, by decide +kernel⟩
theorem pf_Jx4a65c_add_9ea2d : plainFor (zi_Jx4a65c_add_9ea2d).1 = true := by decide +kernel
def zi_X4_addBundle : zI := (yX4_addBundle, cX4_addBundle, 5, (some .int), 7, none)
theorem zw_X4_addBundle : zHd (zi_X4_addBundle) ∈ zT := wd_419
theorem nx_X4_addBundle : zNm (zi_X4_addBundle) 4 := ⟨by decide +kernel, by decide +kernel, by decide +kernel⟩
theorem pf_X4_addBundle : plainFor (zi_X4_addBundle).1 = true := by decide +kernel
def zi_X11_bundle : zI := (yX11_bundle, cX11_bundle, 5, (some .int), 8, none)
theorem zw_X11_bundle : zHd (zi_X11_bundle) ∈ zT := wd_375
theorem nx_X11_bundle : zNm (zi_X11_bundle) 4 := ⟨by decide +kernel, by decide +kernel, by decide +kernel⟩
theorem pf_X11_bundle : plainFor (zi_X11_bundle).1 = true := by decide +kernel
def zi_X2_init : zI := (yX2_init, cX2_init, 4, (none : Option ClassFile.FieldType), 1, none)
theorem zw_X2_init : zHd (zi_X2_init) ∈ zT := wd_521
theorem nx_X2_init : zNm (zi_X2_init) 3 := ⟨by decide +kernel, by decide +kernel, by decide +kernel⟩
theorem pf_X2_init : plainFor (zi_X2_init).1 = true := by decide +kernel
def zi_X4_addConnector : zI := (yX4_addConnector, cX4_addConnector, 4, (some .int), 7, none)
theorem zw_X4_addConnector : zHd (zi_X4_addConnector) ∈ zT := wd_516
theorem nx_X4_addConnector : zNm (zi_X4_addConnector) 3 := ⟨by decide +kernel, by decide +kernel, by decide +kernel⟩
theorem pf_X4_addConnector : plainFor (zi_X4_addConnector).1 = true := by decide +kernel
def zi_X11_connector : zI := (yX11_connector, cX11_connector, 4, (some .int), 8, none)
theorem zw_X11_connector : zHd (zi_X11_connector) ∈ zT := wd_512
theorem nx_X11_connector : zNm (zi_X11_connector) 3 := ⟨by decide +kernel, by decide +kernel, by decide +kernel⟩
theorem pf_X11_connector : plainFor (zi_X11_connector).1 = true := by decide +kernel
def zi_J3_checkIndex_8e157 : zI := (yJ3_checkIndex_8e157, cJ3_checkIndex_8e157, 3, (some .int), 0, none)
theorem zw_J3_checkIndex_8e157 : zHd (zi_J3_checkIndex_8e157) ∈ zT := wd_331
theorem nx_J3_checkIndex_8e157 : zNm (zi_J3_checkIndex_8e157) 3 := ⟨by decide +kernel, by decide +kernel, by decide +kernel⟩
theorem pf_J3_checkIndex_8e157 : plainFor (zi_J3_checkIndex_8e157).1 = true := by decide +kernel
def zi_J15_checkIndex_7cf53 : zI := (yJ15_checkIndex_7cf53, cJ15_checkIndex_7cf53, 2, (some .int), 1, none)
theorem zw_J15_checkIndex_7cf53 : zHd (zi_J15_checkIndex_7cf53) ∈ zT := wd_328
theorem nx_J15_checkIndex_7cf53 : zNm (zi_J15_checkIndex_7cf53) 2 := ⟨by decide +kernel, by decide +kernel, by decide +kernel⟩
theorem pf_J15_checkIndex_7cf53 : plainFor (zi_J15_checkIndex_7cf53).1 = true := by decide +kernel
def zi_Jx4a65c_elementData_915e3 : zI := (yJx4a65c_elementData_915e3, cJx4a65c_elementData_915e3, 2, (some (.object "java/lang/Object")), 0, none)
theorem zw_Jx4a65c_elementData_915e3 : zHd (zi_Jx4a65c_elementData_915e3) ∈ zT := wd_335
theorem nx_Jx4a65c_elementData_915e3 : zNm (zi_Jx4a65c_elementData_915e3) 1 := ⟨by decide +kernel, by decide +kernel, by decide +kernel⟩
theorem pf_Jx4a65c_elementData_915e3 : plainFor (zi_Jx4a65c_elementData_915e3).1 = true := by decide +kernel
def zi_Jx4a65c_get_915e3 : zI := (yJx4a65c_get_915e3, cJx4a65c_get_915e3, 2, (some (.object "java/lang/Object")), 2, none)
theorem zw_Jx4a65c_get_915e3 : zHd (zi_Jx4a65c_get_915e3) ∈ zT := wd_325
theorem nx_Jx4a65c_get_915e3 : zNm (zi_Jx4a65c_get_915e3) 1 := ⟨by decide +kernel, by decide +kernel, by decide +kernel⟩
theorem pf_Jx4a65c_get_915e3 : plainFor (zi_Jx4a65c_get_915e3).1 = true := by decide +kernel
def zi_X11_connectorAt : zI := (yX11_connectorAt, cX11_connectorAt, 2, (some (.object "Sparkline$Connector")), 6, none)
theorem zw_X11_connectorAt : zHd (zi_X11_connectorAt) ∈ zT := wd_551
theorem nx_X11_connectorAt : zNm (zi_X11_connectorAt) 1 := ⟨by decide +kernel, by decide +kernel, by decide +kernel⟩
theorem pf_X11_connectorAt : plainFor (zi_X11_connectorAt).1 = true := by decide +kernel
def zi_X2_fits : zI := (yX2_fits, cX2_fits, 2, (some .boolean), 0, none)
theorem zw_X2_fits : zHd (zi_X2_fits) ∈ zT := wd_557
theorem nx_X2_fits : zNm (zi_X2_fits) 1 := ⟨by decide +kernel, by decide +kernel, by decide +kernel⟩
theorem pf_X2_fits : plainFor (zi_X2_fits).1 = true := by decide +kernel
def zi_X4_pairsThatFitWrong : zI := (yX4_pairsThatFitWrong, cX4_pairsThatFitWrong, 5, (some .int), 3, none)
theorem zw_X4_pairsThatFitWrong : zHd (zi_X4_pairsThatFitWrong) ∈ zT := wd_561
theorem nx_X4_pairsThatFitWrong : zNm (zi_X4_pairsThatFitWrong) 0 := ⟨by decide +kernel, by decide +kernel, by decide +kernel⟩
theorem pf_X4_pairsThatFitWrong : plainFor (zi_X4_pairsThatFitWrong).1 = true := by decide +kernel
def zi_X11_mates : zI := (yX11_mates, cX11_mates, 5, (some .int), 7, none)
theorem zw_X11_mates : zHd (zi_X11_mates) ∈ zT := wd_547
theorem nx_X11_mates : zNm (zi_X11_mates) 2 := ⟨by decide +kernel, by decide +kernel, by decide +kernel⟩
theorem pf_X11_mates : plainFor (zi_X11_mates).1 = true := by decide +kernel
def zi_X2_isFree : zI := (yX2_isFree, cX2_isFree, 2, (some .boolean), 0, none)
theorem zw_X2_isFree : zHd (zi_X2_isFree) ∈ zT := wd_570
theorem nx_X2_isFree : zNm (zi_X2_isFree) 1 := ⟨by decide +kernel, by decide +kernel, by decide +kernel⟩
theorem pf_X2_isFree : plainFor (zi_X2_isFree).1 = true := by decide +kernel
def zi_X8_at : zI := (yX8_at, cX8_at, 2, (some .int), 0, none)
theorem zw_X8_at : zHd (zi_X8_at) ∈ zT := wd_313
theorem nx_X8_at : zNm (zi_X8_at) 1 := ⟨by decide +kernel, by decide +kernel, by decide +kernel⟩
theorem pf_X8_at : plainFor (zi_X8_at).1 = true := by decide +kernel
def zi_X1_cost : zI := (yX1_cost, cX1_cost, 1, (some .int), 0, none)
theorem zw_X1_cost : zHd (zi_X1_cost) ∈ zT := wd_590
theorem nx_X1_cost : zNm (zi_X1_cost) 0 := ⟨by decide +kernel, by decide +kernel, by decide +kernel⟩
theorem pf_X1_cost : plainFor (zi_X1_cost).1 = true := by decide +kernel
def zi_X1_across : zI := (yX1_across, cX1_across, 2, (some .int), 0, none)
theorem zw_X1_across : zHd (zi_X1_across) ∈ zT := wd_594
theorem nx_X1_across : zNm (zi_X1_across) 1 := ⟨by decide +kernel, by decide +kernel, by decide +kernel⟩
theorem pf_X1_across : plainFor (zi_X1_across).1 = true := by decide +kernel
def zi_X4_lowerCost : zI := (yX4_lowerCost, cX4_lowerCost, 3, (none : Option ClassFile.FieldType), 1, none)
theorem zw_X4_lowerCost : zHd (zi_X4_lowerCost) ∈ zT := wd_585
theorem nx_X4_lowerCost : zNm (zi_X4_lowerCost) 2 := ⟨by decide +kernel, by decide +kernel, by decide +kernel⟩
theorem pf_X4_lowerCost : plainFor (zi_X4_lowerCost).1 = true := by decide +kernel
def zi_X4_findCosts : zI := (yX4_findCosts, cX4_findCosts, 5, (none : Option ClassFile.FieldType), 3, none)
theorem zw_X4_findCosts : zHd (zi_X4_findCosts) ∈ zT := wd_578
theorem nx_X4_findCosts : zNm (zi_X4_findCosts) 1 := ⟨by decide +kernel, by decide +kernel, by decide +kernel⟩
theorem pf_X4_findCosts : plainFor (zi_X4_findCosts).1 = true := by decide +kernel
def zi_X4_hasWay : zI := (yX4_hasWay, cX4_hasWay, 3, (some .boolean), 4, none)
theorem zw_X4_hasWay : zHd (zi_X4_hasWay) ∈ zT := wd_574
theorem nx_X4_hasWay : zNm (zi_X4_hasWay) 2 := ⟨by decide +kernel, by decide +kernel, by decide +kernel⟩
theorem pf_X4_hasWay : plainFor (zi_X4_hasWay).1 = true := by decide +kernel
def zi_X10_init : zI := (yX10_init, cX10_init, 6, (none : Option ClassFile.FieldType), 4, none)
theorem zw_X10_init : zHd (zi_X10_init) ∈ zT := wd_600
theorem nx_X10_init : zNm (zi_X10_init) 5 := ⟨by decide +kernel, by decide +kernel, by decide +kernel⟩
theorem pf_X10_init : plainFor (zi_X10_init).1 = true := by decide +kernel
def zi_X2_take : zI := (yX2_take, cX2_take, 2, (none : Option ClassFile.FieldType), 0, none)
theorem zw_X2_take : zHd (zi_X2_take) ∈ zT := wd_647
theorem nx_X2_take : zNm (zi_X2_take) 1 := ⟨by decide +kernel, by decide +kernel, by decide +kernel⟩
theorem pf_X2_take : plainFor (zi_X2_take).1 = true := by decide +kernel
def zi_X10_putIn : zI := (yX10_putIn, cX10_putIn, 1, (none : Option ClassFile.FieldType), 1, none)
theorem zw_X10_putIn : zHd (zi_X10_putIn) ∈ zT := wd_643
theorem nx_X10_putIn : zNm (zi_X10_putIn) 0 := ⟨by decide +kernel, by decide +kernel, by decide +kernel⟩
theorem pf_X10_putIn : plainFor (zi_X10_putIn).1 = true := by decide +kernel
def zi_X4_lowestOnward : zI := (yX4_lowestOnward, cX4_lowestOnward, 5, (some (.object "Sparkline$Bundle")), 3, none)
theorem zw_X4_lowestOnward : zHd (zi_X4_lowestOnward) ∈ zT := wd_655
theorem nx_X4_lowestOnward : zNm (zi_X4_lowestOnward) 1 := ⟨by decide +kernel, by decide +kernel, by decide +kernel⟩
theorem pf_X4_lowestOnward : plainFor (zi_X4_lowestOnward).1 = true := by decide +kernel
def zi_X10_goBy : zI := (yX10_goBy, cX10_goBy, 2, (none : Option ClassFile.FieldType), 7, none)
theorem zw_X10_goBy : zHd (zi_X10_goBy) ∈ zT := wd_659
theorem nx_X10_goBy : zNm (zi_X10_goBy) 1 := ⟨by decide +kernel, by decide +kernel, by decide +kernel⟩
theorem pf_X10_goBy : plainFor (zi_X10_goBy).1 = true := by decide +kernel
def zi_X4_layAlong : zI := (yX4_layAlong, cX4_layAlong, 5, (none : Option ClassFile.FieldType), 8, none)
theorem zw_X4_layAlong : zHd (zi_X4_layAlong) ∈ zT := wd_651
theorem nx_X4_layAlong : zNm (zi_X4_layAlong) 1 := ⟨by decide +kernel, by decide +kernel, by decide +kernel⟩
theorem pf_X4_layAlong : plainFor (zi_X4_layAlong).1 = true := by decide +kernel
def zi_X4_addWire : zI := (yX4_addWire, cX4_addWire, 2, (some .int), 9, none)
theorem zw_X4_addWire : zHd (zi_X4_addWire) ∈ zT := wd_639
theorem nx_X4_addWire : zNm (zi_X4_addWire) 1 := ⟨by decide +kernel, by decide +kernel, by decide +kernel⟩
theorem pf_X4_addWire : plainFor (zi_X4_addWire).1 = true := by decide +kernel
def zi_X11_wire : zI := (yX11_wire, cX11_wire, 8, (some .int), 10, none)
theorem zw_X11_wire : zHd (zi_X11_wire) ∈ zT := wd_566
theorem nx_X11_wire : zNm (zi_X11_wire) 5 := ⟨by decide +kernel, by decide +kernel, by decide +kernel⟩
theorem pf_X11_wire : plainFor (zi_X11_wire).1 = true := by decide +kernel
def zi_X11_wireAt : zI := (yX11_wireAt, cX11_wireAt, 2, (some (.object "Sparkline$Wire")), 6, none)
theorem zw_X11_wireAt : zHd (zi_X11_wireAt) ∈ zT := wd_668
theorem nx_X11_wireAt : zNm (zi_X11_wireAt) 1 := ⟨by decide +kernel, by decide +kernel, by decide +kernel⟩
theorem pf_X11_wireAt : plainFor (zi_X11_wireAt).1 = true := by decide +kernel
def zi_X2_release : zI := (yX2_release, cX2_release, 2, (none : Option ClassFile.FieldType), 0, none)
theorem zw_X2_release : zHd (zi_X2_release) ∈ zT := wd_676
theorem nx_X2_release : zNm (zi_X2_release) 1 := ⟨by decide +kernel, by decide +kernel, by decide +kernel⟩
theorem pf_X2_release : plainFor (zi_X2_release).1 = true := by decide +kernel
def zi_X10_takeOut : zI := (yX10_takeOut, cX10_takeOut, 2, (none : Option ClassFile.FieldType), 3, none)
theorem zw_X10_takeOut : zHd (zi_X10_takeOut) ∈ zT := wd_672
theorem nx_X10_takeOut : zNm (zi_X10_takeOut) 0 := ⟨by decide +kernel, by decide +kernel, by decide +kernel⟩
theorem pf_X10_takeOut : plainFor (zi_X10_takeOut).1 = true := by decide +kernel
def zi_X11_pull : zI := (yX11_pull, cX11_pull, 3, (some .int), 7, none)
theorem zw_X11_pull : zHd (zi_X11_pull) ∈ zT := wd_664
theorem nx_X11_pull : zNm (zi_X11_pull) 1 := ⟨by decide +kernel, by decide +kernel, by decide +kernel⟩
theorem pf_X11_pull : plainFor (zi_X11_pull).1 = true := by decide +kernel
def zi_X10_bundleAt : zI := (yX10_bundleAt, cX10_bundleAt, 2, (some .int), 3, none)
theorem zw_X10_bundleAt : zHd (zi_X10_bundleAt) ∈ zT := wd_687
theorem nx_X10_bundleAt : zNm (zi_X10_bundleAt) 1 := ⟨by decide +kernel, by decide +kernel, by decide +kernel⟩
theorem pf_X10_bundleAt : plainFor (zi_X10_bundleAt).1 = true := by decide +kernel
def zi_X11_ofWire : zI := (yX11_ofWire, cX11_ofWire, 4, (some .int), 7, none)
theorem zw_X11_ofWire : zHd (zi_X11_ofWire) ∈ zT := wd_683
theorem nx_X11_ofWire : zNm (zi_X11_ofWire) 2 := ⟨by decide +kernel, by decide +kernel, by decide +kernel⟩
theorem pf_X11_ofWire : plainFor (zi_X11_ofWire).1 = true := by decide +kernel
def zi_X5_add : zI := (yX5_add, cX5_add, 3, (some .int), 1, none)
theorem zw_X5_add : zHd (zi_X5_add) ∈ zT := wd_695
theorem nx_X5_add : zNm (zi_X5_add) 2 := ⟨by decide +kernel, by decide +kernel, by decide +kernel⟩
theorem pf_X5_add : plainFor (zi_X5_add).1 = true := by decide +kernel
def zi_X11_order : zI := (yX11_order, cX11_order, 3, (some .int), 7, none)
theorem zw_X11_order : zHd (zi_X11_order) ∈ zT := wd_691
theorem nx_X11_order : zNm (zi_X11_order) 2 := ⟨by decide +kernel, by decide +kernel, by decide +kernel⟩
theorem pf_X11_order : plainFor (zi_X11_order).1 = true := by decide +kernel
def zi_J9_floorDiv_7cf53 : zI := (yJ9_floorDiv_7cf53, cJ9_floorDiv_7cf53, 3, (some .int), 0, none)
theorem zw_J9_floorDiv_7cf53 : zHd (zi_J9_floorDiv_7cf53) ∈ zT := wd_715
theorem nx_J9_floorDiv_7cf53 : zNm (zi_J9_floorDiv_7cf53) 2 := ⟨by decide +kernel, by decide +kernel, by decide +kernel⟩
theorem pf_J9_floorDiv_7cf53 : plainFor (zi_J9_floorDiv_7cf53).1 = true := by decide +kernel
def zi_X11_divideDown : zI := (yX11_divideDown, cX11_divideDown, 2, (some .int), 1, none)
theorem zw_X11_divideDown : zHd (zi_X11_divideDown) ∈ zT := wd_712
theorem nx_X11_divideDown : zNm (zi_X11_divideDown) 2 := ⟨by decide +kernel, by decide +kernel, by decide +kernel⟩
theorem pf_X11_divideDown : plainFor (zi_X11_divideDown).1 = true := by decide +kernel
def zi_X3_window : zI := (yX3_window, cX3_window, 3, (some .int), 2, none)
theorem zw_X3_window : zHd (zi_X3_window) ∈ zT := wd_707
theorem nx_X3_window : zNm (zi_X3_window) 0 := ⟨by decide +kernel, by decide +kernel, by decide +kernel⟩
theorem pf_X3_window : plainFor (zi_X3_window).1 = true := by decide +kernel
def zi_J9_abs_0f7a4 : zI := (yJ9_abs_0f7a4, cJ9_abs_0f7a4, 1, (some .int), 0, none)
theorem zw_J9_abs_0f7a4 : zHd (zi_J9_abs_0f7a4) ∈ zT := wd_718
theorem nx_J9_abs_0f7a4 : zNm (zi_J9_abs_0f7a4) 1 := ⟨by decide +kernel, by decide +kernel, by decide +kernel⟩
theorem pf_J9_abs_0f7a4 : plainFor (zi_J9_abs_0f7a4).1 = true := by decide +kernel
def zi_X3_judge : zI := (yX3_judge, cX3_judge, 3, (some .boolean), 3, none)
theorem zw_X3_judge : zHd (zi_X3_judge) ∈ zT := wd_703
theorem nx_X3_judge : zNm (zi_X3_judge) 1 := ⟨by decide +kernel, by decide +kernel, by decide +kernel⟩
theorem pf_X3_judge : plainFor (zi_X3_judge).1 = true := by decide +kernel
def zi_X11_crimp : zI := (yX11_crimp, cX11_crimp, 2, (some .boolean), 7, none)
theorem zw_X11_crimp : zHd (zi_X11_crimp) ∈ zT := wd_699
theorem nx_X11_crimp : zNm (zi_X11_crimp) 1 := ⟨by decide +kernel, by decide +kernel, by decide +kernel⟩
theorem pf_X11_crimp : plainFor (zi_X11_crimp).1 = true := by decide +kernel
def zi_X7_init : zI := (yX7_init, cX7_init, 4, (none : Option ClassFile.FieldType), 1, none)
theorem zw_X7_init : zHd (zi_X7_init) ∈ zT := wd_728
theorem nx_X7_init : zNm (zi_X7_init) 3 := ⟨by decide +kernel, by decide +kernel, by decide +kernel⟩
theorem pf_X7_init : plainFor (zi_X7_init).1 = true := by decide +kernel
def zi_X11_reel : zI := (yX11_reel, cX11_reel, 4, (some .int), 7, none)
theorem zw_X11_reel : zHd (zi_X11_reel) ∈ zT := wd_723
theorem nx_X11_reel : zNm (zi_X11_reel) 3 := ⟨by decide +kernel, by decide +kernel, by decide +kernel⟩
theorem pf_X11_reel : plainFor (zi_X11_reel).1 = true := by decide +kernel
def zi_X11_reelAt : zI := (yX11_reelAt, cX11_reelAt, 2, (some (.object "Sparkline$Reel")), 6, none)
theorem zw_X11_reelAt : zHd (zi_X11_reelAt) ∈ zT := wd_759
theorem nx_X11_reelAt : zNm (zi_X11_reelAt) 1 := ⟨by decide +kernel, by decide +kernel, by decide +kernel⟩
theorem pf_X11_reelAt : plainFor (zi_X11_reelAt).1 = true := by decide +kernel
def zi_X7_beginClock : zI := (yX7_beginClock, cX7_beginClock, 2, (none : Option ClassFile.FieldType), 0, none)
theorem zw_X7_beginClock : zHd (zi_X7_beginClock) ∈ zT := wd_763
theorem nx_X7_beginClock : zNm (zi_X7_beginClock) 1 := ⟨by decide +kernel, by decide +kernel, by decide +kernel⟩
theorem pf_X7_beginClock : plainFor (zi_X7_beginClock).1 = true := by decide +kernel
def zi_X7_clockAt : zI := (yX7_clockAt, cX7_clockAt, 3, (some .int), 0, none)
theorem zw_X7_clockAt : zHd (zi_X7_clockAt) ∈ zT := wd_767
theorem nx_X7_clockAt : zNm (zi_X7_clockAt) 1 := ⟨by decide +kernel, by decide +kernel, by decide +kernel⟩
theorem pf_X7_clockAt : plainFor (zi_X7_clockAt).1 = true := by decide +kernel
def zi_X11_open : zI := (yX11_open, cX11_open, 4, (some .int), 7, none)
theorem zw_X11_open : zHd (zi_X11_open) ∈ zT := wd_755
theorem nx_X11_open : zNm (zi_X11_open) 2 := ⟨by decide +kernel, by decide +kernel, by decide +kernel⟩
theorem pf_X11_open : plainFor (zi_X11_open).1 = true := by decide +kernel
def zi_X11_ofReel : zI := (yX11_ofReel, cX11_ofReel, 4, (some .int), 7, none)
theorem zw_X11_ofReel : zHd (zi_X11_ofReel) ∈ zT := wd_771
theorem nx_X11_ofReel : zNm (zi_X11_ofReel) 2 := ⟨by decide +kernel, by decide +kernel, by decide +kernel⟩
theorem pf_X11_ofReel : plainFor (zi_X11_ofReel).1 = true := by decide +kernel
def zi_X9_init : zI := (yX9_init, cX9_init, 1, (none : Option ClassFile.FieldType), 1, none)
theorem zw_X9_init : zHd (zi_X9_init) ∈ zT := wd_790
theorem nx_X9_init : zNm (zi_X9_init) 0 := ⟨by decide +kernel, by decide +kernel, by decide +kernel⟩
theorem pf_X9_init : plainFor (zi_X9_init).1 = true := by decide +kernel
def zi_X0_init : zI := (yX0_init, cX0_init, 2, (none : Option ClassFile.FieldType), 7, none)
theorem zw_X0_init : zHd (zi_X0_init) ∈ zT := wd_780
theorem nx_X0_init : zNm (zi_X0_init) 0 := ⟨by decide +kernel, by decide +kernel, by decide +kernel⟩
theorem pf_X0_init : plainFor (zi_X0_init).1 = true := by decide +kernel
def zi_X11_board : zI := (yX11_board, cX11_board, 1, (some .int), 8, none)
theorem zw_X11_board : zHd (zi_X11_board) ∈ zT := wd_775
theorem nx_X11_board : zNm (zi_X11_board) 0 := ⟨by decide +kernel, by decide +kernel, by decide +kernel⟩
theorem pf_X11_board : plainFor (zi_X11_board).1 = true := by decide +kernel
def zi_X11_boardAt : zI := (yX11_boardAt, cX11_boardAt, 2, (some (.object "Sparkline$Board")), 6, none)
theorem zw_X11_boardAt : zHd (zi_X11_boardAt) ∈ zT := wd_852
theorem nx_X11_boardAt : zNm (zi_X11_boardAt) 1 := ⟨by decide +kernel, by decide +kernel, by decide +kernel⟩
theorem pf_X11_boardAt : plainFor (zi_X11_boardAt).1 = true := by decide +kernel
def zi_X0_slotAt : zI := (yX0_slotAt, cX0_slotAt, 2, (some (.object "Sparkline$Slot")), 6, none)
theorem zw_X0_slotAt : zHd (zi_X0_slotAt) ∈ zT := wd_856
theorem nx_X0_slotAt : zNm (zi_X0_slotAt) 1 := ⟨by decide +kernel, by decide +kernel, by decide +kernel⟩
theorem pf_X0_slotAt : plainFor (zi_X0_slotAt).1 = true := by decide +kernel
def zi_X9_hasPart : zI := (yX9_hasPart, cX9_hasPart, 1, (some .boolean), 0, none)
theorem zw_X9_hasPart : zHd (zi_X9_hasPart) ∈ zT := wd_865
theorem nx_X9_hasPart : zNm (zi_X9_hasPart) 0 := ⟨by decide +kernel, by decide +kernel, by decide +kernel⟩
theorem pf_X9_hasPart : plainFor (zi_X9_hasPart).1 = true := by decide +kernel
def zi_X7_gives : zI := (yX7_gives, cX7_gives, 2, (some .boolean), 1, none)
theorem zw_X7_gives : zHd (zi_X7_gives) ∈ zT := wd_869
theorem nx_X7_gives : zNm (zi_X7_gives) 1 := ⟨by decide +kernel, by decide +kernel, by decide +kernel⟩
theorem pf_X7_gives : plainFor (zi_X7_gives).1 = true := by decide +kernel
def zi_X9_fill : zI := (yX9_fill, cX9_fill, 4, (none : Option ClassFile.FieldType), 0, none)
theorem zw_X9_fill : zHd (zi_X9_fill) ∈ zT := wd_874
theorem nx_X9_fill : zNm (zi_X9_fill) 3 := ⟨by decide +kernel, by decide +kernel, by decide +kernel⟩
theorem pf_X9_fill : plainFor (zi_X9_fill).1 = true := by decide +kernel
def zi_X11_place : zI := (yX11_place, cX11_place, 7, (some .int), 7, none)
theorem zw_X11_place : zHd (zi_X11_place) ∈ zT := wd_848
theorem nx_X11_place : zNm (zi_X11_place) 3 := ⟨by decide +kernel, by decide +kernel, by decide +kernel⟩
theorem pf_X11_place : plainFor (zi_X11_place).1 = true := by decide +kernel
def zi_X11_limits : zI := (yX11_limits, cX11_limits, 5, (none : Option ClassFile.FieldType), 7, none)
theorem zw_X11_limits : zHd (zi_X11_limits) ∈ zT := wd_881
theorem nx_X11_limits : zNm (zi_X11_limits) 4 := ⟨by decide +kernel, by decide +kernel, by decide +kernel⟩
theorem pf_X11_limits : plainFor (zi_X11_limits).1 = true := by decide +kernel
def zi_L_limited : zI := (yL_limited, cL_limited, 5, (some .int), 8, none)
theorem zw_L_limited : zHd (zi_L_limited) ∈ zT := wd_877
theorem nx_L_limited : zNm (zi_L_limited) 5 := ⟨by decide +kernel, by decide +kernel, by decide +kernel⟩
theorem pf_L_limited : plainFor (zi_L_limited).1 = true := by decide +kernel
def zi_X8_copyFrom : zI := (yX8_copyFrom, cX8_copyFrom, 3, (none : Option ClassFile.FieldType), 1, none)
theorem zw_X8_copyFrom : zHd (zi_X8_copyFrom) ∈ zT := wd_894
theorem nx_X8_copyFrom : zNm (zi_X8_copyFrom) 1 := ⟨by decide +kernel, by decide +kernel, by decide +kernel⟩
theorem pf_X8_copyFrom : plainFor (zi_X8_copyFrom).1 = true := by decide +kernel
def zi_X0_mass : zI := (yX0_mass, cX0_mass, 3, (some .int), 3, none)
theorem zw_X0_mass : zHd (zi_X0_mass) ∈ zT := wd_903
theorem nx_X0_mass : zNm (zi_X0_mass) 0 := ⟨by decide +kernel, by decide +kernel, by decide +kernel⟩
theorem pf_X0_mass : plainFor (zi_X0_mass).1 = true := by decide +kernel
def zi_X6_peakOf : zI := (yX6_peakOf, cX6_peakOf, 6, (some .int), 2, none)
theorem zw_X6_peakOf : zHd (zi_X6_peakOf) ∈ zT := wd_907
theorem nx_X6_peakOf : zNm (zi_X6_peakOf) 2 := ⟨by decide +kernel, by decide +kernel, by decide +kernel⟩
theorem pf_X6_peakOf : plainFor (zi_X6_peakOf).1 = true := by decide +kernel
def zi_X0_peak : zI := (yX0_peak, cX0_peak, 1, (some .int), 4, none)
theorem zw_X0_peak : zHd (zi_X0_peak) ∈ zT := wd_899
theorem nx_X0_peak : zNm (zi_X0_peak) 0 := ⟨by decide +kernel, by decide +kernel, by decide +kernel⟩
theorem pf_X0_peak : plainFor (zi_X0_peak).1 = true := by decide +kernel
def zi_X9_jointFor : zI := (yX9_jointFor, cX9_jointFor, 2, (some .int), 0, none)
theorem zw_X9_jointFor : zHd (zi_X9_jointFor) ∈ zT := wd_919
theorem nx_X9_jointFor : zNm (zi_X9_jointFor) 1 := ⟨by decide +kernel, by decide +kernel, by decide +kernel⟩
theorem pf_X9_jointFor : plainFor (zi_X9_jointFor).1 = true := by decide +kernel
def zi_X9_join : zI := (yX9_join, cX9_join, 3, (none : Option ClassFile.FieldType), 1, none)
theorem zw_X9_join : zHd (zi_X9_join) ∈ zT := wd_914
theorem nx_X9_join : zNm (zi_X9_join) 2 := ⟨by decide +kernel, by decide +kernel, by decide +kernel⟩
theorem pf_X9_join : plainFor (zi_X9_join).1 = true := by decide +kernel
def zi_X0_goThrough : zI := (yX0_goThrough, cX0_goThrough, 5, (some .int), 5, none)
theorem zw_X0_goThrough : zHd (zi_X0_goThrough) ∈ zT := wd_890
theorem nx_X0_goThrough : zNm (zi_X0_goThrough) 1 := ⟨by decide +kernel, by decide +kernel, by decide +kernel⟩
theorem pf_X0_goThrough : plainFor (zi_X0_goThrough).1 = true := by decide +kernel
def zi_X11_solder : zI := (yX11_solder, cX11_solder, 3, (some .int), 7, none)
theorem zw_X11_solder : zHd (zi_X11_solder) ∈ zT := wd_886
theorem nx_X11_solder : zNm (zi_X11_solder) 1 := ⟨by decide +kernel, by decide +kernel, by decide +kernel⟩
theorem pf_X11_solder : plainFor (zi_X11_solder).1 = true := by decide +kernel
def zi_X11_flaw : zI := (yX11_flaw, cX11_flaw, 5, (none : Option ClassFile.FieldType), 7, none)
theorem zw_X11_flaw : zHd (zi_X11_flaw) ∈ zT := wd_926
theorem nx_X11_flaw : zNm (zi_X11_flaw) 2 := ⟨by decide +kernel, by decide +kernel, by decide +kernel⟩
theorem pf_X11_flaw : plainFor (zi_X11_flaw).1 = true := by decide +kernel
def zi_L_flawed : zI := (yL_flawed, cL_flawed, 3, (some .int), 8, none)
theorem zw_L_flawed : zHd (zi_L_flawed) ∈ zT := wd_922
theorem nx_L_flawed : zNm (zi_L_flawed) 3 := ⟨by decide +kernel, by decide +kernel, by decide +kernel⟩
theorem pf_L_flawed : plainFor (zi_L_flawed).1 = true := by decide +kernel
def zi_J6_bitCount_0f7a4 : zI := (yJ6_bitCount_0f7a4, cJ6_bitCount_0f7a4, 1, (some .int), 0, none)
theorem zw_J6_bitCount_0f7a4 : zHd (zi_J6_bitCount_0f7a4) ∈ zT := wd_933
theorem nx_J6_bitCount_0f7a4 : zNm (zi_J6_bitCount_0f7a4) 1 := ⟨by decide +kernel, by decide +kernel, by decide +kernel⟩
theorem pf_J6_bitCount_0f7a4 : plainFor (zi_J6_bitCount_0f7a4).1 = true := by decide +kernel
def zi_X11_cover : zI := (yX11_cover, cX11_cover, 3, (some .int), 7, none)
theorem zw_X11_cover : zHd (zi_X11_cover) ∈ zT := wd_930
theorem nx_X11_cover : zNm (zi_X11_cover) 2 := ⟨by decide +kernel, by decide +kernel, by decide +kernel⟩
theorem pf_X11_cover : plainFor (zi_X11_cover).1 = true := by decide +kernel
def zi_X0_findFaults : zI := (yX0_findFaults, cX0_findFaults, 4, (none : Option ClassFile.FieldType), 3, none)
theorem zw_X0_findFaults : zHd (zi_X0_findFaults) ∈ zT := wd_944
theorem nx_X0_findFaults : zNm (zi_X0_findFaults) 1 := ⟨by decide +kernel, by decide +kernel, by decide +kernel⟩
theorem pf_X0_findFaults : plainFor (zi_X0_findFaults).1 = true := by decide +kernel
def zi_X0_faultsFound : zI := (yX0_faultsFound, cX0_faultsFound, 5, (some .int), 3, none)
theorem zw_X0_faultsFound : zHd (zi_X0_faultsFound) ∈ zT := wd_948
theorem nx_X0_faultsFound : zNm (zi_X0_faultsFound) 1 := ⟨by decide +kernel, by decide +kernel, by decide +kernel⟩
theorem pf_X0_faultsFound : plainFor (zi_X0_faultsFound).1 = true := by decide +kernel
def zi_X11_test : zI := (yX11_test, cX11_test, 3, (some .int), 7, none)
theorem zw_X11_test : zHd (zi_X11_test) ∈ zT := wd_940
theorem nx_X11_test : zNm (zi_X11_test) 1 := ⟨by decide +kernel, by decide +kernel, by decide +kernel⟩
theorem pf_X11_test : plainFor (zi_X11_test).1 = true := by decide +kernel
def zi_X9_mend : zI := (yX9_mend, cX9_mend, 1, (none : Option ClassFile.FieldType), 0, none)
theorem zw_X9_mend : zHd (zi_X9_mend) ∈ zT := wd_956
theorem nx_X9_mend : zNm (zi_X9_mend) 0 := ⟨by decide +kernel, by decide +kernel, by decide +kernel⟩
theorem pf_X9_mend : plainFor (zi_X9_mend).1 = true := by decide +kernel
def zi_X11_repair : zI := (yX11_repair, cX11_repair, 7, (some .int), 7, none)
theorem zw_X11_repair : zHd (zi_X11_repair) ∈ zT := wd_952
theorem nx_X11_repair : zNm (zi_X11_repair) 3 := ⟨by decide +kernel, by decide +kernel, by decide +kernel⟩
theorem pf_X11_repair : plainFor (zi_X11_repair).1 = true := by decide +kernel
def zi_X11_ship : zI := (yX11_ship, cX11_ship, 3, (some .int), 7, none)
theorem zw_X11_ship : zHd (zi_X11_ship) ∈ zT := wd_960
theorem nx_X11_ship : zNm (zi_X11_ship) 1 := ⟨by decide +kernel, by decide +kernel, by decide +kernel⟩
theorem pf_X11_ship : plainFor (zi_X11_ship).1 = true := by decide +kernel
def zi_X11_pass : zI := (yX11_pass, cX11_pass, 2, (some .int), 7, none)
theorem zw_X11_pass : zHd (zi_X11_pass) ∈ zT := wd_964
theorem nx_X11_pass : zNm (zi_X11_pass) 1 := ⟨by decide +kernel, by decide +kernel, by decide +kernel⟩
theorem pf_X11_pass : plainFor (zi_X11_pass).1 = true := by decide +kernel
def zi_X11_ofSlot : zI := (yX11_ofSlot, cX11_ofSlot, 5, (some .int), 7, none)
theorem zw_X11_ofSlot : zHd (zi_X11_ofSlot) ∈ zT := wd_968
theorem nx_X11_ofSlot : zNm (zi_X11_ofSlot) 3 := ⟨by decide +kernel, by decide +kernel, by decide +kernel⟩
theorem pf_X11_ofSlot : plainFor (zi_X11_ofSlot).1 = true := by decide +kernel
def zi_X0_hasPartOf : zI := (yX0_hasPartOf, cX0_hasPartOf, 3, (some .boolean), 3, none)
theorem zw_X0_hasPartOf : zHd (zi_X0_hasPartOf) ∈ zT := wd_976
theorem nx_X0_hasPartOf : zNm (zi_X0_hasPartOf) 1 := ⟨by decide +kernel, by decide +kernel, by decide +kernel⟩
theorem pf_X0_hasPartOf : plainFor (zi_X0_hasPartOf).1 = true := by decide +kernel
def zi_X11_recall : zI := (yX11_recall, cX11_recall, 5, (some .int), 7, none)
theorem zw_X11_recall : zHd (zi_X11_recall) ∈ zT := wd_972
theorem nx_X11_recall : zNm (zi_X11_recall) 1 := ⟨by decide +kernel, by decide +kernel, by decide +kernel⟩
theorem pf_X11_recall : plainFor (zi_X11_recall).1 = true := by decide +kernel
def zi_L_does : zI := (yL_does, cL_does, 8, (some .int), 11, some [(0, 370, 371, 91), (0, 370, 376, 94), (0, 370, 381, 97)])
theorem zw_L_does : zHd (zi_L_does) ∈ zT := wd_368
theorem nx_L_does : zNm (zi_L_does) 7 := ⟨by decide +kernel, by decide +kernel, by decide +kernel⟩
theorem pf_L_does : plainFor (zi_L_does).1 = true := by decide +kernel
def zi_X5_allOrders : zI := (yX5_allOrders, cX5_allOrders, 1, (some .int), 0, none)
theorem zw_X5_allOrders : zHd (zi_X5_allOrders) ∈ zT := wd_305
theorem nx_X5_allOrders : zNm (zi_X5_allOrders) 0 := ⟨by decide +kernel, by decide +kernel, by decide +kernel⟩
theorem pf_X5_allOrders : plainFor (zi_X5_allOrders).1 = true := by decide +kernel
def zi_X4_weightOf : zI := (yX4_weightOf, cX4_weightOf, 5, (some .int), 3, none)
theorem zw_X4_weightOf : zHd (zi_X4_weightOf) ∈ zT := wd_317
theorem nx_X4_weightOf : zNm (zi_X4_weightOf) 1 := ⟨by decide +kernel, by decide +kernel, by decide +kernel⟩
theorem pf_X4_weightOf : plainFor (zi_X4_weightOf).1 = true := by decide +kernel
def zi_X5_weightAsOne : zI := (yX5_weightAsOne, cX5_weightAsOne, 6, (some .int), 4, none)
theorem zw_X5_weightAsOne : zHd (zi_X5_weightAsOne) ∈ zT := wd_309
theorem nx_X5_weightAsOne : zNm (zi_X5_weightAsOne) 2 := ⟨by decide +kernel, by decide +kernel, by decide +kernel⟩
theorem pf_X5_weightAsOne : plainFor (zi_X5_weightAsOne).1 = true := by decide +kernel
def zi_X5_weighSets : zI := (yX5_weighSets, cX5_weighSets, 4, (none : Option ClassFile.FieldType), 5, none)
theorem zw_X5_weighSets : zHd (zi_X5_weighSets) ∈ zT := wd_301
theorem nx_X5_weighSets : zNm (zi_X5_weighSets) 1 := ⟨by decide +kernel, by decide +kernel, by decide +kernel⟩
theorem pf_X5_weighSets : plainFor (zi_X5_weighSets).1 = true := by decide +kernel
def zi_X5_leastOfRest (d : Nat) : zI := (yX5_leastOfRest, cX5_leastOfRest, 7, (some .int), d, none)
theorem zw_X5_leastOfRest (d : Nat) : zHd (zi_X5_leastOfRest d) ∈ zT := wd_340
theorem nx_X5_leastOfRest (d : Nat) : zNm (zi_X5_leastOfRest d) 3 := ⟨(by decide +kernel : yX5_leastOfRest.cls ≠ _), (by decide +kernel : yX5_leastOfRest.cls ≠ _), (by decide +kernel : (parseMethodDescriptor yX5_leastOfRest.desc).map _ = _)⟩
theorem pf_X5_leastOfRest (d : Nat) : plainFor (zi_X5_leastOfRest d).1 = true := (by decide +kernel : plainFor yX5_leastOfRest = true)
def zi_X5_leastByChoice : zI := (yX5_leastByChoice, cX5_leastByChoice, 3, (some .int), 10, none)
theorem zw_X5_leastByChoice : zHd (zi_X5_leastByChoice) ∈ zT := wd_297
theorem nx_X5_leastByChoice : zNm (zi_X5_leastByChoice) 2 := ⟨by decide +kernel, by decide +kernel, by decide +kernel⟩
theorem pf_X5_leastByChoice : plainFor (zi_X5_leastByChoice).1 = true := by decide +kernel
def zi_X11_least : zI := (yX11_least, cX11_least, 2, (some .int), 11, none)
theorem zw_X11_least : zHd (zi_X11_least) ∈ zT := wd_224
theorem nx_X11_least : zNm (zi_X11_least) 1 := ⟨by decide +kernel, by decide +kernel, by decide +kernel⟩
theorem pf_X11_least : plainFor (zi_X11_least).1 = true := by decide +kernel
def zi_X5_leastWithOneMore : zI := (yX5_leastWithOneMore, cX5_leastWithOneMore, 4, (some .int), 1, none)
theorem zw_X5_leastWithOneMore : zHd (zi_X5_leastWithOneMore) ∈ zT := wd_361
theorem nx_X5_leastWithOneMore : zNm (zi_X5_leastWithOneMore) 1 := ⟨by decide +kernel, by decide +kernel, by decide +kernel⟩
theorem pf_X5_leastWithOneMore : plainFor (zi_X5_leastWithOneMore).1 = true := by decide +kernel
def zi_X5_addFamily : zI := (yX5_addFamily, cX5_addFamily, 2, (none : Option ClassFile.FieldType), 2, none)
theorem zw_X5_addFamily : zHd (zi_X5_addFamily) ∈ zT := wd_357
theorem nx_X5_addFamily : zNm (zi_X5_addFamily) 0 := ⟨by decide +kernel, by decide +kernel, by decide +kernel⟩
theorem pf_X5_addFamily : plainFor (zi_X5_addFamily).1 = true := by decide +kernel
def zi_X5_leastByTable : zI := (yX5_leastByTable, cX5_leastByTable, 4, (some .int), 6, none)
theorem zw_X5_leastByTable : zHd (zi_X5_leastByTable) ∈ zT := wd_352
theorem nx_X5_leastByTable : zNm (zi_X5_leastByTable) 2 := ⟨by decide +kernel, by decide +kernel, by decide +kernel⟩
theorem pf_X5_leastByTable : plainFor (zi_X5_leastByTable).1 = true := by decide +kernel
def zi_X11_leastAnew : zI := (yX11_leastAnew, cX11_leastAnew, 2, (some .int), 7, none)
theorem zw_X11_leastAnew : zHd (zi_X11_leastAnew) ∈ zT := wd_348
theorem nx_X11_leastAnew : zNm (zi_X11_leastAnew) 1 := ⟨by decide +kernel, by decide +kernel, by decide +kernel⟩
theorem pf_X11_leastAnew : plainFor (zi_X11_leastAnew).1 = true := by decide +kernel
def zi_L_part : zI := (yL_part, cL_part, 4, (some .int), 0, none)
theorem zw_L_part : zHd (zi_L_part) ∈ zT := wd_364
theorem nx_L_part : zNm (zi_L_part) 3 := ⟨by decide +kernel, by decide +kernel, by decide +kernel⟩
theorem pf_L_part : plainFor (zi_L_part).1 = true := by decide +kernel
def zi_L_wrong : zI := (yL_wrong, cL_wrong, 5, (some .int), 0, none)
theorem zw_L_wrong : zHd (zi_L_wrong) ∈ zT := wd_1014
theorem nx_L_wrong : zNm (zi_L_wrong) 2 := ⟨by decide +kernel, by decide +kernel, by decide +kernel⟩
theorem pf_L_wrong : plainFor (zi_L_wrong).1 = true := by decide +kernel
def zi_L_way : zI := (yL_way, cL_way, 16, (some .int), 0, none)
theorem zw_L_way : zHd (zi_L_way) ∈ zT := wd_1017
theorem nx_L_way : zNm (zi_L_way) 6 := ⟨by decide +kernel, by decide +kernel, by decide +kernel⟩
theorem pf_L_way : plainFor (zi_L_way).1 = true := by decide +kernel
def zi_L_isHarness : zI := (yL_isHarness, cL_isHarness, 24, (some .boolean), 12, none)
theorem zw_L_isHarness : zHd (zi_L_isHarness) ∈ zT := wd_1011
theorem nx_L_isHarness : zNm (zi_L_isHarness) 10 := ⟨by decide +kernel, by decide +kernel, by decide +kernel⟩
theorem pf_L_isHarness : plainFor (zi_L_isHarness).1 = true := by decide +kernel
def zi_L_window : zI := (yL_window, cL_window, 5, (some .int), 0, none)
theorem zw_L_window : zHd (zi_L_window) ∈ zT := wd_990
theorem nx_L_window : zNm (zi_L_window) 2 := ⟨by decide +kernel, by decide +kernel, by decide +kernel⟩
theorem pf_L_window : plainFor (zi_L_window).1 = true := by decide +kernel
def zi_L_isReel : zI := (yL_isReel, cL_isReel, 15, (some .boolean), 12, none)
theorem zw_L_isReel : zHd (zi_L_isReel) ∈ zT := wd_1020
theorem nx_L_isReel : zNm (zi_L_isReel) 10 := ⟨by decide +kernel, by decide +kernel, by decide +kernel⟩
theorem pf_L_isReel : plainFor (zi_L_isReel).1 = true := by decide +kernel
def zi_L_runs : zI := (yL_runs, cL_runs, 5, (some .int), 0, none)
theorem zw_L_runs : zHd (zi_L_runs) ∈ zT := wd_1002
theorem nx_L_runs : zNm (zi_L_runs) 4 := ⟨by decide +kernel, by decide +kernel, by decide +kernel⟩
theorem pf_L_runs : plainFor (zi_L_runs).1 = true := by decide +kernel
def zi_L_gives : zI := (yL_gives, cL_gives, 5, (some .boolean), 1, none)
theorem zw_L_gives : zHd (zi_L_gives) ∈ zT := wd_1026
theorem nx_L_gives : zNm (zi_L_gives) 5 := ⟨by decide +kernel, by decide +kernel, by decide +kernel⟩
theorem pf_L_gives : plainFor (zi_L_gives).1 = true := by decide +kernel
def zi_L_soldered : zI := (yL_soldered, cL_soldered, 10, (some .int), 0, none)
theorem zw_L_soldered : zHd (zi_L_soldered) ∈ zT := wd_1029
theorem nx_L_soldered : zNm (zi_L_soldered) 4 := ⟨by decide +kernel, by decide +kernel, by decide +kernel⟩
theorem pf_L_soldered : plainFor (zi_L_soldered).1 = true := by decide +kernel
def zi_L_faults : zI := (yL_faults, cL_faults, 6, (some .int), 0, none)
theorem zw_L_faults : zHd (zi_L_faults) ∈ zT := wd_1032
theorem nx_L_faults : zNm (zi_L_faults) 3 := ⟨by decide +kernel, by decide +kernel, by decide +kernel⟩
theorem pf_L_faults : plainFor (zi_L_faults).1 = true := by decide +kernel
def zi_L_isBoard : zI := (yL_isBoard, cL_isBoard, 22, (some .boolean), 12, none)
theorem zw_L_isBoard : zHd (zi_L_isBoard) ∈ zT := wd_1023
theorem nx_L_isBoard : zNm (zi_L_isBoard) 12 := ⟨by decide +kernel, by decide +kernel, by decide +kernel⟩
theorem pf_L_isBoard : plainFor (zi_L_isBoard).1 = true := by decide +kernel
def zi_L_isTold : zI := (yL_isTold, cL_isTold, 12, (some .boolean), 12, none)
theorem zw_L_isTold : zHd (zi_L_isTold) ∈ zT := wd_1035
theorem nx_L_isTold : zNm (zi_L_isTold) 6 := ⟨by decide +kernel, by decide +kernel, by decide +kernel⟩
theorem pf_L_isTold : plainFor (zi_L_isTold).1 = true := by decide +kernel
def zi_X11_crimps : zI := (yX11_crimps, cX11_crimps, 2, (some .int), 7, none)
theorem zw_X11_crimps : zHd (zi_X11_crimps) ∈ zT := wd_986
theorem nx_X11_crimps : zNm (zi_X11_crimps) 1 := ⟨by decide +kernel, by decide +kernel, by decide +kernel⟩
theorem pf_X11_crimps : plainFor (zi_X11_crimps).1 = true := by decide +kernel
def zi_X11_weight : zI := (yX11_weight, cX11_weight, 2, (some .int), 7, none)
theorem zw_X11_weight : zHd (zi_X11_weight) ∈ zT := wd_994
theorem nx_X11_weight : zNm (zi_X11_weight) 1 := ⟨by decide +kernel, by decide +kernel, by decide +kernel⟩
theorem pf_X11_weight : plainFor (zi_X11_weight).1 = true := by decide +kernel
def zi_L_weight : zI := (yL_weight, cL_weight, 6, (some .int), 0, none)
theorem zw_L_weight : zHd (zi_L_weight) ∈ zT := wd_998
theorem nx_L_weight : zNm (zi_L_weight) 4 := ⟨by decide +kernel, by decide +kernel, by decide +kernel⟩
theorem pf_L_weight : plainFor (zi_L_weight).1 = true := by decide +kernel
def zi_X11_jointAnew : zI := (yX11_jointAnew, cX11_jointAnew, 5, (some .int), 7, none)
theorem zw_X11_jointAnew : zHd (zi_X11_jointAnew) ∈ zT := wd_1006
theorem nx_X11_jointAnew : zNm (zi_X11_jointAnew) 2 := ⟨by decide +kernel, by decide +kernel, by decide +kernel⟩
theorem pf_X11_jointAnew : plainFor (zi_X11_jointAnew).1 = true := by decide +kernel
def zi_L_isSo : zI := (yL_isSo, cL_isSo, 19, (some .boolean), 12, none)
theorem zw_L_isSo : zHd (zi_L_isSo) ∈ zT := wd_982
theorem nx_L_isSo : zNm (zi_L_isSo) 13 := ⟨by decide +kernel, by decide +kernel, by decide +kernel⟩
theorem pf_L_isSo : plainFor (zi_L_isSo).1 = true := by decide +kernel
def zi_L_law : zI := (yL_law, cL_law, 21, (some .boolean), 13, some [])
def zinfo (y : Nat) : Option zI := bif Nat.ble 999 y then some (zi_X5_leastOfRest (y - 999)) else
 bif Nat.ble 103 y then
 (bif Nat.ble 165 y then
 (bif Nat.ble 205 y then
 (bif Nat.ble 214 y then
 (bif Nat.ble 218 y then
 (bif Nat.ble 220 y then
 (bif Nat.ble 221 y then
 (bif Nat.ble 222 y then
 (bif Nat.beq y 222 then some zi_L_isTold else none)
 else (bif Nat.beq y 221 then some zi_L_isBoard else none))
 else (bif Nat.beq y 220 then some zi_L_soldered else none))
 else (bif Nat.ble 219 y then
 (bif Nat.beq y 219 then some zi_L_isReel else none)
 else (bif Nat.beq y 218 then some zi_L_isHarness else none)))
 else (bif Nat.ble 216 y then
 (bif Nat.ble 217 y then
 (bif Nat.beq y 217 then some zi_L_isSo else none)
 else (bif Nat.beq y 216 then some zi_L_faults else none))
 else (bif Nat.ble 215 y then
 (bif Nat.beq y 215 then some zi_L_window else none)
 else (bif Nat.beq y 214 then some zi_L_gives else none))))
 else (bif Nat.ble 209 y then
 (bif Nat.ble 211 y then
 (bif Nat.ble 212 y then
 (bif Nat.ble 213 y then
 (bif Nat.beq y 213 then some zi_L_runs else none)
 else (bif Nat.beq y 212 then some zi_L_wrong else none))
 else (bif Nat.beq y 211 then some zi_L_weight else none))
 else (bif Nat.ble 210 y then
 (bif Nat.beq y 210 then some zi_L_way else none)
 else (bif Nat.beq y 209 then some zi_L_flawed else none)))
 else (bif Nat.ble 207 y then
 (bif Nat.ble 208 y then
 (bif Nat.beq y 208 then some zi_L_limited else none)
 else (bif Nat.beq y 207 then some zi_L_does else none))
 else (bif Nat.ble 206 y then
 (bif Nat.beq y 206 then some zi_L_part else none)
 else (bif Nat.beq y 205 then some zi_L_law else none)))))
 else (bif Nat.ble 181 y then
 (bif Nat.ble 192 y then
 (bif Nat.ble 198 y then
 (bif Nat.ble 201 y then
 (bif Nat.ble 202 y then
 (bif Nat.beq y 202 then some zi_X11_recall else none)
 else (bif Nat.beq y 201 then some zi_X0_hasPartOf else none))
 else (bif Nat.beq y 198 then some zi_X11_jointAnew else none))
 else (bif Nat.ble 195 y then
 (bif Nat.beq y 195 then some zi_X11_ofSlot else none)
 else (bif Nat.beq y 192 then some zi_X11_pass else none)))
 else (bif Nat.ble 186 y then
 (bif Nat.ble 189 y then
 (bif Nat.beq y 189 then some zi_X11_ship else none)
 else (bif Nat.beq y 186 then some zi_X11_repair else none))
 else (bif Nat.ble 185 y then
 (bif Nat.beq y 185 then some zi_X9_mend else none)
 else (bif Nat.beq y 181 then some zi_X11_test else none))))
 else (bif Nat.ble 175 y then
 (bif Nat.ble 179 y then
 (bif Nat.ble 180 y then
 (bif Nat.beq y 180 then some zi_X0_faultsFound else none)
 else (bif Nat.beq y 179 then some zi_X0_findFaults else none))
 else (bif Nat.ble 176 y then
 (bif Nat.beq y 176 then some zi_X11_cover else none)
 else (bif Nat.beq y 175 then some zi_J6_bitCount_0f7a4 else none)))
 else (bif Nat.ble 167 y then
 (bif Nat.ble 172 y then
 (bif Nat.beq y 172 then some zi_X11_flaw else none)
 else (bif Nat.beq y 167 then some zi_X11_solder else none))
 else (bif Nat.ble 166 y then
 (bif Nat.beq y 166 then some zi_X0_goThrough else none)
 else (bif Nat.beq y 165 then some zi_X9_join else none))))))
 else (bif Nat.ble 133 y then
 (bif Nat.ble 149 y then
 (bif Nat.ble 160 y then
 (bif Nat.ble 162 y then
 (bif Nat.ble 163 y then
 (bif Nat.ble 164 y then
 (bif Nat.beq y 164 then some zi_X9_jointFor else none)
 else (bif Nat.beq y 163 then some zi_X0_peak else none))
 else (bif Nat.beq y 162 then some zi_X6_peakOf else none))
 else (bif Nat.ble 161 y then
 (bif Nat.beq y 161 then some zi_X0_mass else none)
 else (bif Nat.beq y 160 then some zi_X8_copyFrom else none)))
 else (bif Nat.ble 151 y then
 (bif Nat.ble 157 y then
 (bif Nat.beq y 157 then some zi_X11_limits else none)
 else (bif Nat.beq y 151 then some zi_X11_place else none))
 else (bif Nat.ble 150 y then
 (bif Nat.beq y 150 then some zi_X9_fill else none)
 else (bif Nat.beq y 149 then some zi_X7_gives else none))))
 else (bif Nat.ble 143 y then
 (bif Nat.ble 147 y then
 (bif Nat.ble 148 y then
 (bif Nat.beq y 148 then some zi_X9_hasPart else none)
 else (bif Nat.beq y 147 then some zi_X0_slotAt else none))
 else (bif Nat.ble 146 y then
 (bif Nat.beq y 146 then some zi_X11_boardAt else none)
 else (bif Nat.beq y 143 then some zi_X11_board else none)))
 else (bif Nat.ble 141 y then
 (bif Nat.ble 142 y then
 (bif Nat.beq y 142 then some zi_X0_init else none)
 else (bif Nat.beq y 141 then some zi_X9_init else none))
 else (bif Nat.ble 138 y then
 (bif Nat.beq y 138 then some zi_X11_ofReel else none)
 else (bif Nat.beq y 133 then some zi_X11_open else none)))))
 else (bif Nat.ble 117 y then
 (bif Nat.ble 126 y then
 (bif Nat.ble 130 y then
 (bif Nat.ble 131 y then
 (bif Nat.ble 132 y then
 (bif Nat.beq y 132 then some zi_X7_clockAt else none)
 else (bif Nat.beq y 131 then some zi_X7_beginClock else none))
 else (bif Nat.beq y 130 then some zi_X11_reelAt else none))
 else (bif Nat.ble 127 y then
 (bif Nat.beq y 127 then some zi_X11_reel else none)
 else (bif Nat.beq y 126 then some zi_X7_init else none)))
 else (bif Nat.ble 119 y then
 (bif Nat.ble 123 y then
 (bif Nat.beq y 123 then some zi_X11_crimps else none)
 else (bif Nat.beq y 119 then some zi_X11_crimp else none))
 else (bif Nat.ble 118 y then
 (bif Nat.beq y 118 then some zi_X3_judge else none)
 else (bif Nat.beq y 117 then some zi_J9_abs_0f7a4 else none))))
 else (bif Nat.ble 111 y then
 (bif Nat.ble 115 y then
 (bif Nat.ble 116 y then
 (bif Nat.beq y 116 then some zi_X3_window else none)
 else (bif Nat.beq y 115 then some zi_X11_divideDown else none))
 else (bif Nat.ble 114 y then
 (bif Nat.beq y 114 then some zi_J9_floorDiv_7cf53 else none)
 else (bif Nat.beq y 111 then some zi_X11_leastAnew else none)))
 else (bif Nat.ble 109 y then
 (bif Nat.ble 110 y then
 (bif Nat.beq y 110 then some zi_X5_leastByTable else none)
 else (bif Nat.beq y 109 then some zi_X5_addFamily else none))
 else (bif Nat.ble 108 y then
 (bif Nat.beq y 108 then some zi_X5_leastWithOneMore else none)
 else (bif Nat.beq y 103 then some zi_X11_least else none)))))))
 else (bif Nat.ble 43 y then
 (bif Nat.ble 64 y then
 (bif Nat.ble 85 y then
 (bif Nat.ble 95 y then
 (bif Nat.ble 99 y then
 (bif Nat.ble 100 y then
 (bif Nat.ble 102 y then
 (bif Nat.beq y 102 then some zi_X5_leastByChoice else none)
 else (bif Nat.beq y 100 then some zi_X5_weighSets else none))
 else (bif Nat.beq y 99 then some zi_X5_weightAsOne else none))
 else (bif Nat.ble 98 y then
 (bif Nat.beq y 98 then some zi_X5_allOrders else none)
 else (bif Nat.beq y 95 then some zi_X11_order else none)))
 else (bif Nat.ble 89 y then
 (bif Nat.ble 94 y then
 (bif Nat.beq y 94 then some zi_X5_add else none)
 else (bif Nat.beq y 89 then some zi_X11_weight else none))
 else (bif Nat.ble 88 y then
 (bif Nat.beq y 88 then some zi_X4_weightOf else none)
 else (bif Nat.beq y 85 then some zi_X11_ofWire else none))))
 else (bif Nat.ble 76 y then
 (bif Nat.ble 78 y then
 (bif Nat.ble 79 y then
 (bif Nat.ble 84 y then
 (bif Nat.beq y 84 then some zi_X10_bundleAt else none)
 else (bif Nat.beq y 79 then some zi_X11_pull else none))
 else (bif Nat.beq y 78 then some zi_X10_takeOut else none))
 else (bif Nat.ble 77 y then
 (bif Nat.beq y 77 then some zi_X2_release else none)
 else (bif Nat.beq y 76 then some zi_X11_wireAt else none)))
 else (bif Nat.ble 66 y then
 (bif Nat.ble 67 y then
 (bif Nat.beq y 67 then some zi_X11_wire else none)
 else (bif Nat.beq y 66 then some zi_X4_addWire else none))
 else (bif Nat.ble 65 y then
 (bif Nat.beq y 65 then some zi_X4_layAlong else none)
 else (bif Nat.beq y 64 then some zi_X10_goBy else none)))))
 else (bif Nat.ble 55 y then
 (bif Nat.ble 59 y then
 (bif Nat.ble 61 y then
 (bif Nat.ble 62 y then
 (bif Nat.ble 63 y then
 (bif Nat.beq y 63 then some zi_X4_lowestOnward else none)
 else (bif Nat.beq y 62 then some zi_X10_putIn else none))
 else (bif Nat.beq y 61 then some zi_X2_take else none))
 else (bif Nat.ble 60 y then
 (bif Nat.beq y 60 then some zi_X10_init else none)
 else (bif Nat.beq y 59 then some zi_X4_hasWay else none)))
 else (bif Nat.ble 57 y then
 (bif Nat.ble 58 y then
 (bif Nat.beq y 58 then some zi_X4_findCosts else none)
 else (bif Nat.beq y 57 then some zi_X4_lowerCost else none))
 else (bif Nat.ble 56 y then
 (bif Nat.beq y 56 then some zi_X1_across else none)
 else (bif Nat.beq y 55 then some zi_X1_cost else none))))
 else (bif Nat.ble 47 y then
 (bif Nat.ble 53 y then
 (bif Nat.ble 54 y then
 (bif Nat.beq y 54 then some zi_X8_at else none)
 else (bif Nat.beq y 53 then some zi_X2_isFree else none))
 else (bif Nat.ble 48 y then
 (bif Nat.beq y 48 then some zi_X11_mates else none)
 else (bif Nat.beq y 47 then some zi_X4_pairsThatFitWrong else none)))
 else (bif Nat.ble 45 y then
 (bif Nat.ble 46 y then
 (bif Nat.beq y 46 then some zi_X2_fits else none)
 else (bif Nat.beq y 45 then some zi_X11_connectorAt else none))
 else (bif Nat.ble 44 y then
 (bif Nat.beq y 44 then some zi_Jx4a65c_get_915e3 else none)
 else (bif Nat.beq y 43 then some zi_Jx4a65c_elementData_915e3 else none))))))
 else (bif Nat.ble 18 y then
 (bif Nat.ble 26 y then
 (bif Nat.ble 36 y then
 (bif Nat.ble 38 y then
 (bif Nat.ble 41 y then
 (bif Nat.ble 42 y then
 (bif Nat.beq y 42 then some zi_J15_checkIndex_7cf53 else none)
 else (bif Nat.beq y 41 then some zi_J3_checkIndex_8e157 else none))
 else (bif Nat.beq y 38 then some zi_X11_connector else none))
 else (bif Nat.ble 37 y then
 (bif Nat.beq y 37 then some zi_X4_addConnector else none)
 else (bif Nat.beq y 36 then some zi_X2_init else none)))
 else (bif Nat.ble 28 y then
 (bif Nat.ble 29 y then
 (bif Nat.beq y 29 then some zi_X11_bundle else none)
 else (bif Nat.beq y 28 then some zi_X4_addBundle else none))
 else (bif Nat.ble 27 y then
 (bif Nat.beq y 27 then some zi_Jx4a65c_add_9ea2d else none)
 else (bif Nat.beq y 26 then some zi_Jx4a65c_add_72be8 else none))))
 else (bif Nat.ble 22 y then
 (bif Nat.ble 24 y then
 (bif Nat.ble 25 y then
 (bif Nat.beq y 25 then some zi_Jx4a65c_grow_d5877 else none)
 else (bif Nat.beq y 24 then some zi_Jx4a65c_grow_92f84 else none))
 else (bif Nat.ble 23 y then
 (bif Nat.beq y 23 then some zi_J7_copyOf_1904c else none)
 else (bif Nat.beq y 22 then some zi_J7_copyOf_6403c else none)))
 else (bif Nat.ble 20 y then
 (bif Nat.ble 21 y then
 (bif Nat.beq y 21 then some zi_J9_min_7cf53 else none)
 else (bif Nat.beq y 20 then some zi_J8_newLength_cabcc else none))
 else (bif Nat.ble 19 y then
 (bif Nat.beq y 19 then some zi_J9_max_7cf53 else none)
 else (bif Nat.beq y 18 then some zi_X1_init else none)))))
 else (bif Nat.ble 8 y then
 (bif Nat.ble 13 y then
 (bif Nat.ble 15 y then
 (bif Nat.ble 16 y then
 (bif Nat.ble 17 y then
 (bif Nat.beq y 17 then some zi_X11_checkState else none)
 else (bif Nat.beq y 16 then some zi_Jx4a65c_size_8abf5 else none))
 else (bif Nat.beq y 15 then some zi_X11_checkArgument else none))
 else (bif Nat.ble 14 y then
 (bif Nat.beq y 14 then some zi_X11_isWithin else none)
 else (bif Nat.beq y 13 then some zi_X11_checkIndex else none)))
 else (bif Nat.ble 10 y then
 (bif Nat.ble 12 y then
 (bif Nat.beq y 12 then some zi_X11_isIndex else none)
 else (bif Nat.beq y 10 then some zi_X11_init else none))
 else (bif Nat.ble 9 y then
 (bif Nat.beq y 9 then some zi_X6_init else none)
 else (bif Nat.beq y 8 then some zi_X8_fill else none))))
 else (bif Nat.ble 4 y then
 (bif Nat.ble 6 y then
 (bif Nat.ble 7 y then
 (bif Nat.beq y 7 then some zi_X8_put else none)
 else (bif Nat.beq y 6 then some zi_X3_init else none))
 else (bif Nat.ble 5 y then
 (bif Nat.beq y 5 then some zi_X5_init else none)
 else (bif Nat.beq y 4 then some zi_X4_init else none)))
 else (bif Nat.ble 2 y then
 (bif Nat.ble 3 y then
 (bif Nat.beq y 3 then some zi_X8_init else none)
 else (bif Nat.beq y 2 then some zi_Jx4a65c_init_da8c8 else none))
 else (bif Nat.ble 1 y then
 (bif Nat.beq y 1 then some zi_Jxc12de_init_da8c8 else none)
 else (bif Nat.beq y 0 then some zi_Jxa1e45_init_da8c8 else none)))))))
theorem zn_Jxa1e45_init_da8c8 : zinfo 0 = some zi_Jxa1e45_init_da8c8 := rfl
theorem zn_Jxc12de_init_da8c8 : zinfo 1 = some zi_Jxc12de_init_da8c8 := rfl
theorem zn_Jx4a65c_init_da8c8 : zinfo 2 = some zi_Jx4a65c_init_da8c8 := rfl
theorem zn_X8_init : zinfo 3 = some zi_X8_init := rfl
theorem zn_X4_init : zinfo 4 = some zi_X4_init := rfl
theorem zn_X5_init : zinfo 5 = some zi_X5_init := rfl
theorem zn_X3_init : zinfo 6 = some zi_X3_init := rfl
theorem zn_X8_put : zinfo 7 = some zi_X8_put := rfl
theorem zn_X8_fill : zinfo 8 = some zi_X8_fill := rfl
theorem zn_X6_init : zinfo 9 = some zi_X6_init := rfl
theorem zn_X11_init : zinfo 10 = some zi_X11_init := rfl
theorem zn_X11_isIndex : zinfo 12 = some zi_X11_isIndex := rfl
theorem zn_X11_checkIndex : zinfo 13 = some zi_X11_checkIndex := rfl
theorem zn_X11_isWithin : zinfo 14 = some zi_X11_isWithin := rfl
theorem zn_X11_checkArgument : zinfo 15 = some zi_X11_checkArgument := rfl
theorem zn_Jx4a65c_size_8abf5 : zinfo 16 = some zi_Jx4a65c_size_8abf5 := rfl
theorem zn_X11_checkState : zinfo 17 = some zi_X11_checkState := rfl
theorem zn_X1_init : zinfo 18 = some zi_X1_init := rfl
theorem zn_J9_max_7cf53 : zinfo 19 = some zi_J9_max_7cf53 := rfl
theorem zn_J8_newLength_cabcc : zinfo 20 = some zi_J8_newLength_cabcc := rfl
theorem zn_J9_min_7cf53 : zinfo 21 = some zi_J9_min_7cf53 := rfl
theorem zn_J7_copyOf_6403c : zinfo 22 = some zi_J7_copyOf_6403c := rfl
theorem zn_J7_copyOf_1904c : zinfo 23 = some zi_J7_copyOf_1904c := rfl
theorem zn_Jx4a65c_grow_92f84 : zinfo 24 = some zi_Jx4a65c_grow_92f84 := rfl
theorem zn_Jx4a65c_grow_d5877 : zinfo 25 = some zi_Jx4a65c_grow_d5877 := rfl
theorem zn_Jx4a65c_add_72be8 : zinfo 26 = some zi_Jx4a65c_add_72be8 := rfl
theorem zn_Jx4a65c_add_9ea2d : zinfo 27 = some zi_Jx4a65c_add_9ea2d := rfl
theorem zn_X4_addBundle : zinfo 28 = some zi_X4_addBundle := rfl
theorem zn_X11_bundle : zinfo 29 = some zi_X11_bundle := rfl
theorem zn_X2_init : zinfo 36 = some zi_X2_init := rfl
theorem zn_X4_addConnector : zinfo 37 = some zi_X4_addConnector := rfl
theorem zn_X11_connector : zinfo 38 = some zi_X11_connector := rfl
theorem zn_J3_checkIndex_8e157 : zinfo 41 = some zi_J3_checkIndex_8e157 := rfl
theorem zn_J15_checkIndex_7cf53 : zinfo 42 = some zi_J15_checkIndex_7cf53 := rfl
theorem zn_Jx4a65c_elementData_915e3 : zinfo 43 = some zi_Jx4a65c_elementData_915e3 := rfl
theorem zn_Jx4a65c_get_915e3 : zinfo 44 = some zi_Jx4a65c_get_915e3 := rfl
theorem zn_X11_connectorAt : zinfo 45 = some zi_X11_connectorAt := rfl
theorem zn_X2_fits : zinfo 46 = some zi_X2_fits := rfl
theorem zn_X4_pairsThatFitWrong : zinfo 47 = some zi_X4_pairsThatFitWrong := rfl
theorem zn_X11_mates : zinfo 48 = some zi_X11_mates := rfl
theorem zn_X2_isFree : zinfo 53 = some zi_X2_isFree := rfl
theorem zn_X8_at : zinfo 54 = some zi_X8_at := rfl
theorem zn_X1_cost : zinfo 55 = some zi_X1_cost := rfl
theorem zn_X1_across : zinfo 56 = some zi_X1_across := rfl
theorem zn_X4_lowerCost : zinfo 57 = some zi_X4_lowerCost := rfl
theorem zn_X4_findCosts : zinfo 58 = some zi_X4_findCosts := rfl
theorem zn_X4_hasWay : zinfo 59 = some zi_X4_hasWay := rfl
theorem zn_X10_init : zinfo 60 = some zi_X10_init := rfl
theorem zn_X2_take : zinfo 61 = some zi_X2_take := rfl
theorem zn_X10_putIn : zinfo 62 = some zi_X10_putIn := rfl
theorem zn_X4_lowestOnward : zinfo 63 = some zi_X4_lowestOnward := rfl
theorem zn_X10_goBy : zinfo 64 = some zi_X10_goBy := rfl
theorem zn_X4_layAlong : zinfo 65 = some zi_X4_layAlong := rfl
theorem zn_X4_addWire : zinfo 66 = some zi_X4_addWire := rfl
theorem zn_X11_wire : zinfo 67 = some zi_X11_wire := rfl
theorem zn_X11_wireAt : zinfo 76 = some zi_X11_wireAt := rfl
theorem zn_X2_release : zinfo 77 = some zi_X2_release := rfl
theorem zn_X10_takeOut : zinfo 78 = some zi_X10_takeOut := rfl
theorem zn_X11_pull : zinfo 79 = some zi_X11_pull := rfl
theorem zn_X10_bundleAt : zinfo 84 = some zi_X10_bundleAt := rfl
theorem zn_X11_ofWire : zinfo 85 = some zi_X11_ofWire := rfl
theorem zn_X4_weightOf : zinfo 88 = some zi_X4_weightOf := rfl
theorem zn_X11_weight : zinfo 89 = some zi_X11_weight := rfl
theorem zn_X5_add : zinfo 94 = some zi_X5_add := rfl
theorem zn_X11_order : zinfo 95 = some zi_X11_order := rfl
theorem zn_X5_allOrders : zinfo 98 = some zi_X5_allOrders := rfl
theorem zn_X5_weightAsOne : zinfo 99 = some zi_X5_weightAsOne := rfl
theorem zn_X5_weighSets : zinfo 100 = some zi_X5_weighSets := rfl
theorem zn_X5_leastByChoice : zinfo 102 = some zi_X5_leastByChoice := rfl
theorem zn_X11_least : zinfo 103 = some zi_X11_least := rfl
theorem zn_X5_leastWithOneMore : zinfo 108 = some zi_X5_leastWithOneMore := rfl
theorem zn_X5_addFamily : zinfo 109 = some zi_X5_addFamily := rfl
theorem zn_X5_leastByTable : zinfo 110 = some zi_X5_leastByTable := rfl
theorem zn_X11_leastAnew : zinfo 111 = some zi_X11_leastAnew := rfl
theorem zn_J9_floorDiv_7cf53 : zinfo 114 = some zi_J9_floorDiv_7cf53 := rfl
theorem zn_X11_divideDown : zinfo 115 = some zi_X11_divideDown := rfl
theorem zn_X3_window : zinfo 116 = some zi_X3_window := rfl
theorem zn_J9_abs_0f7a4 : zinfo 117 = some zi_J9_abs_0f7a4 := rfl
theorem zn_X3_judge : zinfo 118 = some zi_X3_judge := rfl
theorem zn_X11_crimp : zinfo 119 = some zi_X11_crimp := rfl
theorem zn_X11_crimps : zinfo 123 = some zi_X11_crimps := rfl
theorem zn_X7_init : zinfo 126 = some zi_X7_init := rfl
theorem zn_X11_reel : zinfo 127 = some zi_X11_reel := rfl
theorem zn_X11_reelAt : zinfo 130 = some zi_X11_reelAt := rfl
theorem zn_X7_beginClock : zinfo 131 = some zi_X7_beginClock := rfl
theorem zn_X7_clockAt : zinfo 132 = some zi_X7_clockAt := rfl
theorem zn_X11_open : zinfo 133 = some zi_X11_open := rfl
theorem zn_X11_ofReel : zinfo 138 = some zi_X11_ofReel := rfl
theorem zn_X9_init : zinfo 141 = some zi_X9_init := rfl
theorem zn_X0_init : zinfo 142 = some zi_X0_init := rfl
theorem zn_X11_board : zinfo 143 = some zi_X11_board := rfl
theorem zn_X11_boardAt : zinfo 146 = some zi_X11_boardAt := rfl
theorem zn_X0_slotAt : zinfo 147 = some zi_X0_slotAt := rfl
theorem zn_X9_hasPart : zinfo 148 = some zi_X9_hasPart := rfl
theorem zn_X7_gives : zinfo 149 = some zi_X7_gives := rfl
theorem zn_X9_fill : zinfo 150 = some zi_X9_fill := rfl
theorem zn_X11_place : zinfo 151 = some zi_X11_place := rfl
theorem zn_X11_limits : zinfo 157 = some zi_X11_limits := rfl
theorem zn_X8_copyFrom : zinfo 160 = some zi_X8_copyFrom := rfl
theorem zn_X0_mass : zinfo 161 = some zi_X0_mass := rfl
theorem zn_X6_peakOf : zinfo 162 = some zi_X6_peakOf := rfl
theorem zn_X0_peak : zinfo 163 = some zi_X0_peak := rfl
theorem zn_X9_jointFor : zinfo 164 = some zi_X9_jointFor := rfl
theorem zn_X9_join : zinfo 165 = some zi_X9_join := rfl
theorem zn_X0_goThrough : zinfo 166 = some zi_X0_goThrough := rfl
theorem zn_X11_solder : zinfo 167 = some zi_X11_solder := rfl
theorem zn_X11_flaw : zinfo 172 = some zi_X11_flaw := rfl
theorem zn_J6_bitCount_0f7a4 : zinfo 175 = some zi_J6_bitCount_0f7a4 := rfl
theorem zn_X11_cover : zinfo 176 = some zi_X11_cover := rfl
theorem zn_X0_findFaults : zinfo 179 = some zi_X0_findFaults := rfl
theorem zn_X0_faultsFound : zinfo 180 = some zi_X0_faultsFound := rfl
theorem zn_X11_test : zinfo 181 = some zi_X11_test := rfl
theorem zn_X9_mend : zinfo 185 = some zi_X9_mend := rfl
theorem zn_X11_repair : zinfo 186 = some zi_X11_repair := rfl
theorem zn_X11_ship : zinfo 189 = some zi_X11_ship := rfl
theorem zn_X11_pass : zinfo 192 = some zi_X11_pass := rfl
theorem zn_X11_ofSlot : zinfo 195 = some zi_X11_ofSlot := rfl
theorem zn_X11_jointAnew : zinfo 198 = some zi_X11_jointAnew := rfl
theorem zn_X0_hasPartOf : zinfo 201 = some zi_X0_hasPartOf := rfl
theorem zn_X11_recall : zinfo 202 = some zi_X11_recall := rfl
theorem zn_L_law : zinfo 205 = some zi_L_law := rfl
theorem zn_L_part : zinfo 206 = some zi_L_part := rfl
theorem zn_L_does : zinfo 207 = some zi_L_does := rfl
theorem zn_L_limited : zinfo 208 = some zi_L_limited := rfl
theorem zn_L_flawed : zinfo 209 = some zi_L_flawed := rfl
theorem zn_L_way : zinfo 210 = some zi_L_way := rfl
theorem zn_L_weight : zinfo 211 = some zi_L_weight := rfl
theorem zn_L_wrong : zinfo 212 = some zi_L_wrong := rfl
theorem zn_L_runs : zinfo 213 = some zi_L_runs := rfl
theorem zn_L_gives : zinfo 214 = some zi_L_gives := rfl
theorem zn_L_window : zinfo 215 = some zi_L_window := rfl
theorem zn_L_faults : zinfo 216 = some zi_L_faults := rfl
theorem zn_L_isSo : zinfo 217 = some zi_L_isSo := rfl
theorem zn_L_isHarness : zinfo 218 = some zi_L_isHarness := rfl
theorem zn_L_isReel : zinfo 219 = some zi_L_isReel := rfl
theorem zn_L_soldered : zinfo 220 = some zi_L_soldered := rfl
theorem zn_L_isBoard : zinfo 221 = some zi_L_isBoard := rfl
theorem zn_L_isTold : zinfo 222 = some zi_L_isTold := rfl
theorem zn_X5_leastOfRest (d : Nat) : zinfo (d + 1000 - 1) = some (zi_X5_leastOfRest d) := by
  unfold zinfo
  rw [show Nat.ble 999 (d + 1000 - 1) = true from Nat.ble_eq_true_of_le (by omega), show d + 1000 - 1 - 999 = d by omega]
  rfl
theorem zn_X5_leastOfRest_1006 : zinfo 1006 = some (zi_X5_leastOfRest 7) := zn_X5_leastOfRest 7
