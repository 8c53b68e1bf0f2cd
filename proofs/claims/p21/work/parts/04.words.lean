/-! the good words of the tables, and where each stands among them -/
def lw_all : List Cond := lw_tbl.filter goodWord
theorem lw_mem {w : Cond} (n : Nat) (h : lw_tbl[n]? = some w) (g : goodWord w = true) : w ∈ lw_all := List.mem_filter.mpr ⟨List.mem_of_getElem? h, g⟩
theorem lw_all_tbl : ∀ w ∈ lw_all, w ∈ lw_tbl := fun _ h => (List.mem_filter.mp h).1
theorem lw_all_good : ∀ w ∈ lw_all, goodWord w = true := fun _ h => (List.mem_filter.mp h).2
theorem q0 : (Jvm.Cond.initialized "HayThievesLaw") ∈ lw_all := lw_mem 7 (by decide +kernel) rfl
theorem q1 : (Jvm.Cond.initialized "HayThieves") ∈ lw_all := lw_mem 8 (by decide +kernel) rfl
theorem q2 : (Jvm.Cond.initialized "HayThieves$Yard") ∈ lw_all := lw_mem 9 (by decide +kernel) rfl
theorem q3 : (Jvm.Cond.initialized "HayThieves$Lad") ∈ lw_all := lw_mem 10 (by decide +kernel) rfl
theorem q4 : (Jvm.Cond.initialized "HayThieves$Cart") ∈ lw_all := lw_mem 11 (by decide +kernel) rfl
theorem q5 : (Jvm.Cond.initialized "HayThieves$Load") ∈ lw_all := lw_mem 12 (by decide +kernel) rfl
theorem q6 : (Jvm.Cond.initialized "HayThievesLaw$Sim") ∈ lw_all := lw_mem 13 (by decide +kernel) rfl
theorem q7 : (Jvm.Cond.initialized "java/lang/Throwable") ∈ lw_all := lw_mem 14 (by decide +kernel) rfl
theorem q8 : (Jvm.Cond.initialized "java/lang/Exception") ∈ lw_all := lw_mem 15 (by decide +kernel) rfl
theorem q9 : (Jvm.Cond.initialized "java/lang/RuntimeException") ∈ lw_all := lw_mem 16 (by decide +kernel) rfl
theorem q10 : (Jvm.Cond.initialized "java/lang/IllegalArgumentException") ∈ lw_all := lw_mem 17 (by decide +kernel) rfl
theorem q11 : (Jvm.Cond.initialized "java/lang/IllegalStateException") ∈ lw_all := lw_mem 18 (by decide +kernel) rfl
theorem q12 : (Jvm.Cond.initialized "java/lang/IndexOutOfBoundsException") ∈ lw_all := lw_mem 19 (by decide +kernel) rfl
theorem q13 : (Jvm.Cond.initialized "java/lang/System") ∈ lw_all := lw_mem 20 (by decide +kernel) rfl
theorem q14 : (Jvm.Cond.initialized "java/lang/Math") ∈ lw_all := lw_mem 21 (by decide +kernel) rfl
theorem q15 : (Jvm.Cond.classLink "HayThievesLaw" (22 : Nat) "HayThieves") ∈ lw_all := lw_mem 22 (by decide +kernel) rfl
theorem q16 : (Jvm.Cond.instantiable "HayThieves" (2 : Nat)) ∈ lw_all := lw_mem 23 (by decide +kernel) rfl
theorem q17 : (Jvm.Cond.methodLink "HayThievesLaw" (79 : Nat) ({ cls := "HayThieves", name := "<init>", desc := "()V" } : Jvm.MethodName)) ∈ lw_all := lw_mem 24 (by decide +kernel) rfl
theorem q18 : (Jvm.Cond.instanceMethod ({ cls := "HayThieves", name := "<init>", desc := "()V" } : Jvm.MethodName)) ∈ lw_all := lw_mem 25 (by decide +kernel) rfl
theorem q19 : (Jvm.Cond.code ({ cls := "HayThieves", name := "<init>", desc := "()V" } : Jvm.MethodName) prog_1_method_1_code (1 : Nat) (Option.none : Option Jvm.ClassFile.FieldType)) ∈ lw_all := lw_mem 26 (by decide +kernel) rfl
theorem q20 : (Jvm.Cond.methodLink "HayThieves" (3 : Nat) ({ cls := "java/lang/Object", name := "<init>", desc := "()V" } : Jvm.MethodName)) ∈ lw_all := lw_mem 27 (by decide +kernel) rfl
theorem q21 : (Jvm.Cond.instanceMethod ({ cls := "java/lang/Object", name := "<init>", desc := "()V" } : Jvm.MethodName)) ∈ lw_all := lw_mem 28 (by decide +kernel) rfl
theorem q22 : (Jvm.Cond.code ({ cls := "java/lang/Object", name := "<init>", desc := "()V" } : Jvm.MethodName) object_method_1_code (1 : Nat) (Option.none : Option Jvm.ClassFile.FieldType)) ∈ lw_all := lw_mem 29 (by decide +kernel) rfl
theorem q23 : (Jvm.Cond.classLink "HayThieves" (9 : Nat) "HayThieves$Yard") ∈ lw_all := lw_mem 30 (by decide +kernel) rfl
theorem q24 : (Jvm.Cond.instantiable "HayThieves$Yard" (10 : Nat)) ∈ lw_all := lw_mem 31 (by decide +kernel) rfl
theorem q25 : (Jvm.Cond.methodLink "HayThieves" (11 : Nat) ({ cls := "HayThieves$Yard", name := "<init>", desc := "()V" } : Jvm.MethodName)) ∈ lw_all := lw_mem 32 (by decide +kernel) rfl
theorem q26 : (Jvm.Cond.instanceMethod ({ cls := "HayThieves$Yard", name := "<init>", desc := "()V" } : Jvm.MethodName)) ∈ lw_all := lw_mem 33 (by decide +kernel) rfl
theorem q27 : (Jvm.Cond.code ({ cls := "HayThieves$Yard", name := "<init>", desc := "()V" } : Jvm.MethodName) prog_5_method_1_code (2 : Nat) (Option.none : Option Jvm.ClassFile.FieldType)) ∈ lw_all := lw_mem 34 (by decide +kernel) rfl
theorem q28 : (Jvm.Cond.methodLink "HayThieves$Yard" (3 : Nat) ({ cls := "java/lang/Object", name := "<init>", desc := "()V" } : Jvm.MethodName)) ∈ lw_all := lw_mem 35 (by decide +kernel) rfl
theorem q29 : (Jvm.Cond.classLink "HayThieves$Yard" (9 : Nat) "HayThieves$Lad") ∈ lw_all := lw_mem 36 (by decide +kernel) rfl
theorem q31 : (Jvm.Cond.classLink "HayThieves$Yard" (17 : Nat) "HayThieves$Load") ∈ lw_all := lw_mem 38 (by decide +kernel) rfl
theorem q33 : (Jvm.Cond.instantiable "HayThieves$Lad" (12 : Nat)) ∈ lw_all := lw_mem 40 (by decide +kernel) rfl
theorem q34 : (Jvm.Cond.methodLink "HayThieves$Yard" (50 : Nat) ({ cls := "HayThieves$Lad", name := "<init>", desc := "(I)V" } : Jvm.MethodName)) ∈ lw_all := lw_mem 41 (by decide +kernel) rfl
theorem q35 : (Jvm.Cond.instanceMethod ({ cls := "HayThieves$Lad", name := "<init>", desc := "(I)V" } : Jvm.MethodName)) ∈ lw_all := lw_mem 42 (by decide +kernel) rfl
theorem q36 : (Jvm.Cond.code ({ cls := "HayThieves$Lad", name := "<init>", desc := "(I)V" } : Jvm.MethodName) prog_3_method_1_code (2 : Nat) (Option.none : Option Jvm.ClassFile.FieldType)) ∈ lw_all := lw_mem 43 (by decide +kernel) rfl
theorem q37 : (Jvm.Cond.methodLink "HayThieves$Lad" (3 : Nat) ({ cls := "java/lang/Object", name := "<init>", desc := "()V" } : Jvm.MethodName)) ∈ lw_all := lw_mem 44 (by decide +kernel) rfl
theorem q38 : (Jvm.Cond.classLink "HayThieves$Lad" (18 : Nat) "HayThieves$Cart") ∈ lw_all := lw_mem 45 (by decide +kernel) rfl
theorem q39 : (Jvm.Cond.instantiable "HayThieves$Cart" (2 : Nat)) ∈ lw_all := lw_mem 46 (by decide +kernel) rfl
theorem q41 : (Jvm.Cond.instanceMethod ({ cls := "HayThieves$Cart", name := "<init>", desc := "()V" } : Jvm.MethodName)) ∈ lw_all := lw_mem 48 (by decide +kernel) rfl
theorem q42 : (Jvm.Cond.code ({ cls := "HayThieves$Cart", name := "<init>", desc := "()V" } : Jvm.MethodName) prog_2_method_1_code (1 : Nat) (Option.none : Option Jvm.ClassFile.FieldType)) ∈ lw_all := lw_mem 49 (by decide +kernel) rfl
theorem q43 : (Jvm.Cond.methodLink "HayThieves$Cart" (3 : Nat) ({ cls := "java/lang/Object", name := "<init>", desc := "()V" } : Jvm.MethodName)) ∈ lw_all := lw_mem 50 (by decide +kernel) rfl
theorem q44 : (Jvm.Cond.fieldLink "HayThieves$Cart" (9 : Nat) "HayThieves$Cart" "heaps" "[I") ∈ lw_all := lw_mem 51 (by decide +kernel) rfl
theorem q45 : (Jvm.Cond.fieldLink "HayThieves$Cart" (15 : Nat) "HayThieves$Cart" "size" "I") ∈ lw_all := lw_mem 52 (by decide +kernel) rfl
theorem q54 : (Jvm.Cond.arrayClass Jvm.ClassFile.FieldType.int) ∈ lw_all := lw_mem 61 (by decide +kernel) rfl
theorem q55 : (Jvm.Cond.arrayClass Jvm.ClassFile.FieldType.boolean) ∈ lw_all := lw_mem 62 (by decide +kernel) rfl
theorem q56 : (Jvm.Cond.fieldLink "HayThieves$Lad" (50 : Nat) "HayThieves$Lad" "number" "I") ∈ lw_all := lw_mem 63 (by decide +kernel) rfl
theorem q58 : (Jvm.Cond.fieldLink "HayThieves$Lad" (9 : Nat) "HayThieves$Lad" "strength" "I") ∈ lw_all := lw_mem 65 (by decide +kernel) rfl
theorem q60 : (Jvm.Cond.fieldLink "HayThieves$Lad" (15 : Nat) "HayThieves$Lad" "way" "I") ∈ lw_all := lw_mem 67 (by decide +kernel) rfl
theorem q63 : (Jvm.Cond.fieldLink "HayThieves$Lad" (21 : Nat) "HayThieves$Lad" "cart" "LHayThieves$Cart;") ∈ lw_all := lw_mem 70 (by decide +kernel) rfl
theorem q66 : (Jvm.Cond.fieldLink "HayThieves$Lad" (25 : Nat) "HayThieves$Lad" "hands" "I") ∈ lw_all := lw_mem 73 (by decide +kernel) rfl
theorem q68 : (Jvm.Cond.fieldLink "HayThieves$Lad" (28 : Nat) "HayThieves$Lad" "balesLeft" "I") ∈ lw_all := lw_mem 75 (by decide +kernel) rfl
theorem q70 : (Jvm.Cond.fieldLink "HayThieves$Lad" (31 : Nat) "HayThieves$Lad" "toJoin" "I") ∈ lw_all := lw_mem 77 (by decide +kernel) rfl
theorem q72 : (Jvm.Cond.fieldLink "HayThieves$Lad" (34 : Nat) "HayThieves$Lad" "asleep" "Z") ∈ lw_all := lw_mem 79 (by decide +kernel) rfl
theorem q75 : (Jvm.Cond.fieldLink "HayThieves$Lad" (38 : Nat) "HayThieves$Lad" "idleInRow" "I") ∈ lw_all := lw_mem 82 (by decide +kernel) rfl
theorem q77 : (Jvm.Cond.fieldLink "HayThieves$Lad" (41 : Nat) "HayThieves$Lad" "idleMinutes" "I") ∈ lw_all := lw_mem 84 (by decide +kernel) rfl
theorem q78 : (Jvm.Cond.fieldLink "HayThieves$Lad" (44 : Nat) "HayThieves$Lad" "thefts" "I") ∈ lw_all := lw_mem 85 (by decide +kernel) rfl
theorem q81 : (Jvm.Cond.fieldLink "HayThieves$Lad" (47 : Nat) "HayThieves$Lad" "theftsFrom" "I") ∈ lw_all := lw_mem 88 (by decide +kernel) rfl
theorem q108 : (Jvm.Cond.instantiable "HayThieves$Load" (7 : Nat)) ∈ lw_all := lw_mem 115 (by decide +kernel) rfl
theorem q110 : (Jvm.Cond.instanceMethod ({ cls := "HayThieves$Load", name := "<init>", desc := "()V" } : Jvm.MethodName)) ∈ lw_all := lw_mem 117 (by decide +kernel) rfl
theorem q111 : (Jvm.Cond.code ({ cls := "HayThieves$Load", name := "<init>", desc := "()V" } : Jvm.MethodName) prog_4_method_1_code (1 : Nat) (Option.none : Option Jvm.ClassFile.FieldType)) ∈ lw_all := lw_mem 118 (by decide +kernel) rfl
theorem q112 : (Jvm.Cond.methodLink "HayThieves$Load" (3 : Nat) ({ cls := "java/lang/Object", name := "<init>", desc := "()V" } : Jvm.MethodName)) ∈ lw_all := lw_mem 119 (by decide +kernel) rfl
theorem q113 : (Jvm.Cond.fieldLink "HayThieves$Load" (9 : Nat) "HayThieves$Load" "bales" "I") ∈ lw_all := lw_mem 120 (by decide +kernel) rfl
theorem q115 : (Jvm.Cond.fieldLink "HayThieves$Load" (15 : Nat) "HayThieves$Load" "state" "I") ∈ lw_all := lw_mem 122 (by decide +kernel) rfl
theorem q118 : (Jvm.Cond.fieldLink "HayThieves$Load" (18 : Nat) "HayThieves$Load" "broughtAt" "I") ∈ lw_all := lw_mem 125 (by decide +kernel) rfl
theorem q120 : (Jvm.Cond.fieldLink "HayThieves$Load" (21 : Nat) "HayThieves$Load" "doneAt" "I") ∈ lw_all := lw_mem 127 (by decide +kernel) rfl
theorem q122 : (Jvm.Cond.fieldLink "HayThieves$Load" (24 : Nat) "HayThieves$Load" "heaps" "I") ∈ lw_all := lw_mem 129 (by decide +kernel) rfl
theorem q124 : (Jvm.Cond.fieldLink "HayThieves$Load" (27 : Nat) "HayThieves$Load" "thefts" "I") ∈ lw_all := lw_mem 131 (by decide +kernel) rfl
theorem q126 : (Jvm.Cond.fieldLink "HayThieves$Load" (30 : Nat) "HayThieves$Load" "pitched" "I") ∈ lw_all := lw_mem 133 (by decide +kernel) rfl
theorem q143 : (Jvm.Cond.fieldLink "HayThieves$Yard" (11 : Nat) "HayThieves$Yard" "lads" "[LHayThieves$Lad;") ∈ lw_all := lw_mem 150 (by decide +kernel) rfl
theorem q145 : (Jvm.Cond.fieldLink "HayThieves$Yard" (19 : Nat) "HayThieves$Yard" "loads" "[LHayThieves$Load;") ∈ lw_all := lw_mem 152 (by decide +kernel) rfl
theorem q147 : (Jvm.Cond.fieldLink "HayThieves$Yard" (23 : Nat) "HayThieves$Yard" "heapBales" "[I") ∈ lw_all := lw_mem 154 (by decide +kernel) rfl
theorem q148 : (Jvm.Cond.fieldLink "HayThieves$Yard" (27 : Nat) "HayThieves$Yard" "heapDone" "[Z") ∈ lw_all := lw_mem 155 (by decide +kernel) rfl
theorem q149 : (Jvm.Cond.fieldLink "HayThieves$Yard" (31 : Nat) "HayThieves$Yard" "ladCount" "I") ∈ lw_all := lw_mem 156 (by decide +kernel) rfl
theorem q151 : (Jvm.Cond.fieldLink "HayThieves$Yard" (35 : Nat) "HayThieves$Yard" "loadCount" "I") ∈ lw_all := lw_mem 158 (by decide +kernel) rfl
theorem q153 : (Jvm.Cond.fieldLink "HayThieves$Yard" (38 : Nat) "HayThieves$Yard" "minute" "I") ∈ lw_all := lw_mem 160 (by decide +kernel) rfl
theorem q154 : (Jvm.Cond.fieldLink "HayThieves$Yard" (41 : Nat) "HayThieves$Yard" "forkSize" "I") ∈ lw_all := lw_mem 161 (by decide +kernel) rfl
theorem q156 : (Jvm.Cond.fieldLink "HayThieves$Yard" (44 : Nat) "HayThieves$Yard" "forkings" "I") ∈ lw_all := lw_mem 163 (by decide +kernel) rfl
theorem q157 : (Jvm.Cond.fieldLink "HayThieves$Yard" (47 : Nat) "HayThieves$Yard" "joinings" "I") ∈ lw_all := lw_mem 164 (by decide +kernel) rfl
theorem q179 : (Jvm.Cond.fieldLink "HayThieves" (12 : Nat) "HayThieves" "now" "LHayThieves$Yard;") ∈ lw_all := lw_mem 186 (by decide +kernel) rfl
theorem q180 : (Jvm.Cond.fieldLink "HayThieves" (16 : Nat) "HayThieves" "trial" "LHayThieves$Yard;") ∈ lw_all := lw_mem 187 (by decide +kernel) rfl
theorem q186 : (Jvm.Cond.methodLink "HayThievesLaw" (87 : Nat) ({ cls := "HayThieves", name := "lad", desc := "(II)I" } : Jvm.MethodName)) ∈ lw_all := lw_mem 193 (by decide +kernel) rfl
theorem q187 : (Jvm.Cond.instanceMethod ({ cls := "HayThieves", name := "lad", desc := "(II)I" } : Jvm.MethodName)) ∈ lw_all := lw_mem 194 (by decide +kernel) rfl
theorem q188 : (Jvm.Cond.selects "HayThieves" ({ cls := "HayThieves", name := "lad", desc := "(II)I" } : Jvm.MethodName) ({ cls := "HayThieves", name := "lad", desc := "(II)I" } : Jvm.MethodName)) ∈ lw_all := lw_mem 195 (by decide +kernel) rfl
theorem q189 : (Jvm.Cond.code ({ cls := "HayThieves", name := "lad", desc := "(II)I" } : Jvm.MethodName) prog_1_method_8_code (3 : Nat) (Option.some Jvm.ClassFile.FieldType.int)) ∈ lw_all := lw_mem 196 (by decide +kernel) rfl
theorem q190 : (Jvm.Cond.methodLink "HayThieves" (39 : Nat) ({ cls := "HayThieves", name := "needLad", desc := "(I)V" } : Jvm.MethodName)) ∈ lw_all := lw_mem 197 (by decide +kernel) rfl
theorem q192 : (Jvm.Cond.instanceMethod ({ cls := "HayThieves", name := "needLad", desc := "(I)V" } : Jvm.MethodName)) ∈ lw_all := lw_mem 199 (by decide +kernel) rfl
theorem q193 : (Jvm.Cond.code ({ cls := "HayThieves", name := "needLad", desc := "(I)V" } : Jvm.MethodName) prog_1_method_22_code (2 : Nat) (Option.none : Option Jvm.ClassFile.FieldType)) ∈ lw_all := lw_mem 200 (by decide +kernel) rfl
theorem q194 : (Jvm.Cond.classLink "HayThieves" (43 : Nat) "java/lang/IndexOutOfBoundsException") ∈ lw_all := lw_mem 201 (by decide +kernel) rfl
theorem q195 : (Jvm.Cond.instantiable "java/lang/IndexOutOfBoundsException" (6 : Nat)) ∈ lw_all := lw_mem 202 (by decide +kernel) rfl
theorem q203 : (Jvm.Cond.selects "java/lang/IndexOutOfBoundsException" ({ cls := "java/lang/Throwable", name := "fillInStackTrace", desc := "(I)Ljava/lang/Throwable;" } : Jvm.MethodName) ({ cls := "java/lang/Throwable", name := "fillInStackTrace", desc := "(I)Ljava/lang/Throwable;" } : Jvm.MethodName)) ∈ lw_all := lw_mem 210 (by decide +kernel) rfl
theorem q204 : (Jvm.Cond.selects "java/lang/IndexOutOfBoundsException" ({ cls := "java/lang/Throwable", name := "fillInStackTrace", desc := "()Ljava/lang/Throwable;" } : Jvm.MethodName) ({ cls := "java/lang/Throwable", name := "fillInStackTrace", desc := "()Ljava/lang/Throwable;" } : Jvm.MethodName)) ∈ lw_all := lw_mem 211 (by decide +kernel) rfl
theorem q215 : (Jvm.Cond.fieldLink "java/lang/Throwable" (198 : Nat) "java/lang/Throwable" "backtrace" "Ljava/lang/Object;") ∈ lw_all := lw_mem 222 (by decide +kernel) rfl
theorem q217 : (Jvm.Cond.instanceMethod ({ cls := "java/lang/Throwable", name := "<init>", desc := "()V" } : Jvm.MethodName)) ∈ lw_all := lw_mem 224 (by decide +kernel) rfl
theorem q218 : (Jvm.Cond.code ({ cls := "java/lang/Throwable", name := "<init>", desc := "()V" } : Jvm.MethodName) prog_18_method_1_code (1 : Nat) (Option.none : Option Jvm.ClassFile.FieldType)) ∈ lw_all := lw_mem 225 (by decide +kernel) rfl
theorem q219 : (Jvm.Cond.methodLink "java/lang/Throwable" (1 : Nat) ({ cls := "java/lang/Object", name := "<init>", desc := "()V" } : Jvm.MethodName)) ∈ lw_all := lw_mem 226 (by decide +kernel) rfl
theorem q220 : (Jvm.Cond.fieldLink "java/lang/Throwable" (13 : Nat) "java/lang/Throwable" "UNASSIGNED_STACK" "[Ljava/lang/StackTraceElement;") ∈ lw_all := lw_mem 227 (by decide +kernel) rfl
theorem q222 : (Jvm.Cond.fieldLink "java/lang/Throwable" (20 : Nat) "java/lang/Throwable" "SUPPRESSED_SENTINEL" "Ljava/util/List;") ∈ lw_all := lw_mem 229 (by decide +kernel) rfl
theorem q224 : (Jvm.Cond.methodLink "java/lang/Throwable" (27 : Nat) ({ cls := "java/lang/Throwable", name := "fillInStackTrace", desc := "()Ljava/lang/Throwable;" } : Jvm.MethodName)) ∈ lw_all := lw_mem 231 (by decide +kernel) rfl
theorem q225 : (Jvm.Cond.instanceMethod ({ cls := "java/lang/Throwable", name := "fillInStackTrace", desc := "()Ljava/lang/Throwable;" } : Jvm.MethodName)) ∈ lw_all := lw_mem 232 (by decide +kernel) rfl
theorem q227 : (Jvm.Cond.selects "java/lang/IllegalArgumentException" ({ cls := "java/lang/Throwable", name := "fillInStackTrace", desc := "()Ljava/lang/Throwable;" } : Jvm.MethodName) ({ cls := "java/lang/Throwable", name := "fillInStackTrace", desc := "()Ljava/lang/Throwable;" } : Jvm.MethodName)) ∈ lw_all := lw_mem 234 (by decide +kernel) rfl
theorem q228 : (Jvm.Cond.selects "java/lang/IllegalStateException" ({ cls := "java/lang/Throwable", name := "fillInStackTrace", desc := "()Ljava/lang/Throwable;" } : Jvm.MethodName) ({ cls := "java/lang/Throwable", name := "fillInStackTrace", desc := "()Ljava/lang/Throwable;" } : Jvm.MethodName)) ∈ lw_all := lw_mem 235 (by decide +kernel) rfl
theorem q230 : (Jvm.Cond.methodLink "java/lang/Throwable" (202 : Nat) ({ cls := "java/lang/Throwable", name := "fillInStackTrace", desc := "(I)Ljava/lang/Throwable;" } : Jvm.MethodName)) ∈ lw_all := lw_mem 237 (by decide +kernel) rfl
theorem q232 : (Jvm.Cond.instanceMethod ({ cls := "java/lang/Throwable", name := "fillInStackTrace", desc := "(I)Ljava/lang/Throwable;" } : Jvm.MethodName)) ∈ lw_all := lw_mem 239 (by decide +kernel) rfl
theorem q233 : (Jvm.Cond.instantiable "java/lang/Throwable" (6 : Nat)) ∈ lw_all := lw_mem 240 (by decide +kernel) rfl
theorem q234 : (Jvm.Cond.native ({ cls := "java/lang/Throwable", name := "fillInStackTrace", desc := "(I)Ljava/lang/Throwable;" } : Jvm.MethodName)) ∈ lw_all := lw_mem 241 (by decide +kernel) rfl
theorem q236 : (Jvm.Cond.methodLink "HayThieves" (47 : Nat) ({ cls := "java/lang/IndexOutOfBoundsException", name := "<init>", desc := "(Ljava/lang/String;)V" } : Jvm.MethodName)) ∈ lw_all := lw_mem 243 (by decide +kernel) rfl
theorem q237 : (Jvm.Cond.instanceMethod ({ cls := "java/lang/IndexOutOfBoundsException", name := "<init>", desc := "(Ljava/lang/String;)V" } : Jvm.MethodName)) ∈ lw_all := lw_mem 244 (by decide +kernel) rfl
theorem q238 : (Jvm.Cond.code ({ cls := "java/lang/IndexOutOfBoundsException", name := "<init>", desc := "(Ljava/lang/String;)V" } : Jvm.MethodName) prog_13_method_2_code (2 : Nat) (Option.none : Option Jvm.ClassFile.FieldType)) ∈ lw_all := lw_mem 245 (by decide +kernel) rfl
theorem q239 : (Jvm.Cond.methodLink "java/lang/IndexOutOfBoundsException" (7 : Nat) ({ cls := "java/lang/RuntimeException", name := "<init>", desc := "(Ljava/lang/String;)V" } : Jvm.MethodName)) ∈ lw_all := lw_mem 246 (by decide +kernel) rfl
theorem q240 : (Jvm.Cond.instanceMethod ({ cls := "java/lang/RuntimeException", name := "<init>", desc := "(Ljava/lang/String;)V" } : Jvm.MethodName)) ∈ lw_all := lw_mem 247 (by decide +kernel) rfl
theorem q241 : (Jvm.Cond.code ({ cls := "java/lang/RuntimeException", name := "<init>", desc := "(Ljava/lang/String;)V" } : Jvm.MethodName) prog_15_method_2_code (2 : Nat) (Option.none : Option Jvm.ClassFile.FieldType)) ∈ lw_all := lw_mem 248 (by decide +kernel) rfl
theorem q242 : (Jvm.Cond.methodLink "java/lang/RuntimeException" (7 : Nat) ({ cls := "java/lang/Exception", name := "<init>", desc := "(Ljava/lang/String;)V" } : Jvm.MethodName)) ∈ lw_all := lw_mem 249 (by decide +kernel) rfl
theorem q243 : (Jvm.Cond.instanceMethod ({ cls := "java/lang/Exception", name := "<init>", desc := "(Ljava/lang/String;)V" } : Jvm.MethodName)) ∈ lw_all := lw_mem 250 (by decide +kernel) rfl
theorem q244 : (Jvm.Cond.code ({ cls := "java/lang/Exception", name := "<init>", desc := "(Ljava/lang/String;)V" } : Jvm.MethodName) prog_10_method_2_code (2 : Nat) (Option.none : Option Jvm.ClassFile.FieldType)) ∈ lw_all := lw_mem 251 (by decide +kernel) rfl
theorem q245 : (Jvm.Cond.methodLink "java/lang/Exception" (7 : Nat) ({ cls := "java/lang/Throwable", name := "<init>", desc := "(Ljava/lang/String;)V" } : Jvm.MethodName)) ∈ lw_all := lw_mem 252 (by decide +kernel) rfl
theorem q246 : (Jvm.Cond.instanceMethod ({ cls := "java/lang/Throwable", name := "<init>", desc := "(Ljava/lang/String;)V" } : Jvm.MethodName)) ∈ lw_all := lw_mem 253 (by decide +kernel) rfl
theorem q247 : (Jvm.Cond.code ({ cls := "java/lang/Throwable", name := "<init>", desc := "(Ljava/lang/String;)V" } : Jvm.MethodName) prog_18_method_2_code (2 : Nat) (Option.none : Option Jvm.ClassFile.FieldType)) ∈ lw_all := lw_mem 254 (by decide +kernel) rfl
theorem q248 : (Jvm.Cond.fieldLink "java/lang/Throwable" (198 : Nat) "java/lang/Throwable" "backtrace" "Ljava/lang/Object;") ∈ lw_all := lw_mem 255 (by decide +kernel) rfl
theorem q249 : (Jvm.Cond.fieldLink "java/lang/Throwable" (31 : Nat) "java/lang/Throwable" "detailMessage" "Ljava/lang/String;") ∈ lw_all := lw_mem 256 (by decide +kernel) rfl
theorem q250 : (Jvm.Cond.fieldLink "java/lang/Throwable" (7 : Nat) "java/lang/Throwable" "cause" "Ljava/lang/Throwable;") ∈ lw_all := lw_mem 257 (by decide +kernel) rfl
theorem q251 : (Jvm.Cond.fieldLink "java/lang/Throwable" (17 : Nat) "java/lang/Throwable" "stackTrace" "[Ljava/lang/StackTraceElement;") ∈ lw_all := lw_mem 258 (by decide +kernel) rfl
theorem q252 : (Jvm.Cond.fieldLink "java/lang/Throwable" (24 : Nat) "java/lang/Throwable" "suppressedExceptions" "Ljava/util/List;") ∈ lw_all := lw_mem 259 (by decide +kernel) rfl
theorem q261 : (Jvm.Cond.arrayClass Jvm.ClassFile.FieldType.byte) ∈ lw_all := lw_mem 268 (by decide +kernel) rfl
theorem q263 : (Jvm.Cond.methodLink "HayThieves" (95 : Nat) ({ cls := "HayThieves$Lad", name := "tell", desc := "(I)I" } : Jvm.MethodName)) ∈ lw_all := lw_mem 270 (by decide +kernel) rfl
theorem q264 : (Jvm.Cond.instanceMethod ({ cls := "HayThieves$Lad", name := "tell", desc := "(I)I" } : Jvm.MethodName)) ∈ lw_all := lw_mem 271 (by decide +kernel) rfl
theorem q265 : (Jvm.Cond.selects "HayThieves$Lad" ({ cls := "HayThieves$Lad", name := "tell", desc := "(I)I" } : Jvm.MethodName) ({ cls := "HayThieves$Lad", name := "tell", desc := "(I)I" } : Jvm.MethodName)) ∈ lw_all := lw_mem 272 (by decide +kernel) rfl
theorem q266 : (Jvm.Cond.code ({ cls := "HayThieves$Lad", name := "tell", desc := "(I)I" } : Jvm.MethodName) prog_3_method_2_code (2 : Nat) (Option.some Jvm.ClassFile.FieldType.int)) ∈ lw_all := lw_mem 273 (by decide +kernel) rfl
theorem q267 : (Jvm.Cond.methodLink "HayThieves$Lad" (56 : Nat) ({ cls := "HayThieves$Lad", name := "doing", desc := "()I" } : Jvm.MethodName)) ∈ lw_all := lw_mem 274 (by decide +kernel) rfl
theorem q268 : (Jvm.Cond.instanceMethod ({ cls := "HayThieves$Lad", name := "doing", desc := "()I" } : Jvm.MethodName)) ∈ lw_all := lw_mem 275 (by decide +kernel) rfl
theorem q269 : (Jvm.Cond.selects "HayThieves$Lad" ({ cls := "HayThieves$Lad", name := "doing", desc := "()I" } : Jvm.MethodName) ({ cls := "HayThieves$Lad", name := "doing", desc := "()I" } : Jvm.MethodName)) ∈ lw_all := lw_mem 276 (by decide +kernel) rfl
theorem q270 : (Jvm.Cond.code ({ cls := "HayThieves$Lad", name := "doing", desc := "()I" } : Jvm.MethodName) prog_3_method_3_code (1 : Nat) (Option.some Jvm.ClassFile.FieldType.int)) ∈ lw_all := lw_mem 277 (by decide +kernel) rfl
theorem q271 : (Jvm.Cond.methodLink "HayThieves$Lad" (60 : Nat) ({ cls := "HayThieves$Lad", name := "loadAtWork", desc := "()I" } : Jvm.MethodName)) ∈ lw_all := lw_mem 278 (by decide +kernel) rfl
theorem q272 : (Jvm.Cond.instanceMethod ({ cls := "HayThieves$Lad", name := "loadAtWork", desc := "()I" } : Jvm.MethodName)) ∈ lw_all := lw_mem 279 (by decide +kernel) rfl
theorem q273 : (Jvm.Cond.selects "HayThieves$Lad" ({ cls := "HayThieves$Lad", name := "loadAtWork", desc := "()I" } : Jvm.MethodName) ({ cls := "HayThieves$Lad", name := "loadAtWork", desc := "()I" } : Jvm.MethodName)) ∈ lw_all := lw_mem 280 (by decide +kernel) rfl
theorem q274 : (Jvm.Cond.code ({ cls := "HayThieves$Lad", name := "loadAtWork", desc := "()I" } : Jvm.MethodName) prog_3_method_4_code (2 : Nat) (Option.some Jvm.ClassFile.FieldType.int)) ∈ lw_all := lw_mem 281 (by decide +kernel) rfl
theorem q275 : (Jvm.Cond.methodLink "HayThievesLaw" (97 : Nat) ({ cls := "HayThieves", name := "load", desc := "(II)I" } : Jvm.MethodName)) ∈ lw_all := lw_mem 282 (by decide +kernel) rfl
theorem q276 : (Jvm.Cond.instanceMethod ({ cls := "HayThieves", name := "load", desc := "(II)I" } : Jvm.MethodName)) ∈ lw_all := lw_mem 283 (by decide +kernel) rfl
theorem q277 : (Jvm.Cond.selects "HayThieves" ({ cls := "HayThieves", name := "load", desc := "(II)I" } : Jvm.MethodName) ({ cls := "HayThieves", name := "load", desc := "(II)I" } : Jvm.MethodName)) ∈ lw_all := lw_mem 284 (by decide +kernel) rfl
theorem q278 : (Jvm.Cond.code ({ cls := "HayThieves", name := "load", desc := "(II)I" } : Jvm.MethodName) prog_1_method_10_code (3 : Nat) (Option.some Jvm.ClassFile.FieldType.int)) ∈ lw_all := lw_mem 285 (by decide +kernel) rfl
theorem q279 : (Jvm.Cond.methodLink "HayThieves" (106 : Nat) ({ cls := "HayThieves", name := "needLoad", desc := "(I)V" } : Jvm.MethodName)) ∈ lw_all := lw_mem 286 (by decide +kernel) rfl
theorem q281 : (Jvm.Cond.instanceMethod ({ cls := "HayThieves", name := "needLoad", desc := "(I)V" } : Jvm.MethodName)) ∈ lw_all := lw_mem 288 (by decide +kernel) rfl
theorem q282 : (Jvm.Cond.code ({ cls := "HayThieves", name := "needLoad", desc := "(I)V" } : Jvm.MethodName) prog_1_method_23_code (2 : Nat) (Option.none : Option Jvm.ClassFile.FieldType)) ∈ lw_all := lw_mem 289 (by decide +kernel) rfl
theorem q285 : (Jvm.Cond.methodLink "HayThieves" (115 : Nat) ({ cls := "HayThieves$Load", name := "tell", desc := "(I)I" } : Jvm.MethodName)) ∈ lw_all := lw_mem 292 (by decide +kernel) rfl
theorem q286 : (Jvm.Cond.instanceMethod ({ cls := "HayThieves$Load", name := "tell", desc := "(I)I" } : Jvm.MethodName)) ∈ lw_all := lw_mem 293 (by decide +kernel) rfl
theorem q287 : (Jvm.Cond.selects "HayThieves$Load" ({ cls := "HayThieves$Load", name := "tell", desc := "(I)I" } : Jvm.MethodName) ({ cls := "HayThieves$Load", name := "tell", desc := "(I)I" } : Jvm.MethodName)) ∈ lw_all := lw_mem 294 (by decide +kernel) rfl
theorem q288 : (Jvm.Cond.code ({ cls := "HayThieves$Load", name := "tell", desc := "(I)I" } : Jvm.MethodName) prog_4_method_2_code (2 : Nat) (Option.some Jvm.ClassFile.FieldType.int)) ∈ lw_all := lw_mem 295 (by decide +kernel) rfl
theorem q289 : (Jvm.Cond.methodLink "HayThievesLaw" (84 : Nat) ({ cls := "HayThieves", name := "count", desc := "(I)I" } : Jvm.MethodName)) ∈ lw_all := lw_mem 296 (by decide +kernel) rfl
theorem q290 : (Jvm.Cond.instanceMethod ({ cls := "HayThieves", name := "count", desc := "(I)I" } : Jvm.MethodName)) ∈ lw_all := lw_mem 297 (by decide +kernel) rfl
theorem q291 : (Jvm.Cond.selects "HayThieves" ({ cls := "HayThieves", name := "count", desc := "(I)I" } : Jvm.MethodName) ({ cls := "HayThieves", name := "count", desc := "(I)I" } : Jvm.MethodName)) ∈ lw_all := lw_mem 298 (by decide +kernel) rfl
theorem q292 : (Jvm.Cond.code ({ cls := "HayThieves", name := "count", desc := "(I)I" } : Jvm.MethodName) prog_1_method_11_code (2 : Nat) (Option.some Jvm.ClassFile.FieldType.int)) ∈ lw_all := lw_mem 299 (by decide +kernel) rfl
theorem q294 : (Jvm.Cond.methodLink "HayThieves" (120 : Nat) ({ cls := "HayThieves$Yard", name := "tell", desc := "(I)I" } : Jvm.MethodName)) ∈ lw_all := lw_mem 301 (by decide +kernel) rfl
theorem q295 : (Jvm.Cond.instanceMethod ({ cls := "HayThieves$Yard", name := "tell", desc := "(I)I" } : Jvm.MethodName)) ∈ lw_all := lw_mem 302 (by decide +kernel) rfl
theorem q296 : (Jvm.Cond.selects "HayThieves$Yard" ({ cls := "HayThieves$Yard", name := "tell", desc := "(I)I" } : Jvm.MethodName) ({ cls := "HayThieves$Yard", name := "tell", desc := "(I)I" } : Jvm.MethodName)) ∈ lw_all := lw_mem 303 (by decide +kernel) rfl
theorem q297 : (Jvm.Cond.code ({ cls := "HayThieves$Yard", name := "tell", desc := "(I)I" } : Jvm.MethodName) prog_5_method_5_code (2 : Nat) (Option.some Jvm.ClassFile.FieldType.int)) ∈ lw_all := lw_mem 304 (by decide +kernel) rfl
theorem q298 : (Jvm.Cond.methodLink "HayThieves$Yard" (74 : Nat) ({ cls := "HayThieves$Yard", name := "loadsThatAre", desc := "(I)I" } : Jvm.MethodName)) ∈ lw_all := lw_mem 305 (by decide +kernel) rfl
theorem q299 : (Jvm.Cond.instanceMethod ({ cls := "HayThieves$Yard", name := "loadsThatAre", desc := "(I)I" } : Jvm.MethodName)) ∈ lw_all := lw_mem 306 (by decide +kernel) rfl
theorem q300 : (Jvm.Cond.selects "HayThieves$Yard" ({ cls := "HayThieves$Yard", name := "loadsThatAre", desc := "(I)I" } : Jvm.MethodName) ({ cls := "HayThieves$Yard", name := "loadsThatAre", desc := "(I)I" } : Jvm.MethodName)) ∈ lw_all := lw_mem 307 (by decide +kernel) rfl
theorem q301 : (Jvm.Cond.code ({ cls := "HayThieves$Yard", name := "loadsThatAre", desc := "(I)I" } : Jvm.MethodName) prog_5_method_6_code (4 : Nat) (Option.some Jvm.ClassFile.FieldType.int)) ∈ lw_all := lw_mem 308 (by decide +kernel) rfl
theorem q302 : (Jvm.Cond.methodLink "HayThieves$Yard" (78 : Nat) ({ cls := "HayThieves$Yard", name := "sumOverLads", desc := "(I)I" } : Jvm.MethodName)) ∈ lw_all := lw_mem 309 (by decide +kernel) rfl
theorem q303 : (Jvm.Cond.instanceMethod ({ cls := "HayThieves$Yard", name := "sumOverLads", desc := "(I)I" } : Jvm.MethodName)) ∈ lw_all := lw_mem 310 (by decide +kernel) rfl
theorem q304 : (Jvm.Cond.selects "HayThieves$Yard" ({ cls := "HayThieves$Yard", name := "sumOverLads", desc := "(I)I" } : Jvm.MethodName) ({ cls := "HayThieves$Yard", name := "sumOverLads", desc := "(I)I" } : Jvm.MethodName)) ∈ lw_all := lw_mem 311 (by decide +kernel) rfl
theorem q305 : (Jvm.Cond.code ({ cls := "HayThieves$Yard", name := "sumOverLads", desc := "(I)I" } : Jvm.MethodName) prog_5_method_7_code (4 : Nat) (Option.some Jvm.ClassFile.FieldType.int)) ∈ lw_all := lw_mem 312 (by decide +kernel) rfl
theorem q306 : (Jvm.Cond.methodLink "HayThieves$Yard" (91 : Nat) ({ cls := "HayThieves$Lad", name := "tell", desc := "(I)I" } : Jvm.MethodName)) ∈ lw_all := lw_mem 313 (by decide +kernel) rfl
theorem q307 : (Jvm.Cond.methodLink "HayThieves$Yard" (81 : Nat) ({ cls := "HayThieves$Yard", name := "sleepers", desc := "()I" } : Jvm.MethodName)) ∈ lw_all := lw_mem 314 (by decide +kernel) rfl
theorem q308 : (Jvm.Cond.instanceMethod ({ cls := "HayThieves$Yard", name := "sleepers", desc := "()I" } : Jvm.MethodName)) ∈ lw_all := lw_mem 315 (by decide +kernel) rfl
theorem q309 : (Jvm.Cond.selects "HayThieves$Yard" ({ cls := "HayThieves$Yard", name := "sleepers", desc := "()I" } : Jvm.MethodName) ({ cls := "HayThieves$Yard", name := "sleepers", desc := "()I" } : Jvm.MethodName)) ∈ lw_all := lw_mem 316 (by decide +kernel) rfl
theorem q310 : (Jvm.Cond.code ({ cls := "HayThieves$Yard", name := "sleepers", desc := "()I" } : Jvm.MethodName) prog_5_method_9_code (3 : Nat) (Option.some Jvm.ClassFile.FieldType.int)) ∈ lw_all := lw_mem 317 (by decide +kernel) rfl
theorem q311 : (Jvm.Cond.methodLink "HayThieves$Yard" (85 : Nat) ({ cls := "HayThieves$Yard", name := "sumOverLoads", desc := "(I)I" } : Jvm.MethodName)) ∈ lw_all := lw_mem 318 (by decide +kernel) rfl
theorem q312 : (Jvm.Cond.instanceMethod ({ cls := "HayThieves$Yard", name := "sumOverLoads", desc := "(I)I" } : Jvm.MethodName)) ∈ lw_all := lw_mem 319 (by decide +kernel) rfl
theorem q313 : (Jvm.Cond.selects "HayThieves$Yard" ({ cls := "HayThieves$Yard", name := "sumOverLoads", desc := "(I)I" } : Jvm.MethodName) ({ cls := "HayThieves$Yard", name := "sumOverLoads", desc := "(I)I" } : Jvm.MethodName)) ∈ lw_all := lw_mem 320 (by decide +kernel) rfl
theorem q314 : (Jvm.Cond.code ({ cls := "HayThieves$Yard", name := "sumOverLoads", desc := "(I)I" } : Jvm.MethodName) prog_5_method_8_code (4 : Nat) (Option.some Jvm.ClassFile.FieldType.int)) ∈ lw_all := lw_mem 321 (by decide +kernel) rfl
theorem q315 : (Jvm.Cond.methodLink "HayThieves$Yard" (94 : Nat) ({ cls := "HayThieves$Load", name := "tell", desc := "(I)I" } : Jvm.MethodName)) ∈ lw_all := lw_mem 322 (by decide +kernel) rfl
theorem q316 : (Jvm.Cond.methodLink "HayThievesLaw" (90 : Nat) ({ cls := "HayThieves", name := "victim", desc := "(I)I" } : Jvm.MethodName)) ∈ lw_all := lw_mem 323 (by decide +kernel) rfl
theorem q317 : (Jvm.Cond.instanceMethod ({ cls := "HayThieves", name := "victim", desc := "(I)I" } : Jvm.MethodName)) ∈ lw_all := lw_mem 324 (by decide +kernel) rfl
theorem q318 : (Jvm.Cond.selects "HayThieves" ({ cls := "HayThieves", name := "victim", desc := "(I)I" } : Jvm.MethodName) ({ cls := "HayThieves", name := "victim", desc := "(I)I" } : Jvm.MethodName)) ∈ lw_all := lw_mem 325 (by decide +kernel) rfl
theorem q319 : (Jvm.Cond.code ({ cls := "HayThieves", name := "victim", desc := "(I)I" } : Jvm.MethodName) prog_1_method_12_code (2 : Nat) (Option.some Jvm.ClassFile.FieldType.int)) ∈ lw_all := lw_mem 326 (by decide +kernel) rfl
theorem q320 : (Jvm.Cond.methodLink "HayThieves" (121 : Nat) ({ cls := "HayThieves$Yard", name := "victimOf", desc := "(LHayThieves$Lad;)I" } : Jvm.MethodName)) ∈ lw_all := lw_mem 327 (by decide +kernel) rfl
theorem q321 : (Jvm.Cond.instanceMethod ({ cls := "HayThieves$Yard", name := "victimOf", desc := "(LHayThieves$Lad;)I" } : Jvm.MethodName)) ∈ lw_all := lw_mem 328 (by decide +kernel) rfl
theorem q322 : (Jvm.Cond.selects "HayThieves$Yard" ({ cls := "HayThieves$Yard", name := "victimOf", desc := "(LHayThieves$Lad;)I" } : Jvm.MethodName) ({ cls := "HayThieves$Yard", name := "victimOf", desc := "(LHayThieves$Lad;)I" } : Jvm.MethodName)) ∈ lw_all := lw_mem 329 (by decide +kernel) rfl
theorem q323 : (Jvm.Cond.code ({ cls := "HayThieves$Yard", name := "victimOf", desc := "(LHayThieves$Lad;)I" } : Jvm.MethodName) prog_5_method_13_code (2 : Nat) (Option.some Jvm.ClassFile.FieldType.int)) ∈ lw_all := lw_mem 330 (by decide +kernel) rfl
theorem q324 : (Jvm.Cond.methodLink "HayThieves$Yard" (98 : Nat) ({ cls := "HayThieves$Yard", name := "fullestCart", desc := "(LHayThieves$Lad;)I" } : Jvm.MethodName)) ∈ lw_all := lw_mem 331 (by decide +kernel) rfl
theorem q325 : (Jvm.Cond.instanceMethod ({ cls := "HayThieves$Yard", name := "fullestCart", desc := "(LHayThieves$Lad;)I" } : Jvm.MethodName)) ∈ lw_all := lw_mem 332 (by decide +kernel) rfl
theorem q326 : (Jvm.Cond.selects "HayThieves$Yard" ({ cls := "HayThieves$Yard", name := "fullestCart", desc := "(LHayThieves$Lad;)I" } : Jvm.MethodName) ({ cls := "HayThieves$Yard", name := "fullestCart", desc := "(LHayThieves$Lad;)I" } : Jvm.MethodName)) ∈ lw_all := lw_mem 333 (by decide +kernel) rfl
theorem q327 : (Jvm.Cond.code ({ cls := "HayThieves$Yard", name := "fullestCart", desc := "(LHayThieves$Lad;)I" } : Jvm.MethodName) prog_5_method_16_code (5 : Nat) (Option.some Jvm.ClassFile.FieldType.int)) ∈ lw_all := lw_mem 334 (by decide +kernel) rfl
theorem q328 : (Jvm.Cond.methodLink "HayThieves$Yard" (120 : Nat) ({ cls := "HayThieves$Yard", name := "canBeRobbed", desc := "(LHayThieves$Lad;LHayThieves$Lad;)Z" } : Jvm.MethodName)) ∈ lw_all := lw_mem 335 (by decide +kernel) rfl
theorem q329 : (Jvm.Cond.instanceMethod ({ cls := "HayThieves$Yard", name := "canBeRobbed", desc := "(LHayThieves$Lad;LHayThieves$Lad;)Z" } : Jvm.MethodName)) ∈ lw_all := lw_mem 336 (by decide +kernel) rfl
theorem q330 : (Jvm.Cond.selects "HayThieves$Yard" ({ cls := "HayThieves$Yard", name := "canBeRobbed", desc := "(LHayThieves$Lad;LHayThieves$Lad;)Z" } : Jvm.MethodName) ({ cls := "HayThieves$Yard", name := "canBeRobbed", desc := "(LHayThieves$Lad;LHayThieves$Lad;)Z" } : Jvm.MethodName)) ∈ lw_all := lw_mem 337 (by decide +kernel) rfl
theorem q331 : (Jvm.Cond.code ({ cls := "HayThieves$Yard", name := "canBeRobbed", desc := "(LHayThieves$Lad;LHayThieves$Lad;)Z" } : Jvm.MethodName) prog_5_method_14_code (3 : Nat) (Option.some Jvm.ClassFile.FieldType.boolean)) ∈ lw_all := lw_mem 338 (by decide +kernel) rfl
theorem q332 : (Jvm.Cond.methodLink "HayThieves$Yard" (102 : Nat) ({ cls := "HayThieves$Yard", name := "greatestFarHeap", desc := "(LHayThieves$Lad;)I" } : Jvm.MethodName)) ∈ lw_all := lw_mem 339 (by decide +kernel) rfl
theorem q333 : (Jvm.Cond.instanceMethod ({ cls := "HayThieves$Yard", name := "greatestFarHeap", desc := "(LHayThieves$Lad;)I" } : Jvm.MethodName)) ∈ lw_all := lw_mem 340 (by decide +kernel) rfl
theorem q334 : (Jvm.Cond.selects "HayThieves$Yard" ({ cls := "HayThieves$Yard", name := "greatestFarHeap", desc := "(LHayThieves$Lad;)I" } : Jvm.MethodName) ({ cls := "HayThieves$Yard", name := "greatestFarHeap", desc := "(LHayThieves$Lad;)I" } : Jvm.MethodName)) ∈ lw_all := lw_mem 341 (by decide +kernel) rfl
theorem q335 : (Jvm.Cond.code ({ cls := "HayThieves$Yard", name := "greatestFarHeap", desc := "(LHayThieves$Lad;)I" } : Jvm.MethodName) prog_5_method_17_code (6 : Nat) (Option.some Jvm.ClassFile.FieldType.int)) ∈ lw_all := lw_mem 342 (by decide +kernel) rfl
theorem q336 : (Jvm.Cond.methodLink "HayThieves$Yard" (124 : Nat) ({ cls := "HayThieves$Cart", name := "farHeap", desc := "()I" } : Jvm.MethodName)) ∈ lw_all := lw_mem 343 (by decide +kernel) rfl
theorem q337 : (Jvm.Cond.instanceMethod ({ cls := "HayThieves$Cart", name := "farHeap", desc := "()I" } : Jvm.MethodName)) ∈ lw_all := lw_mem 344 (by decide +kernel) rfl
theorem q338 : (Jvm.Cond.selects "HayThieves$Cart" ({ cls := "HayThieves$Cart", name := "farHeap", desc := "()I" } : Jvm.MethodName) ({ cls := "HayThieves$Cart", name := "farHeap", desc := "()I" } : Jvm.MethodName)) ∈ lw_all := lw_mem 345 (by decide +kernel) rfl
theorem q339 : (Jvm.Cond.code ({ cls := "HayThieves$Cart", name := "farHeap", desc := "()I" } : Jvm.MethodName) prog_2_method_3_code (1 : Nat) (Option.some Jvm.ClassFile.FieldType.int)) ∈ lw_all := lw_mem 346 (by decide +kernel) rfl
theorem q340 : (Jvm.Cond.methodLink "HayThieves$Yard" (127 : Nat) ({ cls := "HayThieves$Yard", name := "balesOf", desc := "(I)I" } : Jvm.MethodName)) ∈ lw_all := lw_mem 347 (by decide +kernel) rfl
theorem q341 : (Jvm.Cond.instanceMethod ({ cls := "HayThieves$Yard", name := "balesOf", desc := "(I)I" } : Jvm.MethodName)) ∈ lw_all := lw_mem 348 (by decide +kernel) rfl
theorem q342 : (Jvm.Cond.selects "HayThieves$Yard" ({ cls := "HayThieves$Yard", name := "balesOf", desc := "(I)I" } : Jvm.MethodName) ({ cls := "HayThieves$Yard", name := "balesOf", desc := "(I)I" } : Jvm.MethodName)) ∈ lw_all := lw_mem 349 (by decide +kernel) rfl
theorem q343 : (Jvm.Cond.code ({ cls := "HayThieves$Yard", name := "balesOf", desc := "(I)I" } : Jvm.MethodName) prog_5_method_10_code (2 : Nat) (Option.some Jvm.ClassFile.FieldType.int)) ∈ lw_all := lw_mem 350 (by decide +kernel) rfl
theorem q344 : (Jvm.Cond.methodLink "HayThieves$Yard" (105 : Nat) ({ cls := "HayThieves$Yard", name := "nextWithHay", desc := "(LHayThieves$Lad;)I" } : Jvm.MethodName)) ∈ lw_all := lw_mem 351 (by decide +kernel) rfl
theorem q345 : (Jvm.Cond.instanceMethod ({ cls := "HayThieves$Yard", name := "nextWithHay", desc := "(LHayThieves$Lad;)I" } : Jvm.MethodName)) ∈ lw_all := lw_mem 352 (by decide +kernel) rfl
theorem q346 : (Jvm.Cond.selects "HayThieves$Yard" ({ cls := "HayThieves$Yard", name := "nextWithHay", desc := "(LHayThieves$Lad;)I" } : Jvm.MethodName) ({ cls := "HayThieves$Yard", name := "nextWithHay", desc := "(LHayThieves$Lad;)I" } : Jvm.MethodName)) ∈ lw_all := lw_mem 353 (by decide +kernel) rfl
theorem q347 : (Jvm.Cond.code ({ cls := "HayThieves$Yard", name := "nextWithHay", desc := "(LHayThieves$Lad;)I" } : Jvm.MethodName) prog_5_method_15_code (4 : Nat) (Option.some Jvm.ClassFile.FieldType.int)) ∈ lw_all := lw_mem 354 (by decide +kernel) rfl
theorem q348 : (Jvm.Cond.methodLink "HayThievesLaw" (73 : Nat) ({ cls := "HayThieves", name := "pass", desc := "(I)I" } : Jvm.MethodName)) ∈ lw_all := lw_mem 355 (by decide +kernel) rfl
theorem q349 : (Jvm.Cond.instanceMethod ({ cls := "HayThieves", name := "pass", desc := "(I)I" } : Jvm.MethodName)) ∈ lw_all := lw_mem 356 (by decide +kernel) rfl
theorem q350 : (Jvm.Cond.selects "HayThieves" ({ cls := "HayThieves", name := "pass", desc := "(I)I" } : Jvm.MethodName) ({ cls := "HayThieves", name := "pass", desc := "(I)I" } : Jvm.MethodName)) ∈ lw_all := lw_mem 357 (by decide +kernel) rfl
theorem q351 : (Jvm.Cond.code ({ cls := "HayThieves", name := "pass", desc := "(I)I" } : Jvm.MethodName) prog_1_method_14_code (3 : Nat) (Option.some Jvm.ClassFile.FieldType.int)) ∈ lw_all := lw_mem 358 (by decide +kernel) rfl
theorem q352 : (Jvm.Cond.methodLink "HayThieves" (128 : Nat) ({ cls := "HayThieves", name := "needMinutes", desc := "(II)V" } : Jvm.MethodName)) ∈ lw_all := lw_mem 359 (by decide +kernel) rfl
theorem q353 : (Jvm.Cond.static ({ cls := "HayThieves", name := "needMinutes", desc := "(II)V" } : Jvm.MethodName)) ∈ lw_all := lw_mem 360 (by decide +kernel) rfl
theorem q354 : (Jvm.Cond.code ({ cls := "HayThieves", name := "needMinutes", desc := "(II)V" } : Jvm.MethodName) prog_1_method_24_code (2 : Nat) (Option.none : Option Jvm.ClassFile.FieldType)) ∈ lw_all := lw_mem 361 (by decide +kernel) rfl
theorem q355 : (Jvm.Cond.classLink "HayThieves" (19 : Nat) "java/lang/IllegalArgumentException") ∈ lw_all := lw_mem 362 (by decide +kernel) rfl
theorem q356 : (Jvm.Cond.instantiable "java/lang/IllegalArgumentException" (6 : Nat)) ∈ lw_all := lw_mem 363 (by decide +kernel) rfl
theorem q358 : (Jvm.Cond.selects "java/lang/IllegalArgumentException" ({ cls := "java/lang/Throwable", name := "fillInStackTrace", desc := "(I)Ljava/lang/Throwable;" } : Jvm.MethodName) ({ cls := "java/lang/Throwable", name := "fillInStackTrace", desc := "(I)Ljava/lang/Throwable;" } : Jvm.MethodName)) ∈ lw_all := lw_mem 365 (by decide +kernel) rfl
theorem q365 : (Jvm.Cond.methodLink "HayThieves" (23 : Nat) ({ cls := "java/lang/IllegalArgumentException", name := "<init>", desc := "(Ljava/lang/String;)V" } : Jvm.MethodName)) ∈ lw_all := lw_mem 372 (by decide +kernel) rfl
theorem q366 : (Jvm.Cond.instanceMethod ({ cls := "java/lang/IllegalArgumentException", name := "<init>", desc := "(Ljava/lang/String;)V" } : Jvm.MethodName)) ∈ lw_all := lw_mem 373 (by decide +kernel) rfl
theorem q367 : (Jvm.Cond.code ({ cls := "java/lang/IllegalArgumentException", name := "<init>", desc := "(Ljava/lang/String;)V" } : Jvm.MethodName) prog_11_method_2_code (2 : Nat) (Option.none : Option Jvm.ClassFile.FieldType)) ∈ lw_all := lw_mem 374 (by decide +kernel) rfl
theorem q368 : (Jvm.Cond.methodLink "java/lang/IllegalArgumentException" (7 : Nat) ({ cls := "java/lang/RuntimeException", name := "<init>", desc := "(Ljava/lang/String;)V" } : Jvm.MethodName)) ∈ lw_all := lw_mem 375 (by decide +kernel) rfl
theorem q371 : (Jvm.Cond.methodLink "HayThieves" (132 : Nat) ({ cls := "HayThieves$Yard", name := "runMinutes", desc := "(I)V" } : Jvm.MethodName)) ∈ lw_all := lw_mem 378 (by decide +kernel) rfl
theorem q372 : (Jvm.Cond.instanceMethod ({ cls := "HayThieves$Yard", name := "runMinutes", desc := "(I)V" } : Jvm.MethodName)) ∈ lw_all := lw_mem 379 (by decide +kernel) rfl
theorem q373 : (Jvm.Cond.selects "HayThieves$Yard" ({ cls := "HayThieves$Yard", name := "runMinutes", desc := "(I)V" } : Jvm.MethodName) ({ cls := "HayThieves$Yard", name := "runMinutes", desc := "(I)V" } : Jvm.MethodName)) ∈ lw_all := lw_mem 380 (by decide +kernel) rfl
theorem q374 : (Jvm.Cond.code ({ cls := "HayThieves$Yard", name := "runMinutes", desc := "(I)V" } : Jvm.MethodName) prog_5_method_18_code (4 : Nat) (Option.none : Option Jvm.ClassFile.FieldType)) ∈ lw_all := lw_mem 381 (by decide +kernel) rfl
theorem q375 : (Jvm.Cond.methodLink "HayThieves$Yard" (130 : Nat) ({ cls := "HayThieves$Yard", name := "takeTurn", desc := "(LHayThieves$Lad;)V" } : Jvm.MethodName)) ∈ lw_all := lw_mem 382 (by decide +kernel) rfl
theorem q376 : (Jvm.Cond.instanceMethod ({ cls := "HayThieves$Yard", name := "takeTurn", desc := "(LHayThieves$Lad;)V" } : Jvm.MethodName)) ∈ lw_all := lw_mem 383 (by decide +kernel) rfl
theorem q377 : (Jvm.Cond.selects "HayThieves$Yard" ({ cls := "HayThieves$Yard", name := "takeTurn", desc := "(LHayThieves$Lad;)V" } : Jvm.MethodName) ({ cls := "HayThieves$Yard", name := "takeTurn", desc := "(LHayThieves$Lad;)V" } : Jvm.MethodName)) ∈ lw_all := lw_mem 384 (by decide +kernel) rfl
theorem q378 : (Jvm.Cond.code ({ cls := "HayThieves$Yard", name := "takeTurn", desc := "(LHayThieves$Lad;)V" } : Jvm.MethodName) prog_5_method_19_code (3 : Nat) (Option.none : Option Jvm.ClassFile.FieldType)) ∈ lw_all := lw_mem 385 (by decide +kernel) rfl
theorem q379 : (Jvm.Cond.methodLink "HayThieves$Yard" (140 : Nat) ({ cls := "HayThieves$Yard", name := "takeFromOwnCart", desc := "(LHayThieves$Lad;)V" } : Jvm.MethodName)) ∈ lw_all := lw_mem 386 (by decide +kernel) rfl
theorem q380 : (Jvm.Cond.instanceMethod ({ cls := "HayThieves$Yard", name := "takeFromOwnCart", desc := "(LHayThieves$Lad;)V" } : Jvm.MethodName)) ∈ lw_all := lw_mem 387 (by decide +kernel) rfl
theorem q381 : (Jvm.Cond.selects "HayThieves$Yard" ({ cls := "HayThieves$Yard", name := "takeFromOwnCart", desc := "(LHayThieves$Lad;)V" } : Jvm.MethodName) ({ cls := "HayThieves$Yard", name := "takeFromOwnCart", desc := "(LHayThieves$Lad;)V" } : Jvm.MethodName)) ∈ lw_all := lw_mem 388 (by decide +kernel) rfl
theorem q382 : (Jvm.Cond.code ({ cls := "HayThieves$Yard", name := "takeFromOwnCart", desc := "(LHayThieves$Lad;)V" } : Jvm.MethodName) prog_5_method_20_code (3 : Nat) (Option.none : Option Jvm.ClassFile.FieldType)) ∈ lw_all := lw_mem 389 (by decide +kernel) rfl
theorem q383 : (Jvm.Cond.methodLink "HayThieves$Yard" (162 : Nat) ({ cls := "HayThieves$Cart", name := "takeNear", desc := "()I" } : Jvm.MethodName)) ∈ lw_all := lw_mem 390 (by decide +kernel) rfl
theorem q384 : (Jvm.Cond.instanceMethod ({ cls := "HayThieves$Cart", name := "takeNear", desc := "()I" } : Jvm.MethodName)) ∈ lw_all := lw_mem 391 (by decide +kernel) rfl
theorem q385 : (Jvm.Cond.selects "HayThieves$Cart" ({ cls := "HayThieves$Cart", name := "takeNear", desc := "()I" } : Jvm.MethodName) ({ cls := "HayThieves$Cart", name := "takeNear", desc := "()I" } : Jvm.MethodName)) ∈ lw_all := lw_mem 392 (by decide +kernel) rfl
theorem q386 : (Jvm.Cond.code ({ cls := "HayThieves$Cart", name := "takeNear", desc := "()I" } : Jvm.MethodName) prog_2_method_6_code (2 : Nat) (Option.some Jvm.ClassFile.FieldType.int)) ∈ lw_all := lw_mem 393 (by decide +kernel) rfl
theorem q387 : (Jvm.Cond.methodLink "HayThieves$Cart" (23 : Nat) ({ cls := "HayThieves$Cart", name := "heapAt", desc := "(I)I" } : Jvm.MethodName)) ∈ lw_all := lw_mem 394 (by decide +kernel) rfl
theorem q388 : (Jvm.Cond.instanceMethod ({ cls := "HayThieves$Cart", name := "heapAt", desc := "(I)I" } : Jvm.MethodName)) ∈ lw_all := lw_mem 395 (by decide +kernel) rfl
theorem q389 : (Jvm.Cond.selects "HayThieves$Cart" ({ cls := "HayThieves$Cart", name := "heapAt", desc := "(I)I" } : Jvm.MethodName) ({ cls := "HayThieves$Cart", name := "heapAt", desc := "(I)I" } : Jvm.MethodName)) ∈ lw_all := lw_mem 396 (by decide +kernel) rfl
theorem q390 : (Jvm.Cond.code ({ cls := "HayThieves$Cart", name := "heapAt", desc := "(I)I" } : Jvm.MethodName) prog_2_method_2_code (2 : Nat) (Option.some Jvm.ClassFile.FieldType.int)) ∈ lw_all := lw_mem 397 (by decide +kernel) rfl
theorem q391 : (Jvm.Cond.methodLink "HayThieves$Yard" (165 : Nat) ({ cls := "HayThieves$Lad", name := "take", desc := "(II)V" } : Jvm.MethodName)) ∈ lw_all := lw_mem 398 (by decide +kernel) rfl
theorem q392 : (Jvm.Cond.instanceMethod ({ cls := "HayThieves$Lad", name := "take", desc := "(II)V" } : Jvm.MethodName)) ∈ lw_all := lw_mem 399 (by decide +kernel) rfl
theorem q393 : (Jvm.Cond.selects "HayThieves$Lad" ({ cls := "HayThieves$Lad", name := "take", desc := "(II)V" } : Jvm.MethodName) ({ cls := "HayThieves$Lad", name := "take", desc := "(II)V" } : Jvm.MethodName)) ∈ lw_all := lw_mem 400 (by decide +kernel) rfl
theorem q394 : (Jvm.Cond.code ({ cls := "HayThieves$Lad", name := "take", desc := "(II)V" } : Jvm.MethodName) prog_3_method_5_code (3 : Nat) (Option.none : Option Jvm.ClassFile.FieldType)) ∈ lw_all := lw_mem 401 (by decide +kernel) rfl
theorem q395 : (Jvm.Cond.methodLink "HayThieves$Yard" (143 : Nat) ({ cls := "HayThieves$Yard", name := "joinHalves", desc := "(LHayThieves$Lad;)V" } : Jvm.MethodName)) ∈ lw_all := lw_mem 402 (by decide +kernel) rfl
theorem q396 : (Jvm.Cond.instanceMethod ({ cls := "HayThieves$Yard", name := "joinHalves", desc := "(LHayThieves$Lad;)V" } : Jvm.MethodName)) ∈ lw_all := lw_mem 403 (by decide +kernel) rfl
theorem q397 : (Jvm.Cond.selects "HayThieves$Yard" ({ cls := "HayThieves$Yard", name := "joinHalves", desc := "(LHayThieves$Lad;)V" } : Jvm.MethodName) ({ cls := "HayThieves$Yard", name := "joinHalves", desc := "(LHayThieves$Lad;)V" } : Jvm.MethodName)) ∈ lw_all := lw_mem 404 (by decide +kernel) rfl
theorem q398 : (Jvm.Cond.code ({ cls := "HayThieves$Yard", name := "joinHalves", desc := "(LHayThieves$Lad;)V" } : Jvm.MethodName) prog_5_method_21_code (3 : Nat) (Option.none : Option Jvm.ClassFile.FieldType)) ∈ lw_all := lw_mem 405 (by decide +kernel) rfl
theorem q399 : (Jvm.Cond.methodLink "HayThieves$Yard" (168 : Nat) ({ cls := "HayThieves$Yard", name := "finishHeap", desc := "(LHayThieves$Lad;I)V" } : Jvm.MethodName)) ∈ lw_all := lw_mem 406 (by decide +kernel) rfl
theorem q400 : (Jvm.Cond.instanceMethod ({ cls := "HayThieves$Yard", name := "finishHeap", desc := "(LHayThieves$Lad;I)V" } : Jvm.MethodName)) ∈ lw_all := lw_mem 407 (by decide +kernel) rfl
theorem q401 : (Jvm.Cond.selects "HayThieves$Yard" ({ cls := "HayThieves$Yard", name := "finishHeap", desc := "(LHayThieves$Lad;I)V" } : Jvm.MethodName) ({ cls := "HayThieves$Yard", name := "finishHeap", desc := "(LHayThieves$Lad;I)V" } : Jvm.MethodName)) ∈ lw_all := lw_mem 408 (by decide +kernel) rfl
theorem q402 : (Jvm.Cond.code ({ cls := "HayThieves$Yard", name := "finishHeap", desc := "(LHayThieves$Lad;I)V" } : Jvm.MethodName) prog_5_method_26_code (4 : Nat) (Option.none : Option Jvm.ClassFile.FieldType)) ∈ lw_all := lw_mem 409 (by decide +kernel) rfl
theorem q403 : (Jvm.Cond.methodLink "HayThieves$Yard" (185 : Nat) ({ cls := "HayThieves$Yard", name := "loadOf", desc := "(I)LHayThieves$Load;" } : Jvm.MethodName)) ∈ lw_all := lw_mem 410 (by decide +kernel) rfl
theorem q404 : (Jvm.Cond.instanceMethod ({ cls := "HayThieves$Yard", name := "loadOf", desc := "(I)LHayThieves$Load;" } : Jvm.MethodName)) ∈ lw_all := lw_mem 411 (by decide +kernel) rfl
theorem q405 : (Jvm.Cond.selects "HayThieves$Yard" ({ cls := "HayThieves$Yard", name := "loadOf", desc := "(I)LHayThieves$Load;" } : Jvm.MethodName) ({ cls := "HayThieves$Yard", name := "loadOf", desc := "(I)LHayThieves$Load;" } : Jvm.MethodName)) ∈ lw_all := lw_mem 412 (by decide +kernel) rfl
theorem q406 : (Jvm.Cond.code ({ cls := "HayThieves$Yard", name := "loadOf", desc := "(I)LHayThieves$Load;" } : Jvm.MethodName) prog_5_method_12_code (2 : Nat) (Option.some (Jvm.ClassFile.FieldType.object "HayThieves$Load"))) ∈ lw_all := lw_mem 413 (by decide +kernel) rfl
theorem q407 : (Jvm.Cond.methodLink "HayThieves$Yard" (204 : Nat) ({ cls := "HayThieves$Yard", name := "otherHalf", desc := "(I)I" } : Jvm.MethodName)) ∈ lw_all := lw_mem 414 (by decide +kernel) rfl
theorem q408 : (Jvm.Cond.instanceMethod ({ cls := "HayThieves$Yard", name := "otherHalf", desc := "(I)I" } : Jvm.MethodName)) ∈ lw_all := lw_mem 415 (by decide +kernel) rfl
theorem q409 : (Jvm.Cond.selects "HayThieves$Yard" ({ cls := "HayThieves$Yard", name := "otherHalf", desc := "(I)I" } : Jvm.MethodName) ({ cls := "HayThieves$Yard", name := "otherHalf", desc := "(I)I" } : Jvm.MethodName)) ∈ lw_all := lw_mem 416 (by decide +kernel) rfl
theorem q410 : (Jvm.Cond.code ({ cls := "HayThieves$Yard", name := "otherHalf", desc := "(I)I" } : Jvm.MethodName) prog_5_method_27_code (2 : Nat) (Option.some Jvm.ClassFile.FieldType.int)) ∈ lw_all := lw_mem 417 (by decide +kernel) rfl
theorem q411 : (Jvm.Cond.methodLink "HayThieves$Yard" (146 : Nat) ({ cls := "HayThieves$Yard", name := "workOnHeap", desc := "(LHayThieves$Lad;)V" } : Jvm.MethodName)) ∈ lw_all := lw_mem 418 (by decide +kernel) rfl
theorem q412 : (Jvm.Cond.instanceMethod ({ cls := "HayThieves$Yard", name := "workOnHeap", desc := "(LHayThieves$Lad;)V" } : Jvm.MethodName)) ∈ lw_all := lw_mem 419 (by decide +kernel) rfl
theorem q413 : (Jvm.Cond.selects "HayThieves$Yard" ({ cls := "HayThieves$Yard", name := "workOnHeap", desc := "(LHayThieves$Lad;)V" } : Jvm.MethodName) ({ cls := "HayThieves$Yard", name := "workOnHeap", desc := "(LHayThieves$Lad;)V" } : Jvm.MethodName)) ∈ lw_all := lw_mem 420 (by decide +kernel) rfl
theorem q414 : (Jvm.Cond.code ({ cls := "HayThieves$Yard", name := "workOnHeap", desc := "(LHayThieves$Lad;)V" } : Jvm.MethodName) prog_5_method_22_code (3 : Nat) (Option.none : Option Jvm.ClassFile.FieldType)) ∈ lw_all := lw_mem 421 (by decide +kernel) rfl
theorem q415 : (Jvm.Cond.methodLink "HayThieves$Yard" (175 : Nat) ({ cls := "HayThieves$Cart", name := "hasRoom", desc := "()Z" } : Jvm.MethodName)) ∈ lw_all := lw_mem 422 (by decide +kernel) rfl
theorem q416 : (Jvm.Cond.instanceMethod ({ cls := "HayThieves$Cart", name := "hasRoom", desc := "()Z" } : Jvm.MethodName)) ∈ lw_all := lw_mem 423 (by decide +kernel) rfl
theorem q417 : (Jvm.Cond.selects "HayThieves$Cart" ({ cls := "HayThieves$Cart", name := "hasRoom", desc := "()Z" } : Jvm.MethodName) ({ cls := "HayThieves$Cart", name := "hasRoom", desc := "()Z" } : Jvm.MethodName)) ∈ lw_all := lw_mem 424 (by decide +kernel) rfl
theorem q418 : (Jvm.Cond.code ({ cls := "HayThieves$Cart", name := "hasRoom", desc := "()Z" } : Jvm.MethodName) prog_2_method_4_code (1 : Nat) (Option.some Jvm.ClassFile.FieldType.boolean)) ∈ lw_all := lw_mem 425 (by decide +kernel) rfl
theorem q419 : (Jvm.Cond.methodLink "HayThieves$Yard" (179 : Nat) ({ cls := "HayThieves$Yard", name := "forkHeap", desc := "(LHayThieves$Lad;)V" } : Jvm.MethodName)) ∈ lw_all := lw_mem 426 (by decide +kernel) rfl
theorem q420 : (Jvm.Cond.instanceMethod ({ cls := "HayThieves$Yard", name := "forkHeap", desc := "(LHayThieves$Lad;)V" } : Jvm.MethodName)) ∈ lw_all := lw_mem 427 (by decide +kernel) rfl
theorem q421 : (Jvm.Cond.selects "HayThieves$Yard" ({ cls := "HayThieves$Yard", name := "forkHeap", desc := "(LHayThieves$Lad;)V" } : Jvm.MethodName) ({ cls := "HayThieves$Yard", name := "forkHeap", desc := "(LHayThieves$Lad;)V" } : Jvm.MethodName)) ∈ lw_all := lw_mem 428 (by decide +kernel) rfl
theorem q422 : (Jvm.Cond.code ({ cls := "HayThieves$Yard", name := "forkHeap", desc := "(LHayThieves$Lad;)V" } : Jvm.MethodName) prog_5_method_23_code (5 : Nat) (Option.none : Option Jvm.ClassFile.FieldType)) ∈ lw_all := lw_mem 429 (by decide +kernel) rfl
theorem q423 : (Jvm.Cond.methodLink "HayThieves$Yard" (63 : Nat) ({ cls := "HayThieves$Yard", name := "setBales", desc := "(II)V" } : Jvm.MethodName)) ∈ lw_all := lw_mem 430 (by decide +kernel) rfl
theorem q424 : (Jvm.Cond.instanceMethod ({ cls := "HayThieves$Yard", name := "setBales", desc := "(II)V" } : Jvm.MethodName)) ∈ lw_all := lw_mem 431 (by decide +kernel) rfl
theorem q425 : (Jvm.Cond.selects "HayThieves$Yard" ({ cls := "HayThieves$Yard", name := "setBales", desc := "(II)V" } : Jvm.MethodName) ({ cls := "HayThieves$Yard", name := "setBales", desc := "(II)V" } : Jvm.MethodName)) ∈ lw_all := lw_mem 432 (by decide +kernel) rfl
theorem q426 : (Jvm.Cond.code ({ cls := "HayThieves$Yard", name := "setBales", desc := "(II)V" } : Jvm.MethodName) prog_5_method_11_code (3 : Nat) (Option.none : Option Jvm.ClassFile.FieldType)) ∈ lw_all := lw_mem 433 (by decide +kernel) rfl
theorem q427 : (Jvm.Cond.methodLink "HayThieves$Yard" (192 : Nat) ({ cls := "HayThieves$Cart", name := "putNear", desc := "(I)V" } : Jvm.MethodName)) ∈ lw_all := lw_mem 434 (by decide +kernel) rfl
theorem q428 : (Jvm.Cond.instanceMethod ({ cls := "HayThieves$Cart", name := "putNear", desc := "(I)V" } : Jvm.MethodName)) ∈ lw_all := lw_mem 435 (by decide +kernel) rfl
theorem q429 : (Jvm.Cond.selects "HayThieves$Cart" ({ cls := "HayThieves$Cart", name := "putNear", desc := "(I)V" } : Jvm.MethodName) ({ cls := "HayThieves$Cart", name := "putNear", desc := "(I)V" } : Jvm.MethodName)) ∈ lw_all := lw_mem 436 (by decide +kernel) rfl
theorem q430 : (Jvm.Cond.code ({ cls := "HayThieves$Cart", name := "putNear", desc := "(I)V" } : Jvm.MethodName) prog_2_method_5_code (2 : Nat) (Option.none : Option Jvm.ClassFile.FieldType)) ∈ lw_all := lw_mem 437 (by decide +kernel) rfl
theorem q431 : (Jvm.Cond.methodLink "HayThieves$Cart" (19 : Nat) ({ cls := "HayThieves$Cart", name := "hasRoom", desc := "()Z" } : Jvm.MethodName)) ∈ lw_all := lw_mem 438 (by decide +kernel) rfl
theorem q432 : (Jvm.Cond.methodLink "HayThieves$Yard" (195 : Nat) ({ cls := "HayThieves$Yard", name := "wakeFirstSleeper", desc := "()V" } : Jvm.MethodName)) ∈ lw_all := lw_mem 439 (by decide +kernel) rfl
theorem q433 : (Jvm.Cond.instanceMethod ({ cls := "HayThieves$Yard", name := "wakeFirstSleeper", desc := "()V" } : Jvm.MethodName)) ∈ lw_all := lw_mem 440 (by decide +kernel) rfl
theorem q434 : (Jvm.Cond.selects "HayThieves$Yard" ({ cls := "HayThieves$Yard", name := "wakeFirstSleeper", desc := "()V" } : Jvm.MethodName) ({ cls := "HayThieves$Yard", name := "wakeFirstSleeper", desc := "()V" } : Jvm.MethodName)) ∈ lw_all := lw_mem 441 (by decide +kernel) rfl
theorem q435 : (Jvm.Cond.code ({ cls := "HayThieves$Yard", name := "wakeFirstSleeper", desc := "()V" } : Jvm.MethodName) prog_5_method_24_code (2 : Nat) (Option.none : Option Jvm.ClassFile.FieldType)) ∈ lw_all := lw_mem 442 (by decide +kernel) rfl
theorem q436 : (Jvm.Cond.methodLink "HayThieves$Yard" (182 : Nat) ({ cls := "HayThieves$Yard", name := "pitch", desc := "(LHayThieves$Lad;)V" } : Jvm.MethodName)) ∈ lw_all := lw_mem 443 (by decide +kernel) rfl
theorem q437 : (Jvm.Cond.instanceMethod ({ cls := "HayThieves$Yard", name := "pitch", desc := "(LHayThieves$Lad;)V" } : Jvm.MethodName)) ∈ lw_all := lw_mem 444 (by decide +kernel) rfl
theorem q438 : (Jvm.Cond.selects "HayThieves$Yard" ({ cls := "HayThieves$Yard", name := "pitch", desc := "(LHayThieves$Lad;)V" } : Jvm.MethodName) ({ cls := "HayThieves$Yard", name := "pitch", desc := "(LHayThieves$Lad;)V" } : Jvm.MethodName)) ∈ lw_all := lw_mem 445 (by decide +kernel) rfl
theorem q439 : (Jvm.Cond.code ({ cls := "HayThieves$Yard", name := "pitch", desc := "(LHayThieves$Lad;)V" } : Jvm.MethodName) prog_5_method_25_code (3 : Nat) (Option.none : Option Jvm.ClassFile.FieldType)) ∈ lw_all := lw_mem 446 (by decide +kernel) rfl
theorem q440 : (Jvm.Cond.methodLink "HayThieves$Yard" (149 : Nat) ({ cls := "HayThieves$Yard", name := "takeFromYard", desc := "(LHayThieves$Lad;)Z" } : Jvm.MethodName)) ∈ lw_all := lw_mem 447 (by decide +kernel) rfl
theorem q441 : (Jvm.Cond.instanceMethod ({ cls := "HayThieves$Yard", name := "takeFromYard", desc := "(LHayThieves$Lad;)Z" } : Jvm.MethodName)) ∈ lw_all := lw_mem 448 (by decide +kernel) rfl
theorem q442 : (Jvm.Cond.selects "HayThieves$Yard" ({ cls := "HayThieves$Yard", name := "takeFromYard", desc := "(LHayThieves$Lad;)Z" } : Jvm.MethodName) ({ cls := "HayThieves$Yard", name := "takeFromYard", desc := "(LHayThieves$Lad;)Z" } : Jvm.MethodName)) ∈ lw_all := lw_mem 449 (by decide +kernel) rfl
theorem q443 : (Jvm.Cond.code ({ cls := "HayThieves$Yard", name := "takeFromYard", desc := "(LHayThieves$Lad;)Z" } : Jvm.MethodName) prog_5_method_28_code (3 : Nat) (Option.some Jvm.ClassFile.FieldType.boolean)) ∈ lw_all := lw_mem 450 (by decide +kernel) rfl
theorem q444 : (Jvm.Cond.methodLink "HayThieves$Yard" (153 : Nat) ({ cls := "HayThieves$Yard", name := "steal", desc := "(LHayThieves$Lad;)Z" } : Jvm.MethodName)) ∈ lw_all := lw_mem 451 (by decide +kernel) rfl
theorem q445 : (Jvm.Cond.instanceMethod ({ cls := "HayThieves$Yard", name := "steal", desc := "(LHayThieves$Lad;)Z" } : Jvm.MethodName)) ∈ lw_all := lw_mem 452 (by decide +kernel) rfl
theorem q446 : (Jvm.Cond.selects "HayThieves$Yard" ({ cls := "HayThieves$Yard", name := "steal", desc := "(LHayThieves$Lad;)Z" } : Jvm.MethodName) ({ cls := "HayThieves$Yard", name := "steal", desc := "(LHayThieves$Lad;)Z" } : Jvm.MethodName)) ∈ lw_all := lw_mem 453 (by decide +kernel) rfl
theorem q447 : (Jvm.Cond.code ({ cls := "HayThieves$Yard", name := "steal", desc := "(LHayThieves$Lad;)Z" } : Jvm.MethodName) prog_5_method_29_code (4 : Nat) (Option.some Jvm.ClassFile.FieldType.boolean)) ∈ lw_all := lw_mem 454 (by decide +kernel) rfl
theorem q448 : (Jvm.Cond.methodLink "HayThieves$Yard" (207 : Nat) ({ cls := "HayThieves$Yard", name := "victimOf", desc := "(LHayThieves$Lad;)I" } : Jvm.MethodName)) ∈ lw_all := lw_mem 455 (by decide +kernel) rfl
theorem q449 : (Jvm.Cond.methodLink "HayThieves$Yard" (210 : Nat) ({ cls := "HayThieves$Cart", name := "takeFar", desc := "()I" } : Jvm.MethodName)) ∈ lw_all := lw_mem 456 (by decide +kernel) rfl
theorem q450 : (Jvm.Cond.instanceMethod ({ cls := "HayThieves$Cart", name := "takeFar", desc := "()I" } : Jvm.MethodName)) ∈ lw_all := lw_mem 457 (by decide +kernel) rfl
theorem q451 : (Jvm.Cond.selects "HayThieves$Cart" ({ cls := "HayThieves$Cart", name := "takeFar", desc := "()I" } : Jvm.MethodName) ({ cls := "HayThieves$Cart", name := "takeFar", desc := "()I" } : Jvm.MethodName)) ∈ lw_all := lw_mem 458 (by decide +kernel) rfl
theorem q452 : (Jvm.Cond.code ({ cls := "HayThieves$Cart", name := "takeFar", desc := "()I" } : Jvm.MethodName) prog_2_method_7_code (2 : Nat) (Option.some Jvm.ClassFile.FieldType.int)) ∈ lw_all := lw_mem 459 (by decide +kernel) rfl
theorem q453 : (Jvm.Cond.methodLink "HayThieves$Cart" (27 : Nat) ({ cls := "HayThieves$Cart", name := "farHeap", desc := "()I" } : Jvm.MethodName)) ∈ lw_all := lw_mem 460 (by decide +kernel) rfl
theorem q454 : (Jvm.Cond.methodLink "HayThieves$Cart" (31 : Nat) ({ cls := "java/lang/System", name := "arraycopy", desc := "(Ljava/lang/Object;ILjava/lang/Object;II)V" } : Jvm.MethodName)) ∈ lw_all := lw_mem 461 (by decide +kernel) rfl
theorem q455 : (Jvm.Cond.static ({ cls := "java/lang/System", name := "arraycopy", desc := "(Ljava/lang/Object;ILjava/lang/Object;II)V" } : Jvm.MethodName)) ∈ lw_all := lw_mem 462 (by decide +kernel) rfl
theorem q456 : (Jvm.Cond.native ({ cls := "java/lang/System", name := "arraycopy", desc := "(Ljava/lang/Object;ILjava/lang/Object;II)V" } : Jvm.MethodName)) ∈ lw_all := lw_mem 463 (by decide +kernel) rfl
theorem q457 : (Jvm.Cond.methodLink "HayThieves$Yard" (159 : Nat) ({ cls := "HayThieves$Lad", name := "beIdle", desc := "()V" } : Jvm.MethodName)) ∈ lw_all := lw_mem 464 (by decide +kernel) rfl
theorem q458 : (Jvm.Cond.instanceMethod ({ cls := "HayThieves$Lad", name := "beIdle", desc := "()V" } : Jvm.MethodName)) ∈ lw_all := lw_mem 465 (by decide +kernel) rfl
theorem q459 : (Jvm.Cond.selects "HayThieves$Lad" ({ cls := "HayThieves$Lad", name := "beIdle", desc := "()V" } : Jvm.MethodName) ({ cls := "HayThieves$Lad", name := "beIdle", desc := "()V" } : Jvm.MethodName)) ∈ lw_all := lw_mem 466 (by decide +kernel) rfl
theorem q460 : (Jvm.Cond.code ({ cls := "HayThieves$Lad", name := "beIdle", desc := "()V" } : Jvm.MethodName) prog_3_method_6_code (1 : Nat) (Option.none : Option Jvm.ClassFile.FieldType)) ∈ lw_all := lw_mem 467 (by decide +kernel) rfl
theorem q461 : (Jvm.Cond.methodLink "HayThievesLaw" (111 : Nat) ({ cls := "HayThieves", name := "until", desc := "(I)I" } : Jvm.MethodName)) ∈ lw_all := lw_mem 468 (by decide +kernel) rfl
theorem q462 : (Jvm.Cond.instanceMethod ({ cls := "HayThieves", name := "until", desc := "(I)I" } : Jvm.MethodName)) ∈ lw_all := lw_mem 469 (by decide +kernel) rfl
theorem q463 : (Jvm.Cond.selects "HayThieves" ({ cls := "HayThieves", name := "until", desc := "(I)I" } : Jvm.MethodName) ({ cls := "HayThieves", name := "until", desc := "(I)I" } : Jvm.MethodName)) ∈ lw_all := lw_mem 470 (by decide +kernel) rfl
theorem q464 : (Jvm.Cond.code ({ cls := "HayThieves", name := "until", desc := "(I)I" } : Jvm.MethodName) prog_1_method_15_code (4 : Nat) (Option.some Jvm.ClassFile.FieldType.int)) ∈ lw_all := lw_mem 471 (by decide +kernel) rfl
theorem q465 : (Jvm.Cond.methodLink "HayThieves" (135 : Nat) ({ cls := "HayThieves$Yard", name := "copyFrom", desc := "(LHayThieves$Yard;)V" } : Jvm.MethodName)) ∈ lw_all := lw_mem 472 (by decide +kernel) rfl
theorem q466 : (Jvm.Cond.instanceMethod ({ cls := "HayThieves$Yard", name := "copyFrom", desc := "(LHayThieves$Yard;)V" } : Jvm.MethodName)) ∈ lw_all := lw_mem 473 (by decide +kernel) rfl
theorem q467 : (Jvm.Cond.selects "HayThieves$Yard" ({ cls := "HayThieves$Yard", name := "copyFrom", desc := "(LHayThieves$Yard;)V" } : Jvm.MethodName) ({ cls := "HayThieves$Yard", name := "copyFrom", desc := "(LHayThieves$Yard;)V" } : Jvm.MethodName)) ∈ lw_all := lw_mem 474 (by decide +kernel) rfl
theorem q468 : (Jvm.Cond.code ({ cls := "HayThieves$Yard", name := "copyFrom", desc := "(LHayThieves$Yard;)V" } : Jvm.MethodName) prog_5_method_30_code (3 : Nat) (Option.none : Option Jvm.ClassFile.FieldType)) ∈ lw_all := lw_mem 475 (by decide +kernel) rfl
theorem q469 : (Jvm.Cond.methodLink "HayThieves$Yard" (220 : Nat) ({ cls := "HayThieves$Lad", name := "copyFrom", desc := "(LHayThieves$Lad;)V" } : Jvm.MethodName)) ∈ lw_all := lw_mem 476 (by decide +kernel) rfl
theorem q470 : (Jvm.Cond.instanceMethod ({ cls := "HayThieves$Lad", name := "copyFrom", desc := "(LHayThieves$Lad;)V" } : Jvm.MethodName)) ∈ lw_all := lw_mem 477 (by decide +kernel) rfl
theorem q471 : (Jvm.Cond.selects "HayThieves$Lad" ({ cls := "HayThieves$Lad", name := "copyFrom", desc := "(LHayThieves$Lad;)V" } : Jvm.MethodName) ({ cls := "HayThieves$Lad", name := "copyFrom", desc := "(LHayThieves$Lad;)V" } : Jvm.MethodName)) ∈ lw_all := lw_mem 478 (by decide +kernel) rfl
theorem q472 : (Jvm.Cond.code ({ cls := "HayThieves$Lad", name := "copyFrom", desc := "(LHayThieves$Lad;)V" } : Jvm.MethodName) prog_3_method_7_code (2 : Nat) (Option.none : Option Jvm.ClassFile.FieldType)) ∈ lw_all := lw_mem 479 (by decide +kernel) rfl
theorem q473 : (Jvm.Cond.methodLink "HayThieves$Lad" (63 : Nat) ({ cls := "HayThieves$Cart", name := "copyFrom", desc := "(LHayThieves$Cart;)V" } : Jvm.MethodName)) ∈ lw_all := lw_mem 480 (by decide +kernel) rfl
theorem q474 : (Jvm.Cond.instanceMethod ({ cls := "HayThieves$Cart", name := "copyFrom", desc := "(LHayThieves$Cart;)V" } : Jvm.MethodName)) ∈ lw_all := lw_mem 481 (by decide +kernel) rfl
theorem q475 : (Jvm.Cond.selects "HayThieves$Cart" ({ cls := "HayThieves$Cart", name := "copyFrom", desc := "(LHayThieves$Cart;)V" } : Jvm.MethodName) ({ cls := "HayThieves$Cart", name := "copyFrom", desc := "(LHayThieves$Cart;)V" } : Jvm.MethodName)) ∈ lw_all := lw_mem 482 (by decide +kernel) rfl
theorem q476 : (Jvm.Cond.code ({ cls := "HayThieves$Cart", name := "copyFrom", desc := "(LHayThieves$Cart;)V" } : Jvm.MethodName) prog_2_method_8_code (2 : Nat) (Option.none : Option Jvm.ClassFile.FieldType)) ∈ lw_all := lw_mem 483 (by decide +kernel) rfl
theorem q477 : (Jvm.Cond.methodLink "HayThieves$Yard" (223 : Nat) ({ cls := "HayThieves$Load", name := "copyFrom", desc := "(LHayThieves$Load;)V" } : Jvm.MethodName)) ∈ lw_all := lw_mem 484 (by decide +kernel) rfl
theorem q478 : (Jvm.Cond.instanceMethod ({ cls := "HayThieves$Load", name := "copyFrom", desc := "(LHayThieves$Load;)V" } : Jvm.MethodName)) ∈ lw_all := lw_mem 485 (by decide +kernel) rfl
theorem q479 : (Jvm.Cond.selects "HayThieves$Load" ({ cls := "HayThieves$Load", name := "copyFrom", desc := "(LHayThieves$Load;)V" } : Jvm.MethodName) ({ cls := "HayThieves$Load", name := "copyFrom", desc := "(LHayThieves$Load;)V" } : Jvm.MethodName)) ∈ lw_all := lw_mem 486 (by decide +kernel) rfl
theorem q480 : (Jvm.Cond.code ({ cls := "HayThieves$Load", name := "copyFrom", desc := "(LHayThieves$Load;)V" } : Jvm.MethodName) prog_4_method_3_code (2 : Nat) (Option.none : Option Jvm.ClassFile.FieldType)) ∈ lw_all := lw_mem 487 (by decide +kernel) rfl
theorem q481 : (Jvm.Cond.methodLink "HayThieves$Yard" (226 : Nat) ({ cls := "java/lang/System", name := "arraycopy", desc := "(Ljava/lang/Object;ILjava/lang/Object;II)V" } : Jvm.MethodName)) ∈ lw_all := lw_mem 488 (by decide +kernel) rfl
theorem q482 : (Jvm.Cond.methodLink "HayThievesLaw" (108 : Nat) ({ cls := "HayThieves", name := "foresee", desc := "(II)I" } : Jvm.MethodName)) ∈ lw_all := lw_mem 489 (by decide +kernel) rfl
theorem q483 : (Jvm.Cond.instanceMethod ({ cls := "HayThieves", name := "foresee", desc := "(II)I" } : Jvm.MethodName)) ∈ lw_all := lw_mem 490 (by decide +kernel) rfl
theorem q484 : (Jvm.Cond.selects "HayThieves" ({ cls := "HayThieves", name := "foresee", desc := "(II)I" } : Jvm.MethodName) ({ cls := "HayThieves", name := "foresee", desc := "(II)I" } : Jvm.MethodName)) ∈ lw_all := lw_mem 491 (by decide +kernel) rfl
theorem q485 : (Jvm.Cond.code ({ cls := "HayThieves", name := "foresee", desc := "(II)I" } : Jvm.MethodName) prog_1_method_16_code (3 : Nat) (Option.some Jvm.ClassFile.FieldType.int)) ∈ lw_all := lw_mem 492 (by decide +kernel) rfl
theorem q487 : (Jvm.Cond.methodLink "HayThievesLaw" (114 : Nat) ({ cls := "HayThieves", name := "advise", desc := "(I)I" } : Jvm.MethodName)) ∈ lw_all := lw_mem 494 (by decide +kernel) rfl
theorem q488 : (Jvm.Cond.instanceMethod ({ cls := "HayThieves", name := "advise", desc := "(I)I" } : Jvm.MethodName)) ∈ lw_all := lw_mem 495 (by decide +kernel) rfl
theorem q489 : (Jvm.Cond.selects "HayThieves" ({ cls := "HayThieves", name := "advise", desc := "(I)I" } : Jvm.MethodName) ({ cls := "HayThieves", name := "advise", desc := "(I)I" } : Jvm.MethodName)) ∈ lw_all := lw_mem 496 (by decide +kernel) rfl
theorem q490 : (Jvm.Cond.code ({ cls := "HayThieves", name := "advise", desc := "(I)I" } : Jvm.MethodName) prog_1_method_17_code (9 : Nat) (Option.some Jvm.ClassFile.FieldType.int)) ∈ lw_all := lw_mem 497 (by decide +kernel) rfl
theorem q491 : (Jvm.Cond.fieldLink "HayThieves" (144 : Nat) "HayThieves" "ADVISED_FORKS" "[I") ∈ lw_all := lw_mem 498 (by decide +kernel) rfl
theorem q493 : (Jvm.Cond.methodLink "HayThievesLaw" (100 : Nat) ({ cls := "HayThieves", name := "mean", desc := "()D" } : Jvm.MethodName)) ∈ lw_all := lw_mem 500 (by decide +kernel) rfl
theorem q494 : (Jvm.Cond.instanceMethod ({ cls := "HayThieves", name := "mean", desc := "()D" } : Jvm.MethodName)) ∈ lw_all := lw_mem 501 (by decide +kernel) rfl
theorem q495 : (Jvm.Cond.selects "HayThieves" ({ cls := "HayThieves", name := "mean", desc := "()D" } : Jvm.MethodName) ({ cls := "HayThieves", name := "mean", desc := "()D" } : Jvm.MethodName)) ∈ lw_all := lw_mem 502 (by decide +kernel) rfl
theorem q496 : (Jvm.Cond.code ({ cls := "HayThieves", name := "mean", desc := "()D" } : Jvm.MethodName) prog_1_method_18_code (1 : Nat) (Option.some Jvm.ClassFile.FieldType.double)) ∈ lw_all := lw_mem 503 (by decide +kernel) rfl
theorem q497 : (Jvm.Cond.methodLink "HayThievesLaw" (104 : Nat) ({ cls := "HayThieves", name := "digest", desc := "()J" } : Jvm.MethodName)) ∈ lw_all := lw_mem 504 (by decide +kernel) rfl
theorem q498 : (Jvm.Cond.instanceMethod ({ cls := "HayThieves", name := "digest", desc := "()J" } : Jvm.MethodName)) ∈ lw_all := lw_mem 505 (by decide +kernel) rfl
theorem q499 : (Jvm.Cond.selects "HayThieves" ({ cls := "HayThieves", name := "digest", desc := "()J" } : Jvm.MethodName) ({ cls := "HayThieves", name := "digest", desc := "()J" } : Jvm.MethodName)) ∈ lw_all := lw_mem 506 (by decide +kernel) rfl
theorem q500 : (Jvm.Cond.code ({ cls := "HayThieves", name := "digest", desc := "()J" } : Jvm.MethodName) prog_1_method_19_code (5 : Nat) (Option.some Jvm.ClassFile.FieldType.long)) ∈ lw_all := lw_mem 507 (by decide +kernel) rfl
theorem q501 : (Jvm.Cond.constantLong "HayThieves" (148 : Nat) (1531 : Int64)) ∈ lw_all := lw_mem 508 (by decide +kernel) rfl
theorem q502 : (Jvm.Cond.methodLink "HayThieves" (150 : Nat) ({ cls := "HayThieves", name := "mixed", desc := "(JI)J" } : Jvm.MethodName)) ∈ lw_all := lw_mem 509 (by decide +kernel) rfl
theorem q503 : (Jvm.Cond.static ({ cls := "HayThieves", name := "mixed", desc := "(JI)J" } : Jvm.MethodName)) ∈ lw_all := lw_mem 510 (by decide +kernel) rfl
theorem q504 : (Jvm.Cond.code ({ cls := "HayThieves", name := "mixed", desc := "(JI)J" } : Jvm.MethodName) prog_1_method_21_code (3 : Nat) (Option.some Jvm.ClassFile.FieldType.long)) ∈ lw_all := lw_mem 511 (by decide +kernel) rfl
theorem q505 : (Jvm.Cond.constantLong "HayThieves" (158 : Nat) (31 : Int64)) ∈ lw_all := lw_mem 512 (by decide +kernel) rfl
theorem q506 : (Jvm.Cond.methodLink "HayThieves" (154 : Nat) ({ cls := "HayThieves", name := "mixedWithLad", desc := "(JLHayThieves$Lad;)J" } : Jvm.MethodName)) ∈ lw_all := lw_mem 513 (by decide +kernel) rfl
theorem q508 : (Jvm.Cond.instanceMethod ({ cls := "HayThieves", name := "mixedWithLad", desc := "(JLHayThieves$Lad;)J" } : Jvm.MethodName)) ∈ lw_all := lw_mem 515 (by decide +kernel) rfl
theorem q509 : (Jvm.Cond.code ({ cls := "HayThieves", name := "mixedWithLad", desc := "(JLHayThieves$Lad;)J" } : Jvm.MethodName) prog_1_method_20_code (7 : Nat) (Option.some Jvm.ClassFile.FieldType.long)) ∈ lw_all := lw_mem 516 (by decide +kernel) rfl
theorem q510 : (Jvm.Cond.methodLink "HayThieves" (100 : Nat) ({ cls := "HayThieves$Cart", name := "heapAt", desc := "(I)I" } : Jvm.MethodName)) ∈ lw_all := lw_mem 517 (by decide +kernel) rfl
theorem q511 : (Jvm.Cond.methodLink "HayThieves" (103 : Nat) ({ cls := "HayThieves$Yard", name := "balesOf", desc := "(I)I" } : Jvm.MethodName)) ∈ lw_all := lw_mem 518 (by decide +kernel) rfl
theorem q512 : (Jvm.Cond.methodLink "HayThievesLaw" (76 : Nat) ({ cls := "HayThievesLaw$Sim", name := "go", desc := "(I)I" } : Jvm.MethodName)) ∈ lw_all := lw_mem 519 (by decide +kernel) rfl
theorem q513 : (Jvm.Cond.instanceMethod ({ cls := "HayThievesLaw$Sim", name := "go", desc := "(I)I" } : Jvm.MethodName)) ∈ lw_all := lw_mem 520 (by decide +kernel) rfl
theorem q514 : (Jvm.Cond.selects "HayThievesLaw$Sim" ({ cls := "HayThievesLaw$Sim", name := "go", desc := "(I)I" } : Jvm.MethodName) ({ cls := "HayThievesLaw$Sim", name := "go", desc := "(I)I" } : Jvm.MethodName)) ∈ lw_all := lw_mem 521 (by decide +kernel) rfl
theorem q515 : (Jvm.Cond.code ({ cls := "HayThievesLaw$Sim", name := "go", desc := "(I)I" } : Jvm.MethodName) prog_7_method_13_code (4 : Nat) (Option.some Jvm.ClassFile.FieldType.int)) ∈ lw_all := lw_mem 522 (by decide +kernel) rfl
theorem q516 : (Jvm.Cond.methodLink "HayThievesLaw$Sim" (78 : Nat) ({ cls := "HayThievesLaw$Sim", name := "counts", desc := "()[I" } : Jvm.MethodName)) ∈ lw_all := lw_mem 523 (by decide +kernel) rfl
theorem q517 : (Jvm.Cond.instanceMethod ({ cls := "HayThievesLaw$Sim", name := "counts", desc := "()[I" } : Jvm.MethodName)) ∈ lw_all := lw_mem 524 (by decide +kernel) rfl
theorem q518 : (Jvm.Cond.selects "HayThievesLaw$Sim" ({ cls := "HayThievesLaw$Sim", name := "counts", desc := "()[I" } : Jvm.MethodName) ({ cls := "HayThievesLaw$Sim", name := "counts", desc := "()[I" } : Jvm.MethodName)) ∈ lw_all := lw_mem 525 (by decide +kernel) rfl
theorem q519 : (Jvm.Cond.code ({ cls := "HayThievesLaw$Sim", name := "counts", desc := "()[I" } : Jvm.MethodName) prog_7_method_16_code (6 : Nat) (Option.some (Jvm.ClassFile.FieldType.array Jvm.ClassFile.FieldType.int))) ∈ lw_all := lw_mem 526 (by decide +kernel) rfl
theorem q520 : (Jvm.Cond.methodLink "HayThievesLaw$Sim" (85 : Nat) ({ cls := "HayThievesLaw$Sim", name := "pitched", desc := "(I)I" } : Jvm.MethodName)) ∈ lw_all := lw_mem 527 (by decide +kernel) rfl
theorem q521 : (Jvm.Cond.instanceMethod ({ cls := "HayThievesLaw$Sim", name := "pitched", desc := "(I)I" } : Jvm.MethodName)) ∈ lw_all := lw_mem 528 (by decide +kernel) rfl
theorem q522 : (Jvm.Cond.selects "HayThievesLaw$Sim" ({ cls := "HayThievesLaw$Sim", name := "pitched", desc := "(I)I" } : Jvm.MethodName) ({ cls := "HayThievesLaw$Sim", name := "pitched", desc := "(I)I" } : Jvm.MethodName)) ∈ lw_all := lw_mem 529 (by decide +kernel) rfl
theorem q523 : (Jvm.Cond.code ({ cls := "HayThievesLaw$Sim", name := "pitched", desc := "(I)I" } : Jvm.MethodName) prog_7_method_14_code (7 : Nat) (Option.some Jvm.ClassFile.FieldType.int)) ∈ lw_all := lw_mem 530 (by decide +kernel) rfl
theorem q524 : (Jvm.Cond.methodLink "HayThievesLaw$Sim" (82 : Nat) ({ cls := "HayThievesLaw$Sim", name := "pass", desc := "()V" } : Jvm.MethodName)) ∈ lw_all := lw_mem 531 (by decide +kernel) rfl
theorem q525 : (Jvm.Cond.instanceMethod ({ cls := "HayThievesLaw$Sim", name := "pass", desc := "()V" } : Jvm.MethodName)) ∈ lw_all := lw_mem 532 (by decide +kernel) rfl
theorem q526 : (Jvm.Cond.selects "HayThievesLaw$Sim" ({ cls := "HayThievesLaw$Sim", name := "pass", desc := "()V" } : Jvm.MethodName) ({ cls := "HayThievesLaw$Sim", name := "pass", desc := "()V" } : Jvm.MethodName)) ∈ lw_all := lw_mem 533 (by decide +kernel) rfl
theorem q527 : (Jvm.Cond.code ({ cls := "HayThievesLaw$Sim", name := "pass", desc := "()V" } : Jvm.MethodName) prog_7_method_12_code (2 : Nat) (Option.none : Option Jvm.ClassFile.FieldType)) ∈ lw_all := lw_mem 534 (by decide +kernel) rfl
theorem q528 : (Jvm.Cond.methodLink "HayThievesLaw$Sim" (75 : Nat) ({ cls := "HayThievesLaw$Sim", name := "turn", desc := "(I)V" } : Jvm.MethodName)) ∈ lw_all := lw_mem 535 (by decide +kernel) rfl
theorem q530 : (Jvm.Cond.instanceMethod ({ cls := "HayThievesLaw$Sim", name := "turn", desc := "(I)V" } : Jvm.MethodName)) ∈ lw_all := lw_mem 537 (by decide +kernel) rfl
theorem q531 : (Jvm.Cond.instantiable "HayThievesLaw$Sim" (9 : Nat)) ∈ lw_all := lw_mem 538 (by decide +kernel) rfl
theorem q532 : (Jvm.Cond.code ({ cls := "HayThievesLaw$Sim", name := "turn", desc := "(I)V" } : Jvm.MethodName) prog_7_method_11_code (8 : Nat) (Option.none : Option Jvm.ClassFile.FieldType)) ∈ lw_all := lw_mem 539 (by decide +kernel) rfl
theorem q533 : (Jvm.Cond.methodLink "HayThievesLaw$Sim" (59 : Nat) ({ cls := "HayThievesLaw$Sim", name := "end", desc := "([II)V" } : Jvm.MethodName)) ∈ lw_all := lw_mem 540 (by decide +kernel) rfl
theorem q535 : (Jvm.Cond.instanceMethod ({ cls := "HayThievesLaw$Sim", name := "end", desc := "([II)V" } : Jvm.MethodName)) ∈ lw_all := lw_mem 542 (by decide +kernel) rfl
theorem q536 : (Jvm.Cond.code ({ cls := "HayThievesLaw$Sim", name := "end", desc := "([II)V" } : Jvm.MethodName) prog_7_method_9_code (4 : Nat) (Option.none : Option Jvm.ClassFile.FieldType)) ∈ lw_all := lw_mem 543 (by decide +kernel) rfl
theorem q537 : (Jvm.Cond.methodLink "HayThievesLaw$Sim" (63 : Nat) ({ cls := "HayThievesLaw$Sim", name := "less", desc := "([IZ)[I" } : Jvm.MethodName)) ∈ lw_all := lw_mem 544 (by decide +kernel) rfl
theorem q538 : (Jvm.Cond.static ({ cls := "HayThievesLaw$Sim", name := "less", desc := "([IZ)[I" } : Jvm.MethodName)) ∈ lw_all := lw_mem 545 (by decide +kernel) rfl
theorem q539 : (Jvm.Cond.code ({ cls := "HayThievesLaw$Sim", name := "less", desc := "([IZ)[I" } : Jvm.MethodName) prog_7_method_7_code (4 : Nat) (Option.some (Jvm.ClassFile.FieldType.array Jvm.ClassFile.FieldType.int))) ∈ lw_all := lw_mem 546 (by decide +kernel) rfl
theorem q540 : (Jvm.Cond.methodLink "HayThievesLaw$Sim" (67 : Nat) ({ cls := "HayThievesLaw$Sim", name := "work", desc := "(I)V" } : Jvm.MethodName)) ∈ lw_all := lw_mem 547 (by decide +kernel) rfl
theorem q542 : (Jvm.Cond.instanceMethod ({ cls := "HayThievesLaw$Sim", name := "work", desc := "(I)V" } : Jvm.MethodName)) ∈ lw_all := lw_mem 549 (by decide +kernel) rfl
theorem q543 : (Jvm.Cond.code ({ cls := "HayThievesLaw$Sim", name := "work", desc := "(I)V" } : Jvm.MethodName) prog_7_method_10_code (7 : Nat) (Option.none : Option Jvm.ClassFile.FieldType)) ∈ lw_all := lw_mem 550 (by decide +kernel) rfl
theorem q544 : (Jvm.Cond.methodLink "HayThievesLaw$Sim" (49 : Nat) ({ cls := "HayThievesLaw$Sim", name := "more", desc := "([[I[I)[[I" } : Jvm.MethodName)) ∈ lw_all := lw_mem 551 (by decide +kernel) rfl
theorem q545 : (Jvm.Cond.static ({ cls := "HayThievesLaw$Sim", name := "more", desc := "([[I[I)[[I" } : Jvm.MethodName)) ∈ lw_all := lw_mem 552 (by decide +kernel) rfl
theorem q546 : (Jvm.Cond.code ({ cls := "HayThievesLaw$Sim", name := "more", desc := "([[I[I)[[I" } : Jvm.MethodName) prog_7_method_2_code (4 : Nat) (Option.some (Jvm.ClassFile.FieldType.array (Jvm.ClassFile.FieldType.array Jvm.ClassFile.FieldType.int)))) ∈ lw_all := lw_mem 553 (by decide +kernel) rfl
theorem q547 : (Jvm.Cond.classLink "HayThievesLaw$Sim" (13 : Nat) "[I") ∈ lw_all := lw_mem 554 (by decide +kernel) rfl
theorem q549 : (Jvm.Cond.methodLink "HayThievesLaw$Sim" (53 : Nat) ({ cls := "java/lang/Math", name := "max", desc := "(II)I" } : Jvm.MethodName)) ∈ lw_all := lw_mem 556 (by decide +kernel) rfl
theorem q550 : (Jvm.Cond.static ({ cls := "java/lang/Math", name := "max", desc := "(II)I" } : Jvm.MethodName)) ∈ lw_all := lw_mem 557 (by decide +kernel) rfl
theorem q551 : (Jvm.Cond.code ({ cls := "java/lang/Math", name := "max", desc := "(II)I" } : Jvm.MethodName) prog_14_method_65_code (2 : Nat) (Option.some Jvm.ClassFile.FieldType.int)) ∈ lw_all := lw_mem 558 (by decide +kernel) rfl
theorem q552 : (Jvm.Cond.methodLink "HayThievesLaw$Sim" (71 : Nat) ({ cls := "HayThievesLaw$Sim", name := "victim", desc := "(I)I" } : Jvm.MethodName)) ∈ lw_all := lw_mem 559 (by decide +kernel) rfl
theorem q553 : (Jvm.Cond.instanceMethod ({ cls := "HayThievesLaw$Sim", name := "victim", desc := "(I)I" } : Jvm.MethodName)) ∈ lw_all := lw_mem 560 (by decide +kernel) rfl
theorem q554 : (Jvm.Cond.selects "HayThievesLaw$Sim" ({ cls := "HayThievesLaw$Sim", name := "victim", desc := "(I)I" } : Jvm.MethodName) ({ cls := "HayThievesLaw$Sim", name := "victim", desc := "(I)I" } : Jvm.MethodName)) ∈ lw_all := lw_mem 561 (by decide +kernel) rfl
theorem q555 : (Jvm.Cond.code ({ cls := "HayThievesLaw$Sim", name := "victim", desc := "(I)I" } : Jvm.MethodName) prog_7_method_8_code (8 : Nat) (Option.some Jvm.ClassFile.FieldType.int)) ∈ lw_all := lw_mem 562 (by decide +kernel) rfl
theorem q556 : (Jvm.Cond.methodLink "HayThievesLaw" (117 : Nat) ({ cls := "HayThievesLaw$Sim", name := "isSame", desc := "(LHayThieves;)Z" } : Jvm.MethodName)) ∈ lw_all := lw_mem 563 (by decide +kernel) rfl
theorem q557 : (Jvm.Cond.instanceMethod ({ cls := "HayThievesLaw$Sim", name := "isSame", desc := "(LHayThieves;)Z" } : Jvm.MethodName)) ∈ lw_all := lw_mem 564 (by decide +kernel) rfl
theorem q558 : (Jvm.Cond.selects "HayThievesLaw$Sim" ({ cls := "HayThievesLaw$Sim", name := "isSame", desc := "(LHayThieves;)Z" } : Jvm.MethodName) ({ cls := "HayThievesLaw$Sim", name := "isSame", desc := "(LHayThieves;)Z" } : Jvm.MethodName)) ∈ lw_all := lw_mem 565 (by decide +kernel) rfl
theorem q559 : (Jvm.Cond.code ({ cls := "HayThievesLaw$Sim", name := "isSame", desc := "(LHayThieves;)Z" } : Jvm.MethodName) prog_7_method_17_code (9 : Nat) (Option.some Jvm.ClassFile.FieldType.boolean)) ∈ lw_all := lw_mem 566 (by decide +kernel) rfl
theorem q560 : (Jvm.Cond.methodLink "HayThievesLaw$Sim" (88 : Nat) ({ cls := "HayThieves", name := "count", desc := "(I)I" } : Jvm.MethodName)) ∈ lw_all := lw_mem 567 (by decide +kernel) rfl
theorem q561 : (Jvm.Cond.methodLink "HayThievesLaw$Sim" (93 : Nat) ({ cls := "HayThieves", name := "lad", desc := "(II)I" } : Jvm.MethodName)) ∈ lw_all := lw_mem 568 (by decide +kernel) rfl
theorem q562 : (Jvm.Cond.methodLink "HayThievesLaw$Sim" (96 : Nat) ({ cls := "HayThieves", name := "cart", desc := "(II)I" } : Jvm.MethodName)) ∈ lw_all := lw_mem 569 (by decide +kernel) rfl
theorem q563 : (Jvm.Cond.instanceMethod ({ cls := "HayThieves", name := "cart", desc := "(II)I" } : Jvm.MethodName)) ∈ lw_all := lw_mem 570 (by decide +kernel) rfl
theorem q564 : (Jvm.Cond.selects "HayThieves" ({ cls := "HayThieves", name := "cart", desc := "(II)I" } : Jvm.MethodName) ({ cls := "HayThieves", name := "cart", desc := "(II)I" } : Jvm.MethodName)) ∈ lw_all := lw_mem 571 (by decide +kernel) rfl
theorem q565 : (Jvm.Cond.code ({ cls := "HayThieves", name := "cart", desc := "(II)I" } : Jvm.MethodName) prog_1_method_9_code (3 : Nat) (Option.some Jvm.ClassFile.FieldType.int)) ∈ lw_all := lw_mem 572 (by decide +kernel) rfl
theorem q567 : (Jvm.Cond.methodLink "HayThievesLaw$Sim" (99 : Nat) ({ cls := "HayThieves", name := "victim", desc := "(I)I" } : Jvm.MethodName)) ∈ lw_all := lw_mem 574 (by decide +kernel) rfl
theorem q568 : (Jvm.Cond.methodLink "HayThievesLaw$Sim" (100 : Nat) ({ cls := "HayThievesLaw$Sim", name := "made", desc := "(I)I" } : Jvm.MethodName)) ∈ lw_all := lw_mem 575 (by decide +kernel) rfl
theorem q569 : (Jvm.Cond.instanceMethod ({ cls := "HayThievesLaw$Sim", name := "made", desc := "(I)I" } : Jvm.MethodName)) ∈ lw_all := lw_mem 576 (by decide +kernel) rfl
theorem q570 : (Jvm.Cond.selects "HayThievesLaw$Sim" ({ cls := "HayThievesLaw$Sim", name := "made", desc := "(I)I" } : Jvm.MethodName) ({ cls := "HayThievesLaw$Sim", name := "made", desc := "(I)I" } : Jvm.MethodName)) ∈ lw_all := lw_mem 577 (by decide +kernel) rfl
theorem q571 : (Jvm.Cond.code ({ cls := "HayThievesLaw$Sim", name := "made", desc := "(I)I" } : Jvm.MethodName) prog_7_method_15_code (7 : Nat) (Option.some Jvm.ClassFile.FieldType.int)) ∈ lw_all := lw_mem 578 (by decide +kernel) rfl
theorem q572 : (Jvm.Cond.methodLink "HayThievesLaw$Sim" (103 : Nat) ({ cls := "HayThieves", name := "load", desc := "(II)I" } : Jvm.MethodName)) ∈ lw_all := lw_mem 579 (by decide +kernel) rfl
theorem q573 : (Jvm.Cond.methodLink "HayThievesLaw$Sim" (106 : Nat) ({ cls := "HayThieves", name := "thief", desc := "()I" } : Jvm.MethodName)) ∈ lw_all := lw_mem 580 (by decide +kernel) rfl
theorem q574 : (Jvm.Cond.instanceMethod ({ cls := "HayThieves", name := "thief", desc := "()I" } : Jvm.MethodName)) ∈ lw_all := lw_mem 581 (by decide +kernel) rfl
theorem q575 : (Jvm.Cond.selects "HayThieves" ({ cls := "HayThieves", name := "thief", desc := "()I" } : Jvm.MethodName) ({ cls := "HayThieves", name := "thief", desc := "()I" } : Jvm.MethodName)) ∈ lw_all := lw_mem 582 (by decide +kernel) rfl
theorem q576 : (Jvm.Cond.code ({ cls := "HayThieves", name := "thief", desc := "()I" } : Jvm.MethodName) prog_1_method_13_code (4 : Nat) (Option.some Jvm.ClassFile.FieldType.int)) ∈ lw_all := lw_mem 583 (by decide +kernel) rfl
theorem q577 : (Jvm.Cond.methodLink "HayThievesLaw$Sim" (110 : Nat) ({ cls := "HayThieves", name := "mean", desc := "()D" } : Jvm.MethodName)) ∈ lw_all := lw_mem 584 (by decide +kernel) rfl
theorem q578 : (Jvm.Cond.methodLink "HayThievesLaw" (15 : Nat) ({ cls := "HayThievesLaw", name := "below", desc := "(II)I" } : Jvm.MethodName)) ∈ lw_all := lw_mem 585 (by decide +kernel) rfl
theorem q579 : (Jvm.Cond.static ({ cls := "HayThievesLaw", name := "below", desc := "(II)I" } : Jvm.MethodName)) ∈ lw_all := lw_mem 586 (by decide +kernel) rfl
theorem q580 : (Jvm.Cond.code ({ cls := "HayThievesLaw", name := "below", desc := "(II)I" } : Jvm.MethodName) method_2_code (2 : Nat) (Option.some Jvm.ClassFile.FieldType.int)) ∈ lw_all := lw_mem 587 (by decide +kernel) rfl
theorem q581 : (Jvm.Cond.constant "HayThievesLaw" (7 : Nat) (2147483647 : Int32)) ∈ lw_all := lw_mem 588 (by decide +kernel) rfl
theorem q582 : (Jvm.Cond.methodLink "HayThievesLaw" (64 : Nat) ({ cls := "HayThievesLaw", name := "cell", desc := "([II)I" } : Jvm.MethodName)) ∈ lw_all := lw_mem 589 (by decide +kernel) rfl
theorem q583 : (Jvm.Cond.static ({ cls := "HayThievesLaw", name := "cell", desc := "([II)I" } : Jvm.MethodName)) ∈ lw_all := lw_mem 590 (by decide +kernel) rfl
theorem q584 : (Jvm.Cond.code ({ cls := "HayThievesLaw", name := "cell", desc := "([II)I" } : Jvm.MethodName) method_3_code (2 : Nat) (Option.some Jvm.ClassFile.FieldType.int)) ∈ lw_all := lw_mem 591 (by decide +kernel) rfl
theorem q585 : (Jvm.Cond.constant "HayThievesLaw" (8 : Nat) (790386105 : Int32)) ∈ lw_all := lw_mem 592 (by decide +kernel) rfl
theorem q586 : (Jvm.Cond.methodLink "HayThievesLaw" (69 : Nat) ({ cls := "HayThievesLaw", name := "act", desc := "(LHayThieves;LHayThievesLaw$Sim;I)Z" } : Jvm.MethodName)) ∈ lw_all := lw_mem 593 (by decide +kernel) rfl
theorem q587 : (Jvm.Cond.static ({ cls := "HayThievesLaw", name := "act", desc := "(LHayThieves;LHayThievesLaw$Sim;I)Z" } : Jvm.MethodName)) ∈ lw_all := lw_mem 594 (by decide +kernel) rfl
theorem q588 : (Jvm.Cond.codeWith ({ cls := "HayThievesLaw", name := "act", desc := "(LHayThieves;LHayThievesLaw$Sim;I)Z" } : Jvm.MethodName) method_4_code (9 : Nat) (Option.some Jvm.ClassFile.FieldType.boolean) [((88 : Nat), (96 : Nat), (99 : Nat), (27 : Nat)), ((173 : Nat), (181 : Nat), (184 : Nat), (27 : Nat)), ((413 : Nat), (421 : Nat), (424 : Nat), (27 : Nat))]) ∈ lw_all := lw_mem 595 (by decide +kernel) rfl
theorem q589 : (Jvm.Cond.classLink "HayThievesLaw" (27 : Nat) "java/lang/IllegalStateException") ∈ lw_all := lw_mem 596 (by decide +kernel) rfl
theorem q590 : (Jvm.Cond.methodLink "HayThievesLaw" (21 : Nat) ({ cls := "HayThieves", name := "come", desc := "(I)I" } : Jvm.MethodName)) ∈ lw_all := lw_mem 597 (by decide +kernel) rfl
theorem q591 : (Jvm.Cond.instanceMethod ({ cls := "HayThieves", name := "come", desc := "(I)I" } : Jvm.MethodName)) ∈ lw_all := lw_mem 598 (by decide +kernel) rfl
theorem q592 : (Jvm.Cond.selects "HayThieves" ({ cls := "HayThieves", name := "come", desc := "(I)I" } : Jvm.MethodName) ({ cls := "HayThieves", name := "come", desc := "(I)I" } : Jvm.MethodName)) ∈ lw_all := lw_mem 599 (by decide +kernel) rfl
theorem q593 : (Jvm.Cond.code ({ cls := "HayThieves", name := "come", desc := "(I)I" } : Jvm.MethodName) prog_1_method_2_code (2 : Nat) (Option.some Jvm.ClassFile.FieldType.int)) ∈ lw_all := lw_mem 600 (by decide +kernel) rfl
theorem q595 : (Jvm.Cond.classLink "HayThieves" (30 : Nat) "java/lang/IllegalStateException") ∈ lw_all := lw_mem 602 (by decide +kernel) rfl
theorem q596 : (Jvm.Cond.instantiable "java/lang/IllegalStateException" (6 : Nat)) ∈ lw_all := lw_mem 603 (by decide +kernel) rfl
theorem q598 : (Jvm.Cond.selects "java/lang/IllegalStateException" ({ cls := "java/lang/Throwable", name := "fillInStackTrace", desc := "(I)Ljava/lang/Throwable;" } : Jvm.MethodName) ({ cls := "java/lang/Throwable", name := "fillInStackTrace", desc := "(I)Ljava/lang/Throwable;" } : Jvm.MethodName)) ∈ lw_all := lw_mem 605 (by decide +kernel) rfl
theorem q605 : (Jvm.Cond.methodLink "HayThieves" (34 : Nat) ({ cls := "java/lang/IllegalStateException", name := "<init>", desc := "(Ljava/lang/String;)V" } : Jvm.MethodName)) ∈ lw_all := lw_mem 612 (by decide +kernel) rfl
theorem q606 : (Jvm.Cond.instanceMethod ({ cls := "java/lang/IllegalStateException", name := "<init>", desc := "(Ljava/lang/String;)V" } : Jvm.MethodName)) ∈ lw_all := lw_mem 613 (by decide +kernel) rfl
theorem q607 : (Jvm.Cond.code ({ cls := "java/lang/IllegalStateException", name := "<init>", desc := "(Ljava/lang/String;)V" } : Jvm.MethodName) prog_12_method_2_code (2 : Nat) (Option.none : Option Jvm.ClassFile.FieldType)) ∈ lw_all := lw_mem 614 (by decide +kernel) rfl
theorem q608 : (Jvm.Cond.methodLink "java/lang/IllegalStateException" (7 : Nat) ({ cls := "java/lang/RuntimeException", name := "<init>", desc := "(Ljava/lang/String;)V" } : Jvm.MethodName)) ∈ lw_all := lw_mem 615 (by decide +kernel) rfl
theorem q611 : (Jvm.Cond.methodLink "HayThieves" (35 : Nat) ({ cls := "HayThieves$Yard", name := "addLad", desc := "(I)I" } : Jvm.MethodName)) ∈ lw_all := lw_mem 618 (by decide +kernel) rfl
theorem q612 : (Jvm.Cond.instanceMethod ({ cls := "HayThieves$Yard", name := "addLad", desc := "(I)I" } : Jvm.MethodName)) ∈ lw_all := lw_mem 619 (by decide +kernel) rfl
theorem q613 : (Jvm.Cond.selects "HayThieves$Yard" ({ cls := "HayThieves$Yard", name := "addLad", desc := "(I)I" } : Jvm.MethodName) ({ cls := "HayThieves$Yard", name := "addLad", desc := "(I)I" } : Jvm.MethodName)) ∈ lw_all := lw_mem 620 (by decide +kernel) rfl
theorem q614 : (Jvm.Cond.code ({ cls := "HayThieves$Yard", name := "addLad", desc := "(I)I" } : Jvm.MethodName) prog_5_method_2_code (2 : Nat) (Option.some Jvm.ClassFile.FieldType.int)) ∈ lw_all := lw_mem 621 (by decide +kernel) rfl
theorem q615 : (Jvm.Cond.methodLink "HayThievesLaw" (29 : Nat) ({ cls := "HayThievesLaw$Sim", name := "come", desc := "(I)V" } : Jvm.MethodName)) ∈ lw_all := lw_mem 622 (by decide +kernel) rfl
theorem q616 : (Jvm.Cond.instanceMethod ({ cls := "HayThievesLaw$Sim", name := "come", desc := "(I)V" } : Jvm.MethodName)) ∈ lw_all := lw_mem 623 (by decide +kernel) rfl
theorem q617 : (Jvm.Cond.selects "HayThievesLaw$Sim" ({ cls := "HayThievesLaw$Sim", name := "come", desc := "(I)V" } : Jvm.MethodName) ({ cls := "HayThievesLaw$Sim", name := "come", desc := "(I)V" } : Jvm.MethodName)) ∈ lw_all := lw_mem 624 (by decide +kernel) rfl
theorem q618 : (Jvm.Cond.code ({ cls := "HayThievesLaw$Sim", name := "come", desc := "(I)V" } : Jvm.MethodName) prog_7_method_5_code (2 : Nat) (Option.none : Option Jvm.ClassFile.FieldType)) ∈ lw_all := lw_mem 625 (by decide +kernel) rfl
theorem q619 : (Jvm.Cond.methodLink "HayThievesLaw" (35 : Nat) ({ cls := "HayThieves", name := "bring", desc := "(I)I" } : Jvm.MethodName)) ∈ lw_all := lw_mem 626 (by decide +kernel) rfl
theorem q620 : (Jvm.Cond.instanceMethod ({ cls := "HayThieves", name := "bring", desc := "(I)I" } : Jvm.MethodName)) ∈ lw_all := lw_mem 627 (by decide +kernel) rfl
theorem q621 : (Jvm.Cond.selects "HayThieves" ({ cls := "HayThieves", name := "bring", desc := "(I)I" } : Jvm.MethodName) ({ cls := "HayThieves", name := "bring", desc := "(I)I" } : Jvm.MethodName)) ∈ lw_all := lw_mem 628 (by decide +kernel) rfl
theorem q622 : (Jvm.Cond.code ({ cls := "HayThieves", name := "bring", desc := "(I)I" } : Jvm.MethodName) prog_1_method_5_code (2 : Nat) (Option.some Jvm.ClassFile.FieldType.int)) ∈ lw_all := lw_mem 629 (by decide +kernel) rfl
theorem q625 : (Jvm.Cond.methodLink "HayThieves" (69 : Nat) ({ cls := "HayThieves$Yard", name := "addLoad", desc := "(I)I" } : Jvm.MethodName)) ∈ lw_all := lw_mem 632 (by decide +kernel) rfl
theorem q626 : (Jvm.Cond.instanceMethod ({ cls := "HayThieves$Yard", name := "addLoad", desc := "(I)I" } : Jvm.MethodName)) ∈ lw_all := lw_mem 633 (by decide +kernel) rfl
theorem q627 : (Jvm.Cond.selects "HayThieves$Yard" ({ cls := "HayThieves$Yard", name := "addLoad", desc := "(I)I" } : Jvm.MethodName) ({ cls := "HayThieves$Yard", name := "addLoad", desc := "(I)I" } : Jvm.MethodName)) ∈ lw_all := lw_mem 634 (by decide +kernel) rfl
theorem q628 : (Jvm.Cond.code ({ cls := "HayThieves$Yard", name := "addLoad", desc := "(I)I" } : Jvm.MethodName) prog_5_method_3_code (2 : Nat) (Option.some Jvm.ClassFile.FieldType.int)) ∈ lw_all := lw_mem 635 (by decide +kernel) rfl
theorem q629 : (Jvm.Cond.methodLink "HayThieves$Yard" (67 : Nat) ({ cls := "HayThieves$Yard", name := "wakeAll", desc := "()V" } : Jvm.MethodName)) ∈ lw_all := lw_mem 636 (by decide +kernel) rfl
theorem q630 : (Jvm.Cond.instanceMethod ({ cls := "HayThieves$Yard", name := "wakeAll", desc := "()V" } : Jvm.MethodName)) ∈ lw_all := lw_mem 637 (by decide +kernel) rfl
theorem q631 : (Jvm.Cond.selects "HayThieves$Yard" ({ cls := "HayThieves$Yard", name := "wakeAll", desc := "()V" } : Jvm.MethodName) ({ cls := "HayThieves$Yard", name := "wakeAll", desc := "()V" } : Jvm.MethodName)) ∈ lw_all := lw_mem 638 (by decide +kernel) rfl
theorem q632 : (Jvm.Cond.code ({ cls := "HayThieves$Yard", name := "wakeAll", desc := "()V" } : Jvm.MethodName) prog_5_method_4_code (2 : Nat) (Option.none : Option Jvm.ClassFile.FieldType)) ∈ lw_all := lw_mem 639 (by decide +kernel) rfl
theorem q633 : (Jvm.Cond.methodLink "HayThievesLaw" (38 : Nat) ({ cls := "HayThievesLaw$Sim", name := "bring", desc := "(I)V" } : Jvm.MethodName)) ∈ lw_all := lw_mem 640 (by decide +kernel) rfl
theorem q634 : (Jvm.Cond.instanceMethod ({ cls := "HayThievesLaw$Sim", name := "bring", desc := "(I)V" } : Jvm.MethodName)) ∈ lw_all := lw_mem 641 (by decide +kernel) rfl
theorem q635 : (Jvm.Cond.selects "HayThievesLaw$Sim" ({ cls := "HayThievesLaw$Sim", name := "bring", desc := "(I)V" } : Jvm.MethodName) ({ cls := "HayThievesLaw$Sim", name := "bring", desc := "(I)V" } : Jvm.MethodName)) ∈ lw_all := lw_mem 642 (by decide +kernel) rfl
theorem q636 : (Jvm.Cond.code ({ cls := "HayThievesLaw$Sim", name := "bring", desc := "(I)V" } : Jvm.MethodName) prog_7_method_6_code (6 : Nat) (Option.none : Option Jvm.ClassFile.FieldType)) ∈ lw_all := lw_mem 643 (by decide +kernel) rfl
theorem q637 : (Jvm.Cond.methodLink "HayThievesLaw" (44 : Nat) ({ cls := "HayThieves", name := "setFork", desc := "(I)I" } : Jvm.MethodName)) ∈ lw_all := lw_mem 644 (by decide +kernel) rfl
theorem q638 : (Jvm.Cond.instanceMethod ({ cls := "HayThieves", name := "setFork", desc := "(I)I" } : Jvm.MethodName)) ∈ lw_all := lw_mem 645 (by decide +kernel) rfl
theorem q639 : (Jvm.Cond.selects "HayThieves" ({ cls := "HayThieves", name := "setFork", desc := "(I)I" } : Jvm.MethodName) ({ cls := "HayThieves", name := "setFork", desc := "(I)I" } : Jvm.MethodName)) ∈ lw_all := lw_mem 646 (by decide +kernel) rfl
theorem q640 : (Jvm.Cond.code ({ cls := "HayThieves", name := "setFork", desc := "(I)I" } : Jvm.MethodName) prog_1_method_4_code (3 : Nat) (Option.some Jvm.ClassFile.FieldType.int)) ∈ lw_all := lw_mem 647 (by decide +kernel) rfl
theorem q642 : (Jvm.Cond.methodLink "HayThievesLaw" (50 : Nat) ({ cls := "HayThieves", name := "swap", desc := "(II)I" } : Jvm.MethodName)) ∈ lw_all := lw_mem 649 (by decide +kernel) rfl
theorem q643 : (Jvm.Cond.instanceMethod ({ cls := "HayThieves", name := "swap", desc := "(II)I" } : Jvm.MethodName)) ∈ lw_all := lw_mem 650 (by decide +kernel) rfl
theorem q644 : (Jvm.Cond.selects "HayThieves" ({ cls := "HayThieves", name := "swap", desc := "(II)I" } : Jvm.MethodName) ({ cls := "HayThieves", name := "swap", desc := "(II)I" } : Jvm.MethodName)) ∈ lw_all := lw_mem 651 (by decide +kernel) rfl
theorem q645 : (Jvm.Cond.code ({ cls := "HayThieves", name := "swap", desc := "(II)I" } : Jvm.MethodName) prog_1_method_6_code (4 : Nat) (Option.some Jvm.ClassFile.FieldType.int)) ∈ lw_all := lw_mem 652 (by decide +kernel) rfl
theorem q647 : (Jvm.Cond.methodLink "HayThievesLaw" (53 : Nat) ({ cls := "HayThieves", name := "wake", desc := "(I)I" } : Jvm.MethodName)) ∈ lw_all := lw_mem 654 (by decide +kernel) rfl
theorem q648 : (Jvm.Cond.instanceMethod ({ cls := "HayThieves", name := "wake", desc := "(I)I" } : Jvm.MethodName)) ∈ lw_all := lw_mem 655 (by decide +kernel) rfl
theorem q649 : (Jvm.Cond.selects "HayThieves" ({ cls := "HayThieves", name := "wake", desc := "(I)I" } : Jvm.MethodName) ({ cls := "HayThieves", name := "wake", desc := "(I)I" } : Jvm.MethodName)) ∈ lw_all := lw_mem 656 (by decide +kernel) rfl
theorem q650 : (Jvm.Cond.code ({ cls := "HayThieves", name := "wake", desc := "(I)I" } : Jvm.MethodName) prog_1_method_7_code (2 : Nat) (Option.some Jvm.ClassFile.FieldType.int)) ∈ lw_all := lw_mem 657 (by decide +kernel) rfl
theorem q652 : (Jvm.Cond.methodLink "HayThieves" (89 : Nat) ({ cls := "HayThieves$Yard", name := "sleepers", desc := "()I" } : Jvm.MethodName)) ∈ lw_all := lw_mem 659 (by decide +kernel) rfl
theorem q653 : (Jvm.Cond.methodLink "HayThievesLaw" (56 : Nat) ({ cls := "HayThievesLaw$Sim", name := "counts", desc := "()[I" } : Jvm.MethodName)) ∈ lw_all := lw_mem 660 (by decide +kernel) rfl
theorem q654 : (Jvm.Cond.methodLink "HayThievesLaw" (60 : Nat) ({ cls := "HayThieves", name := "setWay", desc := "(II)I" } : Jvm.MethodName)) ∈ lw_all := lw_mem 661 (by decide +kernel) rfl
theorem q655 : (Jvm.Cond.instanceMethod ({ cls := "HayThieves", name := "setWay", desc := "(II)I" } : Jvm.MethodName)) ∈ lw_all := lw_mem 662 (by decide +kernel) rfl
theorem q656 : (Jvm.Cond.selects "HayThieves" ({ cls := "HayThieves", name := "setWay", desc := "(II)I" } : Jvm.MethodName) ({ cls := "HayThieves", name := "setWay", desc := "(II)I" } : Jvm.MethodName)) ∈ lw_all := lw_mem 663 (by decide +kernel) rfl
theorem q657 : (Jvm.Cond.code ({ cls := "HayThieves", name := "setWay", desc := "(II)I" } : Jvm.MethodName) prog_1_method_3_code (4 : Nat) (Option.some Jvm.ClassFile.FieldType.int)) ∈ lw_all := lw_mem 664 (by decide +kernel) rfl
theorem q659 : (Jvm.Cond.methodLink "HayThievesLaw" (80 : Nat) ({ cls := "HayThievesLaw", name := "build", desc := "(LHayThieves;[I)LHayThievesLaw$Sim;" } : Jvm.MethodName)) ∈ lw_all := lw_mem 666 (by decide +kernel) rfl
theorem q660 : (Jvm.Cond.static ({ cls := "HayThievesLaw", name := "build", desc := "(LHayThieves;[I)LHayThievesLaw$Sim;" } : Jvm.MethodName)) ∈ lw_all := lw_mem 667 (by decide +kernel) rfl
theorem q661 : (Jvm.Cond.code ({ cls := "HayThievesLaw", name := "build", desc := "(LHayThieves;[I)LHayThievesLaw$Sim;" } : Jvm.MethodName) method_5_code (5 : Nat) (Option.some (Jvm.ClassFile.FieldType.object "HayThievesLaw$Sim"))) ∈ lw_all := lw_mem 668 (by decide +kernel) rfl
theorem q662 : (Jvm.Cond.classLink "HayThievesLaw" (10 : Nat) "HayThievesLaw$Sim") ∈ lw_all := lw_mem 669 (by decide +kernel) rfl
theorem q664 : (Jvm.Cond.instanceMethod ({ cls := "HayThievesLaw$Sim", name := "<init>", desc := "()V" } : Jvm.MethodName)) ∈ lw_all := lw_mem 671 (by decide +kernel) rfl
theorem q665 : (Jvm.Cond.code ({ cls := "HayThievesLaw$Sim", name := "<init>", desc := "()V" } : Jvm.MethodName) prog_7_method_1_code (1 : Nat) (Option.none : Option Jvm.ClassFile.FieldType)) ∈ lw_all := lw_mem 672 (by decide +kernel) rfl
theorem q666 : (Jvm.Cond.methodLink "HayThievesLaw$Sim" (1 : Nat) ({ cls := "java/lang/Object", name := "<init>", desc := "()V" } : Jvm.MethodName)) ∈ lw_all := lw_mem 673 (by decide +kernel) rfl
theorem q667 : (Jvm.Cond.fieldLink "HayThievesLaw$Sim" (33 : Nat) "HayThievesLaw$Sim" "minute" "I") ∈ lw_all := lw_mem 674 (by decide +kernel) rfl
theorem q668 : (Jvm.Cond.fieldLink "HayThievesLaw$Sim" (7 : Nat) "HayThievesLaw$Sim" "fork" "I") ∈ lw_all := lw_mem 675 (by decide +kernel) rfl
theorem q669 : (Jvm.Cond.fieldLink "HayThievesLaw" (40 : Nat) "HayThievesLaw$Sim" "fork" "I") ∈ lw_all := lw_mem 676 (by decide +kernel) rfl
theorem q670 : (Jvm.Cond.fieldLink "HayThievesLaw$Sim" (15 : Nat) "HayThievesLaw$Sim" "lads" "[[I") ∈ lw_all := lw_mem 677 (by decide +kernel) rfl
theorem q671 : (Jvm.Cond.fieldLink "HayThievesLaw" (9 : Nat) "HayThievesLaw$Sim" "lads" "[[I") ∈ lw_all := lw_mem 678 (by decide +kernel) rfl
theorem q672 : (Jvm.Cond.fieldLink "HayThievesLaw$Sim" (19 : Nat) "HayThievesLaw$Sim" "carts" "[[I") ∈ lw_all := lw_mem 679 (by decide +kernel) rfl
theorem q673 : (Jvm.Cond.fieldLink "HayThievesLaw" (47 : Nat) "HayThievesLaw$Sim" "carts" "[[I") ∈ lw_all := lw_mem 680 (by decide +kernel) rfl
theorem q674 : (Jvm.Cond.fieldLink "HayThievesLaw$Sim" (22 : Nat) "HayThievesLaw$Sim" "loads" "[[I") ∈ lw_all := lw_mem 681 (by decide +kernel) rfl
theorem q675 : (Jvm.Cond.fieldLink "HayThievesLaw" (32 : Nat) "HayThievesLaw$Sim" "loads" "[[I") ∈ lw_all := lw_mem 682 (by decide +kernel) rfl
theorem q676 : (Jvm.Cond.fieldLink "HayThievesLaw$Sim" (25 : Nat) "HayThievesLaw$Sim" "heaps" "[[I") ∈ lw_all := lw_mem 683 (by decide +kernel) rfl
theorem q677 : (Jvm.Cond.fieldLink "HayThievesLaw$Sim" (40 : Nat) "HayThievesLaw$Sim" "thefts" "I") ∈ lw_all := lw_mem 684 (by decide +kernel) rfl
theorem q678 : (Jvm.Cond.fieldLink "HayThievesLaw$Sim" (43 : Nat) "HayThievesLaw$Sim" "forkings" "I") ∈ lw_all := lw_mem 685 (by decide +kernel) rfl
theorem q679 : (Jvm.Cond.fieldLink "HayThievesLaw$Sim" (46 : Nat) "HayThievesLaw$Sim" "joinings" "I") ∈ lw_all := lw_mem 686 (by decide +kernel) rfl
theorem q699 : (Jvm.Cond.constant "HayThievesLaw" (68 : Nat) (100000 : Int32)) ∈ lw_all := lw_mem 706 (by decide +kernel) rfl
theorem q700 : (Jvm.Cond.methodLink "HayThievesLaw" (93 : Nat) ({ cls := "HayThievesLaw", name := "inOthers", desc := "(LHayThieves;II)Z" } : Jvm.MethodName)) ∈ lw_all := lw_mem 707 (by decide +kernel) rfl
theorem q701 : (Jvm.Cond.static ({ cls := "HayThievesLaw", name := "inOthers", desc := "(LHayThieves;II)Z" } : Jvm.MethodName)) ∈ lw_all := lw_mem 708 (by decide +kernel) rfl
theorem q702 : (Jvm.Cond.code ({ cls := "HayThievesLaw", name := "inOthers", desc := "(LHayThieves;II)Z" } : Jvm.MethodName) method_7_code (4 : Nat) (Option.some Jvm.ClassFile.FieldType.boolean)) ∈ lw_all := lw_mem 709 (by decide +kernel) rfl
theorem qs0 : Cond.selects "HayThieves" ⟨"HayThieves", "needLad", "(I)V"⟩ ⟨"HayThieves", "needLad", "(I)V"⟩ ∈ lw_all := lw_mem 0 (by decide +kernel) rfl
theorem qs1 : Cond.selects "java/lang/Throwable" ⟨"java/lang/Throwable", "fillInStackTrace", "(I)Ljava/lang/Throwable;"⟩ ⟨"java/lang/Throwable", "fillInStackTrace", "(I)Ljava/lang/Throwable;"⟩ ∈ lw_all := lw_mem 1 (by decide +kernel) rfl
theorem qs2 : Cond.selects "HayThieves" ⟨"HayThieves", "needLoad", "(I)V"⟩ ⟨"HayThieves", "needLoad", "(I)V"⟩ ∈ lw_all := lw_mem 2 (by decide +kernel) rfl
theorem qs3 : Cond.selects "HayThieves" ⟨"HayThieves", "mixedWithLad", "(JLHayThieves$Lad;)J"⟩ ⟨"HayThieves", "mixedWithLad", "(JLHayThieves$Lad;)J"⟩ ∈ lw_all := lw_mem 3 (by decide +kernel) rfl
theorem qs4 : Cond.selects "HayThievesLaw$Sim" ⟨"HayThievesLaw$Sim", "turn", "(I)V"⟩ ⟨"HayThievesLaw$Sim", "turn", "(I)V"⟩ ∈ lw_all := lw_mem 4 (by decide +kernel) rfl
theorem qs5 : Cond.selects "HayThievesLaw$Sim" ⟨"HayThievesLaw$Sim", "end", "([II)V"⟩ ⟨"HayThievesLaw$Sim", "end", "([II)V"⟩ ∈ lw_all := lw_mem 5 (by decide +kernel) rfl
theorem qs6 : Cond.selects "HayThievesLaw$Sim" ⟨"HayThievesLaw$Sim", "work", "(I)V"⟩ ⟨"HayThievesLaw$Sim", "work", "(I)V"⟩ ∈ lw_all := lw_mem 6 (by decide +kernel) rfl
theorem in_X0 : ∀ w ∈ u_ws RX0 TX0 2, w ∈ lw_all := by decide +kernel
theorem in_X1 : ∀ w ∈ u_ws RX1 TX1 12, w ∈ lw_all := by decide +kernel
theorem in_X2 : ∀ w ∈ u_ws RX2 TX2 7, w ∈ lw_all := by decide +kernel
theorem in_X3 : ∀ w ∈ u_ws RX3 TX3 10, w ∈ lw_all := by decide +kernel
theorem in_X4 : ∀ w ∈ u_ws RX4 TX4 2, w ∈ lw_all := by decide +kernel
theorem in_X5 : ∀ w ∈ u_ws RX5 TX5 9, w ∈ lw_all := by decide +kernel
def gnestF : List (String × Nat × String × String × String × String) := [("HayThieves$Lad", 53, "HayThieves$Cart", "size", "I", "HayThieves"), ("HayThieves", 78, "HayThieves$Cart", "size", "I", "HayThieves"), ("HayThieves$Yard", 112, "HayThieves$Cart", "size", "I", "HayThieves"), ("HayThieves$Yard", 117, "HayThieves$Lad", "number", "I", "HayThieves"), ("HayThieves$Yard", 54, "HayThieves$Lad", "strength", "I", "HayThieves"), ("HayThieves", 52, "HayThieves$Lad", "way", "I", "HayThieves"), ("HayThieves$Yard", 95, "HayThieves$Lad", "way", "I", "HayThieves"), ("HayThieves", 74, "HayThieves$Lad", "cart", "LHayThieves$Cart;", "HayThieves"), ("HayThieves$Yard", 108, "HayThieves$Lad", "cart", "LHayThieves$Cart;", "HayThieves"), ("HayThieves$Yard", 137, "HayThieves$Lad", "hands", "I", "HayThieves"), ("HayThieves$Yard", 172, "HayThieves$Lad", "balesLeft", "I", "HayThieves"), ("HayThieves$Yard", 134, "HayThieves$Lad", "toJoin", "I", "HayThieves"), ("HayThieves$Yard", 70, "HayThieves$Lad", "asleep", "Z", "HayThieves"), ("HayThieves", 83, "HayThieves$Lad", "asleep", "Z", "HayThieves"), ("HayThieves$Yard", 156, "HayThieves$Lad", "idleInRow", "I", "HayThieves"), ("HayThieves", 125, "HayThieves$Lad", "thefts", "I", "HayThieves"), ("HayThieves$Yard", 213, "HayThieves$Lad", "thefts", "I", "HayThieves"), ("HayThieves$Yard", 216, "HayThieves$Lad", "theftsFrom", "I", "HayThieves"), ("HayThieves$Yard", 57, "HayThieves$Load", "bales", "I", "HayThieves"), ("HayThieves$Yard", 88, "HayThieves$Load", "state", "I", "HayThieves"), ("HayThieves", 139, "HayThieves$Load", "state", "I", "HayThieves"), ("HayThieves$Yard", 60, "HayThieves$Load", "broughtAt", "I", "HayThieves"), ("HayThieves$Yard", 201, "HayThieves$Load", "doneAt", "I", "HayThieves"), ("HayThieves$Yard", 189, "HayThieves$Load", "heaps", "I", "HayThieves"), ("HayThieves$Yard", 219, "HayThieves$Load", "thefts", "I", "HayThieves"), ("HayThieves$Yard", 198, "HayThieves$Load", "pitched", "I", "HayThieves"), ("HayThieves", 48, "HayThieves$Yard", "lads", "[LHayThieves$Lad;", "HayThieves"), ("HayThieves", 111, "HayThieves$Yard", "loads", "[LHayThieves$Load;", "HayThieves"), ("HayThieves", 26, "HayThieves$Yard", "ladCount", "I", "HayThieves"), ("HayThieves", 64, "HayThieves$Yard", "loadCount", "I", "HayThieves"), ("HayThieves", 59, "HayThieves$Yard", "forkSize", "I", "HayThieves")]
def gnestM : List (String × Nat × MethodName × String) := [("HayThieves$Lad", 20, { cls := "HayThieves$Cart", name := "<init>", desc := "()V" }, "HayThieves"), ("HayThieves$Yard", 53, { cls := "HayThieves$Load", name := "<init>", desc := "()V" }, "HayThieves"), ("HayThievesLaw", 63, { cls := "HayThievesLaw$Sim", name := "<init>", desc := "()V" }, "HayThievesLaw")]
def gnestD : List MethodName := [{ cls := "java/lang/RuntimeException", name := "<init>", desc := "()V" }, { cls := "java/lang/RuntimeException", name := "<init>", desc := "(Ljava/lang/String;)V" }, { cls := "java/lang/Exception", name := "<init>", desc := "()V" }, { cls := "java/lang/Exception", name := "<init>", desc := "(Ljava/lang/String;)V" }, { cls := "java/lang/Throwable", name := "<init>", desc := "()V" }, { cls := "java/lang/Throwable", name := "<init>", desc := "(Ljava/lang/String;)V" }]
def gnestC : List (String × String) := [("java/lang/IndexOutOfBoundsException", "java/lang/IndexOutOfBoundsException"), ("java/lang/IllegalArgumentException", "java/lang/IllegalArgumentException"), ("java/lang/IllegalStateException", "java/lang/IllegalStateException")]
def gnest : List Cond := gnestF.map (fun q => .fieldLinkNest q.1 q.2.1 q.2.2.1 q.2.2.2.1 q.2.2.2.2.1 q.2.2.2.2.2) ++ (gnestM.map (fun q => .methodLinkNest q.1 q.2.1 q.2.2.1 q.2.2.2) ++ (gnestD.map (fun q => .declares q) ++ gnestC.map (fun q => .castable q.1 q.2)))
theorem gnest_warm {s U : State} (hW : s.WarmedH U.vm) {w : Cond} (hw : w ∈ gnest) (h : va_Nw w s) : va_Nw w U := by
  rcases List.mem_append.mp hw with hw | hw
  · obtain ⟨q, -, rfl⟩ := List.mem_map.mp hw
    exact va_Nw.warmF hW h
  · rcases List.mem_append.mp hw with hw | hw
    · obtain ⟨q, -, rfl⟩ := List.mem_map.mp hw
      exact va_Nw.warmM hW h
    · rcases List.mem_append.mp hw with hw | hw
      · obtain ⟨q, -, rfl⟩ := List.mem_map.mp hw
        exact va_Nw.warmD hW h
      · obtain ⟨q, -, rfl⟩ := List.mem_map.mp hw
        exact va_Nw.warmC hW h
theorem gnest_ot {w : Cond} (hw : w ∈ gnest) : w.onTables = true := by
  rcases List.mem_append.mp hw with hw | hw
  · obtain ⟨q, -, rfl⟩ := List.mem_map.mp hw
    rfl
  · rcases List.mem_append.mp hw with hw | hw
    · obtain ⟨q, -, rfl⟩ := List.mem_map.mp hw
      rfl
    · rcases List.mem_append.mp hw with hw | hw
      · obtain ⟨q, -, rfl⟩ := List.mem_map.mp hw
        rfl
      · obtain ⟨q, -, rfl⟩ := List.mem_map.mp hw
        rfl
theorem qn_Lad_53 : Cond.fieldLinkNest "HayThieves$Lad" 53 "HayThieves$Cart" "size" "I" "HayThieves" ∈ gnest := List.mem_of_getElem? (i := 0) (by decide +kernel)
theorem qn_H_78 : Cond.fieldLinkNest "HayThieves" 78 "HayThieves$Cart" "size" "I" "HayThieves" ∈ gnest := List.mem_of_getElem? (i := 1) (by decide +kernel)
theorem qn_Yard_112 : Cond.fieldLinkNest "HayThieves$Yard" 112 "HayThieves$Cart" "size" "I" "HayThieves" ∈ gnest := List.mem_of_getElem? (i := 2) (by decide +kernel)
theorem qn_Yard_117 : Cond.fieldLinkNest "HayThieves$Yard" 117 "HayThieves$Lad" "number" "I" "HayThieves" ∈ gnest := List.mem_of_getElem? (i := 3) (by decide +kernel)
theorem qn_Yard_54 : Cond.fieldLinkNest "HayThieves$Yard" 54 "HayThieves$Lad" "strength" "I" "HayThieves" ∈ gnest := List.mem_of_getElem? (i := 4) (by decide +kernel)
theorem qn_H_52 : Cond.fieldLinkNest "HayThieves" 52 "HayThieves$Lad" "way" "I" "HayThieves" ∈ gnest := List.mem_of_getElem? (i := 5) (by decide +kernel)
theorem qn_Yard_95 : Cond.fieldLinkNest "HayThieves$Yard" 95 "HayThieves$Lad" "way" "I" "HayThieves" ∈ gnest := List.mem_of_getElem? (i := 6) (by decide +kernel)
theorem qn_H_74 : Cond.fieldLinkNest "HayThieves" 74 "HayThieves$Lad" "cart" "LHayThieves$Cart;" "HayThieves" ∈ gnest := List.mem_of_getElem? (i := 7) (by decide +kernel)
theorem qn_Yard_108 : Cond.fieldLinkNest "HayThieves$Yard" 108 "HayThieves$Lad" "cart" "LHayThieves$Cart;" "HayThieves" ∈ gnest := List.mem_of_getElem? (i := 8) (by decide +kernel)
theorem qn_Yard_137 : Cond.fieldLinkNest "HayThieves$Yard" 137 "HayThieves$Lad" "hands" "I" "HayThieves" ∈ gnest := List.mem_of_getElem? (i := 9) (by decide +kernel)
theorem qn_Yard_172 : Cond.fieldLinkNest "HayThieves$Yard" 172 "HayThieves$Lad" "balesLeft" "I" "HayThieves" ∈ gnest := List.mem_of_getElem? (i := 10) (by decide +kernel)
theorem qn_Yard_134 : Cond.fieldLinkNest "HayThieves$Yard" 134 "HayThieves$Lad" "toJoin" "I" "HayThieves" ∈ gnest := List.mem_of_getElem? (i := 11) (by decide +kernel)
theorem qn_Yard_70 : Cond.fieldLinkNest "HayThieves$Yard" 70 "HayThieves$Lad" "asleep" "Z" "HayThieves" ∈ gnest := List.mem_of_getElem? (i := 12) (by decide +kernel)
theorem qn_H_83 : Cond.fieldLinkNest "HayThieves" 83 "HayThieves$Lad" "asleep" "Z" "HayThieves" ∈ gnest := List.mem_of_getElem? (i := 13) (by decide +kernel)
theorem qn_Yard_156 : Cond.fieldLinkNest "HayThieves$Yard" 156 "HayThieves$Lad" "idleInRow" "I" "HayThieves" ∈ gnest := List.mem_of_getElem? (i := 14) (by decide +kernel)
theorem qn_H_125 : Cond.fieldLinkNest "HayThieves" 125 "HayThieves$Lad" "thefts" "I" "HayThieves" ∈ gnest := List.mem_of_getElem? (i := 15) (by decide +kernel)
theorem qn_Yard_213 : Cond.fieldLinkNest "HayThieves$Yard" 213 "HayThieves$Lad" "thefts" "I" "HayThieves" ∈ gnest := List.mem_of_getElem? (i := 16) (by decide +kernel)
theorem qn_Yard_216 : Cond.fieldLinkNest "HayThieves$Yard" 216 "HayThieves$Lad" "theftsFrom" "I" "HayThieves" ∈ gnest := List.mem_of_getElem? (i := 17) (by decide +kernel)
theorem qn_Yard_57 : Cond.fieldLinkNest "HayThieves$Yard" 57 "HayThieves$Load" "bales" "I" "HayThieves" ∈ gnest := List.mem_of_getElem? (i := 18) (by decide +kernel)
theorem qn_Yard_88 : Cond.fieldLinkNest "HayThieves$Yard" 88 "HayThieves$Load" "state" "I" "HayThieves" ∈ gnest := List.mem_of_getElem? (i := 19) (by decide +kernel)
theorem qn_H_139 : Cond.fieldLinkNest "HayThieves" 139 "HayThieves$Load" "state" "I" "HayThieves" ∈ gnest := List.mem_of_getElem? (i := 20) (by decide +kernel)
theorem qn_Yard_60 : Cond.fieldLinkNest "HayThieves$Yard" 60 "HayThieves$Load" "broughtAt" "I" "HayThieves" ∈ gnest := List.mem_of_getElem? (i := 21) (by decide +kernel)
theorem qn_Yard_201 : Cond.fieldLinkNest "HayThieves$Yard" 201 "HayThieves$Load" "doneAt" "I" "HayThieves" ∈ gnest := List.mem_of_getElem? (i := 22) (by decide +kernel)
theorem qn_Yard_189 : Cond.fieldLinkNest "HayThieves$Yard" 189 "HayThieves$Load" "heaps" "I" "HayThieves" ∈ gnest := List.mem_of_getElem? (i := 23) (by decide +kernel)
theorem qn_Yard_219 : Cond.fieldLinkNest "HayThieves$Yard" 219 "HayThieves$Load" "thefts" "I" "HayThieves" ∈ gnest := List.mem_of_getElem? (i := 24) (by decide +kernel)
theorem qn_Yard_198 : Cond.fieldLinkNest "HayThieves$Yard" 198 "HayThieves$Load" "pitched" "I" "HayThieves" ∈ gnest := List.mem_of_getElem? (i := 25) (by decide +kernel)
theorem qn_H_48 : Cond.fieldLinkNest "HayThieves" 48 "HayThieves$Yard" "lads" "[LHayThieves$Lad;" "HayThieves" ∈ gnest := List.mem_of_getElem? (i := 26) (by decide +kernel)
theorem qn_H_111 : Cond.fieldLinkNest "HayThieves" 111 "HayThieves$Yard" "loads" "[LHayThieves$Load;" "HayThieves" ∈ gnest := List.mem_of_getElem? (i := 27) (by decide +kernel)
theorem qn_H_26 : Cond.fieldLinkNest "HayThieves" 26 "HayThieves$Yard" "ladCount" "I" "HayThieves" ∈ gnest := List.mem_of_getElem? (i := 28) (by decide +kernel)
theorem qn_H_64 : Cond.fieldLinkNest "HayThieves" 64 "HayThieves$Yard" "loadCount" "I" "HayThieves" ∈ gnest := List.mem_of_getElem? (i := 29) (by decide +kernel)
theorem qn_H_59 : Cond.fieldLinkNest "HayThieves" 59 "HayThieves$Yard" "forkSize" "I" "HayThieves" ∈ gnest := List.mem_of_getElem? (i := 30) (by decide +kernel)
theorem qm_Lad_20 : Cond.methodLinkNest "HayThieves$Lad" 20 { cls := "HayThieves$Cart", name := "<init>", desc := "()V" } "HayThieves" ∈ gnest := List.mem_of_getElem? (i := 31) (by decide +kernel)
theorem qm_Yard_53 : Cond.methodLinkNest "HayThieves$Yard" 53 { cls := "HayThieves$Load", name := "<init>", desc := "()V" } "HayThieves" ∈ gnest := List.mem_of_getElem? (i := 32) (by decide +kernel)
theorem qm_HLaw_63 : Cond.methodLinkNest "HayThievesLaw" 63 { cls := "HayThievesLaw$Sim", name := "<init>", desc := "()V" } "HayThievesLaw" ∈ gnest := List.mem_of_getElem? (i := 33) (by decide +kernel)
theorem qc_0 : Cond.castable "java/lang/IndexOutOfBoundsException" "java/lang/IndexOutOfBoundsException" ∈ gnest := List.mem_of_getElem? (i := 40) (by decide +kernel)
theorem qc_1 : Cond.castable "java/lang/IllegalArgumentException" "java/lang/IllegalArgumentException" ∈ gnest := List.mem_of_getElem? (i := 41) (by decide +kernel)
theorem qc_2 : Cond.castable "java/lang/IllegalStateException" "java/lang/IllegalStateException" ∈ gnest := List.mem_of_getElem? (i := 42) (by decide +kernel)
abbrev ats_IAE : List Cond := vx_atS "HayThieves" 23 "java/lang/IllegalArgumentException" ["java/lang/RuntimeException", "java/lang/Exception"]
theorem ats_IAE_g : ∀ w ∈ ats_IAE.filter goodWord, w ∈ lw_all := by decide +kernel
theorem ats_IAE_b : ∀ w ∈ ats_IAE.filter (fun w => !goodWord w), w ∈ gnest := by decide +kernel
abbrev ats_ISE : List Cond := vx_atS "HayThieves" 34 "java/lang/IllegalStateException" ["java/lang/RuntimeException", "java/lang/Exception"]
theorem ats_ISE_g : ∀ w ∈ ats_ISE.filter goodWord, w ∈ lw_all := by decide +kernel
theorem ats_ISE_b : ∀ w ∈ ats_ISE.filter (fun w => !goodWord w), w ∈ gnest := by decide +kernel
abbrev ats_IOB : List Cond := vx_atS "HayThieves" 47 "java/lang/IndexOutOfBoundsException" ["java/lang/RuntimeException", "java/lang/Exception"]
theorem ats_IOB_g : ∀ w ∈ ats_IOB.filter goodWord, w ∈ lw_all := by decide +kernel
theorem ats_IOB_b : ∀ w ∈ ats_IOB.filter (fun w => !goodWord w), w ∈ gnest := by decide +kernel
