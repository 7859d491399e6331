section
theorem jc_1 : j_cls 1 (RJ4, TJ4, 4) tyJ4 := ⟨rfl, by decide, by decide +kernel, tyJ4_ok, nmJ4⟩
theorem jc_4 : j_cls 4 (RX0, TX0, 7) tyX0 := ⟨rfl, by decide, by decide +kernel, tyX0_ok, nmX0⟩
theorem jc_5 : j_cls 5 (RX1, TX1, 3) tyX1 := ⟨rfl, by decide, by decide +kernel, tyX1_ok, nmX1⟩
theorem jc_6 : j_cls 6 (RX2, TX2, 11) tyX2 := ⟨rfl, by decide, by decide +kernel, tyX2_ok, nmX2⟩
theorem jc_7 : j_cls 7 (RX3, TX3, 12) tyX3 := ⟨rfl, by decide, by decide +kernel, tyX3_ok, nmX3⟩
theorem jc_8 : j_cls 8 (RX4, TX4, 8) tyX4 := ⟨rfl, by decide, by decide +kernel, tyX4_ok, nmX4⟩
theorem jc_9 : j_cls 9 (RX5, TX5, 14) tyX5 := ⟨rfl, by decide, by decide +kernel, tyX5_ok, nmX5⟩
theorem jc_10 : j_cls 10 (RX6, TX6, 20) tyX6 := ⟨rfl, by decide, by decide +kernel, tyX6_ok, nmX6⟩
end

section
theorem ex_cons {w : Cond} {ws : List Cond} (h : w ∈ j_all ∨ w ∈ j_nw) (t : ∀ v ∈ ws, v ∈ j_all ∨ v ∈ j_nw) : ∀ v ∈ w :: ws, v ∈ j_all ∨ v ∈ j_nw := fun v hv => (List.mem_cons.mp hv).elim (fun e => by rw [e]; exact h) (t v)
def exw_0 : List Cond := [((Jvm.Cond.selects "java/lang/Throwable" (⟨"java/lang/Throwable", "fillInStackTrace", "(I)Ljava/lang/Throwable;"⟩ : MethodName) (⟨"java/lang/Throwable", "fillInStackTrace", "(I)Ljava/lang/Throwable;"⟩ : MethodName))), (Cond.initialized "java/lang/Throwable"), (Cond.initialized "java/lang/Exception"), (Cond.initialized "java/lang/RuntimeException"), (Cond.initialized "java/lang/UnsupportedOperationException"), (Cond.initialized "java/lang/IndexOutOfBoundsException"), (Cond.initialized "java/lang/IllegalArgumentException"), (Cond.initialized "java/util/NoSuchElementException"), (Cond.initialized "java/lang/IllegalStateException"), (Cond.initialized "java/lang/ArithmeticException"), (Cond.instanceMethod Lib.objectInit), (Cond.code Lib.objectInit ⟨#[0xb1]⟩ 1 none), (Cond.classLink "LeagueTablesLaw" 13 "java/lang/UnsupportedOperationException"), (Cond.classLink "LeagueTables" 66 "java/lang/UnsupportedOperationException"), (Cond.instantiable "java/lang/UnsupportedOperationException" 6), ((Jvm.Cond.castable "java/lang/UnsupportedOperationException" "java/lang/UnsupportedOperationException")), ((Jvm.Cond.declares ({ cls := "java/lang/RuntimeException", name := "<init>", desc := "()V" } : Jvm.MethodName))), ((Jvm.Cond.declares ({ cls := "java/lang/RuntimeException", name := "<init>", desc := "(Ljava/lang/String;)V" } : Jvm.MethodName))), ((Jvm.Cond.declares ({ cls := "java/lang/Exception", name := "<init>", desc := "()V" } : Jvm.MethodName))), ((Jvm.Cond.declares ({ cls := "java/lang/Exception", name := "<init>", desc := "(Ljava/lang/String;)V" } : Jvm.MethodName))), ((Jvm.Cond.declares ({ cls := "java/lang/Throwable", name := "<init>", desc := "()V" } : Jvm.MethodName))), ((Jvm.Cond.declares ({ cls := "java/lang/Throwable", name := "<init>", desc := "(Ljava/lang/String;)V" } : Jvm.MethodName))), ((Jvm.Cond.selects "java/lang/UnsupportedOperationException" ({ cls := "java/lang/Throwable", name := "fillInStackTrace", desc := "(I)Ljava/lang/Throwable;" } : Jvm.MethodName) ({ cls := "java/lang/Throwable", name := "fillInStackTrace", desc := "(I)Ljava/lang/Throwable;" } : Jvm.MethodName))), ((Jvm.Cond.selects "java/lang/UnsupportedOperationException" ({ cls := "java/lang/Throwable", name := "fillInStackTrace", desc := "()Ljava/lang/Throwable;" } : Jvm.MethodName) ({ cls := "java/lang/Throwable", name := "fillInStackTrace", desc := "()Ljava/lang/Throwable;" } : Jvm.MethodName))), ((Jvm.Cond.lays "java/lang/UnsupportedOperationException" "java/lang/Throwable" "cause" "Ljava/lang/Throwable;"))]
theorem exo_0 : ∀ w ∈ exw_0, w ∈ j_all ∨ w ∈ j_nw :=
  (ex_cons (by first | exact Or.inl (j_n0 (mem_dr tc_0_0 (List.Mem.tail _ (List.Mem.tail _ (List.Mem.head _)))) rfl) | exact Or.inr (List.mem_filter.mpr ⟨j_t0 (mem_dr tc_0_0 (List.Mem.tail _ (List.Mem.tail _ (List.Mem.head _)))), rfl⟩))
  (ex_cons (by first | exact Or.inl (j_n1 (mem_dr tc_1_1 (List.Mem.head _)) rfl) | exact Or.inr (List.mem_filter.mpr ⟨j_t1 (mem_dr tc_1_1 (List.Mem.head _)), rfl⟩))
  (ex_cons (by first | exact Or.inl (j_n1 (mem_dr tc_1_1 (List.Mem.tail _ (List.Mem.head _))) rfl) | exact Or.inr (List.mem_filter.mpr ⟨j_t1 (mem_dr tc_1_1 (List.Mem.tail _ (List.Mem.head _))), rfl⟩))
  (ex_cons (by first | exact Or.inl (j_n1 (mem_dr tc_1_1 (List.Mem.tail _ (List.Mem.tail _ (List.Mem.head _)))) rfl) | exact Or.inr (List.mem_filter.mpr ⟨j_t1 (mem_dr tc_1_1 (List.Mem.tail _ (List.Mem.tail _ (List.Mem.head _)))), rfl⟩))
  (ex_cons (by first | exact Or.inl (j_n1 (mem_dr tc_1_1 (List.Mem.tail _ (List.Mem.tail _ (List.Mem.tail _ (List.Mem.head _))))) rfl) | exact Or.inr (List.mem_filter.mpr ⟨j_t1 (mem_dr tc_1_1 (List.Mem.tail _ (List.Mem.tail _ (List.Mem.tail _ (List.Mem.head _))))), rfl⟩))
  (ex_cons (by first | exact Or.inl (j_n1 (mem_dr tc_1_1 (List.Mem.tail _ (List.Mem.tail _ (List.Mem.tail _ (List.Mem.tail _ (List.Mem.tail _ (List.Mem.tail _ (List.Mem.head _)))))))) rfl) | exact Or.inr (List.mem_filter.mpr ⟨j_t1 (mem_dr tc_1_1 (List.Mem.tail _ (List.Mem.tail _ (List.Mem.tail _ (List.Mem.tail _ (List.Mem.tail _ (List.Mem.tail _ (List.Mem.head _)))))))), rfl⟩))
  (ex_cons (by first | exact Or.inl (j_n1 (mem_dr tc_1_1 (List.Mem.tail _ (List.Mem.tail _ (List.Mem.tail _ (List.Mem.tail _ (List.Mem.tail _ (List.Mem.tail _ (List.Mem.tail _ (List.Mem.tail _ (List.Mem.head _)))))))))) rfl) | exact Or.inr (List.mem_filter.mpr ⟨j_t1 (mem_dr tc_1_1 (List.Mem.tail _ (List.Mem.tail _ (List.Mem.tail _ (List.Mem.tail _ (List.Mem.tail _ (List.Mem.tail _ (List.Mem.tail _ (List.Mem.tail _ (List.Mem.head _)))))))))), rfl⟩))
  (ex_cons (by first | exact Or.inl (j_n1 (mem_dr tc_1_1 (List.Mem.tail _ (List.Mem.tail _ (List.Mem.tail _ (List.Mem.tail _ (List.Mem.tail _ (List.Mem.tail _ (List.Mem.tail _ (List.Mem.tail _ (List.Mem.tail _ (List.Mem.head _))))))))))) rfl) | exact Or.inr (List.mem_filter.mpr ⟨j_t1 (mem_dr tc_1_1 (List.Mem.tail _ (List.Mem.tail _ (List.Mem.tail _ (List.Mem.tail _ (List.Mem.tail _ (List.Mem.tail _ (List.Mem.tail _ (List.Mem.tail _ (List.Mem.tail _ (List.Mem.head _))))))))))), rfl⟩))
  (ex_cons (by first | exact Or.inl (j_n1 (mem_dr tc_1_1 (List.Mem.tail _ (List.Mem.tail _ (List.Mem.tail _ (List.Mem.tail _ (List.Mem.tail _ (List.Mem.tail _ (List.Mem.tail _ (List.Mem.tail _ (List.Mem.tail _ (List.Mem.tail _ (List.Mem.head _)))))))))))) rfl) | exact Or.inr (List.mem_filter.mpr ⟨j_t1 (mem_dr tc_1_1 (List.Mem.tail _ (List.Mem.tail _ (List.Mem.tail _ (List.Mem.tail _ (List.Mem.tail _ (List.Mem.tail _ (List.Mem.tail _ (List.Mem.tail _ (List.Mem.tail _ (List.Mem.tail _ (List.Mem.head _)))))))))))), rfl⟩))
  (ex_cons (by first | exact Or.inl (j_n1 (mem_dr tc_1_2 (List.Mem.tail _ (List.Mem.tail _ (List.Mem.tail _ (List.Mem.tail _ (List.Mem.tail _ (List.Mem.tail _ (List.Mem.head _)))))))) rfl) | exact Or.inr (List.mem_filter.mpr ⟨j_t1 (mem_dr tc_1_2 (List.Mem.tail _ (List.Mem.tail _ (List.Mem.tail _ (List.Mem.tail _ (List.Mem.tail _ (List.Mem.tail _ (List.Mem.head _)))))))), rfl⟩))
  (ex_cons (by first | exact Or.inl (j_n1 (mem_dr tc_1_3 (List.Mem.tail _ (List.Mem.head _))) rfl) | exact Or.inr (List.mem_filter.mpr ⟨j_t1 (mem_dr tc_1_3 (List.Mem.tail _ (List.Mem.head _))), rfl⟩))
  (ex_cons (by first | exact Or.inl (j_n1 (mem_dr tc_1_3 (List.Mem.tail _ (List.Mem.tail _ (List.Mem.head _)))) rfl) | exact Or.inr (List.mem_filter.mpr ⟨j_t1 (mem_dr tc_1_3 (List.Mem.tail _ (List.Mem.tail _ (List.Mem.head _)))), rfl⟩))
  (ex_cons (by first | exact Or.inl (j_n2 (mem_dr tc_2_8 (List.Mem.tail _ (List.Mem.tail _ (List.Mem.tail _ (List.Mem.tail _ (List.Mem.tail _ (List.Mem.tail _ (List.Mem.tail _ (List.Mem.tail _ (List.Mem.tail _ (List.Mem.head _))))))))))) rfl) | exact Or.inr (List.mem_filter.mpr ⟨j_t2 (mem_dr tc_2_8 (List.Mem.tail _ (List.Mem.tail _ (List.Mem.tail _ (List.Mem.tail _ (List.Mem.tail _ (List.Mem.tail _ (List.Mem.tail _ (List.Mem.tail _ (List.Mem.tail _ (List.Mem.head _))))))))))), rfl⟩))
  (ex_cons (by first | exact Or.inl (j_n2 (mem_dr tc_2_10 (List.Mem.tail _ (List.Mem.head _))) rfl) | exact Or.inr (List.mem_filter.mpr ⟨j_t2 (mem_dr tc_2_10 (List.Mem.tail _ (List.Mem.head _))), rfl⟩))
  (ex_cons (by first | exact Or.inl (j_n2 (mem_dr tc_2_10 (List.Mem.tail _ (List.Mem.tail _ (List.Mem.head _)))) rfl) | exact Or.inr (List.mem_filter.mpr ⟨j_t2 (mem_dr tc_2_10 (List.Mem.tail _ (List.Mem.tail _ (List.Mem.head _)))), rfl⟩))
  (ex_cons (by first | exact Or.inl (j_n2 (mem_dr tc_2_10 (List.Mem.tail _ (List.Mem.tail _ (List.Mem.tail _ (List.Mem.head _))))) rfl) | exact Or.inr (List.mem_filter.mpr ⟨j_t2 (mem_dr tc_2_10 (List.Mem.tail _ (List.Mem.tail _ (List.Mem.tail _ (List.Mem.head _))))), rfl⟩))
  (ex_cons (by first | exact Or.inl (j_n2 (mem_dr tc_2_10 (List.Mem.tail _ (List.Mem.tail _ (List.Mem.tail _ (List.Mem.tail _ (List.Mem.head _)))))) rfl) | exact Or.inr (List.mem_filter.mpr ⟨j_t2 (mem_dr tc_2_10 (List.Mem.tail _ (List.Mem.tail _ (List.Mem.tail _ (List.Mem.tail _ (List.Mem.head _)))))), rfl⟩))
  (ex_cons (by first | exact Or.inl (j_n2 (mem_dr tc_2_10 (List.Mem.tail _ (List.Mem.tail _ (List.Mem.tail _ (List.Mem.tail _ (List.Mem.tail _ (List.Mem.head _))))))) rfl) | exact Or.inr (List.mem_filter.mpr ⟨j_t2 (mem_dr tc_2_10 (List.Mem.tail _ (List.Mem.tail _ (List.Mem.tail _ (List.Mem.tail _ (List.Mem.tail _ (List.Mem.head _))))))), rfl⟩))
  (ex_cons (by first | exact Or.inl (j_n2 (mem_dr tc_2_10 (List.Mem.tail _ (List.Mem.tail _ (List.Mem.tail _ (List.Mem.tail _ (List.Mem.tail _ (List.Mem.tail _ (List.Mem.head _)))))))) rfl) | exact Or.inr (List.mem_filter.mpr ⟨j_t2 (mem_dr tc_2_10 (List.Mem.tail _ (List.Mem.tail _ (List.Mem.tail _ (List.Mem.tail _ (List.Mem.tail _ (List.Mem.tail _ (List.Mem.head _)))))))), rfl⟩))
  (ex_cons (by first | exact Or.inl (j_n2 (mem_dr tc_2_10 (List.Mem.tail _ (List.Mem.tail _ (List.Mem.tail _ (List.Mem.tail _ (List.Mem.tail _ (List.Mem.tail _ (List.Mem.tail _ (List.Mem.head _))))))))) rfl) | exact Or.inr (List.mem_filter.mpr ⟨j_t2 (mem_dr tc_2_10 (List.Mem.tail _ (List.Mem.tail _ (List.Mem.tail _ (List.Mem.tail _ (List.Mem.tail _ (List.Mem.tail _ (List.Mem.tail _ (List.Mem.head _))))))))), rfl⟩))
  (ex_cons (by first | exact Or.inl (j_n2 (mem_dr tc_2_10 (List.Mem.tail _ (List.Mem.tail _ (List.Mem.tail _ (List.Mem.tail _ (List.Mem.tail _ (List.Mem.tail _ (List.Mem.tail _ (List.Mem.tail _ (List.Mem.head _)))))))))) rfl) | exact Or.inr (List.mem_filter.mpr ⟨j_t2 (mem_dr tc_2_10 (List.Mem.tail _ (List.Mem.tail _ (List.Mem.tail _ (List.Mem.tail _ (List.Mem.tail _ (List.Mem.tail _ (List.Mem.tail _ (List.Mem.tail _ (List.Mem.head _)))))))))), rfl⟩))
  (ex_cons (by first | exact Or.inl (j_n2 (mem_dr tc_2_10 (List.Mem.tail _ (List.Mem.tail _ (List.Mem.tail _ (List.Mem.tail _ (List.Mem.tail _ (List.Mem.tail _ (List.Mem.tail _ (List.Mem.tail _ (List.Mem.tail _ (List.Mem.head _))))))))))) rfl) | exact Or.inr (List.mem_filter.mpr ⟨j_t2 (mem_dr tc_2_10 (List.Mem.tail _ (List.Mem.tail _ (List.Mem.tail _ (List.Mem.tail _ (List.Mem.tail _ (List.Mem.tail _ (List.Mem.tail _ (List.Mem.tail _ (List.Mem.tail _ (List.Mem.head _))))))))))), rfl⟩))
  (ex_cons (by first | exact Or.inl (j_n2 (mem_dr tc_2_10 (List.Mem.tail _ (List.Mem.tail _ (List.Mem.tail _ (List.Mem.tail _ (List.Mem.tail _ (List.Mem.tail _ (List.Mem.tail _ (List.Mem.tail _ (List.Mem.tail _ (List.Mem.tail _ (List.Mem.head _)))))))))))) rfl) | exact Or.inr (List.mem_filter.mpr ⟨j_t2 (mem_dr tc_2_10 (List.Mem.tail _ (List.Mem.tail _ (List.Mem.tail _ (List.Mem.tail _ (List.Mem.tail _ (List.Mem.tail _ (List.Mem.tail _ (List.Mem.tail _ (List.Mem.tail _ (List.Mem.tail _ (List.Mem.head _)))))))))))), rfl⟩))
  (ex_cons (by first | exact Or.inl (j_n2 (mem_dr tc_2_10 (List.Mem.tail _ (List.Mem.tail _ (List.Mem.tail _ (List.Mem.tail _ (List.Mem.tail _ (List.Mem.tail _ (List.Mem.tail _ (List.Mem.tail _ (List.Mem.tail _ (List.Mem.tail _ (List.Mem.tail _ (List.Mem.head _))))))))))))) rfl) | exact Or.inr (List.mem_filter.mpr ⟨j_t2 (mem_dr tc_2_10 (List.Mem.tail _ (List.Mem.tail _ (List.Mem.tail _ (List.Mem.tail _ (List.Mem.tail _ (List.Mem.tail _ (List.Mem.tail _ (List.Mem.tail _ (List.Mem.tail _ (List.Mem.tail _ (List.Mem.tail _ (List.Mem.head _))))))))))))), rfl⟩))
  (ex_cons (by first | exact Or.inl (j_n2 (mem_dr tc_2_11 (List.Mem.head _)) rfl) | exact Or.inr (List.mem_filter.mpr ⟨j_t2 (mem_dr tc_2_11 (List.Mem.head _)), rfl⟩))
  (fun _ h => absurd h List.not_mem_nil))))))))))))))))))))))))))
def exw_1 : List Cond := [((Jvm.Cond.lays "java/lang/Throwable" "java/lang/Throwable" "cause" "Ljava/lang/Throwable;")), ((Jvm.Cond.lays "java/lang/UnsupportedOperationException" "java/lang/Throwable" "stackTrace" "[Ljava/lang/StackTraceElement;")), ((Jvm.Cond.lays "java/lang/Throwable" "java/lang/Throwable" "stackTrace" "[Ljava/lang/StackTraceElement;")), ((Jvm.Cond.lays "java/lang/UnsupportedOperationException" "java/lang/Throwable" "suppressedExceptions" "Ljava/util/List;")), ((Jvm.Cond.lays "java/lang/Throwable" "java/lang/Throwable" "suppressedExceptions" "Ljava/util/List;")), ((Jvm.Cond.lays "java/lang/UnsupportedOperationException" "java/lang/Throwable" "detailMessage" "Ljava/lang/String;")), ((Jvm.Cond.lays "java/lang/Throwable" "java/lang/Throwable" "detailMessage" "Ljava/lang/String;")), ((Jvm.Cond.lays "java/lang/UnsupportedOperationException" "java/lang/Throwable" "backtrace" "Ljava/lang/Object;")), ((Jvm.Cond.lays "java/lang/Throwable" "java/lang/Throwable" "backtrace" "Ljava/lang/Object;")), ((Jvm.Cond.fieldLink "java/lang/Throwable" (198 : Nat) "java/lang/Throwable" "backtrace" "Ljava/lang/Object;")), ((Jvm.Cond.superclass "java/lang/Throwable" "java/lang/Object")), ((Jvm.Cond.instanceMethod ({ cls := "java/lang/Throwable", name := "<init>", desc := "()V" } : Jvm.MethodName))), ((Jvm.Cond.code ({ cls := "java/lang/Throwable", name := "<init>", desc := "()V" } : Jvm.MethodName) prog_31_method_1_code (1 : Nat) (Option.none : Option Jvm.ClassFile.FieldType))), ((Jvm.Cond.methodLink "java/lang/Throwable" (1 : Nat) ({ cls := "java/lang/Object", name := "<init>", desc := "()V" } : Jvm.MethodName))), ((Jvm.Cond.fieldLink "java/lang/Throwable" (13 : Nat) "java/lang/Throwable" "UNASSIGNED_STACK" "[Ljava/lang/StackTraceElement;")), ((Jvm.Cond.fieldLink "java/lang/Throwable" (20 : Nat) "java/lang/Throwable" "SUPPRESSED_SENTINEL" "Ljava/util/List;")), ((Jvm.Cond.methodLink "java/lang/Throwable" (27 : Nat) ({ cls := "java/lang/Throwable", name := "fillInStackTrace", desc := "()Ljava/lang/Throwable;" } : Jvm.MethodName))), ((Jvm.Cond.instanceMethod ({ cls := "java/lang/Throwable", name := "fillInStackTrace", desc := "()Ljava/lang/Throwable;" } : Jvm.MethodName))), ((Jvm.Cond.sameMethod "java/lang/Throwable" "java/lang/Throwable" "fillInStackTrace" "()Ljava/lang/Throwable;")), ((Jvm.Cond.selects "java/lang/ArithmeticException" ({ cls := "java/lang/Throwable", name := "fillInStackTrace", desc := "()Ljava/lang/Throwable;" } : Jvm.MethodName) ({ cls := "java/lang/Throwable", name := "fillInStackTrace", desc := "()Ljava/lang/Throwable;" } : Jvm.MethodName))), ((Jvm.Cond.selects "java/lang/IllegalArgumentException" ({ cls := "java/lang/Throwable", name := "fillInStackTrace", desc := "()Ljava/lang/Throwable;" } : Jvm.MethodName) ({ cls := "java/lang/Throwable", name := "fillInStackTrace", desc := "()Ljava/lang/Throwable;" } : Jvm.MethodName))), ((Jvm.Cond.selects "java/lang/IllegalStateException" ({ cls := "java/lang/Throwable", name := "fillInStackTrace", desc := "()Ljava/lang/Throwable;" } : Jvm.MethodName) ({ cls := "java/lang/Throwable", name := "fillInStackTrace", desc := "()Ljava/lang/Throwable;" } : Jvm.MethodName))), ((Jvm.Cond.selects "java/lang/IndexOutOfBoundsException" ({ cls := "java/lang/Throwable", name := "fillInStackTrace", desc := "()Ljava/lang/Throwable;" } : Jvm.MethodName) ({ cls := "java/lang/Throwable", name := "fillInStackTrace", desc := "()Ljava/lang/Throwable;" } : Jvm.MethodName))), ((Jvm.Cond.selects "java/util/NoSuchElementException" ({ cls := "java/lang/Throwable", name := "fillInStackTrace", desc := "()Ljava/lang/Throwable;" } : Jvm.MethodName) ({ cls := "java/lang/Throwable", name := "fillInStackTrace", desc := "()Ljava/lang/Throwable;" } : Jvm.MethodName))), ((Jvm.Cond.codeSync ({ cls := "java/lang/Throwable", name := "fillInStackTrace", desc := "()Ljava/lang/Throwable;" } : Jvm.MethodName) prog_31_method_18_code (1 : Nat) (Option.some (Jvm.ClassFile.FieldType.object "java/lang/Throwable"))))]
theorem exo_1 : ∀ w ∈ exw_1, w ∈ j_all ∨ w ∈ j_nw :=
  (ex_cons (by first | exact Or.inl (j_n2 (mem_dr tc_2_11 (List.Mem.tail _ (List.Mem.head _))) rfl) | exact Or.inr (List.mem_filter.mpr ⟨j_t2 (mem_dr tc_2_11 (List.Mem.tail _ (List.Mem.head _))), rfl⟩))
  (ex_cons (by first | exact Or.inl (j_n2 (mem_dr tc_2_11 (List.Mem.tail _ (List.Mem.tail _ (List.Mem.head _)))) rfl) | exact Or.inr (List.mem_filter.mpr ⟨j_t2 (mem_dr tc_2_11 (List.Mem.tail _ (List.Mem.tail _ (List.Mem.head _)))), rfl⟩))
  (ex_cons (by first | exact Or.inl (j_n2 (mem_dr tc_2_11 (List.Mem.tail _ (List.Mem.tail _ (List.Mem.tail _ (List.Mem.head _))))) rfl) | exact Or.inr (List.mem_filter.mpr ⟨j_t2 (mem_dr tc_2_11 (List.Mem.tail _ (List.Mem.tail _ (List.Mem.tail _ (List.Mem.head _))))), rfl⟩))
  (ex_cons (by first | exact Or.inl (j_n2 (mem_dr tc_2_11 (List.Mem.tail _ (List.Mem.tail _ (List.Mem.tail _ (List.Mem.tail _ (List.Mem.head _)))))) rfl) | exact Or.inr (List.mem_filter.mpr ⟨j_t2 (mem_dr tc_2_11 (List.Mem.tail _ (List.Mem.tail _ (List.Mem.tail _ (List.Mem.tail _ (List.Mem.head _)))))), rfl⟩))
  (ex_cons (by first | exact Or.inl (j_n2 (mem_dr tc_2_11 (List.Mem.tail _ (List.Mem.tail _ (List.Mem.tail _ (List.Mem.tail _ (List.Mem.tail _ (List.Mem.head _))))))) rfl) | exact Or.inr (List.mem_filter.mpr ⟨j_t2 (mem_dr tc_2_11 (List.Mem.tail _ (List.Mem.tail _ (List.Mem.tail _ (List.Mem.tail _ (List.Mem.tail _ (List.Mem.head _))))))), rfl⟩))
  (ex_cons (by first | exact Or.inl (j_n2 (mem_dr tc_2_11 (List.Mem.tail _ (List.Mem.tail _ (List.Mem.tail _ (List.Mem.tail _ (List.Mem.tail _ (List.Mem.tail _ (List.Mem.head _)))))))) rfl) | exact Or.inr (List.mem_filter.mpr ⟨j_t2 (mem_dr tc_2_11 (List.Mem.tail _ (List.Mem.tail _ (List.Mem.tail _ (List.Mem.tail _ (List.Mem.tail _ (List.Mem.tail _ (List.Mem.head _)))))))), rfl⟩))
  (ex_cons (by first | exact Or.inl (j_n2 (mem_dr tc_2_11 (List.Mem.tail _ (List.Mem.tail _ (List.Mem.tail _ (List.Mem.tail _ (List.Mem.tail _ (List.Mem.tail _ (List.Mem.tail _ (List.Mem.head _))))))))) rfl) | exact Or.inr (List.mem_filter.mpr ⟨j_t2 (mem_dr tc_2_11 (List.Mem.tail _ (List.Mem.tail _ (List.Mem.tail _ (List.Mem.tail _ (List.Mem.tail _ (List.Mem.tail _ (List.Mem.tail _ (List.Mem.head _))))))))), rfl⟩))
  (ex_cons (by first | exact Or.inl (j_n2 (mem_dr tc_2_11 (List.Mem.tail _ (List.Mem.tail _ (List.Mem.tail _ (List.Mem.tail _ (List.Mem.tail _ (List.Mem.tail _ (List.Mem.tail _ (List.Mem.tail _ (List.Mem.head _)))))))))) rfl) | exact Or.inr (List.mem_filter.mpr ⟨j_t2 (mem_dr tc_2_11 (List.Mem.tail _ (List.Mem.tail _ (List.Mem.tail _ (List.Mem.tail _ (List.Mem.tail _ (List.Mem.tail _ (List.Mem.tail _ (List.Mem.tail _ (List.Mem.head _)))))))))), rfl⟩))
  (ex_cons (by first | exact Or.inl (j_n2 (mem_dr tc_2_11 (List.Mem.tail _ (List.Mem.tail _ (List.Mem.tail _ (List.Mem.tail _ (List.Mem.tail _ (List.Mem.tail _ (List.Mem.tail _ (List.Mem.tail _ (List.Mem.tail _ (List.Mem.head _))))))))))) rfl) | exact Or.inr (List.mem_filter.mpr ⟨j_t2 (mem_dr tc_2_11 (List.Mem.tail _ (List.Mem.tail _ (List.Mem.tail _ (List.Mem.tail _ (List.Mem.tail _ (List.Mem.tail _ (List.Mem.tail _ (List.Mem.tail _ (List.Mem.tail _ (List.Mem.head _))))))))))), rfl⟩))
  (ex_cons (by first | exact Or.inl (j_n2 (mem_dr tc_2_11 (List.Mem.tail _ (List.Mem.tail _ (List.Mem.tail _ (List.Mem.tail _ (List.Mem.tail _ (List.Mem.tail _ (List.Mem.tail _ (List.Mem.tail _ (List.Mem.tail _ (List.Mem.tail _ (List.Mem.head _)))))))))))) rfl) | exact Or.inr (List.mem_filter.mpr ⟨j_t2 (mem_dr tc_2_11 (List.Mem.tail _ (List.Mem.tail _ (List.Mem.tail _ (List.Mem.tail _ (List.Mem.tail _ (List.Mem.tail _ (List.Mem.tail _ (List.Mem.tail _ (List.Mem.tail _ (List.Mem.tail _ (List.Mem.head _)))))))))))), rfl⟩))
  (ex_cons (by first | exact Or.inl (j_n2 (mem_dr tc_2_11 (List.Mem.tail _ (List.Mem.tail _ (List.Mem.tail _ (List.Mem.tail _ (List.Mem.tail _ (List.Mem.tail _ (List.Mem.tail _ (List.Mem.tail _ (List.Mem.tail _ (List.Mem.tail _ (List.Mem.tail _ (List.Mem.head _))))))))))))) rfl) | exact Or.inr (List.mem_filter.mpr ⟨j_t2 (mem_dr tc_2_11 (List.Mem.tail _ (List.Mem.tail _ (List.Mem.tail _ (List.Mem.tail _ (List.Mem.tail _ (List.Mem.tail _ (List.Mem.tail _ (List.Mem.tail _ (List.Mem.tail _ (List.Mem.tail _ (List.Mem.tail _ (List.Mem.head _))))))))))))), rfl⟩))
  (ex_cons (by first | exact Or.inl (j_n2 (mem_dr tc_2_12 (List.Mem.head _)) rfl) | exact Or.inr (List.mem_filter.mpr ⟨j_t2 (mem_dr tc_2_12 (List.Mem.head _)), rfl⟩))
  (ex_cons (by first | exact Or.inl (j_n2 (mem_dr tc_2_12 (List.Mem.tail _ (List.Mem.head _))) rfl) | exact Or.inr (List.mem_filter.mpr ⟨j_t2 (mem_dr tc_2_12 (List.Mem.tail _ (List.Mem.head _))), rfl⟩))
  (ex_cons (by first | exact Or.inl (j_n2 (mem_dr tc_2_12 (List.Mem.tail _ (List.Mem.tail _ (List.Mem.head _)))) rfl) | exact Or.inr (List.mem_filter.mpr ⟨j_t2 (mem_dr tc_2_12 (List.Mem.tail _ (List.Mem.tail _ (List.Mem.head _)))), rfl⟩))
  (ex_cons (by first | exact Or.inl (j_n2 (mem_dr tc_2_12 (List.Mem.tail _ (List.Mem.tail _ (List.Mem.tail _ (List.Mem.head _))))) rfl) | exact Or.inr (List.mem_filter.mpr ⟨j_t2 (mem_dr tc_2_12 (List.Mem.tail _ (List.Mem.tail _ (List.Mem.tail _ (List.Mem.head _))))), rfl⟩))
  (ex_cons (by first | exact Or.inl (j_n2 (mem_dr tc_2_12 (List.Mem.tail _ (List.Mem.tail _ (List.Mem.tail _ (List.Mem.tail _ (List.Mem.tail _ (List.Mem.head _))))))) rfl) | exact Or.inr (List.mem_filter.mpr ⟨j_t2 (mem_dr tc_2_12 (List.Mem.tail _ (List.Mem.tail _ (List.Mem.tail _ (List.Mem.tail _ (List.Mem.tail _ (List.Mem.head _))))))), rfl⟩))
  (ex_cons (by first | exact Or.inl (j_n2 (mem_dr tc_2_12 (List.Mem.tail _ (List.Mem.tail _ (List.Mem.tail _ (List.Mem.tail _ (List.Mem.tail _ (List.Mem.tail _ (List.Mem.tail _ (List.Mem.head _))))))))) rfl) | exact Or.inr (List.mem_filter.mpr ⟨j_t2 (mem_dr tc_2_12 (List.Mem.tail _ (List.Mem.tail _ (List.Mem.tail _ (List.Mem.tail _ (List.Mem.tail _ (List.Mem.tail _ (List.Mem.tail _ (List.Mem.head _))))))))), rfl⟩))
  (ex_cons (by first | exact Or.inl (j_n2 (mem_dr tc_2_12 (List.Mem.tail _ (List.Mem.tail _ (List.Mem.tail _ (List.Mem.tail _ (List.Mem.tail _ (List.Mem.tail _ (List.Mem.tail _ (List.Mem.tail _ (List.Mem.head _)))))))))) rfl) | exact Or.inr (List.mem_filter.mpr ⟨j_t2 (mem_dr tc_2_12 (List.Mem.tail _ (List.Mem.tail _ (List.Mem.tail _ (List.Mem.tail _ (List.Mem.tail _ (List.Mem.tail _ (List.Mem.tail _ (List.Mem.tail _ (List.Mem.head _)))))))))), rfl⟩))
  (ex_cons (by first | exact Or.inl (j_n2 (mem_dr tc_2_12 (List.Mem.tail _ (List.Mem.tail _ (List.Mem.tail _ (List.Mem.tail _ (List.Mem.tail _ (List.Mem.tail _ (List.Mem.tail _ (List.Mem.tail _ (List.Mem.tail _ (List.Mem.head _))))))))))) rfl) | exact Or.inr (List.mem_filter.mpr ⟨j_t2 (mem_dr tc_2_12 (List.Mem.tail _ (List.Mem.tail _ (List.Mem.tail _ (List.Mem.tail _ (List.Mem.tail _ (List.Mem.tail _ (List.Mem.tail _ (List.Mem.tail _ (List.Mem.tail _ (List.Mem.head _))))))))))), rfl⟩))
  (ex_cons (by first | exact Or.inl (j_n2 (mem_dr tc_2_12 (List.Mem.tail _ (List.Mem.tail _ (List.Mem.tail _ (List.Mem.tail _ (List.Mem.tail _ (List.Mem.tail _ (List.Mem.tail _ (List.Mem.tail _ (List.Mem.tail _ (List.Mem.tail _ (List.Mem.head _)))))))))))) rfl) | exact Or.inr (List.mem_filter.mpr ⟨j_t2 (mem_dr tc_2_12 (List.Mem.tail _ (List.Mem.tail _ (List.Mem.tail _ (List.Mem.tail _ (List.Mem.tail _ (List.Mem.tail _ (List.Mem.tail _ (List.Mem.tail _ (List.Mem.tail _ (List.Mem.tail _ (List.Mem.head _)))))))))))), rfl⟩))
  (ex_cons (by first | exact Or.inl (j_n2 (mem_dr tc_2_13 (List.Mem.head _)) rfl) | exact Or.inr (List.mem_filter.mpr ⟨j_t2 (mem_dr tc_2_13 (List.Mem.head _)), rfl⟩))
  (ex_cons (by first | exact Or.inl (j_n2 (mem_dr tc_2_13 (List.Mem.tail _ (List.Mem.head _))) rfl) | exact Or.inr (List.mem_filter.mpr ⟨j_t2 (mem_dr tc_2_13 (List.Mem.tail _ (List.Mem.head _))), rfl⟩))
  (ex_cons (by first | exact Or.inl (j_n2 (mem_dr tc_2_13 (List.Mem.tail _ (List.Mem.tail _ (List.Mem.head _)))) rfl) | exact Or.inr (List.mem_filter.mpr ⟨j_t2 (mem_dr tc_2_13 (List.Mem.tail _ (List.Mem.tail _ (List.Mem.head _)))), rfl⟩))
  (ex_cons (by first | exact Or.inl (j_n2 (mem_dr tc_2_13 (List.Mem.tail _ (List.Mem.tail _ (List.Mem.tail _ (List.Mem.tail _ (List.Mem.head _)))))) rfl) | exact Or.inr (List.mem_filter.mpr ⟨j_t2 (mem_dr tc_2_13 (List.Mem.tail _ (List.Mem.tail _ (List.Mem.tail _ (List.Mem.tail _ (List.Mem.head _)))))), rfl⟩))
  (ex_cons (by first | exact Or.inl (j_n2 (mem_dr tc_2_13 (List.Mem.tail _ (List.Mem.tail _ (List.Mem.tail _ (List.Mem.tail _ (List.Mem.tail _ (List.Mem.head _))))))) rfl) | exact Or.inr (List.mem_filter.mpr ⟨j_t2 (mem_dr tc_2_13 (List.Mem.tail _ (List.Mem.tail _ (List.Mem.tail _ (List.Mem.tail _ (List.Mem.tail _ (List.Mem.head _))))))), rfl⟩))
  (fun _ h => absurd h List.not_mem_nil))))))))))))))))))))))))))
def exw_2 : List Cond := [((Jvm.Cond.methodLink "java/lang/Throwable" (202 : Nat) ({ cls := "java/lang/Throwable", name := "fillInStackTrace", desc := "(I)Ljava/lang/Throwable;" } : Jvm.MethodName))), ((Jvm.Cond.instanceMethod ({ cls := "java/lang/Throwable", name := "fillInStackTrace", desc := "(I)Ljava/lang/Throwable;" } : Jvm.MethodName))), (Cond.instantiable "java/lang/Throwable" 6), ((Jvm.Cond.native ({ cls := "java/lang/Throwable", name := "fillInStackTrace", desc := "(I)Ljava/lang/Throwable;" } : Jvm.MethodName))), (Cond.methodLink "LeagueTables" 70 (⟨"java/lang/UnsupportedOperationException", "<init>", "(Ljava/lang/String;)V"⟩ : MethodName)), ((Jvm.Cond.instanceMethod ({ cls := "java/lang/UnsupportedOperationException", name := "<init>", desc := "(Ljava/lang/String;)V" } : Jvm.MethodName))), ((Jvm.Cond.code ({ cls := "java/lang/UnsupportedOperationException", name := "<init>", desc := "(Ljava/lang/String;)V" } : Jvm.MethodName) prog_32_method_2_code (2 : Nat) (Option.none : Option Jvm.ClassFile.FieldType))), ((Jvm.Cond.methodLink "java/lang/UnsupportedOperationException" (7 : Nat) ({ cls := "java/lang/RuntimeException", name := "<init>", desc := "(Ljava/lang/String;)V" } : Jvm.MethodName))), ((Jvm.Cond.instanceMethod ({ cls := "java/lang/RuntimeException", name := "<init>", desc := "(Ljava/lang/String;)V" } : Jvm.MethodName))), ((Jvm.Cond.code ({ cls := "java/lang/RuntimeException", name := "<init>", desc := "(Ljava/lang/String;)V" } : Jvm.MethodName) prog_24_method_2_code (2 : Nat) (Option.none : Option Jvm.ClassFile.FieldType))), ((Jvm.Cond.methodLink "java/lang/RuntimeException" (7 : Nat) ({ cls := "java/lang/Exception", name := "<init>", desc := "(Ljava/lang/String;)V" } : Jvm.MethodName))), ((Jvm.Cond.instanceMethod ({ cls := "java/lang/Exception", name := "<init>", desc := "(Ljava/lang/String;)V" } : Jvm.MethodName))), ((Jvm.Cond.code ({ cls := "java/lang/Exception", name := "<init>", desc := "(Ljava/lang/String;)V" } : Jvm.MethodName) prog_17_method_2_code (2 : Nat) (Option.none : Option Jvm.ClassFile.FieldType))), ((Jvm.Cond.methodLink "java/lang/Exception" (7 : Nat) ({ cls := "java/lang/Throwable", name := "<init>", desc := "(Ljava/lang/String;)V" } : Jvm.MethodName))), ((Jvm.Cond.instanceMethod ({ cls := "java/lang/Throwable", name := "<init>", desc := "(Ljava/lang/String;)V" } : Jvm.MethodName))), ((Jvm.Cond.code ({ cls := "java/lang/Throwable", name := "<init>", desc := "(Ljava/lang/String;)V" } : Jvm.MethodName) prog_31_method_2_code (2 : Nat) (Option.none : Option Jvm.ClassFile.FieldType))), ((Jvm.Cond.fieldLink "java/lang/Throwable" (31 : Nat) "java/lang/Throwable" "detailMessage" "Ljava/lang/String;")), ((Jvm.Cond.fieldLink "java/lang/Throwable" (7 : Nat) "java/lang/Throwable" "cause" "Ljava/lang/Throwable;")), ((Jvm.Cond.fieldLink "java/lang/Throwable" (17 : Nat) "java/lang/Throwable" "stackTrace" "[Ljava/lang/StackTraceElement;")), ((Jvm.Cond.fieldLink "java/lang/Throwable" (24 : Nat) "java/lang/Throwable" "suppressedExceptions" "Ljava/util/List;")), ((Jvm.Cond.soleField "java/lang/Throwable" "backtrace")), ((Jvm.Cond.soleField "java/lang/Throwable" "detailMessage")), ((Jvm.Cond.soleField "java/lang/Throwable" "cause")), ((Jvm.Cond.soleField "java/lang/Throwable" "stackTrace")), ((Jvm.Cond.lays "java/lang/UnsupportedOperationException" "java/lang/Throwable" "depth" "I"))]
theorem exo_2 : ∀ w ∈ exw_2, w ∈ j_all ∨ w ∈ j_nw :=
  (ex_cons (by first | exact Or.inl (j_n2 (mem_dr tc_2_13 (List.Mem.tail _ (List.Mem.tail _ (List.Mem.tail _ (List.Mem.tail _ (List.Mem.tail _ (List.Mem.tail _ (List.Mem.head _)))))))) rfl) | exact Or.inr (List.mem_filter.mpr ⟨j_t2 (mem_dr tc_2_13 (List.Mem.tail _ (List.Mem.tail _ (List.Mem.tail _ (List.Mem.tail _ (List.Mem.tail _ (List.Mem.tail _ (List.Mem.head _)))))))), rfl⟩))
  (ex_cons (by first | exact Or.inl (j_n2 (mem_dr tc_2_13 (List.Mem.tail _ (List.Mem.tail _ (List.Mem.tail _ (List.Mem.tail _ (List.Mem.tail _ (List.Mem.tail _ (List.Mem.tail _ (List.Mem.tail _ (List.Mem.head _)))))))))) rfl) | exact Or.inr (List.mem_filter.mpr ⟨j_t2 (mem_dr tc_2_13 (List.Mem.tail _ (List.Mem.tail _ (List.Mem.tail _ (List.Mem.tail _ (List.Mem.tail _ (List.Mem.tail _ (List.Mem.tail _ (List.Mem.tail _ (List.Mem.head _)))))))))), rfl⟩))
  (ex_cons (by first | exact Or.inl (j_n2 (mem_dr tc_2_13 (List.Mem.tail _ (List.Mem.tail _ (List.Mem.tail _ (List.Mem.tail _ (List.Mem.tail _ (List.Mem.tail _ (List.Mem.tail _ (List.Mem.tail _ (List.Mem.tail _ (List.Mem.head _))))))))))) rfl) | exact Or.inr (List.mem_filter.mpr ⟨j_t2 (mem_dr tc_2_13 (List.Mem.tail _ (List.Mem.tail _ (List.Mem.tail _ (List.Mem.tail _ (List.Mem.tail _ (List.Mem.tail _ (List.Mem.tail _ (List.Mem.tail _ (List.Mem.tail _ (List.Mem.head _))))))))))), rfl⟩))
  (ex_cons (by first | exact Or.inl (j_n2 (mem_dr tc_2_13 (List.Mem.tail _ (List.Mem.tail _ (List.Mem.tail _ (List.Mem.tail _ (List.Mem.tail _ (List.Mem.tail _ (List.Mem.tail _ (List.Mem.tail _ (List.Mem.tail _ (List.Mem.tail _ (List.Mem.head _)))))))))))) rfl) | exact Or.inr (List.mem_filter.mpr ⟨j_t2 (mem_dr tc_2_13 (List.Mem.tail _ (List.Mem.tail _ (List.Mem.tail _ (List.Mem.tail _ (List.Mem.tail _ (List.Mem.tail _ (List.Mem.tail _ (List.Mem.tail _ (List.Mem.tail _ (List.Mem.tail _ (List.Mem.head _)))))))))))), rfl⟩))
  (ex_cons (by first | exact Or.inl (j_n2 (mem_dr tc_2_14 (List.Mem.head _)) rfl) | exact Or.inr (List.mem_filter.mpr ⟨j_t2 (mem_dr tc_2_14 (List.Mem.head _)), rfl⟩))
  (ex_cons (by first | exact Or.inl (j_n2 (mem_dr tc_2_14 (List.Mem.tail _ (List.Mem.head _))) rfl) | exact Or.inr (List.mem_filter.mpr ⟨j_t2 (mem_dr tc_2_14 (List.Mem.tail _ (List.Mem.head _))), rfl⟩))
  (ex_cons (by first | exact Or.inl (j_n2 (mem_dr tc_2_14 (List.Mem.tail _ (List.Mem.tail _ (List.Mem.head _)))) rfl) | exact Or.inr (List.mem_filter.mpr ⟨j_t2 (mem_dr tc_2_14 (List.Mem.tail _ (List.Mem.tail _ (List.Mem.head _)))), rfl⟩))
  (ex_cons (by first | exact Or.inl (j_n2 (mem_dr tc_2_14 (List.Mem.tail _ (List.Mem.tail _ (List.Mem.tail _ (List.Mem.head _))))) rfl) | exact Or.inr (List.mem_filter.mpr ⟨j_t2 (mem_dr tc_2_14 (List.Mem.tail _ (List.Mem.tail _ (List.Mem.tail _ (List.Mem.head _))))), rfl⟩))
  (ex_cons (by first | exact Or.inl (j_n2 (mem_dr tc_2_14 (List.Mem.tail _ (List.Mem.tail _ (List.Mem.tail _ (List.Mem.tail _ (List.Mem.head _)))))) rfl) | exact Or.inr (List.mem_filter.mpr ⟨j_t2 (mem_dr tc_2_14 (List.Mem.tail _ (List.Mem.tail _ (List.Mem.tail _ (List.Mem.tail _ (List.Mem.head _)))))), rfl⟩))
  (ex_cons (by first | exact Or.inl (j_n2 (mem_dr tc_2_14 (List.Mem.tail _ (List.Mem.tail _ (List.Mem.tail _ (List.Mem.tail _ (List.Mem.tail _ (List.Mem.head _))))))) rfl) | exact Or.inr (List.mem_filter.mpr ⟨j_t2 (mem_dr tc_2_14 (List.Mem.tail _ (List.Mem.tail _ (List.Mem.tail _ (List.Mem.tail _ (List.Mem.tail _ (List.Mem.head _))))))), rfl⟩))
  (ex_cons (by first | exact Or.inl (j_n2 (mem_dr tc_2_14 (List.Mem.tail _ (List.Mem.tail _ (List.Mem.tail _ (List.Mem.tail _ (List.Mem.tail _ (List.Mem.tail _ (List.Mem.head _)))))))) rfl) | exact Or.inr (List.mem_filter.mpr ⟨j_t2 (mem_dr tc_2_14 (List.Mem.tail _ (List.Mem.tail _ (List.Mem.tail _ (List.Mem.tail _ (List.Mem.tail _ (List.Mem.tail _ (List.Mem.head _)))))))), rfl⟩))
  (ex_cons (by first | exact Or.inl (j_n2 (mem_dr tc_2_14 (List.Mem.tail _ (List.Mem.tail _ (List.Mem.tail _ (List.Mem.tail _ (List.Mem.tail _ (List.Mem.tail _ (List.Mem.tail _ (List.Mem.head _))))))))) rfl) | exact Or.inr (List.mem_filter.mpr ⟨j_t2 (mem_dr tc_2_14 (List.Mem.tail _ (List.Mem.tail _ (List.Mem.tail _ (List.Mem.tail _ (List.Mem.tail _ (List.Mem.tail _ (List.Mem.tail _ (List.Mem.head _))))))))), rfl⟩))
  (ex_cons (by first | exact Or.inl (j_n2 (mem_dr tc_2_14 (List.Mem.tail _ (List.Mem.tail _ (List.Mem.tail _ (List.Mem.tail _ (List.Mem.tail _ (List.Mem.tail _ (List.Mem.tail _ (List.Mem.tail _ (List.Mem.head _)))))))))) rfl) | exact Or.inr (List.mem_filter.mpr ⟨j_t2 (mem_dr tc_2_14 (List.Mem.tail _ (List.Mem.tail _ (List.Mem.tail _ (List.Mem.tail _ (List.Mem.tail _ (List.Mem.tail _ (List.Mem.tail _ (List.Mem.tail _ (List.Mem.head _)))))))))), rfl⟩))
  (ex_cons (by first | exact Or.inl (j_n2 (mem_dr tc_2_14 (List.Mem.tail _ (List.Mem.tail _ (List.Mem.tail _ (List.Mem.tail _ (List.Mem.tail _ (List.Mem.tail _ (List.Mem.tail _ (List.Mem.tail _ (List.Mem.tail _ (List.Mem.head _))))))))))) rfl) | exact Or.inr (List.mem_filter.mpr ⟨j_t2 (mem_dr tc_2_14 (List.Mem.tail _ (List.Mem.tail _ (List.Mem.tail _ (List.Mem.tail _ (List.Mem.tail _ (List.Mem.tail _ (List.Mem.tail _ (List.Mem.tail _ (List.Mem.tail _ (List.Mem.head _))))))))))), rfl⟩))
  (ex_cons (by first | exact Or.inl (j_n2 (mem_dr tc_2_14 (List.Mem.tail _ (List.Mem.tail _ (List.Mem.tail _ (List.Mem.tail _ (List.Mem.tail _ (List.Mem.tail _ (List.Mem.tail _ (List.Mem.tail _ (List.Mem.tail _ (List.Mem.tail _ (List.Mem.head _)))))))))))) rfl) | exact Or.inr (List.mem_filter.mpr ⟨j_t2 (mem_dr tc_2_14 (List.Mem.tail _ (List.Mem.tail _ (List.Mem.tail _ (List.Mem.tail _ (List.Mem.tail _ (List.Mem.tail _ (List.Mem.tail _ (List.Mem.tail _ (List.Mem.tail _ (List.Mem.tail _ (List.Mem.head _)))))))))))), rfl⟩))
  (ex_cons (by first | exact Or.inl (j_n2 (mem_dr tc_2_14 (List.Mem.tail _ (List.Mem.tail _ (List.Mem.tail _ (List.Mem.tail _ (List.Mem.tail _ (List.Mem.tail _ (List.Mem.tail _ (List.Mem.tail _ (List.Mem.tail _ (List.Mem.tail _ (List.Mem.tail _ (List.Mem.head _))))))))))))) rfl) | exact Or.inr (List.mem_filter.mpr ⟨j_t2 (mem_dr tc_2_14 (List.Mem.tail _ (List.Mem.tail _ (List.Mem.tail _ (List.Mem.tail _ (List.Mem.tail _ (List.Mem.tail _ (List.Mem.tail _ (List.Mem.tail _ (List.Mem.tail _ (List.Mem.tail _ (List.Mem.tail _ (List.Mem.head _))))))))))))), rfl⟩))
  (ex_cons (by first | exact Or.inl (j_n2 (mem_dr tc_2_15 (List.Mem.tail _ (List.Mem.head _))) rfl) | exact Or.inr (List.mem_filter.mpr ⟨j_t2 (mem_dr tc_2_15 (List.Mem.tail _ (List.Mem.head _))), rfl⟩))
  (ex_cons (by first | exact Or.inl (j_n2 (mem_dr tc_2_15 (List.Mem.tail _ (List.Mem.tail _ (List.Mem.head _)))) rfl) | exact Or.inr (List.mem_filter.mpr ⟨j_t2 (mem_dr tc_2_15 (List.Mem.tail _ (List.Mem.tail _ (List.Mem.head _)))), rfl⟩))
  (ex_cons (by first | exact Or.inl (j_n2 (mem_dr tc_2_15 (List.Mem.tail _ (List.Mem.tail _ (List.Mem.tail _ (List.Mem.head _))))) rfl) | exact Or.inr (List.mem_filter.mpr ⟨j_t2 (mem_dr tc_2_15 (List.Mem.tail _ (List.Mem.tail _ (List.Mem.tail _ (List.Mem.head _))))), rfl⟩))
  (ex_cons (by first | exact Or.inl (j_n2 (mem_dr tc_2_15 (List.Mem.tail _ (List.Mem.tail _ (List.Mem.tail _ (List.Mem.tail _ (List.Mem.head _)))))) rfl) | exact Or.inr (List.mem_filter.mpr ⟨j_t2 (mem_dr tc_2_15 (List.Mem.tail _ (List.Mem.tail _ (List.Mem.tail _ (List.Mem.tail _ (List.Mem.head _)))))), rfl⟩))
  (ex_cons (by first | exact Or.inl (j_n2 (mem_dr tc_2_15 (List.Mem.tail _ (List.Mem.tail _ (List.Mem.tail _ (List.Mem.tail _ (List.Mem.tail _ (List.Mem.head _))))))) rfl) | exact Or.inr (List.mem_filter.mpr ⟨j_t2 (mem_dr tc_2_15 (List.Mem.tail _ (List.Mem.tail _ (List.Mem.tail _ (List.Mem.tail _ (List.Mem.tail _ (List.Mem.head _))))))), rfl⟩))
  (ex_cons (by first | exact Or.inl (j_n2 (mem_dr tc_2_15 (List.Mem.tail _ (List.Mem.tail _ (List.Mem.tail _ (List.Mem.tail _ (List.Mem.tail _ (List.Mem.tail _ (List.Mem.head _)))))))) rfl) | exact Or.inr (List.mem_filter.mpr ⟨j_t2 (mem_dr tc_2_15 (List.Mem.tail _ (List.Mem.tail _ (List.Mem.tail _ (List.Mem.tail _ (List.Mem.tail _ (List.Mem.tail _ (List.Mem.head _)))))))), rfl⟩))
  (ex_cons (by first | exact Or.inl (j_n2 (mem_dr tc_2_15 (List.Mem.tail _ (List.Mem.tail _ (List.Mem.tail _ (List.Mem.tail _ (List.Mem.tail _ (List.Mem.tail _ (List.Mem.tail _ (List.Mem.head _))))))))) rfl) | exact Or.inr (List.mem_filter.mpr ⟨j_t2 (mem_dr tc_2_15 (List.Mem.tail _ (List.Mem.tail _ (List.Mem.tail _ (List.Mem.tail _ (List.Mem.tail _ (List.Mem.tail _ (List.Mem.tail _ (List.Mem.head _))))))))), rfl⟩))
  (ex_cons (by first | exact Or.inl (j_n2 (mem_dr tc_2_15 (List.Mem.tail _ (List.Mem.tail _ (List.Mem.tail _ (List.Mem.tail _ (List.Mem.tail _ (List.Mem.tail _ (List.Mem.tail _ (List.Mem.tail _ (List.Mem.head _)))))))))) rfl) | exact Or.inr (List.mem_filter.mpr ⟨j_t2 (mem_dr tc_2_15 (List.Mem.tail _ (List.Mem.tail _ (List.Mem.tail _ (List.Mem.tail _ (List.Mem.tail _ (List.Mem.tail _ (List.Mem.tail _ (List.Mem.tail _ (List.Mem.head _)))))))))), rfl⟩))
  (ex_cons (by first | exact Or.inl (j_n2 (mem_dr tc_2_15 (List.Mem.tail _ (List.Mem.tail _ (List.Mem.tail _ (List.Mem.tail _ (List.Mem.tail _ (List.Mem.tail _ (List.Mem.tail _ (List.Mem.tail _ (List.Mem.tail _ (List.Mem.head _))))))))))) rfl) | exact Or.inr (List.mem_filter.mpr ⟨j_t2 (mem_dr tc_2_15 (List.Mem.tail _ (List.Mem.tail _ (List.Mem.tail _ (List.Mem.tail _ (List.Mem.tail _ (List.Mem.tail _ (List.Mem.tail _ (List.Mem.tail _ (List.Mem.tail _ (List.Mem.head _))))))))))), rfl⟩))
  (fun _ h => absurd h List.not_mem_nil))))))))))))))))))))))))))
def exw_3 : List Cond := [((Jvm.Cond.soleField "java/lang/Throwable" "depth")), ((Jvm.Cond.soleField "java/lang/Throwable" "suppressedExceptions")), ((Jvm.Cond.superclass "java/lang/UnsupportedOperationException" "java/lang/RuntimeException")), (Cond.classLink "LeagueTablesLaw" 45 "java/lang/IndexOutOfBoundsException"), ((Jvm.Cond.instanceMethod ({ cls := "java/lang/IndexOutOfBoundsException", name := "<init>", desc := "(Ljava/lang/String;)V" } : Jvm.MethodName))), ((Jvm.Cond.code ({ cls := "java/lang/IndexOutOfBoundsException", name := "<init>", desc := "(Ljava/lang/String;)V" } : Jvm.MethodName) prog_20_method_2_code (2 : Nat) (Option.none : Option Jvm.ClassFile.FieldType))), ((Jvm.Cond.methodLink "java/lang/IndexOutOfBoundsException" (7 : Nat) ({ cls := "java/lang/RuntimeException", name := "<init>", desc := "(Ljava/lang/String;)V" } : Jvm.MethodName))), ((Jvm.Cond.declares ({ cls := "java/lang/IndexOutOfBoundsException", name := "<init>", desc := "()V" } : Jvm.MethodName))), ((Jvm.Cond.declares ({ cls := "java/lang/IndexOutOfBoundsException", name := "<init>", desc := "(Ljava/lang/String;)V" } : Jvm.MethodName))), (Cond.classLink "LeagueTablesLaw" 47 "java/lang/IllegalArgumentException"), (Cond.classLink "LeagueTables" 177 "java/lang/IndexOutOfBoundsException"), (Cond.instantiable "java/lang/IndexOutOfBoundsException" 6), ((Jvm.Cond.castable "java/lang/IndexOutOfBoundsException" "java/lang/IndexOutOfBoundsException")), ((Jvm.Cond.selects "java/lang/IndexOutOfBoundsException" ({ cls := "java/lang/Throwable", name := "fillInStackTrace", desc := "(I)Ljava/lang/Throwable;" } : Jvm.MethodName) ({ cls := "java/lang/Throwable", name := "fillInStackTrace", desc := "(I)Ljava/lang/Throwable;" } : Jvm.MethodName))), ((Jvm.Cond.lays "java/lang/IndexOutOfBoundsException" "java/lang/Throwable" "cause" "Ljava/lang/Throwable;")), ((Jvm.Cond.lays "java/lang/IndexOutOfBoundsException" "java/lang/Throwable" "stackTrace" "[Ljava/lang/StackTraceElement;")), ((Jvm.Cond.lays "java/lang/IndexOutOfBoundsException" "java/lang/Throwable" "suppressedExceptions" "Ljava/util/List;")), ((Jvm.Cond.lays "java/lang/IndexOutOfBoundsException" "java/lang/Throwable" "detailMessage" "Ljava/lang/String;")), ((Jvm.Cond.lays "java/lang/IndexOutOfBoundsException" "java/lang/Throwable" "backtrace" "Ljava/lang/Object;")), (Cond.methodLink "LeagueTables" 181 (⟨"java/lang/IndexOutOfBoundsException", "<init>", "(Ljava/lang/String;)V"⟩ : MethodName)), ((Jvm.Cond.lays "java/lang/IndexOutOfBoundsException" "java/lang/Throwable" "depth" "I")), ((Jvm.Cond.superclass "java/lang/IndexOutOfBoundsException" "java/lang/RuntimeException")), (Cond.classLink "LeagueTables" 182 "java/lang/IllegalArgumentException"), (Cond.instantiable "java/lang/IllegalArgumentException" 6), ((Jvm.Cond.castable "java/lang/IllegalArgumentException" "java/lang/IllegalArgumentException"))]
theorem exo_3 : ∀ w ∈ exw_3, w ∈ j_all ∨ w ∈ j_nw :=
  (ex_cons (by first | exact Or.inl (j_n2 (mem_dr tc_2_15 (List.Mem.tail _ (List.Mem.tail _ (List.Mem.tail _ (List.Mem.tail _ (List.Mem.tail _ (List.Mem.tail _ (List.Mem.tail _ (List.Mem.tail _ (List.Mem.tail _ (List.Mem.tail _ (List.Mem.head _)))))))))))) rfl) | exact Or.inr (List.mem_filter.mpr ⟨j_t2 (mem_dr tc_2_15 (List.Mem.tail _ (List.Mem.tail _ (List.Mem.tail _ (List.Mem.tail _ (List.Mem.tail _ (List.Mem.tail _ (List.Mem.tail _ (List.Mem.tail _ (List.Mem.tail _ (List.Mem.tail _ (List.Mem.head _)))))))))))), rfl⟩))
  (ex_cons (by first | exact Or.inl (j_n2 (mem_dr tc_2_15 (List.Mem.tail _ (List.Mem.tail _ (List.Mem.tail _ (List.Mem.tail _ (List.Mem.tail _ (List.Mem.tail _ (List.Mem.tail _ (List.Mem.tail _ (List.Mem.tail _ (List.Mem.tail _ (List.Mem.tail _ (List.Mem.head _))))))))))))) rfl) | exact Or.inr (List.mem_filter.mpr ⟨j_t2 (mem_dr tc_2_15 (List.Mem.tail _ (List.Mem.tail _ (List.Mem.tail _ (List.Mem.tail _ (List.Mem.tail _ (List.Mem.tail _ (List.Mem.tail _ (List.Mem.tail _ (List.Mem.tail _ (List.Mem.tail _ (List.Mem.tail _ (List.Mem.head _))))))))))))), rfl⟩))
  (ex_cons (by first | exact Or.inl (j_n2 (mem_dr tc_2_16 (List.Mem.head _)) rfl) | exact Or.inr (List.mem_filter.mpr ⟨j_t2 (mem_dr tc_2_16 (List.Mem.head _)), rfl⟩))
  (ex_cons (by first | exact Or.inl (j_n3 (mem_dr tc_3_16 (List.Mem.tail _ (List.Mem.tail _ (List.Mem.tail _ (List.Mem.tail _ (List.Mem.tail _ (List.Mem.tail _ (List.Mem.tail _ (List.Mem.tail _ (List.Mem.tail _ (List.Mem.tail _ (List.Mem.tail _ (List.Mem.head _))))))))))))) rfl) | exact Or.inr (List.mem_filter.mpr ⟨j_t3 (mem_dr tc_3_16 (List.Mem.tail _ (List.Mem.tail _ (List.Mem.tail _ (List.Mem.tail _ (List.Mem.tail _ (List.Mem.tail _ (List.Mem.tail _ (List.Mem.tail _ (List.Mem.tail _ (List.Mem.tail _ (List.Mem.tail _ (List.Mem.head _))))))))))))), rfl⟩))
  (ex_cons (by first | exact Or.inl (j_n3 (mem_dr tc_3_17 (List.Mem.tail _ (List.Mem.tail _ (List.Mem.tail _ (List.Mem.tail _ (List.Mem.head _)))))) rfl) | exact Or.inr (List.mem_filter.mpr ⟨j_t3 (mem_dr tc_3_17 (List.Mem.tail _ (List.Mem.tail _ (List.Mem.tail _ (List.Mem.tail _ (List.Mem.head _)))))), rfl⟩))
  (ex_cons (by first | exact Or.inl (j_n3 (mem_dr tc_3_17 (List.Mem.tail _ (List.Mem.tail _ (List.Mem.tail _ (List.Mem.tail _ (List.Mem.tail _ (List.Mem.head _))))))) rfl) | exact Or.inr (List.mem_filter.mpr ⟨j_t3 (mem_dr tc_3_17 (List.Mem.tail _ (List.Mem.tail _ (List.Mem.tail _ (List.Mem.tail _ (List.Mem.tail _ (List.Mem.head _))))))), rfl⟩))
  (ex_cons (by first | exact Or.inl (j_n3 (mem_dr tc_3_17 (List.Mem.tail _ (List.Mem.tail _ (List.Mem.tail _ (List.Mem.tail _ (List.Mem.tail _ (List.Mem.tail _ (List.Mem.head _)))))))) rfl) | exact Or.inr (List.mem_filter.mpr ⟨j_t3 (mem_dr tc_3_17 (List.Mem.tail _ (List.Mem.tail _ (List.Mem.tail _ (List.Mem.tail _ (List.Mem.tail _ (List.Mem.tail _ (List.Mem.head _)))))))), rfl⟩))
  (ex_cons (by first | exact Or.inl (j_n3 (mem_dr tc_3_18 (List.Mem.tail _ (List.Mem.tail _ (List.Mem.tail _ (List.Mem.head _))))) rfl) | exact Or.inr (List.mem_filter.mpr ⟨j_t3 (mem_dr tc_3_18 (List.Mem.tail _ (List.Mem.tail _ (List.Mem.tail _ (List.Mem.head _))))), rfl⟩))
  (ex_cons (by first | exact Or.inl (j_n3 (mem_dr tc_3_18 (List.Mem.tail _ (List.Mem.tail _ (List.Mem.tail _ (List.Mem.tail _ (List.Mem.head _)))))) rfl) | exact Or.inr (List.mem_filter.mpr ⟨j_t3 (mem_dr tc_3_18 (List.Mem.tail _ (List.Mem.tail _ (List.Mem.tail _ (List.Mem.tail _ (List.Mem.head _)))))), rfl⟩))
  (ex_cons (by first | exact Or.inl (j_n3 (mem_dr tc_3_18 (List.Mem.tail _ (List.Mem.tail _ (List.Mem.tail _ (List.Mem.tail _ (List.Mem.tail _ (List.Mem.tail _ (List.Mem.tail _ (List.Mem.tail _ (List.Mem.tail _ (List.Mem.tail _ (List.Mem.tail _ (List.Mem.head _))))))))))))) rfl) | exact Or.inr (List.mem_filter.mpr ⟨j_t3 (mem_dr tc_3_18 (List.Mem.tail _ (List.Mem.tail _ (List.Mem.tail _ (List.Mem.tail _ (List.Mem.tail _ (List.Mem.tail _ (List.Mem.tail _ (List.Mem.tail _ (List.Mem.tail _ (List.Mem.tail _ (List.Mem.tail _ (List.Mem.head _))))))))))))), rfl⟩))
  (ex_cons (by first | exact Or.inl (j_n3 (mem_dr tc_3_19 (List.Mem.tail _ (List.Mem.tail _ (List.Mem.tail _ (List.Mem.tail _ (List.Mem.head _)))))) rfl) | exact Or.inr (List.mem_filter.mpr ⟨j_t3 (mem_dr tc_3_19 (List.Mem.tail _ (List.Mem.tail _ (List.Mem.tail _ (List.Mem.tail _ (List.Mem.head _)))))), rfl⟩))
  (ex_cons (by first | exact Or.inl (j_n3 (mem_dr tc_3_19 (List.Mem.tail _ (List.Mem.tail _ (List.Mem.tail _ (List.Mem.tail _ (List.Mem.tail _ (List.Mem.head _))))))) rfl) | exact Or.inr (List.mem_filter.mpr ⟨j_t3 (mem_dr tc_3_19 (List.Mem.tail _ (List.Mem.tail _ (List.Mem.tail _ (List.Mem.tail _ (List.Mem.tail _ (List.Mem.head _))))))), rfl⟩))
  (ex_cons (by first | exact Or.inl (j_n3 (mem_dr tc_3_19 (List.Mem.tail _ (List.Mem.tail _ (List.Mem.tail _ (List.Mem.tail _ (List.Mem.tail _ (List.Mem.tail _ (List.Mem.head _)))))))) rfl) | exact Or.inr (List.mem_filter.mpr ⟨j_t3 (mem_dr tc_3_19 (List.Mem.tail _ (List.Mem.tail _ (List.Mem.tail _ (List.Mem.tail _ (List.Mem.tail _ (List.Mem.tail _ (List.Mem.head _)))))))), rfl⟩))
  (ex_cons (by first | exact Or.inl (j_n3 (mem_dr tc_3_19 (List.Mem.tail _ (List.Mem.tail _ (List.Mem.tail _ (List.Mem.tail _ (List.Mem.tail _ (List.Mem.tail _ (List.Mem.tail _ (List.Mem.head _))))))))) rfl) | exact Or.inr (List.mem_filter.mpr ⟨j_t3 (mem_dr tc_3_19 (List.Mem.tail _ (List.Mem.tail _ (List.Mem.tail _ (List.Mem.tail _ (List.Mem.tail _ (List.Mem.tail _ (List.Mem.tail _ (List.Mem.head _))))))))), rfl⟩))
  (ex_cons (by first | exact Or.inl (j_n3 (mem_dr tc_3_19 (List.Mem.tail _ (List.Mem.tail _ (List.Mem.tail _ (List.Mem.tail _ (List.Mem.tail _ (List.Mem.tail _ (List.Mem.tail _ (List.Mem.tail _ (List.Mem.head _)))))))))) rfl) | exact Or.inr (List.mem_filter.mpr ⟨j_t3 (mem_dr tc_3_19 (List.Mem.tail _ (List.Mem.tail _ (List.Mem.tail _ (List.Mem.tail _ (List.Mem.tail _ (List.Mem.tail _ (List.Mem.tail _ (List.Mem.tail _ (List.Mem.head _)))))))))), rfl⟩))
  (ex_cons (by first | exact Or.inl (j_n3 (mem_dr tc_3_19 (List.Mem.tail _ (List.Mem.tail _ (List.Mem.tail _ (List.Mem.tail _ (List.Mem.tail _ (List.Mem.tail _ (List.Mem.tail _ (List.Mem.tail _ (List.Mem.tail _ (List.Mem.head _))))))))))) rfl) | exact Or.inr (List.mem_filter.mpr ⟨j_t3 (mem_dr tc_3_19 (List.Mem.tail _ (List.Mem.tail _ (List.Mem.tail _ (List.Mem.tail _ (List.Mem.tail _ (List.Mem.tail _ (List.Mem.tail _ (List.Mem.tail _ (List.Mem.tail _ (List.Mem.head _))))))))))), rfl⟩))
  (ex_cons (by first | exact Or.inl (j_n3 (mem_dr tc_3_19 (List.Mem.tail _ (List.Mem.tail _ (List.Mem.tail _ (List.Mem.tail _ (List.Mem.tail _ (List.Mem.tail _ (List.Mem.tail _ (List.Mem.tail _ (List.Mem.tail _ (List.Mem.tail _ (List.Mem.head _)))))))))))) rfl) | exact Or.inr (List.mem_filter.mpr ⟨j_t3 (mem_dr tc_3_19 (List.Mem.tail _ (List.Mem.tail _ (List.Mem.tail _ (List.Mem.tail _ (List.Mem.tail _ (List.Mem.tail _ (List.Mem.tail _ (List.Mem.tail _ (List.Mem.tail _ (List.Mem.tail _ (List.Mem.head _)))))))))))), rfl⟩))
  (ex_cons (by first | exact Or.inl (j_n3 (mem_dr tc_3_19 (List.Mem.tail _ (List.Mem.tail _ (List.Mem.tail _ (List.Mem.tail _ (List.Mem.tail _ (List.Mem.tail _ (List.Mem.tail _ (List.Mem.tail _ (List.Mem.tail _ (List.Mem.tail _ (List.Mem.tail _ (List.Mem.head _))))))))))))) rfl) | exact Or.inr (List.mem_filter.mpr ⟨j_t3 (mem_dr tc_3_19 (List.Mem.tail _ (List.Mem.tail _ (List.Mem.tail _ (List.Mem.tail _ (List.Mem.tail _ (List.Mem.tail _ (List.Mem.tail _ (List.Mem.tail _ (List.Mem.tail _ (List.Mem.tail _ (List.Mem.tail _ (List.Mem.head _))))))))))))), rfl⟩))
  (ex_cons (by first | exact Or.inl (j_n4 (mem_dr tc_4_0 (List.Mem.head _)) rfl) | exact Or.inr (List.mem_filter.mpr ⟨j_t4 (mem_dr tc_4_0 (List.Mem.head _)), rfl⟩))
  (ex_cons (by first | exact Or.inl (j_n4 (mem_dr tc_4_0 (List.Mem.tail _ (List.Mem.tail _ (List.Mem.head _)))) rfl) | exact Or.inr (List.mem_filter.mpr ⟨j_t4 (mem_dr tc_4_0 (List.Mem.tail _ (List.Mem.tail _ (List.Mem.head _)))), rfl⟩))
  (ex_cons (by first | exact Or.inl (j_n4 (mem_dr tc_4_0 (List.Mem.tail _ (List.Mem.tail _ (List.Mem.tail _ (List.Mem.head _))))) rfl) | exact Or.inr (List.mem_filter.mpr ⟨j_t4 (mem_dr tc_4_0 (List.Mem.tail _ (List.Mem.tail _ (List.Mem.tail _ (List.Mem.head _))))), rfl⟩))
  (ex_cons (by first | exact Or.inl (j_n4 (mem_dr tc_4_0 (List.Mem.tail _ (List.Mem.tail _ (List.Mem.tail _ (List.Mem.tail _ (List.Mem.head _)))))) rfl) | exact Or.inr (List.mem_filter.mpr ⟨j_t4 (mem_dr tc_4_0 (List.Mem.tail _ (List.Mem.tail _ (List.Mem.tail _ (List.Mem.tail _ (List.Mem.head _)))))), rfl⟩))
  (ex_cons (by first | exact Or.inl (j_n4 (mem_dr tc_4_0 (List.Mem.tail _ (List.Mem.tail _ (List.Mem.tail _ (List.Mem.tail _ (List.Mem.tail _ (List.Mem.head _))))))) rfl) | exact Or.inr (List.mem_filter.mpr ⟨j_t4 (mem_dr tc_4_0 (List.Mem.tail _ (List.Mem.tail _ (List.Mem.tail _ (List.Mem.tail _ (List.Mem.tail _ (List.Mem.head _))))))), rfl⟩))
  (ex_cons (by first | exact Or.inl (j_n4 (mem_dr tc_4_0 (List.Mem.tail _ (List.Mem.tail _ (List.Mem.tail _ (List.Mem.tail _ (List.Mem.tail _ (List.Mem.tail _ (List.Mem.head _)))))))) rfl) | exact Or.inr (List.mem_filter.mpr ⟨j_t4 (mem_dr tc_4_0 (List.Mem.tail _ (List.Mem.tail _ (List.Mem.tail _ (List.Mem.tail _ (List.Mem.tail _ (List.Mem.tail _ (List.Mem.head _)))))))), rfl⟩))
  (ex_cons (by first | exact Or.inl (j_n4 (mem_dr tc_4_0 (List.Mem.tail _ (List.Mem.tail _ (List.Mem.tail _ (List.Mem.tail _ (List.Mem.tail _ (List.Mem.tail _ (List.Mem.tail _ (List.Mem.head _))))))))) rfl) | exact Or.inr (List.mem_filter.mpr ⟨j_t4 (mem_dr tc_4_0 (List.Mem.tail _ (List.Mem.tail _ (List.Mem.tail _ (List.Mem.tail _ (List.Mem.tail _ (List.Mem.tail _ (List.Mem.tail _ (List.Mem.head _))))))))), rfl⟩))
  (fun _ h => absurd h List.not_mem_nil))))))))))))))))))))))))))
def exw_4 : List Cond := [((Jvm.Cond.selects "java/lang/IllegalArgumentException" ({ cls := "java/lang/Throwable", name := "fillInStackTrace", desc := "(I)Ljava/lang/Throwable;" } : Jvm.MethodName) ({ cls := "java/lang/Throwable", name := "fillInStackTrace", desc := "(I)Ljava/lang/Throwable;" } : Jvm.MethodName))), ((Jvm.Cond.lays "java/lang/IllegalArgumentException" "java/lang/Throwable" "cause" "Ljava/lang/Throwable;")), ((Jvm.Cond.lays "java/lang/IllegalArgumentException" "java/lang/Throwable" "stackTrace" "[Ljava/lang/StackTraceElement;")), ((Jvm.Cond.lays "java/lang/IllegalArgumentException" "java/lang/Throwable" "suppressedExceptions" "Ljava/util/List;")), ((Jvm.Cond.lays "java/lang/IllegalArgumentException" "java/lang/Throwable" "detailMessage" "Ljava/lang/String;")), ((Jvm.Cond.lays "java/lang/IllegalArgumentException" "java/lang/Throwable" "backtrace" "Ljava/lang/Object;")), (Cond.methodLink "LeagueTables" 186 (⟨"java/lang/IllegalArgumentException", "<init>", "(Ljava/lang/String;)V"⟩ : MethodName)), ((Jvm.Cond.instanceMethod ({ cls := "java/lang/IllegalArgumentException", name := "<init>", desc := "(Ljava/lang/String;)V" } : Jvm.MethodName))), ((Jvm.Cond.code ({ cls := "java/lang/IllegalArgumentException", name := "<init>", desc := "(Ljava/lang/String;)V" } : Jvm.MethodName) prog_18_method_2_code (2 : Nat) (Option.none : Option Jvm.ClassFile.FieldType))), ((Jvm.Cond.methodLink "java/lang/IllegalArgumentException" (7 : Nat) ({ cls := "java/lang/RuntimeException", name := "<init>", desc := "(Ljava/lang/String;)V" } : Jvm.MethodName))), ((Jvm.Cond.lays "java/lang/IllegalArgumentException" "java/lang/Throwable" "depth" "I")), ((Jvm.Cond.superclass "java/lang/IllegalArgumentException" "java/lang/RuntimeException")), (Cond.classLink "LeagueTablesLaw" 58 "java/util/NoSuchElementException"), (Cond.classLink "LeagueTables" 243 "java/util/NoSuchElementException"), (Cond.instantiable "java/util/NoSuchElementException" 6), ((Jvm.Cond.castable "java/util/NoSuchElementException" "java/util/NoSuchElementException")), ((Jvm.Cond.selects "java/util/NoSuchElementException" ({ cls := "java/lang/Throwable", name := "fillInStackTrace", desc := "(I)Ljava/lang/Throwable;" } : Jvm.MethodName) ({ cls := "java/lang/Throwable", name := "fillInStackTrace", desc := "(I)Ljava/lang/Throwable;" } : Jvm.MethodName))), ((Jvm.Cond.lays "java/util/NoSuchElementException" "java/lang/Throwable" "cause" "Ljava/lang/Throwable;")), ((Jvm.Cond.lays "java/util/NoSuchElementException" "java/lang/Throwable" "stackTrace" "[Ljava/lang/StackTraceElement;")), ((Jvm.Cond.lays "java/util/NoSuchElementException" "java/lang/Throwable" "suppressedExceptions" "Ljava/util/List;")), ((Jvm.Cond.lays "java/util/NoSuchElementException" "java/lang/Throwable" "detailMessage" "Ljava/lang/String;")), ((Jvm.Cond.lays "java/util/NoSuchElementException" "java/lang/Throwable" "backtrace" "Ljava/lang/Object;")), (Cond.methodLink "LeagueTables" 247 (⟨"java/util/NoSuchElementException", "<init>", "(Ljava/lang/String;)V"⟩ : MethodName)), ((Jvm.Cond.instanceMethod ({ cls := "java/util/NoSuchElementException", name := "<init>", desc := "(Ljava/lang/String;)V" } : Jvm.MethodName))), ((Jvm.Cond.code ({ cls := "java/util/NoSuchElementException", name := "<init>", desc := "(Ljava/lang/String;)V" } : Jvm.MethodName) prog_36_method_4_code (2 : Nat) (Option.none : Option Jvm.ClassFile.FieldType)))]
theorem exo_4 : ∀ w ∈ exw_4, w ∈ j_all ∨ w ∈ j_nw :=
  (ex_cons (by first | exact Or.inl (j_n4 (mem_dr tc_4_0 (List.Mem.tail _ (List.Mem.tail _ (List.Mem.tail _ (List.Mem.tail _ (List.Mem.tail _ (List.Mem.tail _ (List.Mem.tail _ (List.Mem.tail _ (List.Mem.head _)))))))))) rfl) | exact Or.inr (List.mem_filter.mpr ⟨j_t4 (mem_dr tc_4_0 (List.Mem.tail _ (List.Mem.tail _ (List.Mem.tail _ (List.Mem.tail _ (List.Mem.tail _ (List.Mem.tail _ (List.Mem.tail _ (List.Mem.tail _ (List.Mem.head _)))))))))), rfl⟩))
  (ex_cons (by first | exact Or.inl (j_n4 (mem_dr tc_4_0 (List.Mem.tail _ (List.Mem.tail _ (List.Mem.tail _ (List.Mem.tail _ (List.Mem.tail _ (List.Mem.tail _ (List.Mem.tail _ (List.Mem.tail _ (List.Mem.tail _ (List.Mem.head _))))))))))) rfl) | exact Or.inr (List.mem_filter.mpr ⟨j_t4 (mem_dr tc_4_0 (List.Mem.tail _ (List.Mem.tail _ (List.Mem.tail _ (List.Mem.tail _ (List.Mem.tail _ (List.Mem.tail _ (List.Mem.tail _ (List.Mem.tail _ (List.Mem.tail _ (List.Mem.head _))))))))))), rfl⟩))
  (ex_cons (by first | exact Or.inl (j_n4 (mem_dr tc_4_0 (List.Mem.tail _ (List.Mem.tail _ (List.Mem.tail _ (List.Mem.tail _ (List.Mem.tail _ (List.Mem.tail _ (List.Mem.tail _ (List.Mem.tail _ (List.Mem.tail _ (List.Mem.tail _ (List.Mem.head _)))))))))))) rfl) | exact Or.inr (List.mem_filter.mpr ⟨j_t4 (mem_dr tc_4_0 (List.Mem.tail _ (List.Mem.tail _ (List.Mem.tail _ (List.Mem.tail _ (List.Mem.tail _ (List.Mem.tail _ (List.Mem.tail _ (List.Mem.tail _ (List.Mem.tail _ (List.Mem.tail _ (List.Mem.head _)))))))))))), rfl⟩))
  (ex_cons (by first | exact Or.inl (j_n4 (mem_dr tc_4_0 (List.Mem.tail _ (List.Mem.tail _ (List.Mem.tail _ (List.Mem.tail _ (List.Mem.tail _ (List.Mem.tail _ (List.Mem.tail _ (List.Mem.tail _ (List.Mem.tail _ (List.Mem.tail _ (List.Mem.tail _ (List.Mem.head _))))))))))))) rfl) | exact Or.inr (List.mem_filter.mpr ⟨j_t4 (mem_dr tc_4_0 (List.Mem.tail _ (List.Mem.tail _ (List.Mem.tail _ (List.Mem.tail _ (List.Mem.tail _ (List.Mem.tail _ (List.Mem.tail _ (List.Mem.tail _ (List.Mem.tail _ (List.Mem.tail _ (List.Mem.tail _ (List.Mem.head _))))))))))))), rfl⟩))
  (ex_cons (by first | exact Or.inl (j_n4 (mem_dr tc_4_1 (List.Mem.head _)) rfl) | exact Or.inr (List.mem_filter.mpr ⟨j_t4 (mem_dr tc_4_1 (List.Mem.head _)), rfl⟩))
  (ex_cons (by first | exact Or.inl (j_n4 (mem_dr tc_4_1 (List.Mem.tail _ (List.Mem.head _))) rfl) | exact Or.inr (List.mem_filter.mpr ⟨j_t4 (mem_dr tc_4_1 (List.Mem.tail _ (List.Mem.head _))), rfl⟩))
  (ex_cons (by first | exact Or.inl (j_n4 (mem_dr tc_4_1 (List.Mem.tail _ (List.Mem.tail _ (List.Mem.tail _ (List.Mem.head _))))) rfl) | exact Or.inr (List.mem_filter.mpr ⟨j_t4 (mem_dr tc_4_1 (List.Mem.tail _ (List.Mem.tail _ (List.Mem.tail _ (List.Mem.head _))))), rfl⟩))
  (ex_cons (by first | exact Or.inl (j_n4 (mem_dr tc_4_1 (List.Mem.tail _ (List.Mem.tail _ (List.Mem.tail _ (List.Mem.tail _ (List.Mem.head _)))))) rfl) | exact Or.inr (List.mem_filter.mpr ⟨j_t4 (mem_dr tc_4_1 (List.Mem.tail _ (List.Mem.tail _ (List.Mem.tail _ (List.Mem.tail _ (List.Mem.head _)))))), rfl⟩))
  (ex_cons (by first | exact Or.inl (j_n4 (mem_dr tc_4_1 (List.Mem.tail _ (List.Mem.tail _ (List.Mem.tail _ (List.Mem.tail _ (List.Mem.tail _ (List.Mem.head _))))))) rfl) | exact Or.inr (List.mem_filter.mpr ⟨j_t4 (mem_dr tc_4_1 (List.Mem.tail _ (List.Mem.tail _ (List.Mem.tail _ (List.Mem.tail _ (List.Mem.tail _ (List.Mem.head _))))))), rfl⟩))
  (ex_cons (by first | exact Or.inl (j_n4 (mem_dr tc_4_1 (List.Mem.tail _ (List.Mem.tail _ (List.Mem.tail _ (List.Mem.tail _ (List.Mem.tail _ (List.Mem.tail _ (List.Mem.head _)))))))) rfl) | exact Or.inr (List.mem_filter.mpr ⟨j_t4 (mem_dr tc_4_1 (List.Mem.tail _ (List.Mem.tail _ (List.Mem.tail _ (List.Mem.tail _ (List.Mem.tail _ (List.Mem.tail _ (List.Mem.head _)))))))), rfl⟩))
  (ex_cons (by first | exact Or.inl (j_n4 (mem_dr tc_4_1 (List.Mem.tail _ (List.Mem.tail _ (List.Mem.tail _ (List.Mem.tail _ (List.Mem.tail _ (List.Mem.tail _ (List.Mem.tail _ (List.Mem.head _))))))))) rfl) | exact Or.inr (List.mem_filter.mpr ⟨j_t4 (mem_dr tc_4_1 (List.Mem.tail _ (List.Mem.tail _ (List.Mem.tail _ (List.Mem.tail _ (List.Mem.tail _ (List.Mem.tail _ (List.Mem.tail _ (List.Mem.head _))))))))), rfl⟩))
  (ex_cons (by first | exact Or.inl (j_n4 (mem_dr tc_4_1 (List.Mem.tail _ (List.Mem.tail _ (List.Mem.tail _ (List.Mem.tail _ (List.Mem.tail _ (List.Mem.tail _ (List.Mem.tail _ (List.Mem.tail _ (List.Mem.head _)))))))))) rfl) | exact Or.inr (List.mem_filter.mpr ⟨j_t4 (mem_dr tc_4_1 (List.Mem.tail _ (List.Mem.tail _ (List.Mem.tail _ (List.Mem.tail _ (List.Mem.tail _ (List.Mem.tail _ (List.Mem.tail _ (List.Mem.tail _ (List.Mem.head _)))))))))), rfl⟩))
  (ex_cons (by first | exact Or.inl (j_n4 (mem_dr tc_4_3 (List.Mem.tail _ (List.Mem.tail _ (List.Mem.tail _ (List.Mem.tail _ (List.Mem.head _)))))) rfl) | exact Or.inr (List.mem_filter.mpr ⟨j_t4 (mem_dr tc_4_3 (List.Mem.tail _ (List.Mem.tail _ (List.Mem.tail _ (List.Mem.tail _ (List.Mem.head _)))))), rfl⟩))
  (ex_cons (by first | exact Or.inl (j_n4 (mem_dr tc_4_4 (List.Mem.tail _ (List.Mem.head _))) rfl) | exact Or.inr (List.mem_filter.mpr ⟨j_t4 (mem_dr tc_4_4 (List.Mem.tail _ (List.Mem.head _))), rfl⟩))
  (ex_cons (by first | exact Or.inl (j_n4 (mem_dr tc_4_4 (List.Mem.tail _ (List.Mem.tail _ (List.Mem.head _)))) rfl) | exact Or.inr (List.mem_filter.mpr ⟨j_t4 (mem_dr tc_4_4 (List.Mem.tail _ (List.Mem.tail _ (List.Mem.head _)))), rfl⟩))
  (ex_cons (by first | exact Or.inl (j_n4 (mem_dr tc_4_4 (List.Mem.tail _ (List.Mem.tail _ (List.Mem.tail _ (List.Mem.head _))))) rfl) | exact Or.inr (List.mem_filter.mpr ⟨j_t4 (mem_dr tc_4_4 (List.Mem.tail _ (List.Mem.tail _ (List.Mem.tail _ (List.Mem.head _))))), rfl⟩))
  (ex_cons (by first | exact Or.inl (j_n4 (mem_dr tc_4_4 (List.Mem.tail _ (List.Mem.tail _ (List.Mem.tail _ (List.Mem.tail _ (List.Mem.head _)))))) rfl) | exact Or.inr (List.mem_filter.mpr ⟨j_t4 (mem_dr tc_4_4 (List.Mem.tail _ (List.Mem.tail _ (List.Mem.tail _ (List.Mem.tail _ (List.Mem.head _)))))), rfl⟩))
  (ex_cons (by first | exact Or.inl (j_n4 (mem_dr tc_4_4 (List.Mem.tail _ (List.Mem.tail _ (List.Mem.tail _ (List.Mem.tail _ (List.Mem.tail _ (List.Mem.head _))))))) rfl) | exact Or.inr (List.mem_filter.mpr ⟨j_t4 (mem_dr tc_4_4 (List.Mem.tail _ (List.Mem.tail _ (List.Mem.tail _ (List.Mem.tail _ (List.Mem.tail _ (List.Mem.head _))))))), rfl⟩))
  (ex_cons (by first | exact Or.inl (j_n4 (mem_dr tc_4_4 (List.Mem.tail _ (List.Mem.tail _ (List.Mem.tail _ (List.Mem.tail _ (List.Mem.tail _ (List.Mem.tail _ (List.Mem.head _)))))))) rfl) | exact Or.inr (List.mem_filter.mpr ⟨j_t4 (mem_dr tc_4_4 (List.Mem.tail _ (List.Mem.tail _ (List.Mem.tail _ (List.Mem.tail _ (List.Mem.tail _ (List.Mem.tail _ (List.Mem.head _)))))))), rfl⟩))
  (ex_cons (by first | exact Or.inl (j_n4 (mem_dr tc_4_4 (List.Mem.tail _ (List.Mem.tail _ (List.Mem.tail _ (List.Mem.tail _ (List.Mem.tail _ (List.Mem.tail _ (List.Mem.tail _ (List.Mem.head _))))))))) rfl) | exact Or.inr (List.mem_filter.mpr ⟨j_t4 (mem_dr tc_4_4 (List.Mem.tail _ (List.Mem.tail _ (List.Mem.tail _ (List.Mem.tail _ (List.Mem.tail _ (List.Mem.tail _ (List.Mem.tail _ (List.Mem.head _))))))))), rfl⟩))
  (ex_cons (by first | exact Or.inl (j_n4 (mem_dr tc_4_4 (List.Mem.tail _ (List.Mem.tail _ (List.Mem.tail _ (List.Mem.tail _ (List.Mem.tail _ (List.Mem.tail _ (List.Mem.tail _ (List.Mem.tail _ (List.Mem.head _)))))))))) rfl) | exact Or.inr (List.mem_filter.mpr ⟨j_t4 (mem_dr tc_4_4 (List.Mem.tail _ (List.Mem.tail _ (List.Mem.tail _ (List.Mem.tail _ (List.Mem.tail _ (List.Mem.tail _ (List.Mem.tail _ (List.Mem.tail _ (List.Mem.head _)))))))))), rfl⟩))
  (ex_cons (by first | exact Or.inl (j_n4 (mem_dr tc_4_4 (List.Mem.tail _ (List.Mem.tail _ (List.Mem.tail _ (List.Mem.tail _ (List.Mem.tail _ (List.Mem.tail _ (List.Mem.tail _ (List.Mem.tail _ (List.Mem.tail _ (List.Mem.head _))))))))))) rfl) | exact Or.inr (List.mem_filter.mpr ⟨j_t4 (mem_dr tc_4_4 (List.Mem.tail _ (List.Mem.tail _ (List.Mem.tail _ (List.Mem.tail _ (List.Mem.tail _ (List.Mem.tail _ (List.Mem.tail _ (List.Mem.tail _ (List.Mem.tail _ (List.Mem.head _))))))))))), rfl⟩))
  (ex_cons (by first | exact Or.inl (j_n4 (mem_dr tc_4_4 (List.Mem.tail _ (List.Mem.tail _ (List.Mem.tail _ (List.Mem.tail _ (List.Mem.tail _ (List.Mem.tail _ (List.Mem.tail _ (List.Mem.tail _ (List.Mem.tail _ (List.Mem.tail _ (List.Mem.tail _ (List.Mem.head _))))))))))))) rfl) | exact Or.inr (List.mem_filter.mpr ⟨j_t4 (mem_dr tc_4_4 (List.Mem.tail _ (List.Mem.tail _ (List.Mem.tail _ (List.Mem.tail _ (List.Mem.tail _ (List.Mem.tail _ (List.Mem.tail _ (List.Mem.tail _ (List.Mem.tail _ (List.Mem.tail _ (List.Mem.tail _ (List.Mem.head _))))))))))))), rfl⟩))
  (ex_cons (by first | exact Or.inl (j_n4 (mem_dr tc_4_5 (List.Mem.head _)) rfl) | exact Or.inr (List.mem_filter.mpr ⟨j_t4 (mem_dr tc_4_5 (List.Mem.head _)), rfl⟩))
  (ex_cons (by first | exact Or.inl (j_n4 (mem_dr tc_4_5 (List.Mem.tail _ (List.Mem.head _))) rfl) | exact Or.inr (List.mem_filter.mpr ⟨j_t4 (mem_dr tc_4_5 (List.Mem.tail _ (List.Mem.head _))), rfl⟩))
  (fun _ h => absurd h List.not_mem_nil))))))))))))))))))))))))))
def exw_5 : List Cond := [((Jvm.Cond.methodLink "java/util/NoSuchElementException" (13 : Nat) ({ cls := "java/lang/RuntimeException", name := "<init>", desc := "(Ljava/lang/String;)V" } : Jvm.MethodName))), ((Jvm.Cond.lays "java/util/NoSuchElementException" "java/lang/Throwable" "depth" "I")), ((Jvm.Cond.superclass "java/util/NoSuchElementException" "java/lang/RuntimeException")), (Cond.classLink "LeagueTablesLaw" 101 "java/lang/IllegalStateException"), (Cond.classLink "LeagueTables" 305 "java/lang/IllegalStateException"), (Cond.instantiable "java/lang/IllegalStateException" 6), ((Jvm.Cond.castable "java/lang/IllegalStateException" "java/lang/IllegalStateException")), ((Jvm.Cond.selects "java/lang/IllegalStateException" ({ cls := "java/lang/Throwable", name := "fillInStackTrace", desc := "(I)Ljava/lang/Throwable;" } : Jvm.MethodName) ({ cls := "java/lang/Throwable", name := "fillInStackTrace", desc := "(I)Ljava/lang/Throwable;" } : Jvm.MethodName))), ((Jvm.Cond.lays "java/lang/IllegalStateException" "java/lang/Throwable" "cause" "Ljava/lang/Throwable;")), ((Jvm.Cond.lays "java/lang/IllegalStateException" "java/lang/Throwable" "stackTrace" "[Ljava/lang/StackTraceElement;")), ((Jvm.Cond.lays "java/lang/IllegalStateException" "java/lang/Throwable" "suppressedExceptions" "Ljava/util/List;")), ((Jvm.Cond.lays "java/lang/IllegalStateException" "java/lang/Throwable" "detailMessage" "Ljava/lang/String;")), ((Jvm.Cond.lays "java/lang/IllegalStateException" "java/lang/Throwable" "backtrace" "Ljava/lang/Object;")), (Cond.methodLink "LeagueTables" 309 (⟨"java/lang/IllegalStateException", "<init>", "(Ljava/lang/String;)V"⟩ : MethodName)), ((Jvm.Cond.instanceMethod ({ cls := "java/lang/IllegalStateException", name := "<init>", desc := "(Ljava/lang/String;)V" } : Jvm.MethodName))), ((Jvm.Cond.code ({ cls := "java/lang/IllegalStateException", name := "<init>", desc := "(Ljava/lang/String;)V" } : Jvm.MethodName) prog_19_method_2_code (2 : Nat) (Option.none : Option Jvm.ClassFile.FieldType))), ((Jvm.Cond.methodLink "java/lang/IllegalStateException" (7 : Nat) ({ cls := "java/lang/RuntimeException", name := "<init>", desc := "(Ljava/lang/String;)V" } : Jvm.MethodName))), ((Jvm.Cond.lays "java/lang/IllegalStateException" "java/lang/Throwable" "depth" "I")), ((Jvm.Cond.superclass "java/lang/IllegalStateException" "java/lang/RuntimeException")), (Cond.classLink "LeagueTablesLaw" 120 "java/lang/ArithmeticException"), (Cond.instantiable "java/lang/ArithmeticException" 6), ((Jvm.Cond.instanceMethod ({ cls := "java/lang/ArithmeticException", name := "<init>", desc := "(Ljava/lang/String;)V" } : Jvm.MethodName))), ((Jvm.Cond.code ({ cls := "java/lang/ArithmeticException", name := "<init>", desc := "(Ljava/lang/String;)V" } : Jvm.MethodName) prog_12_method_2_code (2 : Nat) (Option.none : Option Jvm.ClassFile.FieldType))), ((Jvm.Cond.methodLink "java/lang/ArithmeticException" (7 : Nat) ({ cls := "java/lang/RuntimeException", name := "<init>", desc := "(Ljava/lang/String;)V" } : Jvm.MethodName))), ((Jvm.Cond.lays "java/lang/ArithmeticException" "java/lang/Throwable" "backtrace" "Ljava/lang/Object;"))]
theorem exo_5 : ∀ w ∈ exw_5, w ∈ j_all ∨ w ∈ j_nw :=
  (ex_cons (by first | exact Or.inl (j_n4 (mem_dr tc_4_5 (List.Mem.tail _ (List.Mem.tail _ (List.Mem.head _)))) rfl) | exact Or.inr (List.mem_filter.mpr ⟨j_t4 (mem_dr tc_4_5 (List.Mem.tail _ (List.Mem.tail _ (List.Mem.head _)))), rfl⟩))
  (ex_cons (by first | exact Or.inl (j_n4 (mem_dr tc_4_5 (List.Mem.tail _ (List.Mem.tail _ (List.Mem.tail _ (List.Mem.head _))))) rfl) | exact Or.inr (List.mem_filter.mpr ⟨j_t4 (mem_dr tc_4_5 (List.Mem.tail _ (List.Mem.tail _ (List.Mem.tail _ (List.Mem.head _))))), rfl⟩))
  (ex_cons (by first | exact Or.inl (j_n4 (mem_dr tc_4_5 (List.Mem.tail _ (List.Mem.tail _ (List.Mem.tail _ (List.Mem.tail _ (List.Mem.head _)))))) rfl) | exact Or.inr (List.mem_filter.mpr ⟨j_t4 (mem_dr tc_4_5 (List.Mem.tail _ (List.Mem.tail _ (List.Mem.tail _ (List.Mem.tail _ (List.Mem.head _)))))), rfl⟩))
  (ex_cons (by first | exact Or.inl (j_n4 (mem_dr tc_4_16 (List.Mem.tail _ (List.Mem.tail _ (List.Mem.tail _ (List.Mem.tail _ (List.Mem.tail _ (List.Mem.tail _ (List.Mem.tail _ (List.Mem.tail _ (List.Mem.head _)))))))))) rfl) | exact Or.inr (List.mem_filter.mpr ⟨j_t4 (mem_dr tc_4_16 (List.Mem.tail _ (List.Mem.tail _ (List.Mem.tail _ (List.Mem.tail _ (List.Mem.tail _ (List.Mem.tail _ (List.Mem.tail _ (List.Mem.tail _ (List.Mem.head _)))))))))), rfl⟩))
  (ex_cons (by first | exact Or.inl (j_n4 (mem_dr tc_4_17 (List.Mem.tail _ (List.Mem.tail _ (List.Mem.tail _ (List.Mem.tail _ (List.Mem.tail _ (List.Mem.head _))))))) rfl) | exact Or.inr (List.mem_filter.mpr ⟨j_t4 (mem_dr tc_4_17 (List.Mem.tail _ (List.Mem.tail _ (List.Mem.tail _ (List.Mem.tail _ (List.Mem.tail _ (List.Mem.head _))))))), rfl⟩))
  (ex_cons (by first | exact Or.inl (j_n4 (mem_dr tc_4_17 (List.Mem.tail _ (List.Mem.tail _ (List.Mem.tail _ (List.Mem.tail _ (List.Mem.tail _ (List.Mem.tail _ (List.Mem.head _)))))))) rfl) | exact Or.inr (List.mem_filter.mpr ⟨j_t4 (mem_dr tc_4_17 (List.Mem.tail _ (List.Mem.tail _ (List.Mem.tail _ (List.Mem.tail _ (List.Mem.tail _ (List.Mem.tail _ (List.Mem.head _)))))))), rfl⟩))
  (ex_cons (by first | exact Or.inl (j_n4 (mem_dr tc_4_17 (List.Mem.tail _ (List.Mem.tail _ (List.Mem.tail _ (List.Mem.tail _ (List.Mem.tail _ (List.Mem.tail _ (List.Mem.tail _ (List.Mem.head _))))))))) rfl) | exact Or.inr (List.mem_filter.mpr ⟨j_t4 (mem_dr tc_4_17 (List.Mem.tail _ (List.Mem.tail _ (List.Mem.tail _ (List.Mem.tail _ (List.Mem.tail _ (List.Mem.tail _ (List.Mem.tail _ (List.Mem.head _))))))))), rfl⟩))
  (ex_cons (by first | exact Or.inl (j_n4 (mem_dr tc_4_17 (List.Mem.tail _ (List.Mem.tail _ (List.Mem.tail _ (List.Mem.tail _ (List.Mem.tail _ (List.Mem.tail _ (List.Mem.tail _ (List.Mem.tail _ (List.Mem.head _)))))))))) rfl) | exact Or.inr (List.mem_filter.mpr ⟨j_t4 (mem_dr tc_4_17 (List.Mem.tail _ (List.Mem.tail _ (List.Mem.tail _ (List.Mem.tail _ (List.Mem.tail _ (List.Mem.tail _ (List.Mem.tail _ (List.Mem.tail _ (List.Mem.head _)))))))))), rfl⟩))
  (ex_cons (by first | exact Or.inl (j_n4 (mem_dr tc_4_17 (List.Mem.tail _ (List.Mem.tail _ (List.Mem.tail _ (List.Mem.tail _ (List.Mem.tail _ (List.Mem.tail _ (List.Mem.tail _ (List.Mem.tail _ (List.Mem.tail _ (List.Mem.head _))))))))))) rfl) | exact Or.inr (List.mem_filter.mpr ⟨j_t4 (mem_dr tc_4_17 (List.Mem.tail _ (List.Mem.tail _ (List.Mem.tail _ (List.Mem.tail _ (List.Mem.tail _ (List.Mem.tail _ (List.Mem.tail _ (List.Mem.tail _ (List.Mem.tail _ (List.Mem.head _))))))))))), rfl⟩))
  (ex_cons (by first | exact Or.inl (j_n4 (mem_dr tc_4_17 (List.Mem.tail _ (List.Mem.tail _ (List.Mem.tail _ (List.Mem.tail _ (List.Mem.tail _ (List.Mem.tail _ (List.Mem.tail _ (List.Mem.tail _ (List.Mem.tail _ (List.Mem.tail _ (List.Mem.head _)))))))))))) rfl) | exact Or.inr (List.mem_filter.mpr ⟨j_t4 (mem_dr tc_4_17 (List.Mem.tail _ (List.Mem.tail _ (List.Mem.tail _ (List.Mem.tail _ (List.Mem.tail _ (List.Mem.tail _ (List.Mem.tail _ (List.Mem.tail _ (List.Mem.tail _ (List.Mem.tail _ (List.Mem.head _)))))))))))), rfl⟩))
  (ex_cons (by first | exact Or.inl (j_n4 (mem_dr tc_4_17 (List.Mem.tail _ (List.Mem.tail _ (List.Mem.tail _ (List.Mem.tail _ (List.Mem.tail _ (List.Mem.tail _ (List.Mem.tail _ (List.Mem.tail _ (List.Mem.tail _ (List.Mem.tail _ (List.Mem.tail _ (List.Mem.head _))))))))))))) rfl) | exact Or.inr (List.mem_filter.mpr ⟨j_t4 (mem_dr tc_4_17 (List.Mem.tail _ (List.Mem.tail _ (List.Mem.tail _ (List.Mem.tail _ (List.Mem.tail _ (List.Mem.tail _ (List.Mem.tail _ (List.Mem.tail _ (List.Mem.tail _ (List.Mem.tail _ (List.Mem.tail _ (List.Mem.head _))))))))))))), rfl⟩))
  (ex_cons (by first | exact Or.inl (j_n4 (mem_dr tc_4_18 (List.Mem.head _)) rfl) | exact Or.inr (List.mem_filter.mpr ⟨j_t4 (mem_dr tc_4_18 (List.Mem.head _)), rfl⟩))
  (ex_cons (by first | exact Or.inl (j_n4 (mem_dr tc_4_18 (List.Mem.tail _ (List.Mem.head _))) rfl) | exact Or.inr (List.mem_filter.mpr ⟨j_t4 (mem_dr tc_4_18 (List.Mem.tail _ (List.Mem.head _))), rfl⟩))
  (ex_cons (by first | exact Or.inl (j_n4 (mem_dr tc_4_18 (List.Mem.tail _ (List.Mem.tail _ (List.Mem.tail _ (List.Mem.head _))))) rfl) | exact Or.inr (List.mem_filter.mpr ⟨j_t4 (mem_dr tc_4_18 (List.Mem.tail _ (List.Mem.tail _ (List.Mem.tail _ (List.Mem.head _))))), rfl⟩))
  (ex_cons (by first | exact Or.inl (j_n4 (mem_dr tc_4_18 (List.Mem.tail _ (List.Mem.tail _ (List.Mem.tail _ (List.Mem.tail _ (List.Mem.head _)))))) rfl) | exact Or.inr (List.mem_filter.mpr ⟨j_t4 (mem_dr tc_4_18 (List.Mem.tail _ (List.Mem.tail _ (List.Mem.tail _ (List.Mem.tail _ (List.Mem.head _)))))), rfl⟩))
  (ex_cons (by first | exact Or.inl (j_n4 (mem_dr tc_4_18 (List.Mem.tail _ (List.Mem.tail _ (List.Mem.tail _ (List.Mem.tail _ (List.Mem.tail _ (List.Mem.head _))))))) rfl) | exact Or.inr (List.mem_filter.mpr ⟨j_t4 (mem_dr tc_4_18 (List.Mem.tail _ (List.Mem.tail _ (List.Mem.tail _ (List.Mem.tail _ (List.Mem.tail _ (List.Mem.head _))))))), rfl⟩))
  (ex_cons (by first | exact Or.inl (j_n4 (mem_dr tc_4_18 (List.Mem.tail _ (List.Mem.tail _ (List.Mem.tail _ (List.Mem.tail _ (List.Mem.tail _ (List.Mem.tail _ (List.Mem.head _)))))))) rfl) | exact Or.inr (List.mem_filter.mpr ⟨j_t4 (mem_dr tc_4_18 (List.Mem.tail _ (List.Mem.tail _ (List.Mem.tail _ (List.Mem.tail _ (List.Mem.tail _ (List.Mem.tail _ (List.Mem.head _)))))))), rfl⟩))
  (ex_cons (by first | exact Or.inl (j_n4 (mem_dr tc_4_18 (List.Mem.tail _ (List.Mem.tail _ (List.Mem.tail _ (List.Mem.tail _ (List.Mem.tail _ (List.Mem.tail _ (List.Mem.tail _ (List.Mem.head _))))))))) rfl) | exact Or.inr (List.mem_filter.mpr ⟨j_t4 (mem_dr tc_4_18 (List.Mem.tail _ (List.Mem.tail _ (List.Mem.tail _ (List.Mem.tail _ (List.Mem.tail _ (List.Mem.tail _ (List.Mem.tail _ (List.Mem.head _))))))))), rfl⟩))
  (ex_cons (by first | exact Or.inl (j_n4 (mem_dr tc_4_18 (List.Mem.tail _ (List.Mem.tail _ (List.Mem.tail _ (List.Mem.tail _ (List.Mem.tail _ (List.Mem.tail _ (List.Mem.tail _ (List.Mem.tail _ (List.Mem.head _)))))))))) rfl) | exact Or.inr (List.mem_filter.mpr ⟨j_t4 (mem_dr tc_4_18 (List.Mem.tail _ (List.Mem.tail _ (List.Mem.tail _ (List.Mem.tail _ (List.Mem.tail _ (List.Mem.tail _ (List.Mem.tail _ (List.Mem.tail _ (List.Mem.head _)))))))))), rfl⟩))
  (ex_cons (by first | exact Or.inl (j_n6 (mem_dr tc_6_10 (List.Mem.tail _ (List.Mem.tail _ (List.Mem.tail _ (List.Mem.tail _ (List.Mem.tail _ (List.Mem.tail _ (List.Mem.tail _ (List.Mem.tail _ (List.Mem.tail _ (List.Mem.head _))))))))))) rfl) | exact Or.inr (List.mem_filter.mpr ⟨j_t6 (mem_dr tc_6_10 (List.Mem.tail _ (List.Mem.tail _ (List.Mem.tail _ (List.Mem.tail _ (List.Mem.tail _ (List.Mem.tail _ (List.Mem.tail _ (List.Mem.tail _ (List.Mem.tail _ (List.Mem.head _))))))))))), rfl⟩))
  (ex_cons (by first | exact Or.inl (j_n6 (mem_dr tc_6_10 (List.Mem.tail _ (List.Mem.tail _ (List.Mem.tail _ (List.Mem.tail _ (List.Mem.tail _ (List.Mem.tail _ (List.Mem.tail _ (List.Mem.tail _ (List.Mem.tail _ (List.Mem.tail _ (List.Mem.head _)))))))))))) rfl) | exact Or.inr (List.mem_filter.mpr ⟨j_t6 (mem_dr tc_6_10 (List.Mem.tail _ (List.Mem.tail _ (List.Mem.tail _ (List.Mem.tail _ (List.Mem.tail _ (List.Mem.tail _ (List.Mem.tail _ (List.Mem.tail _ (List.Mem.tail _ (List.Mem.tail _ (List.Mem.head _)))))))))))), rfl⟩))
  (ex_cons (by first | exact Or.inl (j_n6 (mem_dr tc_6_10 (List.Mem.tail _ (List.Mem.tail _ (List.Mem.tail _ (List.Mem.tail _ (List.Mem.tail _ (List.Mem.tail _ (List.Mem.tail _ (List.Mem.tail _ (List.Mem.tail _ (List.Mem.tail _ (List.Mem.tail _ (List.Mem.head _))))))))))))) rfl) | exact Or.inr (List.mem_filter.mpr ⟨j_t6 (mem_dr tc_6_10 (List.Mem.tail _ (List.Mem.tail _ (List.Mem.tail _ (List.Mem.tail _ (List.Mem.tail _ (List.Mem.tail _ (List.Mem.tail _ (List.Mem.tail _ (List.Mem.tail _ (List.Mem.tail _ (List.Mem.tail _ (List.Mem.head _))))))))))))), rfl⟩))
  (ex_cons (by first | exact Or.inl (j_n6 (mem_dr tc_6_11 (List.Mem.head _)) rfl) | exact Or.inr (List.mem_filter.mpr ⟨j_t6 (mem_dr tc_6_11 (List.Mem.head _)), rfl⟩))
  (ex_cons (by first | exact Or.inl (j_n6 (mem_dr tc_6_11 (List.Mem.tail _ (List.Mem.head _))) rfl) | exact Or.inr (List.mem_filter.mpr ⟨j_t6 (mem_dr tc_6_11 (List.Mem.tail _ (List.Mem.head _))), rfl⟩))
  (ex_cons (by first | exact Or.inl (j_n6 (mem_dr tc_6_11 (List.Mem.tail _ (List.Mem.tail _ (List.Mem.head _)))) rfl) | exact Or.inr (List.mem_filter.mpr ⟨j_t6 (mem_dr tc_6_11 (List.Mem.tail _ (List.Mem.tail _ (List.Mem.head _)))), rfl⟩))
  (fun _ h => absurd h List.not_mem_nil))))))))))))))))))))))))))
def exw_6 : List Cond := [((Jvm.Cond.lays "java/lang/ArithmeticException" "java/lang/Throwable" "detailMessage" "Ljava/lang/String;")), ((Jvm.Cond.lays "java/lang/ArithmeticException" "java/lang/Throwable" "cause" "Ljava/lang/Throwable;")), ((Jvm.Cond.lays "java/lang/ArithmeticException" "java/lang/Throwable" "stackTrace" "[Ljava/lang/StackTraceElement;")), ((Jvm.Cond.lays "java/lang/ArithmeticException" "java/lang/Throwable" "depth" "I")), ((Jvm.Cond.lays "java/lang/ArithmeticException" "java/lang/Throwable" "suppressedExceptions" "Ljava/util/List;")), ((Jvm.Cond.superclass "java/lang/ArithmeticException" "java/lang/RuntimeException")), ((Jvm.Cond.castable "java/lang/ArithmeticException" "java/lang/ArithmeticException")), ((Jvm.Cond.selects "java/lang/ArithmeticException" ({ cls := "java/lang/Throwable", name := "fillInStackTrace", desc := "(I)Ljava/lang/Throwable;" } : Jvm.MethodName) ({ cls := "java/lang/Throwable", name := "fillInStackTrace", desc := "(I)Ljava/lang/Throwable;" } : Jvm.MethodName))), (Cond.classLink "LeagueTables" 375 "java/lang/ArithmeticException"), (Cond.methodLink "LeagueTables" 379 (⟨"java/lang/ArithmeticException", "<init>", "(Ljava/lang/String;)V"⟩ : MethodName)), ((Jvm.Cond.sameMethod "java/lang/Throwable" "java/lang/Throwable" "fillInStackTrace" "(I)Ljava/lang/Throwable;")), ((Jvm.Cond.castable "java/lang/UnsupportedOperationException" "java/lang/Object")), ((Jvm.Cond.castable "java/lang/IndexOutOfBoundsException" "java/lang/Object")), ((Jvm.Cond.castable "java/lang/IllegalArgumentException" "java/lang/Object")), ((Jvm.Cond.castable "java/util/NoSuchElementException" "java/lang/Object")), ((Jvm.Cond.castable "java/lang/IllegalStateException" "java/lang/Object")), ((Jvm.Cond.castable "java/lang/ArithmeticException" "java/lang/Object")), ((Jvm.Cond.castable "java/lang/Throwable" "java/lang/Object"))]
theorem exo_6 : ∀ w ∈ exw_6, w ∈ j_all ∨ w ∈ j_nw :=
  (ex_cons (by first | exact Or.inl (j_n6 (mem_dr tc_6_11 (List.Mem.tail _ (List.Mem.tail _ (List.Mem.tail _ (List.Mem.head _))))) rfl) | exact Or.inr (List.mem_filter.mpr ⟨j_t6 (mem_dr tc_6_11 (List.Mem.tail _ (List.Mem.tail _ (List.Mem.tail _ (List.Mem.head _))))), rfl⟩))
  (ex_cons (by first | exact Or.inl (j_n6 (mem_dr tc_6_11 (List.Mem.tail _ (List.Mem.tail _ (List.Mem.tail _ (List.Mem.tail _ (List.Mem.head _)))))) rfl) | exact Or.inr (List.mem_filter.mpr ⟨j_t6 (mem_dr tc_6_11 (List.Mem.tail _ (List.Mem.tail _ (List.Mem.tail _ (List.Mem.tail _ (List.Mem.head _)))))), rfl⟩))
  (ex_cons (by first | exact Or.inl (j_n6 (mem_dr tc_6_11 (List.Mem.tail _ (List.Mem.tail _ (List.Mem.tail _ (List.Mem.tail _ (List.Mem.tail _ (List.Mem.head _))))))) rfl) | exact Or.inr (List.mem_filter.mpr ⟨j_t6 (mem_dr tc_6_11 (List.Mem.tail _ (List.Mem.tail _ (List.Mem.tail _ (List.Mem.tail _ (List.Mem.tail _ (List.Mem.head _))))))), rfl⟩))
  (ex_cons (by first | exact Or.inl (j_n6 (mem_dr tc_6_11 (List.Mem.tail _ (List.Mem.tail _ (List.Mem.tail _ (List.Mem.tail _ (List.Mem.tail _ (List.Mem.tail _ (List.Mem.head _)))))))) rfl) | exact Or.inr (List.mem_filter.mpr ⟨j_t6 (mem_dr tc_6_11 (List.Mem.tail _ (List.Mem.tail _ (List.Mem.tail _ (List.Mem.tail _ (List.Mem.tail _ (List.Mem.tail _ (List.Mem.head _)))))))), rfl⟩))
  (ex_cons (by first | exact Or.inl (j_n6 (mem_dr tc_6_11 (List.Mem.tail _ (List.Mem.tail _ (List.Mem.tail _ (List.Mem.tail _ (List.Mem.tail _ (List.Mem.tail _ (List.Mem.tail _ (List.Mem.head _))))))))) rfl) | exact Or.inr (List.mem_filter.mpr ⟨j_t6 (mem_dr tc_6_11 (List.Mem.tail _ (List.Mem.tail _ (List.Mem.tail _ (List.Mem.tail _ (List.Mem.tail _ (List.Mem.tail _ (List.Mem.tail _ (List.Mem.head _))))))))), rfl⟩))
  (ex_cons (by first | exact Or.inl (j_n6 (mem_dr tc_6_11 (List.Mem.tail _ (List.Mem.tail _ (List.Mem.tail _ (List.Mem.tail _ (List.Mem.tail _ (List.Mem.tail _ (List.Mem.tail _ (List.Mem.tail _ (List.Mem.head _)))))))))) rfl) | exact Or.inr (List.mem_filter.mpr ⟨j_t6 (mem_dr tc_6_11 (List.Mem.tail _ (List.Mem.tail _ (List.Mem.tail _ (List.Mem.tail _ (List.Mem.tail _ (List.Mem.tail _ (List.Mem.tail _ (List.Mem.tail _ (List.Mem.head _)))))))))), rfl⟩))
  (ex_cons (by first | exact Or.inl (j_n6 (mem_dr tc_6_11 (List.Mem.tail _ (List.Mem.tail _ (List.Mem.tail _ (List.Mem.tail _ (List.Mem.tail _ (List.Mem.tail _ (List.Mem.tail _ (List.Mem.tail _ (List.Mem.tail _ (List.Mem.head _))))))))))) rfl) | exact Or.inr (List.mem_filter.mpr ⟨j_t6 (mem_dr tc_6_11 (List.Mem.tail _ (List.Mem.tail _ (List.Mem.tail _ (List.Mem.tail _ (List.Mem.tail _ (List.Mem.tail _ (List.Mem.tail _ (List.Mem.tail _ (List.Mem.tail _ (List.Mem.head _))))))))))), rfl⟩))
  (ex_cons (by first | exact Or.inl (j_n6 (mem_dr tc_6_11 (List.Mem.tail _ (List.Mem.tail _ (List.Mem.tail _ (List.Mem.tail _ (List.Mem.tail _ (List.Mem.tail _ (List.Mem.tail _ (List.Mem.tail _ (List.Mem.tail _ (List.Mem.tail _ (List.Mem.head _)))))))))))) rfl) | exact Or.inr (List.mem_filter.mpr ⟨j_t6 (mem_dr tc_6_11 (List.Mem.tail _ (List.Mem.tail _ (List.Mem.tail _ (List.Mem.tail _ (List.Mem.tail _ (List.Mem.tail _ (List.Mem.tail _ (List.Mem.tail _ (List.Mem.tail _ (List.Mem.tail _ (List.Mem.head _)))))))))))), rfl⟩))
  (ex_cons (by first | exact Or.inl (j_n6 (mem_dr tc_6_12 (List.Mem.tail _ (List.Mem.tail _ (List.Mem.tail _ (List.Mem.head _))))) rfl) | exact Or.inr (List.mem_filter.mpr ⟨j_t6 (mem_dr tc_6_12 (List.Mem.tail _ (List.Mem.tail _ (List.Mem.tail _ (List.Mem.head _))))), rfl⟩))
  (ex_cons (by first | exact Or.inl (j_n6 (mem_dr tc_6_12 (List.Mem.tail _ (List.Mem.tail _ (List.Mem.tail _ (List.Mem.tail _ (List.Mem.tail _ (List.Mem.head _))))))) rfl) | exact Or.inr (List.mem_filter.mpr ⟨j_t6 (mem_dr tc_6_12 (List.Mem.tail _ (List.Mem.tail _ (List.Mem.tail _ (List.Mem.tail _ (List.Mem.tail _ (List.Mem.head _))))))), rfl⟩))
  (ex_cons (by first | exact Or.inl (j_n8 (mem_dr tc_8_10 (List.Mem.tail _ (List.Mem.tail _ (List.Mem.tail _ (List.Mem.tail _ (List.Mem.tail _ (List.Mem.tail _ (List.Mem.tail _ (List.Mem.head _))))))))) rfl) | exact Or.inr (List.mem_filter.mpr ⟨j_t8 (mem_dr tc_8_10 (List.Mem.tail _ (List.Mem.tail _ (List.Mem.tail _ (List.Mem.tail _ (List.Mem.tail _ (List.Mem.tail _ (List.Mem.tail _ (List.Mem.head _))))))))), rfl⟩))
  (ex_cons (by first | exact Or.inl (j_n8 (mem_dr tc_8_12 (List.Mem.tail _ (List.Mem.tail _ (List.Mem.tail _ (List.Mem.tail _ (List.Mem.tail _ (List.Mem.tail _ (List.Mem.head _)))))))) rfl) | exact Or.inr (List.mem_filter.mpr ⟨j_t8 (mem_dr tc_8_12 (List.Mem.tail _ (List.Mem.tail _ (List.Mem.tail _ (List.Mem.tail _ (List.Mem.tail _ (List.Mem.tail _ (List.Mem.head _)))))))), rfl⟩))
  (ex_cons (by first | exact Or.inl (j_n8 (mem_dr tc_8_12 (List.Mem.tail _ (List.Mem.tail _ (List.Mem.tail _ (List.Mem.tail _ (List.Mem.tail _ (List.Mem.tail _ (List.Mem.tail _ (List.Mem.tail _ (List.Mem.head _)))))))))) rfl) | exact Or.inr (List.mem_filter.mpr ⟨j_t8 (mem_dr tc_8_12 (List.Mem.tail _ (List.Mem.tail _ (List.Mem.tail _ (List.Mem.tail _ (List.Mem.tail _ (List.Mem.tail _ (List.Mem.tail _ (List.Mem.tail _ (List.Mem.head _)))))))))), rfl⟩))
  (ex_cons (by first | exact Or.inl (j_n8 (mem_dr tc_8_12 (List.Mem.tail _ (List.Mem.tail _ (List.Mem.tail _ (List.Mem.tail _ (List.Mem.tail _ (List.Mem.tail _ (List.Mem.tail _ (List.Mem.tail _ (List.Mem.tail _ (List.Mem.head _))))))))))) rfl) | exact Or.inr (List.mem_filter.mpr ⟨j_t8 (mem_dr tc_8_12 (List.Mem.tail _ (List.Mem.tail _ (List.Mem.tail _ (List.Mem.tail _ (List.Mem.tail _ (List.Mem.tail _ (List.Mem.tail _ (List.Mem.tail _ (List.Mem.tail _ (List.Mem.head _))))))))))), rfl⟩))
  (ex_cons (by first | exact Or.inl (j_n8 (mem_dr tc_8_12 (List.Mem.tail _ (List.Mem.tail _ (List.Mem.tail _ (List.Mem.tail _ (List.Mem.tail _ (List.Mem.tail _ (List.Mem.tail _ (List.Mem.tail _ (List.Mem.tail _ (List.Mem.tail _ (List.Mem.head _)))))))))))) rfl) | exact Or.inr (List.mem_filter.mpr ⟨j_t8 (mem_dr tc_8_12 (List.Mem.tail _ (List.Mem.tail _ (List.Mem.tail _ (List.Mem.tail _ (List.Mem.tail _ (List.Mem.tail _ (List.Mem.tail _ (List.Mem.tail _ (List.Mem.tail _ (List.Mem.tail _ (List.Mem.head _)))))))))))), rfl⟩))
  (ex_cons (by first | exact Or.inl (j_n8 (mem_dr tc_8_12 (List.Mem.tail _ (List.Mem.tail _ (List.Mem.tail _ (List.Mem.tail _ (List.Mem.tail _ (List.Mem.tail _ (List.Mem.tail _ (List.Mem.tail _ (List.Mem.tail _ (List.Mem.tail _ (List.Mem.tail _ (List.Mem.head _))))))))))))) rfl) | exact Or.inr (List.mem_filter.mpr ⟨j_t8 (mem_dr tc_8_12 (List.Mem.tail _ (List.Mem.tail _ (List.Mem.tail _ (List.Mem.tail _ (List.Mem.tail _ (List.Mem.tail _ (List.Mem.tail _ (List.Mem.tail _ (List.Mem.tail _ (List.Mem.tail _ (List.Mem.tail _ (List.Mem.head _))))))))))))), rfl⟩))
  (ex_cons (by first | exact Or.inl (j_n8 (mem_dr tc_8_13 (List.Mem.tail _ (List.Mem.tail _ (List.Mem.head _)))) rfl) | exact Or.inr (List.mem_filter.mpr ⟨j_t8 (mem_dr tc_8_13 (List.Mem.tail _ (List.Mem.tail _ (List.Mem.head _)))), rfl⟩))
  (ex_cons (by first | exact Or.inl (j_n8 (mem_dr tc_8_13 (List.Mem.tail _ (List.Mem.tail _ (List.Mem.tail _ (List.Mem.head _))))) rfl) | exact Or.inr (List.mem_filter.mpr ⟨j_t8 (mem_dr tc_8_13 (List.Mem.tail _ (List.Mem.tail _ (List.Mem.tail _ (List.Mem.head _))))), rfl⟩))
  (fun _ h => absurd h List.not_mem_nil)))))))))))))))))))
def ex_words : List Cond := exw_0 ++ (exw_1 ++ (exw_2 ++ (exw_3 ++ (exw_4 ++ (exw_5 ++ (exw_6))))))
theorem ex_ok : ∀ w ∈ ex_words, w ∈ j_all ∨ w ∈ j_nw := fun w h => (List.mem_append.mp h).elim (exo_0 w) (fun h => (List.mem_append.mp h).elim (exo_1 w) (fun h => (List.mem_append.mp h).elim (exo_2 w) (fun h => (List.mem_append.mp h).elim (exo_3 w) (fun h => (List.mem_append.mp h).elim (exo_4 w) (fun h => (List.mem_append.mp h).elim (exo_5 w) (fun h => exo_6 w h))))))
theorem exX5_177 : j_exS "LeagueTables" 177 181 "java/lang/IndexOutOfBoundsException" ["java/lang/RuntimeException", "java/lang/Exception"] := ⟨by decide +kernel, by decide +kernel, wcX5_177, wi_java_lang_IndexOutOfBoundsException, fun w h => ex_ok w ((by decide +kernel : ∀ w ∈ vx_atS "LeagueTables" 181 "java/lang/IndexOutOfBoundsException" ["java/lang/RuntimeException", "java/lang/Exception"], w ∈ ex_words) w h), by decide⟩
theorem exX5_182 : j_exS "LeagueTables" 182 186 "java/lang/IllegalArgumentException" ["java/lang/RuntimeException", "java/lang/Exception"] := ⟨by decide +kernel, by decide +kernel, wcX5_182, wi_java_lang_IllegalArgumentException, fun w h => ex_ok w ((by decide +kernel : ∀ w ∈ vx_atS "LeagueTables" 186 "java/lang/IllegalArgumentException" ["java/lang/RuntimeException", "java/lang/Exception"], w ∈ ex_words) w h), by decide⟩
theorem exX5_305 : j_exS "LeagueTables" 305 309 "java/lang/IllegalStateException" ["java/lang/RuntimeException", "java/lang/Exception"] := ⟨by decide +kernel, by decide +kernel, wcX5_305, wi_java_lang_IllegalStateException, fun w h => ex_ok w ((by decide +kernel : ∀ w ∈ vx_atS "LeagueTables" 309 "java/lang/IllegalStateException" ["java/lang/RuntimeException", "java/lang/Exception"], w ∈ ex_words) w h), by decide⟩
theorem exX5_375 : j_exS "LeagueTables" 375 379 "java/lang/ArithmeticException" ["java/lang/RuntimeException", "java/lang/Exception"] := ⟨by decide +kernel, by decide +kernel, wcX5_375, wi_java_lang_ArithmeticException, fun w h => ex_ok w ((by decide +kernel : ∀ w ∈ vx_atS "LeagueTables" 379 "java/lang/ArithmeticException" ["java/lang/RuntimeException", "java/lang/Exception"], w ∈ ex_words) w h), by decide⟩
theorem exX5_66 : j_exS "LeagueTables" 66 70 "java/lang/UnsupportedOperationException" ["java/lang/RuntimeException", "java/lang/Exception"] := ⟨by decide +kernel, by decide +kernel, wcX5_66, wi_java_lang_UnsupportedOperationException, fun w h => ex_ok w ((by decide +kernel : ∀ w ∈ vx_atS "LeagueTables" 70 "java/lang/UnsupportedOperationException" ["java/lang/RuntimeException", "java/lang/Exception"], w ∈ ex_words) w h), by decide⟩
end

section
/-! ===== the store of the running law: the class 0 to 93, the reference 94 to 101, the law's two rows 102 and 103; behind them what the StringBuilder has grown to ===== -/
def hTl : List Nat := [9, 6, 100, 100, 100, 100, 100, 6, 100, 100, 100, 100, 100, 5, 103, 6, 100, 100, 100, 100, 100, 6, 100, 100, 100, 100, 100, 6, 100, 100, 100, 100, 100, 6, 100, 100, 100, 100, 100, 6, 100, 100, 100, 100, 100, 6, 100, 100, 100, 100, 100, 6, 100, 100, 100, 100, 100, 6, 100, 100, 100, 100, 100, 6, 100, 100, 100, 100, 100, 4, 100, 100, 100, 100, 100, 7, 100, 100, 100, 100, 100, 100, 100, 100, 100, 100, 8, 101, 100, 100, 100, 100, 1, 102, 10, 100, 100, 100, 100, 100, 101, 100, 104, 105]
def hNl : List Nat := [14, 11, 8, 3, 56, 56, 56, 11, 8, 3, 56, 56, 56, 3, 9, 11, 8, 3, 56, 56, 56, 11, 8, 3, 56, 56, 56, 11, 8, 3, 56, 56, 56, 11, 8, 3, 56, 56, 56, 11, 8, 3, 56, 56, 56, 11, 8, 3, 56, 56, 56, 11, 8, 3, 56, 56, 56, 11, 8, 3, 56, 56, 56, 11, 8, 3, 56, 56, 56, 7, 56, 56, 56, 14, 8, 12, 8, 8, 8, 8, 8, 8, 8, 8, 8, 8, 8, 60, 30, 30, 30, 30, 4, 16, 20, 466, 466, 3728, 466, 40, 60, 3, 1, 1]
def hRl : List (List (Nat × Nat)) := [[(0, 1), (1, 7), (3, 13), (4, 69), (5, 75), (6, 85), (7, 86), (13, 92)], [(1, 2), (7, 3), (8, 4), (9, 5), (10, 6)], [], [], [], [], [], [(1, 8), (7, 9), (8, 10), (9, 11), (10, 12)], [], [], [], [], [], [(0, 14)], [(0, 15), (1, 21), (2, 27), (3, 33), (4, 39), (5, 45), (6, 51), (7, 57), (8, 63)], [(1, 16), (7, 17), (8, 18), (9, 19), (10, 20)], [], [], [], [], [], [(1, 22), (7, 23), (8, 24), (9, 25), (10, 26)], [], [], [], [], [], [(1, 28), (7, 29), (8, 30), (9, 31), (10, 32)], [], [], [], [], [], [(1, 34), (7, 35), (8, 36), (9, 37), (10, 38)], [], [], [], [], [], [(1, 40), (7, 41), (8, 42), (9, 43), (10, 44)], [], [], [], [], [], [(1, 46), (7, 47), (8, 48), (9, 49), (10, 50)], [], [], [], [], [], [(1, 52), (7, 53), (8, 54), (9, 55), (10, 56)], [], [], [], [], [], [(1, 58), (7, 59), (8, 60), (9, 61), (10, 62)], [], [], [], [], [], [(1, 64), (7, 65), (8, 66), (9, 67), (10, 68)], [], [], [], [], [], [(2, 70), (3, 71), (4, 72), (5, 73), (6, 74)], [], [], [], [], [], [(3, 76), (4, 77), (5, 78), (6, 79), (7, 80), (8, 81), (9, 82), (10, 83), (11, 84)], [], [], [], [], [], [], [], [], [], [], [(3, 87), (4, 88), (5, 89), (6, 90), (7, 91)], [], [], [], [], [], [], [], [(0, 95), (1, 96), (2, 97), (4, 98), (6, 99), (8, 100), (12, 101)], [], [], [], [], [], [], [], [], []]
def hT (i : Nat) : Nat := hTl.getD i 102
def hN (i : Nat) : Nat := hNl.getD i 0
def hR (i k : Nat) : Option Nat := (hRl.getD i []).lookup k
abbrev SBt : Type := Nat × Nat × (Nat → Nat)
abbrev OUt : Type := (Nat → Int64) × (Nat → UInt64)
abbrev MM : Type := Nat → Nat → Int32
def jm (M : MM) (i k : Nat) (v : Int32) : MM := fun a b => if a = i ∧ b = k then v else M a b
theorem jm_s {M : MM} {i k : Nat} {v : Int32} : jm M i k v i k = v := by simp [jm]
theorem jm_n {M : MM} {i k a b : Nat} {v : Int32} (h : ¬ (a = i ∧ b = k)) : jm M i k v a b = M a b := by simp [jm, h]
def hLen (b : SBt) (i : Nat) : Nat := if i < 104 then hN i else b.2.2 i
def hF (b : SBt) (Y : OUt) (M : MM) (i k : Nat) : Value := if i = 102 then .long (Y.1 k) else if i = 103 then .double (Y.2 k) else if i = 92 ∧ k = 0 then .ref b.1 else match hR i k with
  | some r => .ref r
  | none => .int (M i k)
def HH (b : SBt) (Y : OUt) (M : MM) : MH := (b.2.1, fun i => (hT i, hLen b i, hF b Y M i))
/-- an int field; a field that holds a cell; a row of ints or characters -/
def fI (i k ci N : Nat) : Bool := decide (i < 102) && (hT i == ci) && (hN i == N) && !(i == 92 && k == 0) && (hR i k).isNone
def fR (i k ci N r : Nat) : Bool := decide (i < 102) && (hT i == ci) && (hN i == N) && !(i == 92 && k == 0) && (hR i k == some r)
def fA (i t n : Nat) : Bool := decide (i < 102) && (hT i == t) && (hN i == n) && !(i == 92) && (hRl.getD i []).isEmpty
def fT (i ci : Nat) : Bool := decide (i < 104) && (hT i == ci)
theorem fI_spec {i k ci N : Nat} (h : fI i k ci N = true) (b : SBt) (Y : OUt) (M : MM) : i < 102 ∧ hT i = ci ∧ hN i = N ∧ hF b Y M i k = .int (M i k) ∧ ¬ (i = 92 ∧ k = 0) ∧ hR i k = none := by
  simp only [fI, Bool.and_eq_true, decide_eq_true_eq, beq_iff_eq, Bool.not_eq_true', Bool.and_eq_false_iff, beq_eq_false_iff_ne, Option.isNone_iff_eq_none] at h
  obtain ⟨⟨⟨⟨h1, h2⟩, h3⟩, h4⟩, h5⟩ := h
  have h6 : ¬ (i = 92 ∧ k = 0) := fun q => h4.elim (fun z => z q.1) (fun z => z q.2)
  refine ⟨h1, h2, h3, ?_, h6, h5⟩
  unfold hF
  rw [if_neg (by omega), if_neg (by omega), if_neg h6, h5]
theorem fR_spec {i k ci N r : Nat} (h : fR i k ci N r = true) (b : SBt) (Y : OUt) (M : MM) : i < 102 ∧ hT i = ci ∧ hN i = N ∧ hF b Y M i k = .ref r := by
  simp only [fR, Bool.and_eq_true, decide_eq_true_eq, beq_iff_eq, Bool.not_eq_true', Bool.and_eq_false_iff, beq_eq_false_iff_ne] at h
  obtain ⟨⟨⟨⟨h1, h2⟩, h3⟩, h4⟩, h5⟩ := h
  have h6 : ¬ (i = 92 ∧ k = 0) := fun q => h4.elim (fun z => z q.1) (fun z => z q.2)
  refine ⟨h1, h2, h3, ?_⟩
  unfold hF
  rw [if_neg (by omega), if_neg (by omega), if_neg h6, h5]
theorem fA_spec {i t n : Nat} (h : fA i t n = true) (b : SBt) (Y : OUt) (M : MM) : i < 102 ∧ hT i = t ∧ hN i = n ∧ i ≠ 92 ∧ (∀ k, hR i k = none) ∧ hF b Y M i = fun k => .int (M i k) := by
  simp only [fA, Bool.and_eq_true, decide_eq_true_eq, beq_iff_eq, Bool.not_eq_true', beq_eq_false_iff_ne, List.isEmpty_iff] at h
  obtain ⟨⟨⟨⟨h1, h2⟩, h3⟩, h4⟩, h5⟩ := h
  have h6 : ∀ k, hR i k = none := fun k => by unfold hR; rw [h5]; rfl
  refine ⟨h1, h2, h3, h4, h6, funext fun k => ?_⟩
  unfold hF
  rw [if_neg (by omega), if_neg (by omega), if_neg (fun q => h4 q.1), h6 k]
theorem hLen_lo {b : SBt} {i : Nat} (h : i < 104) : hLen b i = hN i := if_pos h
theorem HH_wr {b : SBt} {Y : OUt} {M : MM} {i k : Nat} {v : Int32} (h : ¬ (i = 92 ∧ k = 0)) (h1 : i < 102) (hr : hR i k = none) : j_fld (HH b Y M) i k (.int v) = HH b Y (jm M i k v) := by
  refine Prod.ext rfl (funext fun a => ?_)
  show ju (HH b Y M).2 i _ a = _
  by_cases ha : a = i
  · subst ha
    rw [ju_s]
    show (hT a, hLen b a, ju (hF b Y M a) k (.int v)) = (hT a, hLen b a, hF b Y (jm M a k v) a)
    congr 2
    funext j
    by_cases hj : j = k
    · subst hj
      rw [ju_s]
      unfold hF
      rw [if_neg (by omega), if_neg (by omega), if_neg h, hr]
      simp [jm]
    · rw [ju_n hj]
      unfold hF
      rw [jm_n (fun q => hj q.2)]
  · rw [ju_n ha]
    show (hT a, hLen b a, hF b Y M a) = (hT a, hLen b a, hF b Y (jm M i k v) a)
    congr 2
    funext j
    unfold hF
    rw [jm_n (fun q => ha q.1)]
/-- a method that comes to an end o, from the store M to the store M1 -/
def jres (b : SBt) (Y : OUt) (o0 : MO) (M1 : MM) : MO → MH → Prop := fun o k => o = o0 ∧ k = HH b Y M1
abbrev CM (d mc ms : Nat) (y : MethodName) (cc : ByteArray) (maxL : Nat) (ret : Option FieldType) (as : List Value) (b : SBt) (Y : OUt) (M : MM) (o : MO) (M1 : MM) : Prop := Con d mc ms y cc maxL ret as (HH b Y M) (jres b Y o M1)
theorem jres_no {b : SBt} {Y : OUt} {v : Option Value} {M1 : MM} : ∀ E k, ¬ jres b Y (.inl v) M1 (.inr E) k := fun _ _ h => by cases h.1
/-- stores that agree on all that their cells hold -/
def hEq (b : SBt) (M M1 : MM) : Prop := ∀ i, i < b.2.1 → ∀ k, k < hLen b i → M i k = M1 i k
section J2
variable {p : Program} {l : Launch} {e : Env} {R : Room} {s : State} {m : MethodId} {args : Array Value} {below : List Frame} {meth : Method} {c : Code} {D : va_G} {tyc : Nat → ClassId} {A : Nat → Prop} {n0 : Nat} {ad0 : Nat → Nat} {nL : Nat} {Q : State → Prop}
variable {own : String} {cc : ByteArray} {pc : Nat} {L : List (Option Value)} {st : List Value} {b : SBt} {Y : OUt} {M : MM} {cells slots : Nat}
theorem j2_geti (x : j_X p l s m args meth c D tyc A own cc nL) (hb : 104 ≤ b.2.1) {i k idx ci : Nat} {q : vw_C} {ty : Nat → FieldType} (hd : decode cc pc = .ok (.getfield idx, 3)) (hq : j_cls ci q ty) (hw : Cond.fieldLink own idx (q.2.1 k).1 (q.2.1 k).2.1 (q.2.1 k).2.2.1 ∈ j_all) (hk : k < q.2.2) (hf : fI i k ci q.2.2 = true) (kk : JJ p l e R s m args below meth c D tyc A n0 ad0 nL Q (pc + 3) (L) (.int (M i k) :: st) (HH b Y (M)) (cells) (slots)) : JJ p l e R s m args below meth c D tyc A n0 ad0 nL Q (pc) (L) (.ref i :: st) (HH b Y (M)) (cells) (slots) := by
  obtain ⟨h1, h2, h3, h4, -⟩ := fI_spec hf b Y M
  refine j_get x hd hq hw hk (show i < b.2.1 by omega) h2 ((hLen_lo (by omega)).trans h3) ?_
  show JJ p l e R s m args below meth c D tyc A n0 ad0 nL Q (pc + 3) L (hF b Y M i k :: st) (HH b Y M) cells slots
  rw [h4]
  exact kk
theorem j2_getr (x : j_X p l s m args meth c D tyc A own cc nL) (hb : 104 ≤ b.2.1) {i k idx ci r : Nat} {q : vw_C} {ty : Nat → FieldType} (hd : decode cc pc = .ok (.getfield idx, 3)) (hq : j_cls ci q ty) (hw : Cond.fieldLink own idx (q.2.1 k).1 (q.2.1 k).2.1 (q.2.1 k).2.2.1 ∈ j_all) (hk : k < q.2.2) (hf : fR i k ci q.2.2 r = true) (kk : JJ p l e R s m args below meth c D tyc A n0 ad0 nL Q (pc + 3) (L) (.ref r :: st) (HH b Y (M)) (cells) (slots)) : JJ p l e R s m args below meth c D tyc A n0 ad0 nL Q (pc) (L) (.ref i :: st) (HH b Y (M)) (cells) (slots) := by
  obtain ⟨h1, h2, h3, h4⟩ := fR_spec hf b Y M
  refine j_get x hd hq hw hk (show i < b.2.1 by omega) h2 ((hLen_lo (by omega)).trans h3) ?_
  show JJ p l e R s m args below meth c D tyc A n0 ad0 nL Q (pc + 3) L (hF b Y M i k :: st) (HH b Y M) cells slots
  rw [h4]
  exact kk
theorem j2_puti (x : j_X p l s m args meth c D tyc A own cc nL) (hb : 104 ≤ b.2.1) {i k idx ci : Nat} {q : vw_C} {ty : Nat → FieldType} {v : Int32} (hd : decode cc pc = .ok (.putfield idx, 3)) (hq : j_cls ci q ty) (hw : Cond.fieldLink own idx (q.2.1 k).1 (q.2.1 k).2.1 (q.2.1 k).2.2.1 ∈ j_all) (hk : k < q.2.2) (hfin : (q.2.1 k).2.2.2 = false) (hna : narrow (ty k) (.int v) = .int v) (hfi : fits (ty k) (.int v) = true) (hf : fI i k ci q.2.2 = true) (kk : JJ p l e R s m args below meth c D tyc A n0 ad0 nL Q (pc + 3) (L) (st) (HH b Y (jm M i k v)) (cells) (slots)) : JJ p l e R s m args below meth c D tyc A n0 ad0 nL Q (pc) (L) (.int v :: .ref i :: st) (HH b Y (M)) (cells) (slots) := by
  obtain ⟨h1, h2, h3, h4, h5, h6⟩ := fI_spec hf b Y M
  refine j_put x hd hq hw hk hfin hna hfi (show i < b.2.1 by omega) h2 ((hLen_lo (by omega)).trans h3) ?_
  rw [HH_wr h5 h1 h6]
  exact kk
theorem j2_iald (x : j_X p l s m args meth c D tyc A own cc nL) (hb : 104 ≤ b.2.1) {i n : Nat} {k v : Int32} (hd : decode cc pc = .ok (.iaload, 1)) (hf : fA i 100 n = true) (hk : vp_in k n) (hv : M i k.toNatClampNeg = v) (kk : JJ p l e R s m args below meth c D tyc A n0 ad0 nL Q (pc + 1) (L) (.int v :: st) (HH b Y (M)) (cells) (slots)) : JJ p l e R s m args below meth c D tyc A n0 ad0 nL Q (pc) (L) (.int k :: .ref i :: st) (HH b Y (M)) (cells) (slots) := by
  obtain ⟨h1, h2, h3, -, -, h4⟩ := fA_spec hf b Y M
  refine j_iaload x hd (show i < b.2.1 by omega) h2 (by show vp_in k (hLen b i); rw [hLen_lo (by omega), h3]; exact hk) ?_ kk
  show hF b Y M i k.toNatClampNeg = _
  rw [h4]
  exact congrArg Value.int hv
theorem j2_cald (x : j_X p l s m args meth c D tyc A own cc nL) (hb : 104 ≤ b.2.1) {i n : Nat} {k v : Int32} (hd : decode cc pc = .ok (.caload, 1)) (hf : fA i 101 n = true) (hk : vp_in k n) (hv : M i k.toNatClampNeg = v) (kk : JJ p l e R s m args below meth c D tyc A n0 ad0 nL Q (pc + 1) (L) (.int v :: st) (HH b Y (M)) (cells) (slots)) : JJ p l e R s m args below meth c D tyc A n0 ad0 nL Q (pc) (L) (.int k :: .ref i :: st) (HH b Y (M)) (cells) (slots) := by
  obtain ⟨h1, h2, h3, -, -, h4⟩ := fA_spec hf b Y M
  refine j_caload x hd (show i < b.2.1 by omega) h2 (by show vp_in k (hLen b i); rw [hLen_lo (by omega), h3]; exact hk) ?_ kk
  show hF b Y M i k.toNatClampNeg = _
  rw [h4]
  exact congrArg Value.int hv
theorem j2_iast (x : j_X p l s m args meth c D tyc A own cc nL) (hb : 104 ≤ b.2.1) {i n : Nat} {k v : Int32} (hd : decode cc pc = .ok (.iastore, 1)) (hf : fA i 100 n = true) (hk : vp_in k n) (kk : JJ p l e R s m args below meth c D tyc A n0 ad0 nL Q (pc + 1) (L) (st) (HH b Y (jm M i k.toNatClampNeg v)) (cells) (slots)) : JJ p l e R s m args below meth c D tyc A n0 ad0 nL Q (pc) (L) (.int v :: .int k :: .ref i :: st) (HH b Y (M)) (cells) (slots) := by
  obtain ⟨h1, h2, h3, h5, h6, h4⟩ := fA_spec hf b Y M
  refine j_iastore x hd (show i < b.2.1 by omega) h2 (by show vp_in k (hLen b i); rw [hLen_lo (by omega), h3]; exact hk) ?_
  rw [HH_wr (fun q => h5 q.1) h1 (h6 _)]
  exact kk
theorem j2_cast (x : j_X p l s m args meth c D tyc A own cc nL) (hb : 104 ≤ b.2.1) {i n : Nat} {k v w : Int32} (hd : decode cc pc = .ok (.castore, 1)) (hf : fA i 101 n = true) (hk : vp_in k n) (hv : vp_nar .char v = w) (kk : JJ p l e R s m args below meth c D tyc A n0 ad0 nL Q (pc + 1) (L) (st) (HH b Y (jm M i k.toNatClampNeg w)) (cells) (slots)) : JJ p l e R s m args below meth c D tyc A n0 ad0 nL Q (pc) (L) (.int v :: .int k :: .ref i :: st) (HH b Y (M)) (cells) (slots) := by
  obtain ⟨h1, h2, h3, h5, h6, h4⟩ := fA_spec hf b Y M
  refine j_castore x hd (show i < b.2.1 by omega) h2 (by show vp_in k (hLen b i); rw [hLen_lo (by omega), h3]; exact hk) hv ?_
  rw [HH_wr (fun q => h5 q.1) h1 (h6 _)]
  exact kk
theorem j2_alen (x : j_X p l s m args meth c D tyc A own cc nL) (hb : 104 ≤ b.2.1) {i t n : Nat} {v : Int32} (hd : decode cc pc = .ok (.arraylength, 1)) (hf : fA i t n = true) (ht : 100 ≤ t ∧ t < 106) (hv : Int32.ofNat n = v) (kk : JJ p l e R s m args below meth c D tyc A n0 ad0 nL Q (pc + 1) (L) (.int v :: st) (HH b Y (M)) (cells) (slots)) : JJ p l e R s m args below meth c D tyc A n0 ad0 nL Q (pc) (L) (.ref i :: st) (HH b Y (M)) (cells) (slots) := by
  obtain ⟨h1, h2, h3, -⟩ := fA_spec hf b Y M
  exact j_alen x hd (show i < b.2.1 by omega) h2 ht.1 ht.2 (by show Int32.ofNat (hLen b i) = v; rw [hLen_lo (by omega), h3]; exact hv) kk
/-- the row of the leagues that are kept -/
theorem j2_ring (x : j_X p l s m args meth c D tyc A own cc nL) (hb : 104 ≤ b.2.1) {k : Int32} {j : Nat} (hd : decode cc pc = .ok (.aaload, 1)) (hj : j < 9) (hk : k = nI j) (kk : JJ p l e R s m args below meth c D tyc A n0 ad0 nL Q (pc + 1) (L) (.ref (15 + 6 * j) :: st) (HH b Y (M)) (cells) (slots)) : JJ p l e R s m args below meth c D tyc A n0 ad0 nL Q (pc) (L) (.int k :: .ref 14 :: st) (HH b Y (M)) (cells) (slots) := by
  subst hk
  have h9 : ∀ j, j < 9 → hR 14 j = some (15 + 6 * j) := by decide +kernel
  refine j_aaload x hd (show 14 < b.2.1 by omega) rfl (by show vp_in (nI j) (hLen b 14); rw [hLen_lo (by omega)]; exact vp_in_nI (show j < 9 from hj) (by decide)) ?_ kk
  show hF b Y M 14 (nI j).toNatClampNeg = _
  rw [nI_clamp (by omega)]
  unfold hF
  rw [if_neg (by omega), if_neg (by omega), if_neg (by omega), h9 j hj]
theorem j2_alenr (x : j_X p l s m args meth c D tyc A own cc nL) (hb : 104 ≤ b.2.1) {v : Int32} (hd : decode cc pc = .ok (.arraylength, 1)) (hv : v = 9) (kk : JJ p l e R s m args below meth c D tyc A n0 ad0 nL Q (pc + 1) (L) (.int v :: st) (HH b Y (M)) (cells) (slots)) : JJ p l e R s m args below meth c D tyc A n0 ad0 nL Q (pc) (L) (.ref 14 :: st) (HH b Y (M)) (cells) (slots) := by
  subst hv
  exact j_alen x hd (show 14 < b.2.1 by omega) (t := 103) rfl (by decide) (by decide) (by show Int32.ofNat (hLen b 14) = 9; rw [hLen_lo (by omega)]; rfl) kk
/-- a store that agrees with this one on all that is read -/
theorem j2_eq {M1 : MM} (he : hEq b M M1) (kk : JJ p l e R s m args below meth c D tyc A n0 ad0 nL Q (pc) (L) (st) (HH b Y (M1)) (cells) (slots)) : JJ p l e R s m args below meth c D tyc A n0 ad0 nL Q (pc) (L) (st) (HH b Y (M)) (cells) (slots) := by
  intro ad ls H locs I
  have hc : ∀ i, i < b.2.1 → ∀ k, k < hLen b i → hF b Y M i k = hF b Y M1 i k := fun i hi k hk => by
    unfold hF
    rw [he i hi k hk]
  have hx : ∀ (H : Heap) (i : Nat), i < b.2.1 → va_at D vwCl (ad i, j_e tyc ad (hT i, hLen b i, hF b Y M i)) H → va_at D vwCl (ad i, j_e tyc ad (hT i, hLen b i, hF b Y M1 i)) H := by
    intro H i hi hv
    by_cases ht : hT i < 100
    · rw [j_e_obj (ci := hT i) rfl ht] at hv ⊢
      have e1 : (List.range (hLen b i)).map (fun k => j_cv ad (hF b Y M i k)) = (List.range (hLen b i)).map (fun k => j_cv ad (hF b Y M1 i k)) := List.map_congr_left fun k hk => by rw [hc i hi k (List.mem_range.mp hk)]
      show va_at D vwCl (ad i, .inr (hT i, (List.range (hLen b i)).map (fun k => j_cv ad (hF b Y M1 i k)))) H
      rw [← e1]
      exact hv
    · rw [j_e_arr (t := hT i) rfl (by omega)] at hv ⊢
      have key : ∀ (f g : Nat → Value), (∀ k, k < hLen b i → f k = g k) → vp_cell (tyc (hT i)) (hLen b i, j_arr ad (hT i) f) = vp_cell (tyc (hT i)) (hLen b i, j_arr ad (hT i) g) := by
        intro f g hfg
        have arr : ∀ (u v : Nat → Value), (∀ k, k < hLen b i → u k = v k) → arrV (tyc (hT i)) (hLen b i) u = arrV (tyc (hT i)) (hLen b i) v := fun u v huv => by
          unfold arrV
          congr 2
          funext j
          exact huv j.val j.isLt
        unfold j_arr
        split
        · exact arr (fun j => va_rf (j_opt ad (f j))) (fun j => va_rf (j_opt ad (g j))) fun k hk => by show va_rf (j_opt ad (f k)) = va_rf (j_opt ad (g k)); rw [hfg k hk]
        · split
          · exact arr (fun j => .long (j_lng (f j))) (fun j => .long (j_lng (g j))) fun k hk => by show Value.long (j_lng (f k)) = .long (j_lng (g k)); rw [hfg k hk]
          · split
            · exact arr (fun j => .double (j_dbl (f j))) (fun j => .double (j_dbl (g j))) fun k hk => by show Value.double (j_dbl (f k)) = .double (j_dbl (g k)); rw [hfg k hk]
            · exact arr (fun j => .int (j_int (f j))) (fun j => .int (j_int (g j))) fun k hk => by show Value.int (j_int (f k)) = .int (j_int (g k)); rw [hfg k hk]
      have hv : H[ad i]? = some (vp_cell (tyc (hT i)) (hLen b i, j_arr ad (hT i) (hF b Y M i))) := hv
      show H[ad i]? = some (vp_cell (tyc (hT i)) (hLen b i, j_arr ad (hT i) (hF b Y M1 i)))
      rw [← key _ _ (hc i hi)]
      exact hv
  obtain ⟨i1, i2, i3, i4, i5, i6, i7, i8⟩ := I
  refine kk ad ls H locs ⟨i1, ?_, ?_, i4, i5, ?_, i7, i8⟩
  · intro k q hk
    have hkl : k < b.2.1 := by
      have := (List.getElem?_eq_some_iff.mp hk).1
      rw [j_w_len] at this
      exact this
    rw [j_w_get (h := HH b Y M1) hkl] at hk
    cases hk
    exact hx H k hkl (i2 k _ (j_w_get (h := HH b Y M) hkl))
  · have same : ∀ (k : Nat) (q : Nat × va_E), (j_w tyc ad (HH b Y M1))[k]? = some q → ∃ q0, (j_w tyc ad (HH b Y M))[k]? = some q0 ∧ q0.1 = q.1 := by
      intro k q hk
      have hkl : k < b.2.1 := by
        have := (List.getElem?_eq_some_iff.mp hk).1
        rw [j_w_len] at this
        exact this
      rw [j_w_get (h := HH b Y M1) hkl] at hk
      cases hk
      exact ⟨_, j_w_get (h := HH b Y M) hkl, rfl⟩
    refine ⟨fun i j u v hi hj huv => ?_, fun k q hk => ?_⟩
    · obtain ⟨u0, a1, a2⟩ := same i u hi
      obtain ⟨v0, b1, b2⟩ := same j v hj
      exact i3.1 i j u0 v0 a1 b1 (a2.trans (huv.trans b2.symm))
    · obtain ⟨q0, a1, a2⟩ := same k q hk
      rw [← a2]
      exact i3.2 k q0 a1
  · intro i hi j k hk
    refine i6 i hi j k ?_
    have hk : hF b Y M1 i j = .ref k := hk
    show hF b Y M i j = .ref k
    unfold hF at hk ⊢
    split at hk
    · cases hk
    · split at hk
      · cases hk
      · split at hk
        · rw [if_neg (by assumption), if_neg (by assumption), if_pos (by assumption)]
          exact hk
        · rw [if_neg (by assumption), if_neg (by assumption), if_neg (by assumption)]
          split at hk
          · exact hk
          · cases hk
variable {d1 mc1 ms1 maxL idx n : Nat} {y : MethodName} {bytes : ByteArray} {ret : Option FieldType} {as st0 : List Value} {i : Nat} {M1 : MM}
theorem j2_callVi (x : j_X p l s m args meth c D tyc A own cc nL) (hb : 104 ≤ b.2.1) {v : Int32} {ci : Nat} {q : vw_C} {ty : Nat → FieldType} (hd : decode cc pc = .ok (.invokevirtual idx, 3)) (hm : j_mV y bytes maxL ret n) (hcon : CM d1 mc1 ms1 y bytes maxL ret (.ref i :: as) b Y M (.inl (some (.int v))) M1) (hw : Cond.methodLink own idx y ∈ j_all) (hq : j_cls ci q ty) (hqy : q.1 = y.cls) (hi : fT i ci = true) (hn : as.length = n) (hst : st.length ≤ 4) (hfit : j_fit R d1 mc1 ms1 cells slots) (h0 : st0 = as.reverse ++ .ref i :: st) (kk : JJ p l e R s m args below meth c D tyc A n0 ad0 nL Q (pc + 3) (L) (.int v :: st) (HH b Y (M1)) (cells + mc1) (slots + ms1)) : JJ p l e R s m args below meth c D tyc A n0 ad0 nL Q (pc) (L) (st0) (HH b Y (M)) (cells) (slots) := by
  simp only [fT, Bool.and_eq_true, decide_eq_true_eq, beq_iff_eq] at hi
  refine j_callV x hd hcon hm hw hq hqy (show i < b.2.1 by omega) hi.2 hn hst hfit h0 jres_no fun v1 h1 hq1 => ?_
  obtain ⟨e1, rfl⟩ := hq1
  cases e1
  exact kk
theorem j2_callSi (x : j_X p l s m args meth c D tyc A own cc nL) (hb : 104 ≤ b.2.1) {v : Int32} (hd : decode cc pc = .ok (.invokestatic idx, 3)) (hm : j_mS y bytes maxL ret n) (hcon : CM d1 mc1 ms1 y bytes maxL ret as b Y M (.inl (some (.int v))) M1) (hw : Cond.methodLink own idx y ∈ j_all) (hn : as.length = n) (hst : st.length ≤ 4) (hfit : j_fit R d1 mc1 ms1 cells slots) (h0 : st0 = as.reverse ++ st) (kk : JJ p l e R s m args below meth c D tyc A n0 ad0 nL Q (pc + 3) (L) (.int v :: st) (HH b Y (M1)) (cells + mc1) (slots + ms1)) : JJ p l e R s m args below meth c D tyc A n0 ad0 nL Q (pc) (L) (st0) (HH b Y (M)) (cells) (slots) := by
  refine j_callS x hd hcon hm hw hn hst hfit h0 jres_no fun v1 h1 hq1 => ?_
  obtain ⟨e1, rfl⟩ := hq1
  cases e1
  exact kk
theorem j2_callSNi (x : j_X p l s m args meth c D tyc A own cc nL) (hb : 104 ≤ b.2.1) {v : Int32} (hd : decode cc pc = .ok (.invokestatic idx, 3)) (hm : j_mS y bytes maxL ret n) (hcon : CM d1 mc1 ms1 y bytes maxL ret as b Y M (.inl (some (.int v))) M1) {host : String} (hw : Cond.methodLinkNest own idx y host ∈ j_nw) (hn : as.length = n) (hst : st.length ≤ 4) (hfit : j_fit R d1 mc1 ms1 cells slots) (h0 : st0 = as.reverse ++ st) (kk : JJ p l e R s m args below meth c D tyc A n0 ad0 nL Q (pc + 3) (L) (.int v :: st) (HH b Y (M1)) (cells + mc1) (slots + ms1)) : JJ p l e R s m args below meth c D tyc A n0 ad0 nL Q (pc) (L) (st0) (HH b Y (M)) (cells) (slots) := by
  refine j_callSN x hd hcon hm hw hn hst hfit h0 jres_no fun v1 h1 hq1 => ?_
  obtain ⟨e1, rfl⟩ := hq1
  cases e1
  exact kk
theorem j2_callVv (x : j_X p l s m args meth c D tyc A own cc nL) (hb : 104 ≤ b.2.1)  {ci : Nat} {q : vw_C} {ty : Nat → FieldType} (hd : decode cc pc = .ok (.invokevirtual idx, 3)) (hm : j_mV y bytes maxL ret n) (hcon : CM d1 mc1 ms1 y bytes maxL ret (.ref i :: as) b Y M (.inl (none)) M1) (hw : Cond.methodLink own idx y ∈ j_all) (hq : j_cls ci q ty) (hqy : q.1 = y.cls) (hi : fT i ci = true) (hn : as.length = n) (hst : st.length ≤ 4) (hfit : j_fit R d1 mc1 ms1 cells slots) (h0 : st0 = as.reverse ++ .ref i :: st) (kk : JJ p l e R s m args below meth c D tyc A n0 ad0 nL Q (pc + 3) (L) (st) (HH b Y (M1)) (cells + mc1) (slots + ms1)) : JJ p l e R s m args below meth c D tyc A n0 ad0 nL Q (pc) (L) (st0) (HH b Y (M)) (cells) (slots) := by
  simp only [fT, Bool.and_eq_true, decide_eq_true_eq, beq_iff_eq] at hi
  refine j_callV x hd hcon hm hw hq hqy (show i < b.2.1 by omega) hi.2 hn hst hfit h0 jres_no fun v1 h1 hq1 => ?_
  obtain ⟨e1, rfl⟩ := hq1
  cases e1
  exact kk
theorem j2_callSv (x : j_X p l s m args meth c D tyc A own cc nL) (hb : 104 ≤ b.2.1)  (hd : decode cc pc = .ok (.invokestatic idx, 3)) (hm : j_mS y bytes maxL ret n) (hcon : CM d1 mc1 ms1 y bytes maxL ret as b Y M (.inl (none)) M1) (hw : Cond.methodLink own idx y ∈ j_all) (hn : as.length = n) (hst : st.length ≤ 4) (hfit : j_fit R d1 mc1 ms1 cells slots) (h0 : st0 = as.reverse ++ st) (kk : JJ p l e R s m args below meth c D tyc A n0 ad0 nL Q (pc + 3) (L) (st) (HH b Y (M1)) (cells + mc1) (slots + ms1)) : JJ p l e R s m args below meth c D tyc A n0 ad0 nL Q (pc) (L) (st0) (HH b Y (M)) (cells) (slots) := by
  refine j_callS x hd hcon hm hw hn hst hfit h0 jres_no fun v1 h1 hq1 => ?_
  obtain ⟨e1, rfl⟩ := hq1
  cases e1
  exact kk
theorem j2_callSNv (x : j_X p l s m args meth c D tyc A own cc nL) (hb : 104 ≤ b.2.1)  (hd : decode cc pc = .ok (.invokestatic idx, 3)) (hm : j_mS y bytes maxL ret n) (hcon : CM d1 mc1 ms1 y bytes maxL ret as b Y M (.inl (none)) M1) {host : String} (hw : Cond.methodLinkNest own idx y host ∈ j_nw) (hn : as.length = n) (hst : st.length ≤ 4) (hfit : j_fit R d1 mc1 ms1 cells slots) (h0 : st0 = as.reverse ++ st) (kk : JJ p l e R s m args below meth c D tyc A n0 ad0 nL Q (pc + 3) (L) (st) (HH b Y (M1)) (cells + mc1) (slots + ms1)) : JJ p l e R s m args below meth c D tyc A n0 ad0 nL Q (pc) (L) (st0) (HH b Y (M)) (cells) (slots) := by
  refine j_callSN x hd hcon hm hw hn hst hfit h0 jres_no fun v1 h1 hq1 => ?_
  obtain ⟨e1, rfl⟩ := hq1
  cases e1
  exact kk
theorem j2_callVr (x : j_X p l s m args meth c D tyc A own cc nL) (hb : 104 ≤ b.2.1) {r : Nat} {ci : Nat} {q : vw_C} {ty : Nat → FieldType} (hd : decode cc pc = .ok (.invokevirtual idx, 3)) (hm : j_mV y bytes maxL ret n) (hcon : CM d1 mc1 ms1 y bytes maxL ret (.ref i :: as) b Y M (.inl (some (.ref r))) M1) (hw : Cond.methodLink own idx y ∈ j_all) (hq : j_cls ci q ty) (hqy : q.1 = y.cls) (hi : fT i ci = true) (hn : as.length = n) (hst : st.length ≤ 4) (hfit : j_fit R d1 mc1 ms1 cells slots) (h0 : st0 = as.reverse ++ .ref i :: st) (kk : JJ p l e R s m args below meth c D tyc A n0 ad0 nL Q (pc + 3) (L) (.ref r :: st) (HH b Y (M1)) (cells + mc1) (slots + ms1)) : JJ p l e R s m args below meth c D tyc A n0 ad0 nL Q (pc) (L) (st0) (HH b Y (M)) (cells) (slots) := by
  simp only [fT, Bool.and_eq_true, decide_eq_true_eq, beq_iff_eq] at hi
  refine j_callV x hd hcon hm hw hq hqy (show i < b.2.1 by omega) hi.2 hn hst hfit h0 jres_no fun v1 h1 hq1 => ?_
  obtain ⟨e1, rfl⟩ := hq1
  cases e1
  exact kk
theorem j2_callSr (x : j_X p l s m args meth c D tyc A own cc nL) (hb : 104 ≤ b.2.1) {r : Nat} (hd : decode cc pc = .ok (.invokestatic idx, 3)) (hm : j_mS y bytes maxL ret n) (hcon : CM d1 mc1 ms1 y bytes maxL ret as b Y M (.inl (some (.ref r))) M1) (hw : Cond.methodLink own idx y ∈ j_all) (hn : as.length = n) (hst : st.length ≤ 4) (hfit : j_fit R d1 mc1 ms1 cells slots) (h0 : st0 = as.reverse ++ st) (kk : JJ p l e R s m args below meth c D tyc A n0 ad0 nL Q (pc + 3) (L) (.ref r :: st) (HH b Y (M1)) (cells + mc1) (slots + ms1)) : JJ p l e R s m args below meth c D tyc A n0 ad0 nL Q (pc) (L) (st0) (HH b Y (M)) (cells) (slots) := by
  refine j_callS x hd hcon hm hw hn hst hfit h0 jres_no fun v1 h1 hq1 => ?_
  obtain ⟨e1, rfl⟩ := hq1
  cases e1
  exact kk
theorem j2_callSNr (x : j_X p l s m args meth c D tyc A own cc nL) (hb : 104 ≤ b.2.1) {r : Nat} (hd : decode cc pc = .ok (.invokestatic idx, 3)) (hm : j_mS y bytes maxL ret n) (hcon : CM d1 mc1 ms1 y bytes maxL ret as b Y M (.inl (some (.ref r))) M1) {host : String} (hw : Cond.methodLinkNest own idx y host ∈ j_nw) (hn : as.length = n) (hst : st.length ≤ 4) (hfit : j_fit R d1 mc1 ms1 cells slots) (h0 : st0 = as.reverse ++ st) (kk : JJ p l e R s m args below meth c D tyc A n0 ad0 nL Q (pc + 3) (L) (.ref r :: st) (HH b Y (M1)) (cells + mc1) (slots + ms1)) : JJ p l e R s m args below meth c D tyc A n0 ad0 nL Q (pc) (L) (st0) (HH b Y (M)) (cells) (slots) := by
  refine j_callSN x hd hcon hm hw hn hst hfit h0 jres_no fun v1 h1 hq1 => ?_
  obtain ⟨e1, rfl⟩ := hq1
  cases e1
  exact kk
end J2
end

section
def nx_seven : ByteArray := ⟨#[0x2a, 0x2b, 0xb7, 0x00, 0x0d, 0xb1]⟩
theorem nx_0 : decode nx_seven 0 = .ok (.aload_n 0, 1) := by decide +kernel
theorem nx_1 : decode nx_seven 1 = .ok (.aload_n 1, 1) := by decide +kernel
theorem nx_2 : decode nx_seven 2 = .ok (.invokespecial 13, 3) := by decide +kernel
theorem nx_5 : decode nx_seven 5 = .ok (.return_, 1) := by decide +kernel
/-- the words of such a throw: the class X, the one above it Y, those between that and Throwable -/
def nx_atoms (own : String) (ic : Nat) (X Y : String) (names : List String) : List Cond :=
  Bundle.throwableAtoms ++ Bundle.throwableSAtoms ++ (Bundle.passSAtoms X Y 13 nx_seven ++ Bundle.chainSAtoms Y names) ++ 
  [.methodLink own ic (Bundle.initS X), .instantiable X 6, .castable X X, .selects X Bundle.tFill0 Bundle.tFill0, .selects X Bundle.tFill Bundle.tFill,
   .lays X Bundle.tN "cause" "Ljava/lang/Throwable;", .lays X Bundle.tN "stackTrace" Bundle.steD, .lays X Bundle.tN "suppressedExceptions" Bundle.listD, .lays X Bundle.tN "detailMessage" "Ljava/lang/String;",
   .isRef (.static Bundle.tN "UNASSIGNED_STACK" Bundle.steD), .isRef (.static Bundle.tN "SUPPRESSED_SENTINEL" Bundle.listD),
   .fieldLink Bundle.tN 198 Bundle.tN "backtrace" "Ljava/lang/Object;", .lays Bundle.tN Bundle.tN "backtrace" "Ljava/lang/Object;", .lays X Bundle.tN "backtrace" "Ljava/lang/Object;"]
def nx_at (own : String) (ic : Nat) (X Y : String) (names : List String) : List Cond := (nx_atoms own ic X Y names).filter vx_no
section NX
variable {p : Program} {l : Launch} {e : Env} {R : Room} {s : State} {m₀ : MethodId} {args : Array Value} {below : List Frame} {meth : Method} {c : Code} {W : State} {locs : List Loc} {cells slots : Nat}
set_option maxHeartbeats 1000000 in
theorem nx_ctorThrow (X : Stand p l e R s m₀ args below meth c W locs cells slots) (hexec : p.tables.exec = Jvm.exec) (htr : e.platform.stackTraces = false) {own cls Y0 : String} {names : List String} {ic : Nat}
    (hown : s.vm.findClass own = some m₀.cls) (hcls : Bundle.fit cls = true) (hY0 : Bundle.fit Y0 = true) (hnames : ∀ n ∈ names, Bundle.fit n = true)
    (h : ∀ a ∈ nx_atoms own ic cls Y0 names, a.before args s = true)
    (hlocs : ∀ x ∈ locs, ∀ cell, s.heap[x.base]? = some cell → cell.vm.isStatics = false)
    {a : Addr} {cX : ClassId} {kX : Class} (hfoundX : s.vm.findClass cls = some cX) (hkX : s.vm.classes[cX]? = some kX) (hcell : W.heap[a]? = some (freshCell cX kX)) (hnew : s.heap.size ≤ a)
    {msg : Value} (hmsg : msg.isRef = true)
    {g : JFrame} (hg : g.method = m₀) (hsize : g.locals.size = c.maxLocals) {rest : List Value} (hstack : g.stack = msg :: .ref a :: .ref a :: rest)
    (hlocked : g.locked = none) (hentered : g.entered = []) (hd6 : decode c.code g.pc = .ok (.invokespecial ic, 3)) (hd9 : decode c.code (g.pc + 3) = .ok (.athrow, 1)) (hout : ∀ x ∈ c.exceptionTable.toList, covers x (g.pc + 3) = false) (hlocks : meth.locks = false)
    (hRframes : names.length + 4 < R.frames) (hRlocals : 2 * g.monitorRoom + ((Value.ref a :: rest).map fun v => v.category).sum + (13 * (names.length + 2) + 42) ≤ R.locals) :
    ∃ U : State, Steps p.tables e below (W.setTop g) U ∧ U.status = .running ∧ Ended U below (.threw a) ∧ s.WarmedH U.vm ∧ s.sameButNew ({ U with vm := s.vm } : State) locs cells slots ∧ ∃ ce, U.heap[a]? = some ce ∧ ce.cls = cX ∧ ce.vm = .none := by
  have howns : e.platform.frameOwnsMonitors = true := by rw [X.admits.platform]
  have hfin : e.platform.finalization = false := by rw [X.admits.platform]
  have hpl : e.platform.magicAccessors = ({} : Platform).magicAccessors := by rw [X.admits.platform]
  have a' : ∀ x, x ∈ nx_atoms own ic cls Y0 names → x.holds args s none s [] = true := fun x hx => h x hx
  obtain ⟨T, Z0, L, -, Y⟩ := ThrowableC.of_atoms (args := args) howns hfin hpl (fun x hx => h x (by simp [nx_atoms, hx]))
  obtain ⟨Z, M, LZ, LM, hnZ⟩ := Init0T.ofS_atoms (args := args) hpl L Y (fun x hx => h x (by simp [nx_atoms, hx]))
  obtain ⟨P1, L1, hP1m, hP1s⟩ := PassC.ofS_atoms (args := args) (s := s) hpl (X := cls) (Y := Y0) (Bundle.fit_spec hcls).1 (Bundle.fit_spec hY0).2 nx_0 nx_1 nx_2 nx_5 (fun x hx => h x (by simp [nx_atoms, hx]))
  obtain ⟨P2, Ps, hlen, L2, hL, hP2m, hsup, hpass⟩ := Bundle.chainS (args := args) hpl hnZ names Y0 hY0 hnames (fun x hx => h x (by simp [nx_atoms, hx]))
  have hlink1 := Option.some.inj (hP1s.symm.trans hP2m)
  have hfound : s.vm.findClass cls = some P1.m.cls := findClass_of_methodNamed hP1m
  cases Option.some.inj (hfoundX.symm.trans hfound)
  obtain ⟨c1, kX', hc1, hk, hord, -, -, hn6⟩ := Cond.instantiable_spec (a' (.instantiable cls 6) (by simp [nx_atoms]))
  cases Option.some.inj (hc1.symm.trans hfound)
  cases Option.some.inj (hkX.symm.trans hk)
  have hsel0 : selectMethod e.platform s.vm P1.m.cls T.fill0 = .method T.fill0 := by
    obtain ⟨c2, r2, m2, q1, q2, q3, q4, -⟩ := Cond.selects_spec (a' (.selects cls Bundle.tFill0 Bundle.tFill0) (by simp [nx_atoms]))
    cases Option.some.inj (q1.symm.trans hfound)
    cases Option.some.inj (q2.symm.trans (State.methodFound?_of_named Y.fill0 (by decide)))
    cases Option.some.inj (q3.symm.trans Y.fill0)
    rw [Launch.admits_selectMethod X.admits]; exact q4
  have hselF : selectMethod e.platform s.vm P1.m.cls T.fill = .method T.fill := by
    obtain ⟨c2, r2, m2, q1, q2, q3, q4, -⟩ := Cond.selects_spec (a' (.selects cls Bundle.tFill Bundle.tFill) (by simp [nx_atoms]))
    cases Option.some.inj (q1.symm.trans hfound)
    cases Option.some.inj (q2.symm.trans (State.methodFound?_of_named Y.fill (by decide)))
    cases Option.some.inj (q3.symm.trans Y.fill)
    rw [Launch.admits_selectMethod X.admits]; exact q4
  obtain ⟨cellS0, hcS0, hiss⟩ := Y.statics
  obtain ⟨u0, hu0⟩ := Cond.staticRefV Y.unassigned L.unassignedStatic L.statics hcS0 hiss (a' (.isRef (.static Bundle.tN "UNASSIGNED_STACK" Bundle.steD)) (by simp [nx_atoms]))
  obtain ⟨sen, hsen⟩ := Cond.staticRefV Y.sentinel L.sentinelStatic L.statics hcS0 hiss (a' (.isRef (.static Bundle.tN "SUPPRESSED_SENTINEL" Bundle.listD)) (by simp [nx_atoms]))
  obtain ⟨ci198, i198, fB, hk198, hg198, ha198, hsB, -, hnB, htB, hffB⟩ := Cond.ownField (t := .object "java/lang/Object") Y.found L.cls (by decide +kernel) (a' (.fieldLink Bundle.tN 198 Bundle.tN "backtrace" "Ljava/lang/Object;") (by simp [nx_atoms])) (a' (.lays Bundle.tN Bundle.tN "backtrace" "Ljava/lang/Object;") (by simp [nx_atoms])) e.platform hpl
  obtain ⟨cellS, hcS', heS, -, hkeep⟩ := X.same.2.2.2.2.2 T.aS cellS0 hcS0
  have hcellS : W.heap[T.aS]? = some cellS := hcS'
  have hout' : ∀ i, (⟨T.aS, i⟩ : Loc) ∉ locs := fun i hmem => by
    have := hlocs _ hmem cellS0 hcS0
    rw [hiss] at this; cases this
  have hknownS : cellS.vm ≠ .unknown := by
    rw [heS]; intro hu
    rw [show cellS0.vm = .unknown from hu] at hiss
    cases hiss
  have hneS : T.aS ≠ a := Nat.ne_of_lt (Nat.lt_of_lt_of_le (Array.getElem?_eq_some_iff.mp hcS0).1 hnew)
  obtain ⟨iM, hffM⟩ := Y.msg
  obtain ⟨tyC, dC, hdC, hdnC⟩ := Cond.laysAt hfound hk Y.cause (a' (.lays cls Bundle.tN "cause" "Ljava/lang/Throwable;") (by simp [nx_atoms]))
  obtain ⟨tyS, dS, hdS, hdnS⟩ := Cond.laysAt hfound hk Y.stack (a' (.lays cls Bundle.tN "stackTrace" Bundle.steD) (by simp [nx_atoms]))
  obtain ⟨tyP, dP, hdP, hdnP⟩ := Cond.laysAt hfound hk Y.supp (a' (.lays cls Bundle.tN "suppressedExceptions" Bundle.listD) (by simp [nx_atoms]))
  obtain ⟨tyM, dM, hdM, hdnM⟩ := Cond.laysAt hfound hk hffM (a' (.lays cls Bundle.tN "detailMessage" "Ljava/lang/String;") (by simp [nx_atoms]))
  obtain ⟨tyB, dB, hdB, hdnB⟩ := Cond.laysAt hfound hk hffB (a' (.lays cls Bundle.tN "backtrace" "Ljava/lang/Object;") (by simp [nx_atoms]))
  have bC := Cond.laysApart hdB hdC hdnB hdnC (by rw [hnB, Y.causeName]; decide)
  have bS := Cond.laysApart hdB hdS hdnB hdnS (by rw [hnB, Y.stackName]; decide)
  have bP := Cond.laysApart hdB hdP hdnB hdnP (by rw [hnB, Y.suppName]; decide)
  have hskip : SkipFacts T e.platform s (fun u => u) u0 ((preparedCellV T.toThrowableT (freshCell P1.m.cls kX) a u0 sen).withEntry W.cur) :=
    ⟨{ ci198 := ci198, i198 := i198, fBack := fB }, ⟨hk198, hg198, ha198, hsB⟩, by
      have := fresh_default (c := P1.m.cls) tyB
      rw [htB] at this
      simpa [preparedCellV, Cell.setSlot, Cell.withEntry, Array.getElem?_setIfInBounds, bC, bS, bP, bC.symm, bS.symm, bP.symm, defaultValue] using this, fun _ _ => rfl⟩
  obtain ⟨tm, methC, cdC, kC, vm₁, hnC, -, -, -, -, -, -, -, hW₁, st1⟩ := Steps.initColdS (tb := p.tables) (e := e) (below := below) (s := s) (U := W) X.here hexec X.warmed hpl hown (t := Bundle.initS cls) rfl rfl (Bundle.fit_spec hcls).2
    (a' (.methodLink own ic (Bundle.initS cls)) (by simp [nx_atoms])) (h (.instanceMethod (Bundle.initS cls)) (by simp [nx_atoms, Bundle.passSAtoms])) (bytes := nx_seven) (maxL := 2) (h (.code (Bundle.initS cls) nx_seven 2 none) (by simp [nx_atoms, Bundle.passSAtoms]))
    (f := g) hg (a := a) (msg := msg) (rest := .ref a :: rest) hstack hd6
  cases Option.some.inj (hnC.symm.trans hP1m)
  have X₁ := X.noted hW₁
  obtain ⟨vm₂, X₂, st2⟩ := X₁.ctorMessageOffV hexec (g := { g with stack := .ref a :: rest }) hg hsize T L Z LZ M LM (P1 :: P2 :: Ps)
    (fun P hP => by rcases List.mem_cons.mp hP with rfl | hP; exact L1; rcases List.mem_cons.mp hP with rfl | hP; exact L2; exact hL P hP) ⟨hlink1, hsup, hpass⟩ (u0 := u0) (sen := sen) (self := a) hmsg (cell := freshCell P1.m.cls kX) (cellS := cellS)
    hcell (fun _ => by simp) (by simp) rfl rfl hsel0 hselF hcellS hneS hknownS (by rw [hkeep _ (hout' _)]; exact hu0) (by rw [hkeep _ (hout' _)]; exact hsen)
    (Takes.of_laid hk hord tyC (by rw [Y.causeType]; rfl)) (Takes.of_laid hk hord tyS (by rw [Y.stackType]; exact fits_refV_array _ u0)) (Takes.of_laid hk hord tyP (by rw [Y.suppType]; exact fits_refV_object _ sen))
    (Takes.of_laid hk hord tyM (by rw [Y.msgType]; exact fits_refV_object _ ⟨msg, hmsg⟩)) Y.objLocals hskip htr [] hd6
    (by simp only [List.length_cons, hlen]; omega) (by simp only [List.length_cons, hlen]; exact hRlocals)
  obtain ⟨hwalk, hrun, hended, hWU, hsame⟩ := X₂.athrowLeaves hexec (g := { g with stack := .ref a :: rest, pc := g.pc + 3 }) hg hlocked hentered hout (a := a) (rest := rest) rfl hd9
  have hlt : a < ((W.setVm vm₁).setVm vm₂).heap.size := (Array.getElem?_eq_some_iff.mp hcell).1
  have hU := heapAt_setCell_self (s := (W.setVm vm₁).setVm vm₂) (plainBareV T.toThrowableT (freshCell P1.m.cls kX) a u0 sen msg) hlt
  refine ⟨_, st1 _ (fun acts => ?_), hrun, hended, hWU, hsame.weaken (fun y hy hlt' => ?_) (Nat.le_refl _) (Nat.le_refl _), _, hU, rfl, rfl⟩
  · rw [doInvoke_state]
    exact st2 _ hwalk
  · rcases List.mem_append.mp hy with h1 | h1
    · exact h1
    · exfalso
      have hb : y.base = a := by
        simp only [List.mem_cons, List.not_mem_nil, or_false] at h1
        rcases h1 with rfl | rfl | rfl | rfl | rfl <;> rfl
      rw [hb] at hlt'
      exact Nat.not_lt.mpr hnew hlt'
end NX
section NXR
variable {p : Program} {l : Launch} {e : Env} {R : Room} {s : State} {m : MethodId} {args : Array Value} {below : List Frame} {meth : Method} {c : Code} {H : Heap} {locs : List Loc} {cells slots : Nat} {Q : State → Prop}
variable {mc ms : Nat} {free : Addr → Prop} {ls : Array Slot} {rest : List Value} {Qc : Array Value → State → Outcome → State → Prop} {XC : String → State → State → Prop}
theorem nx_throwS {cc : ByteArray} {pc : Nat} (hexec : p.tables.exec = Jvm.exec) (hb : c.code = cc) (hl : l.stackTraces = false) {own cls Y0 text : String} {names : List String} {ik is ic mc ms sa : Nat} {A : Nat → Prop}
    (hown : s.vm.findClass own = some m.cls) (hcls : Bundle.fit cls = true) (hY0 : Bundle.fit Y0 = true) (hnames : ∀ n ∈ names, Bundle.fit n = true)
    (hk : (Cond.classLink own ik cls).before args s = true) (hini : (Cond.initialized cls).before args s = true) (hstr : vk_R own is text sa s) (hat : ∀ w ∈ nx_at own ic cls Y0 names, w.before args s = true)
    (hgood : ∀ w ∈ Cond.classLink own ik cls :: Cond.initialized cls :: nx_at own ic cls Y0 names, vx_ot w = true)
    (hU : vx_Zq Bundle.tN "UNASSIGNED_STACK" Bundle.steD A s s.heap) (hN : vx_Zq Bundle.tN "SUPPRESSED_SENTINEL" Bundle.listD A s s.heap) (hS : va_S A s.heap H locs) (hsize : ls.size = c.maxLocals)
    (d0 : decode cc pc = .ok (.new ik, 3)) (d3 : decode cc (pc + 3) = .ok (.dup, 1)) (d4 : decode cc (pc + 4) = .ok (.ldc is, 2)) (d6 : decode cc (pc + 6) = .ok (.invokespecial ic, 3)) (d9 : decode cc (pc + 9) = .ok (.athrow, 1))
    (hout : ∀ x ∈ c.exceptionTable.toList, covers x (pc + 9) = false)
    (hRframes : names.length + 4 < R.frames) (hRlocals : (rest.map fun v => v.category).sum + (13 * (names.length + 2) + 43) ≤ R.locals) (hRcells : cells + 1 ≤ R.cells) (hRslots : slots + 6 ≤ R.slots) (hlocks : meth.locks = false)
    (hx : ∀ t : State, s.vm.Alike t.vm → H.size ≤ t.heap.size → (∀ q : Nat, q < H.size → t.heap[q]? = H[q]?) → XC cls s t)
    (hf : ∀ z ∈ locs, free z.base) (hc : cells + 1 ≤ mc) (hs : slots + 6 ≤ ms) :
    W p l e R s m args below meth c H locs cells slots (vx_MQ below Qc XC args s mc ms free) (F0 m pc ls rest) := by
  intro T hT X
  have htr : e.platform.stackTraces = false := (show e.platform.stackTraces = l.stackTraces by rw [X.admits.platform]).trans hl
  have Y := vx_rebase X (R' := { frames := R.frames, locals := R.locals, cells := 1, slots := 6 }) (Nat.le_refl _) (Nat.le_refl _) hRcells hRslots
  obtain ⟨s', hA⟩ : ∃ z, z = (T.setVm s.vm).setFrames (.invoking m args :: below) := ⟨_, rfl⟩
  rw [← hA] at Y
  have hvm : s'.vm = s.vm := by rw [hA]; rfl
  have hhp : s'.heap = H := by rw [hA]; exact hT
  have hW0 : s.WarmedH s'.vm := by rw [hvm]; exact State.WarmedH.refl s
  have hat' : ∀ w ∈ nx_at own ic cls Y0 names, w.before args s' = true := fun w hw => vx_ot_at hW0 hvm.symm (hgood w (List.mem_cons_of_mem _ (List.mem_cons_of_mem _ hw))) (hat w hw)
  have hk' : (Cond.classLink own ik cls).before args s' = true := vx_ot_at hW0 hvm.symm (hgood _ List.mem_cons_self) hk
  have hini' : (Cond.initialized cls).before args s' = true := vx_ot_at hW0 hvm.symm (hgood _ (List.mem_cons_of_mem _ List.mem_cons_self)) hini
  have hU' : vx_Zq Bundle.tN "UNASSIGNED_STACK" Bundle.steD A s' s'.heap := by rw [hhp]; exact vx_Zq.moved hW0.alike (hU.kept hS.2.1)
  have hN' : vx_Zq Bundle.tN "SUPPRESSED_SENTINEL" Bundle.listD A s' s'.heap := by rw [hhp]; exact vx_Zq.moved hW0.alike (hN.kept hS.2.1)
  have h : ∀ w ∈ nx_atoms own ic cls Y0 names, w.before args s' = true := vx_own hat' (vx_isRefq hU'.1) (vx_isRefq hN'.1) hU'.2.word hN'.2.word
  have hown' : s'.vm.findClass own = some m.cls := by rw [hvm]; exact hown
  have hins : (Cond.instantiable cls 6).before args s' = true := h _ (by simp [nx_atoms])
  obtain ⟨vm₁, cX, kX, hfX, hkX, -, -, X₁, st1⟩ := Y.newCold hexec (own := own) (C := cls) (index := ik) (n := 6) hown' hk' hins hini'
    (g := F0 m pc ls rest) rfl (by rw [hb]; exact d0) (Nat.le_refl _) (Nat.le_refl _)
  generalize hT1 : (T.setVm vm₁).pushCell { cls := cX, slots := kX.instanceTypes.map defaultValue, vm := .none } = T1 at X₁ st1
  have hcat : (Value.ref T.heap.size).category = 1 := rfl
  have hcellA : T1.heap[T.heap.size]? = some (freshCell cX kX) := by rw [← hT1]; exact State.heap_pushCell_size _ _
  have d3' : decode c.code (pc + 3) = .ok (.dup, 1) := by rw [hb]; exact d3
  have d4' : decode c.code (pc + 4) = .ok (.ldc is, 2) := by rw [hb]; exact d4
  have hstr' : vk_R own is text sa s' := vk_R.warm hW0 hstr
  obtain ⟨U, hsteps, hrun, hend, hW, hsame, ce, hce, hO1, hO2⟩ := nx_ctorThrow X₁ hexec htr (own := own) (cls := cls) (Y0 := Y0) (names := names) (ic := ic) hown' hcls hY0 hnames h (fun x hx => nomatch hx) hfX hkX hcellA (by rw [hhp, hT]; exact Nat.le_refl _) (msg := .ref sa) rfl
    (g := { method := m, pc := pc + 6, locals := ls, stack := .ref sa :: .ref T.heap.size :: .ref T.heap.size :: rest, locked := none }) rfl hsize (rest := rest) rfl rfl rfl (by rw [hb]; exact d6) (by rw [hb]; exact d9) hout hlocks hRframes (by simp only [List.map_cons, List.sum_cons, hcat]; omega)
  obtain ⟨f1, f2⟩ := vx_frame hsame
  rw [hhp] at f1 f2
  have hWs : s.WarmedH U.vm := State.WarmedH.trans hW0 hW
  have hcl : s.vm.findClass cls = some ce.cls := by
    have h9 := hfX
    rw [hvm] at h9
    rw [hO1]
    exact h9
  have hall : s.sameButNew ({ U with vm := s.vm } : State) locs mc ms := by
    subst hA
    obtain ⟨e1, e2⟩ := hsame
    rw [State.setFrames_setFrames] at e1
    have h2 : (T.setVm s.vm).sameButNew ({ U with vm := s.vm } : State) [] (0 + 1) (0 + 6) := ⟨e1, e2⟩
    have h3 := X.same.trans h2
    rw [List.append_nil] at h3
    exact h3.mono hc hs
  refine ⟨U, ?_, .threw T.heap.size, hrun, hend, Or.inr ⟨T.heap.size, rfl, cls, ce, locs, hx U hWs.alike f1 (fun q hq => f2 q hq (fun z hz => nomatch hz)), hce, hO2, hcl, hWs, hall, hf⟩⟩
  refine st1 _ ?_
  show Steps p.tables e below (T1.setTop { method := m, pc := pc + 3, locals := ls, stack := .ref T.heap.size :: rest, locked := none }) _
  jvm_step X₁.here [X₁.here.top, hexec, d3', Value.category]
  exact X₁.ldcString hexec (own := own) (text := text) (index := is) (a := sa) hown' hstr'.1 hstr'.2
    (g := { method := m, pc := pc + 4, locals := ls, stack := .ref T.heap.size :: .ref T.heap.size :: rest, locked := none }) rfl d4' _ hsteps
end NXR
section NXR
variable {p : Program} {l : Launch} {e : Env} {R : Room} {s : State} {m : MethodId} {args : Array Value} {below : List Frame} {meth : Method} {c : Code} {H : Heap} {locs : List Loc} {cells slots : Nat} {Q : State → Prop}
variable {mc ms : Nat} {free : Addr → Prop} {ls : Array Slot} {rest : List Value} {Qc : Array Value → State → Outcome → State → Prop} {XC : String → State → State → Prop}
theorem nx_throwSW {cc : ByteArray} {pc : Nat} (hexec : p.tables.exec = Jvm.exec) (hb : c.code = cc) (hl : l.stackTraces = false) {own cls Y0 text : String} {names : List String} {ik is ic mc ms sa : Nat} {A : Nat → Prop}
    (hown : s.vm.findClass own = some m.cls) (hcls : Bundle.fit cls = true) (hY0 : Bundle.fit Y0 = true) (hnames : ∀ n ∈ names, Bundle.fit n = true)
    (hk : (Cond.classLink own ik cls).before args s = true) (hini : (Cond.initialized cls).before args s = true) (hstr : vk_R own is text sa s) (hat : ∀ w ∈ nx_at own ic cls Y0 names, w.before args s = true)
    (hgood : ∀ w ∈ Cond.classLink own ik cls :: Cond.initialized cls :: nx_at own ic cls Y0 names, vx_ot w = true)
    (hU : vx_Zq Bundle.tN "UNASSIGNED_STACK" Bundle.steD A s s.heap) (hN : vx_Zq Bundle.tN "SUPPRESSED_SENTINEL" Bundle.listD A s s.heap) (hS : va_S A s.heap H locs) (hsize : ls.size = c.maxLocals)
    (d0 : decode cc pc = .ok (.new ik, 3)) (d3 : decode cc (pc + 3) = .ok (.dup, 1)) (d4 : decode cc (pc + 4) = .ok (.ldc_w is, 3)) (d7 : decode cc (pc + 7) = .ok (.invokespecial ic, 3)) (d10 : decode cc (pc + 10) = .ok (.athrow, 1))
    (hout : ∀ x ∈ c.exceptionTable.toList, covers x (pc + 10) = false)
    (hRframes : names.length + 4 < R.frames) (hRlocals : (rest.map fun v => v.category).sum + (13 * (names.length + 2) + 43) ≤ R.locals) (hRcells : cells + 1 ≤ R.cells) (hRslots : slots + 6 ≤ R.slots) (hlocks : meth.locks = false)
    (hx : ∀ t : State, s.vm.Alike t.vm → H.size ≤ t.heap.size → (∀ q : Nat, q < H.size → t.heap[q]? = H[q]?) → XC cls s t)
    (hf : ∀ z ∈ locs, free z.base) (hc : cells + 1 ≤ mc) (hs : slots + 6 ≤ ms) :
    W p l e R s m args below meth c H locs cells slots (vx_MQ below Qc XC args s mc ms free) (F0 m pc ls rest) := by
  intro T hT X
  have htr : e.platform.stackTraces = false := (show e.platform.stackTraces = l.stackTraces by rw [X.admits.platform]).trans hl
  have Y := vx_rebase X (R' := { frames := R.frames, locals := R.locals, cells := 1, slots := 6 }) (Nat.le_refl _) (Nat.le_refl _) hRcells hRslots
  obtain ⟨s', hA⟩ : ∃ z, z = (T.setVm s.vm).setFrames (.invoking m args :: below) := ⟨_, rfl⟩
  rw [← hA] at Y
  have hvm : s'.vm = s.vm := by rw [hA]; rfl
  have hhp : s'.heap = H := by rw [hA]; exact hT
  have hW0 : s.WarmedH s'.vm := by rw [hvm]; exact State.WarmedH.refl s
  have hat' : ∀ w ∈ nx_at own ic cls Y0 names, w.before args s' = true := fun w hw => vx_ot_at hW0 hvm.symm (hgood w (List.mem_cons_of_mem _ (List.mem_cons_of_mem _ hw))) (hat w hw)
  have hk' : (Cond.classLink own ik cls).before args s' = true := vx_ot_at hW0 hvm.symm (hgood _ List.mem_cons_self) hk
  have hini' : (Cond.initialized cls).before args s' = true := vx_ot_at hW0 hvm.symm (hgood _ (List.mem_cons_of_mem _ List.mem_cons_self)) hini
  have hU' : vx_Zq Bundle.tN "UNASSIGNED_STACK" Bundle.steD A s' s'.heap := by rw [hhp]; exact vx_Zq.moved hW0.alike (hU.kept hS.2.1)
  have hN' : vx_Zq Bundle.tN "SUPPRESSED_SENTINEL" Bundle.listD A s' s'.heap := by rw [hhp]; exact vx_Zq.moved hW0.alike (hN.kept hS.2.1)
  have h : ∀ w ∈ nx_atoms own ic cls Y0 names, w.before args s' = true := vx_own hat' (vx_isRefq hU'.1) (vx_isRefq hN'.1) hU'.2.word hN'.2.word
  have hown' : s'.vm.findClass own = some m.cls := by rw [hvm]; exact hown
  have hins : (Cond.instantiable cls 6).before args s' = true := h _ (by simp [nx_atoms])
  obtain ⟨vm₁, cX, kX, hfX, hkX, -, -, X₁, st1⟩ := Y.newCold hexec (own := own) (C := cls) (index := ik) (n := 6) hown' hk' hins hini'
    (g := F0 m pc ls rest) rfl (by rw [hb]; exact d0) (Nat.le_refl _) (Nat.le_refl _)
  generalize hT1 : (T.setVm vm₁).pushCell { cls := cX, slots := kX.instanceTypes.map defaultValue, vm := .none } = T1 at X₁ st1
  have hcat : (Value.ref T.heap.size).category = 1 := rfl
  have hcellA : T1.heap[T.heap.size]? = some (freshCell cX kX) := by rw [← hT1]; exact State.heap_pushCell_size _ _
  have d3' : decode c.code (pc + 3) = .ok (.dup, 1) := by rw [hb]; exact d3
  have d4' : decode c.code (pc + 4) = .ok (.ldc_w is, 3) := by rw [hb]; exact d4
  have hstr' : vk_R own is text sa s' := vk_R.warm hW0 hstr
  obtain ⟨U, hsteps, hrun, hend, hW, hsame, ce, hce, hO1, hO2⟩ := nx_ctorThrow X₁ hexec htr (own := own) (cls := cls) (Y0 := Y0) (names := names) (ic := ic) hown' hcls hY0 hnames h (fun x hx => nomatch hx) hfX hkX hcellA (by rw [hhp, hT]; exact Nat.le_refl _) (msg := .ref sa) rfl
    (g := { method := m, pc := pc + 7, locals := ls, stack := .ref sa :: .ref T.heap.size :: .ref T.heap.size :: rest, locked := none }) rfl hsize (rest := rest) rfl rfl rfl (by rw [hb]; exact d7) (by rw [hb]; exact d10) hout hlocks hRframes (by simp only [List.map_cons, List.sum_cons, hcat]; omega)
  obtain ⟨f1, f2⟩ := vx_frame hsame
  rw [hhp] at f1 f2
  have hWs : s.WarmedH U.vm := State.WarmedH.trans hW0 hW
  have hcl : s.vm.findClass cls = some ce.cls := by
    have h9 := hfX
    rw [hvm] at h9
    rw [hO1]
    exact h9
  have hall : s.sameButNew ({ U with vm := s.vm } : State) locs mc ms := by
    subst hA
    obtain ⟨e1, e2⟩ := hsame
    rw [State.setFrames_setFrames] at e1
    have h2 : (T.setVm s.vm).sameButNew ({ U with vm := s.vm } : State) [] (0 + 1) (0 + 6) := ⟨e1, e2⟩
    have h3 := X.same.trans h2
    rw [List.append_nil] at h3
    exact h3.mono hc hs
  refine ⟨U, ?_, .threw T.heap.size, hrun, hend, Or.inr ⟨T.heap.size, rfl, cls, ce, locs, hx U hWs.alike f1 (fun q hq => f2 q hq (fun z hz => nomatch hz)), hce, hO2, hcl, hWs, hall, hf⟩⟩
  refine st1 _ ?_
  show Steps p.tables e below (T1.setTop { method := m, pc := pc + 3, locals := ls, stack := .ref T.heap.size :: rest, locked := none }) _
  jvm_step X₁.here [X₁.here.top, hexec, d3', Value.category]
  exact X₁.ldcStringW hexec (own := own) (text := text) (index := is) (a := sa) hown' hstr'.1 hstr'.2
    (g := { method := m, pc := pc + 4, locals := ls, stack := .ref T.heap.size :: .ref T.heap.size :: rest, locked := none }) rfl d4' _ hsteps
end NXR
/-- such an exception's words, all among the tables' -/
def j_exN (own : String) (ik ic : Nat) (cls Y0 : String) (names : List String) : Prop := Bundle.fit cls = true ∧ Bundle.fit Y0 = true ∧ (∀ n ∈ names, Bundle.fit n = true) ∧ Cond.classLink own ik cls ∈ j_all ∧ Cond.initialized cls ∈ j_all ∧ (∀ w ∈ nx_at own ic cls Y0 names, w ∈ j_all ∨ w ∈ j_nw) ∧ names.length ≤ 4
section JTN
variable {p : Program} {l : Launch} {e : Env} {s : State} {m : MethodId} {args : Array Value} {below : List Frame} {meth : Method} {c : Code} {D : va_G} {tyc : Nat → ClassId} {A : Nat → Prop} {n0 : Nat} {ad0 : Nat → Nat} {nL : Nat} {Qs : State → Prop}
variable {own : String} {cc : ByteArray} {pc : Nat} {L : List (Option Value)} {st : List Value} {h : MH} {cells slots d mc ms : Nat} {Q : MO → MH → Prop}
theorem j_throwNS (x : j_X p l s m args meth c D tyc A own cc nL) {cls Y0 text : String} {names : List String} {ik is ic : Nat} (hE : j_exN own ik ic cls Y0 names) (hstr : (own, is, text) ∈ j_strs)
    (d0 : decode cc pc = .ok (.new ik, 3)) (d3 : decode cc (pc + 3) = .ok (.dup, 1)) (d4 : decode cc (pc + 4) = .ok (.ldc is, 2)) (d6 : decode cc (pc + 6) = .ok (.invokespecial ic, 3)) (d9 : decode cc (pc + 9) = .ok (.athrow, 1))
    (htab : ∀ z ∈ c.exceptionTable.toList, False) (hc : cells + 1 ≤ mc) (hs : slots + 6 ≤ ms) (hq : Q (.inr cls) h) : JJ p l e (j_rm d mc ms) s m args below meth c D tyc A n0 ad0 nL (vx_MQ below (j_Qc D tyc A n0 ad0 Q) (j_XC D tyc A n0 ad0 Q) args s mc ms A) pc L [] h cells slots := by
  intro ad ls H locs I
  obtain ⟨e1, e1y, e2, e3, e4, e5, e6⟩ := hE
  obtain ⟨sa, hsa⟩ := x.2.2.2.2.2.2.2.2.2.2.2.1 _ hstr
  have env := x.2.2.2.2.2.2.2.2.2
  refine nx_throwS (sa := sa) (names := names) x.1 x.2.1 x.2.2.2.2.2.2.2.2.1 x.2.2.2.1 e1 e1y e2 (x.2.2.2.2.1 _ e3) (x.2.2.2.2.1 _ e4) hsa (j_hat x.2.2.2.2.1 env.1 e5) (fun w hw => j_ot ?_) env.2.2.2.1 env.2.2.2.2.1 I.2.2.2.1 (by rw [x.2.2.1]; exact I.1.1) d0 d3 d4 d6 d9 (fun z hz => (htab z hz).elim) ?_ ?_ hc hs x.2.2.2.2.2.2.2.1 (fun t _ t1 t2 => ⟨h, ad, hq, .out I t1 t2⟩) I.2.2.2.1.2.2 hc hs
  · rcases List.mem_cons.mp hw with rfl | hw
    · exact Or.inl e3
    · rcases List.mem_cons.mp hw with rfl | hw
      · exact Or.inl e4
      · exact e5 w hw
  · simp only [j_rm]; omega
  · simp only [j_rm, List.map_nil, List.sum_nil]; omega
theorem j_throwNSW (x : j_X p l s m args meth c D tyc A own cc nL) {cls Y0 text : String} {names : List String} {ik is ic : Nat} (hE : j_exN own ik ic cls Y0 names) (hstr : (own, is, text) ∈ j_strs)
    (d0 : decode cc pc = .ok (.new ik, 3)) (d3 : decode cc (pc + 3) = .ok (.dup, 1)) (d4 : decode cc (pc + 4) = .ok (.ldc_w is, 3)) (d6 : decode cc (pc + 7) = .ok (.invokespecial ic, 3)) (d9 : decode cc (pc + 10) = .ok (.athrow, 1))
    (htab : ∀ z ∈ c.exceptionTable.toList, False) (hc : cells + 1 ≤ mc) (hs : slots + 6 ≤ ms) (hq : Q (.inr cls) h) : JJ p l e (j_rm d mc ms) s m args below meth c D tyc A n0 ad0 nL (vx_MQ below (j_Qc D tyc A n0 ad0 Q) (j_XC D tyc A n0 ad0 Q) args s mc ms A) pc L [] h cells slots := by
  intro ad ls H locs I
  obtain ⟨e1, e1y, e2, e3, e4, e5, e6⟩ := hE
  obtain ⟨sa, hsa⟩ := x.2.2.2.2.2.2.2.2.2.2.2.1 _ hstr
  have env := x.2.2.2.2.2.2.2.2.2
  refine nx_throwSW (sa := sa) (names := names) x.1 x.2.1 x.2.2.2.2.2.2.2.2.1 x.2.2.2.1 e1 e1y e2 (x.2.2.2.2.1 _ e3) (x.2.2.2.2.1 _ e4) hsa (j_hat x.2.2.2.2.1 env.1 e5) (fun w hw => j_ot ?_) env.2.2.2.1 env.2.2.2.2.1 I.2.2.2.1 (by rw [x.2.2.1]; exact I.1.1) d0 d3 d4 d6 d9 (fun z hz => (htab z hz).elim) ?_ ?_ hc hs x.2.2.2.2.2.2.2.1 (fun t _ t1 t2 => ⟨h, ad, hq, .out I t1 t2⟩) I.2.2.2.1.2.2 hc hs
  · rcases List.mem_cons.mp hw with rfl | hw
    · exact Or.inl e3
    · rcases List.mem_cons.mp hw with rfl | hw
      · exact Or.inl e4
      · exact e5 w hw
  · simp only [j_rm]; omega
  · simp only [j_rm, List.map_nil, List.sum_nil]; omega
end JTN
end

section
theorem exX5_243 : j_exN "LeagueTables" 243 247 "java/util/NoSuchElementException" "java/lang/RuntimeException" ["java/lang/Exception"] := ⟨by decide +kernel, by decide +kernel, by decide +kernel, wcX5_243, wi_java_util_NoSuchElementException, fun w h => ex_ok w ((by decide +kernel : ∀ w ∈ nx_at "LeagueTables" 247 "java/util/NoSuchElementException" "java/lang/RuntimeException" ["java/lang/Exception"], w ∈ ex_words) w h), by decide⟩
end

section
/-! ===== which cell is what ===== -/
theorem fa_2 : fA 2 100 8 = true := rfl
theorem fa_3 : fA 3 100 3 = true := rfl
theorem fa_4 : fA 4 100 56 = true := rfl
theorem fa_5 : fA 5 100 56 = true := rfl
theorem fa_6 : fA 6 100 56 = true := rfl
theorem fa_8 : fA 8 100 8 = true := rfl
theorem fa_9 : fA 9 100 3 = true := rfl
theorem fa_10 : fA 10 100 56 = true := rfl
theorem fa_11 : fA 11 100 56 = true := rfl
theorem fa_12 : fA 12 100 56 = true := rfl
theorem fa_16 : fA 16 100 8 = true := rfl
theorem fa_17 : fA 17 100 3 = true := rfl
theorem fa_18 : fA 18 100 56 = true := rfl
theorem fa_19 : fA 19 100 56 = true := rfl
theorem fa_20 : fA 20 100 56 = true := rfl
theorem fa_22 : fA 22 100 8 = true := rfl
theorem fa_23 : fA 23 100 3 = true := rfl
theorem fa_24 : fA 24 100 56 = true := rfl
theorem fa_25 : fA 25 100 56 = true := rfl
theorem fa_26 : fA 26 100 56 = true := rfl
theorem fa_28 : fA 28 100 8 = true := rfl
theorem fa_29 : fA 29 100 3 = true := rfl
theorem fa_30 : fA 30 100 56 = true := rfl
theorem fa_31 : fA 31 100 56 = true := rfl
theorem fa_32 : fA 32 100 56 = true := rfl
theorem fa_34 : fA 34 100 8 = true := rfl
theorem fa_35 : fA 35 100 3 = true := rfl
theorem fa_36 : fA 36 100 56 = true := rfl
theorem fa_37 : fA 37 100 56 = true := rfl
theorem fa_38 : fA 38 100 56 = true := rfl
theorem fa_40 : fA 40 100 8 = true := rfl
theorem fa_41 : fA 41 100 3 = true := rfl
theorem fa_42 : fA 42 100 56 = true := rfl
theorem fa_43 : fA 43 100 56 = true := rfl
theorem fa_44 : fA 44 100 56 = true := rfl
theorem fa_46 : fA 46 100 8 = true := rfl
theorem fa_47 : fA 47 100 3 = true := rfl
theorem fa_48 : fA 48 100 56 = true := rfl
theorem fa_49 : fA 49 100 56 = true := rfl
theorem fa_50 : fA 50 100 56 = true := rfl
theorem fa_52 : fA 52 100 8 = true := rfl
theorem fa_53 : fA 53 100 3 = true := rfl
theorem fa_54 : fA 54 100 56 = true := rfl
theorem fa_55 : fA 55 100 56 = true := rfl
theorem fa_56 : fA 56 100 56 = true := rfl
theorem fa_58 : fA 58 100 8 = true := rfl
theorem fa_59 : fA 59 100 3 = true := rfl
theorem fa_60 : fA 60 100 56 = true := rfl
theorem fa_61 : fA 61 100 56 = true := rfl
theorem fa_62 : fA 62 100 56 = true := rfl
theorem fa_64 : fA 64 100 8 = true := rfl
theorem fa_65 : fA 65 100 3 = true := rfl
theorem fa_66 : fA 66 100 56 = true := rfl
theorem fa_67 : fA 67 100 56 = true := rfl
theorem fa_68 : fA 68 100 56 = true := rfl
theorem fa_70 : fA 70 100 56 = true := rfl
theorem fa_71 : fA 71 100 56 = true := rfl
theorem fa_72 : fA 72 100 56 = true := rfl
theorem fa_73 : fA 73 100 14 = true := rfl
theorem fa_74 : fA 74 100 8 = true := rfl
theorem fa_76 : fA 76 100 8 = true := rfl
theorem fa_77 : fA 77 100 8 = true := rfl
theorem fa_78 : fA 78 100 8 = true := rfl
theorem fa_79 : fA 79 100 8 = true := rfl
theorem fa_80 : fA 80 100 8 = true := rfl
theorem fa_81 : fA 81 100 8 = true := rfl
theorem fa_82 : fA 82 100 8 = true := rfl
theorem fa_83 : fA 83 100 8 = true := rfl
theorem fa_84 : fA 84 100 8 = true := rfl
theorem fa_85 : fA 85 100 8 = true := rfl
theorem fa_87 : fA 87 101 60 = true := rfl
theorem fa_88 : fA 88 100 30 = true := rfl
theorem fa_89 : fA 89 100 30 = true := rfl
theorem fa_90 : fA 90 100 30 = true := rfl
theorem fa_91 : fA 91 100 30 = true := rfl
theorem fa_95 : fA 95 100 466 = true := rfl
theorem fa_96 : fA 96 100 466 = true := rfl
theorem fa_97 : fA 97 100 3728 = true := rfl
theorem fa_98 : fA 98 100 466 = true := rfl
theorem fa_99 : fA 99 100 40 = true := rfl
theorem fa_100 : fA 100 101 60 = true := rfl
theorem fa_101 : fA 101 100 3 = true := rfl
def isLg (a : Nat) : Bool := a == 1 || a == 7 || (decide (15 ≤ a) && decide (a < 69) && ((a - 15) % 6 == 0))
def lgOk (a : Nat) : Bool := !isLg a || (fT a 6 && fI a 0 6 11 && fI a 2 6 11 && fI a 3 6 11 && fI a 4 6 11 && fI a 5 6 11 && fI a 6 6 11 && fR a 1 6 11 (a + 1) && fR a 7 6 11 (a + 2) && fR a 8 6 11 (a + 3) && fR a 9 6 11 (a + 4) && fR a 10 6 11 (a + 5) &&
  fA (a + 1) 100 8 && fA (a + 2) 100 3 && fA (a + 3) 100 56 && fA (a + 4) 100 56 && fA (a + 5) 100 56)
theorem lgOk_all : ∀ a, a < 69 → lgOk a = true := by decide +kernel
theorem isLg_lt {a : Nat} (h : isLg a = true) : a < 69 := by
  simp only [isLg, Bool.or_eq_true, Bool.and_eq_true, beq_iff_eq, decide_eq_true_eq] at h
  omega
theorem isLg_gap {a c : Nat} (h : isLg a = true) (h2 : isLg c = true) (hne : a ≠ c) : a + 5 < c ∨ c + 5 < a := by
  simp only [isLg, Bool.or_eq_true, Bool.and_eq_true, beq_iff_eq, decide_eq_true_eq] at h h2
  omega
theorem lg_all {a : Nat} (h : isLg a = true) : lgOk a = true := lgOk_all a (isLg_lt h)
theorem lgT {a : Nat} (h : isLg a = true) : fT a 6 = true := by
  have h1 := lg_all h
  simp only [lgOk, h, Bool.not_true, Bool.false_or, Bool.and_eq_true] at h1
  simp only [h1]
theorem lg0 {a : Nat} (h : isLg a = true) : fI a 0 6 11 = true := by
  have h1 := lg_all h
  simp only [lgOk, h, Bool.not_true, Bool.false_or, Bool.and_eq_true] at h1
  simp only [h1]
theorem lg2 {a : Nat} (h : isLg a = true) : fI a 2 6 11 = true := by
  have h1 := lg_all h
  simp only [lgOk, h, Bool.not_true, Bool.false_or, Bool.and_eq_true] at h1
  simp only [h1]
theorem lg3 {a : Nat} (h : isLg a = true) : fI a 3 6 11 = true := by
  have h1 := lg_all h
  simp only [lgOk, h, Bool.not_true, Bool.false_or, Bool.and_eq_true] at h1
  simp only [h1]
theorem lg4 {a : Nat} (h : isLg a = true) : fI a 4 6 11 = true := by
  have h1 := lg_all h
  simp only [lgOk, h, Bool.not_true, Bool.false_or, Bool.and_eq_true] at h1
  simp only [h1]
theorem lg5 {a : Nat} (h : isLg a = true) : fI a 5 6 11 = true := by
  have h1 := lg_all h
  simp only [lgOk, h, Bool.not_true, Bool.false_or, Bool.and_eq_true] at h1
  simp only [h1]
theorem lg6 {a : Nat} (h : isLg a = true) : fI a 6 6 11 = true := by
  have h1 := lg_all h
  simp only [lgOk, h, Bool.not_true, Bool.false_or, Bool.and_eq_true] at h1
  simp only [h1]
theorem lg1 {a : Nat} (h : isLg a = true) : fR a 1 6 11 (a + 1) = true := by
  have h1 := lg_all h
  simp only [lgOk, h, Bool.not_true, Bool.false_or, Bool.and_eq_true] at h1
  simp only [h1]
theorem lg7 {a : Nat} (h : isLg a = true) : fR a 7 6 11 (a + 2) = true := by
  have h1 := lg_all h
  simp only [lgOk, h, Bool.not_true, Bool.false_or, Bool.and_eq_true] at h1
  simp only [h1]
theorem lg8 {a : Nat} (h : isLg a = true) : fR a 8 6 11 (a + 3) = true := by
  have h1 := lg_all h
  simp only [lgOk, h, Bool.not_true, Bool.false_or, Bool.and_eq_true] at h1
  simp only [h1]
theorem lg9 {a : Nat} (h : isLg a = true) : fR a 9 6 11 (a + 4) = true := by
  have h1 := lg_all h
  simp only [lgOk, h, Bool.not_true, Bool.false_or, Bool.and_eq_true] at h1
  simp only [h1]
theorem lg10 {a : Nat} (h : isLg a = true) : fR a 10 6 11 (a + 5) = true := by
  have h1 := lg_all h
  simp only [lgOk, h, Bool.not_true, Bool.false_or, Bool.and_eq_true] at h1
  simp only [h1]
theorem lgA1 {a : Nat} (h : isLg a = true) : fA (a + 1) 100 8 = true := by
  have h1 := lg_all h
  simp only [lgOk, h, Bool.not_true, Bool.false_or, Bool.and_eq_true] at h1
  simp only [h1]
theorem lgA2 {a : Nat} (h : isLg a = true) : fA (a + 2) 100 3 = true := by
  have h1 := lg_all h
  simp only [lgOk, h, Bool.not_true, Bool.false_or, Bool.and_eq_true] at h1
  simp only [h1]
theorem lgA3 {a : Nat} (h : isLg a = true) : fA (a + 3) 100 56 = true := by
  have h1 := lg_all h
  simp only [lgOk, h, Bool.not_true, Bool.false_or, Bool.and_eq_true] at h1
  simp only [h1]
theorem lgA4 {a : Nat} (h : isLg a = true) : fA (a + 4) 100 56 = true := by
  have h1 := lg_all h
  simp only [lgOk, h, Bool.not_true, Bool.false_or, Bool.and_eq_true] at h1
  simp only [h1]
theorem lgA5 {a : Nat} (h : isLg a = true) : fA (a + 5) 100 56 = true := by
  have h1 := lg_all h
  simp only [lgOk, h, Bool.not_true, Bool.false_or, Bool.and_eq_true] at h1
  simp only [h1]
theorem lgR (j : Nat) (h : j < 9) : isLg (15 + 6 * j) = true := by
  simp only [isLg, Bool.or_eq_true, Bool.and_eq_true, beq_iff_eq, decide_eq_true_eq]
  omega
end

section
/-! ===== rows of the class: reading, writing, filling, copying ===== -/
def jb (p : Prop) [Decidable p] : Int32 := if p then 1 else 0
theorem jb_t {p : Prop} [Decidable p] (h : p) : jb p = 1 := if_pos h
theorem jb_f {p : Prop} [Decidable p] (h : ¬ p) : jb p = 0 := if_neg h
theorem jb_0 {p : Prop} [Decidable p] : jb p = 0 ↔ ¬ p := by
  by_cases h : p
  · rw [jb_t h]; exact ⟨fun q => absurd q (by decide), fun q => absurd h q⟩
  · rw [jb_f h]; exact ⟨fun _ => h, fun _ => rfl⟩
theorem jb_nz {p : Prop} [Decidable p] : ¬ jb p = 0 ↔ p := by rw [jb_0]; exact Decidable.not_not
theorem jix_in {t : Int32} {n : Nat} (hn : n < 2 ^ 31) (h0 : ¬ t < 0) (h1 : ¬ Int32.ofNat n ≤ t) : vp_in t n := by
  rcases pk_ix t hn with h | h | ⟨j, hj, rfl⟩
  · exact absurd h h0
  · exact absurd h h1
  · exact vp_in_nI hj hn
theorem jix_out {t : Int32} {n : Nat} (hn : n < 2 ^ 31) (h1 : Int32.ofNat n ≤ t) : t < 0 ∨ n ≤ t.toNatClampNeg := by
  by_cases h : t < 0 ∨ n ≤ t.toNatClampNeg
  · exact h
  · obtain ⟨j, hj, rfl⟩ := vp_in_of (show vp_in t n from h) hn
    exact absurd h1 (nI_ge hj hn)
/-- what at() answers of a row of n ints -/
def jat (n : Nat) (f : Nat → Int32) (t : Int32) : Int32 := if t < 0 ∨ n ≤ t.toNatClampNeg then 0 else f t.toNatClampNeg
def jput (n : Nat) (M : MM) (i : Nat) (t v : Int32) : MM := if t < 0 ∨ n ≤ t.toNatClampNeg then M else jm M i t.toNatClampNeg v
theorem jat_nI {n j : Nat} {f : Nat → Int32} (h : j < n) (hn : n < 2 ^ 31) : jat n f (nI j) = f j := by
  unfold jat
  rw [if_neg (vp_in_nI h hn), nI_clamp (by omega)]
theorem jput_nI {n j : Nat} {M : MM} {i : Nat} {v : Int32} (h : j < n) (hn : n < 2 ^ 31) : jput n M i (nI j) v = jm M i j v := by
  unfold jput
  rw [if_neg (vp_in_nI h hn), nI_clamp (by omega)]
/-- a row filled with v; a row copied onto another -/
def jfill (M : MM) (i n : Nat) (v : Int32) : MM := fun a k => if a = i ∧ k < n then v else M a k
def jrow (M : MM) (a b n : Nat) : MM := fun c k => if c = b ∧ k < n then M a k else M c k
/-- at(row, t) -/
theorem c_at {d : Nat} {b : SBt} {Y : OUt} {M : MM} (hb : 104 ≤ b.2.1) {i n : Nat} {t : Int32} (hf : fA i 100 n = true) (hn : n < 2 ^ 31) : CM (d) 0 0 yX5_at cX5_at 2 (some .int) [.ref i, .int t] b Y M (.inl (some (.int (jat n (M i) t)))) (M) := by
  refine Con.of (by decide +kernel) (Nat.le_of_ble_eq_true rfl) rfl fun p l e s m args below meth c D tyc A ad0 x hr htab hname => ?_
  change JJ _ _ _ _ _ _ _ _ _ _ _ _ _ _ _ _ _ 0 [some (.ref i), some (.int t)] [] _ 0 0
  refine j_iload_n x dX5_at_0 rfl ?_
  refine j_if_lt (tgt := 16) x dX5_at_1 (by decide) (fun h1 => ?_) (fun h1 => ?_)
  · refine j_iconst (v := 0) x dX5_at_16 (by decide) ?_
    exact j_ireturn x hr dX5_at_17 (by omega) (by omega) ⟨by rw [jat, if_pos (Or.inl h1)], rfl⟩
  · refine j_iload_n x dX5_at_4 rfl ?_
    refine j_aload_n x dX5_at_5 rfl ?_
    refine j2_alen x hb dX5_at_6 hf (by decide) rfl ?_
    refine j_icmp_ge (tgt := 16) x dX5_at_7 (by decide) (fun h2 => ?_) (fun h2 => ?_)
    · refine j_iconst (v := 0) x dX5_at_16 (by decide) ?_
      exact j_ireturn x hr dX5_at_17 (by omega) (by omega) ⟨by rw [jat, if_pos (jix_out hn h2)], rfl⟩
    · refine j_aload_n x dX5_at_10 rfl ?_
      refine j_iload_n x dX5_at_11 rfl ?_
      refine j2_iald x hb dX5_at_12 hf (jix_in hn h1 h2) rfl ?_
      refine j_goto (tgt := 17) x dX5_at_13 (by decide) ?_
      exact j_ireturn x hr dX5_at_17 (by omega) (by omega) ⟨by rw [jat, if_neg (jix_in hn h1 h2)], rfl⟩
/-- put(row, t, v) -/
theorem c_put {d : Nat} {b : SBt} {Y : OUt} {M : MM} (hb : 104 ≤ b.2.1) {i n : Nat} {t v : Int32} (hf : fA i 100 n = true) (hn : n < 2 ^ 31) : CM (d) 0 0 yX5_put cX5_put 3 none [.ref i, .int t, .int v] b Y M (.inl none) (jput n M i t v) := by
  refine Con.of (by decide +kernel) (Nat.le_of_ble_eq_true rfl) rfl fun p l e s m args below meth c D tyc A ad0 x hr htab hname => ?_
  change JJ _ _ _ _ _ _ _ _ _ _ _ _ _ _ _ _ _ 0 [some (.ref i), some (.int t), some (.int v)] [] _ 0 0
  refine j_iload_n x dX5_put_0 rfl ?_
  refine j_if_lt (tgt := 14) x dX5_put_1 (by decide) (fun h1 => ?_) (fun h1 => ?_)
  · exact j_return x hr dX5_put_14 (by omega) (by omega) ⟨rfl, by rw [jput, if_pos (Or.inl h1)]⟩
  · refine j_iload_n x dX5_put_4 rfl ?_
    refine j_aload_n x dX5_put_5 rfl ?_
    refine j2_alen x hb dX5_put_6 hf (by decide) rfl ?_
    refine j_icmp_ge (tgt := 14) x dX5_put_7 (by decide) (fun h2 => ?_) (fun h2 => ?_)
    · exact j_return x hr dX5_put_14 (by omega) (by omega) ⟨rfl, by rw [jput, if_pos (jix_out hn h2)]⟩
    · refine j_aload_n x dX5_put_10 rfl ?_
      refine j_iload_n x dX5_put_11 rfl ?_
      refine j_iload_n x dX5_put_12 rfl ?_
      refine j2_iast x hb dX5_put_13 hf (jix_in hn h1 h2) ?_
      exact j_return x hr dX5_put_14 (by omega) (by omega) ⟨rfl, by rw [jput, if_neg (jix_in hn h1 h2)]⟩
/-- raise(row, t, v) -/
theorem c_raise {d : Nat} {b : SBt} {Y : OUt} {M : MM} (hb : 104 ≤ b.2.1) {i n : Nat} {t v : Int32} (hf : fA i 100 n = true) (hn : n < 2 ^ 31) : CM (d) 0 0 yX5_raise cX5_raise 3 none [.ref i, .int t, .int v] b Y M (.inl none) (jput n M i t (M i t.toNatClampNeg + v)) := by
  refine Con.of (by decide +kernel) (Nat.le_of_ble_eq_true rfl) rfl fun p l e s m args below meth c D tyc A ad0 x hr htab hname => ?_
  change JJ _ _ _ _ _ _ _ _ _ _ _ _ _ _ _ _ _ 0 [some (.ref i), some (.int t), some (.int v)] [] _ 0 0
  refine j_iload_n x dX5_raise_0 rfl ?_
  refine j_if_lt (tgt := 17) x dX5_raise_1 (by decide) (fun h1 => ?_) (fun h1 => ?_)
  · exact j_return x hr dX5_raise_17 (by omega) (by omega) ⟨rfl, by rw [jput, if_pos (Or.inl h1)]⟩
  · refine j_iload_n x dX5_raise_4 rfl ?_
    refine j_aload_n x dX5_raise_5 rfl ?_
    refine j2_alen x hb dX5_raise_6 hf (by decide) rfl ?_
    refine j_icmp_ge (tgt := 17) x dX5_raise_7 (by decide) (fun h2 => ?_) (fun h2 => ?_)
    · exact j_return x hr dX5_raise_17 (by omega) (by omega) ⟨rfl, by rw [jput, if_pos (jix_out hn h2)]⟩
    · refine j_aload_n x dX5_raise_10 rfl ?_
      refine j_iload_n x dX5_raise_11 rfl ?_
      refine j_dup2 x dX5_raise_12 rfl rfl ?_
      refine j2_iald x hb dX5_raise_13 hf (jix_in hn h1 h2) rfl ?_
      refine j_iload_n x dX5_raise_14 rfl ?_
      refine j_iadd x dX5_raise_15 ?_
      refine j2_iast x hb dX5_raise_16 hf (jix_in hn h1 h2) ?_
      exact j_return x hr dX5_raise_17 (by omega) (by omega) ⟨rfl, by rw [jput, if_neg (jix_in hn h1 h2)]⟩
/-- fillRow(row, v) -/
theorem c_fillRow {d : Nat} {b : SBt} {Y : OUt} {M : MM} (hb : 104 ≤ b.2.1) {i n : Nat} {v : Int32} (hf : fA i 100 n = true) (hn : n < 2 ^ 31) : CM (d) 0 0 yX5_fillRow cX5_fillRow 3 none [.ref i, .int v] b Y M (.inl none) (jfill M i n v) := by
  refine Con.of (by decide +kernel) (Nat.le_of_ble_eq_true rfl) rfl fun p l e s m args below meth c D tyc A ad0 x hr htab hname => ?_
  change JJ _ _ _ _ _ _ _ _ _ _ _ _ _ _ _ _ _ 0 [some (.ref i), some (.int v), none] [] _ 0 0
  have key : ∀ (r j : Nat), j + r = n → j ≤ n → ∀ M1 : MM, M1 = jfill M i j v → JJ p l e (j_rm d 0 0) s m args below meth c D tyc A (HH b Y M).1 ad0 3 (vx_MQ below (j_Qc D tyc A (HH b Y M).1 ad0 (jres b Y (.inl none) (jfill M i n v))) (j_XC D tyc A (HH b Y M).1 ad0 (jres b Y (.inl none) (jfill M i n v))) args s 0 0 A) 2 [some (.ref i), some (.int v), some (.int (nI j))] [] (HH b Y M1) 0 0 := by
    intro r
    induction r with
    | zero =>
      intro j hj hj2 M1 hM
      have hjn : j = n := by omega
      subst hjn
      have he : HH b Y M1 = HH b Y (jfill M i j v) := by rw [hM]
      refine j_iload_n x dX5_fillRow_2 rfl ?_
      refine j_aload_n x dX5_fillRow_3 rfl ?_
      refine j2_alen x hb dX5_fillRow_4 hf (by decide) rfl ?_
      refine j_icmp_ge (tgt := 18) x dX5_fillRow_5 (by decide) (fun hc => ?_) (fun hc => absurd (nI_le (Nat.le_refl j) hn) hc)
      exact j_return x hr dX5_fillRow_18 (by omega) (by omega) ⟨rfl, he⟩
    | succ r ih =>
      intro j hj hj2 M1 hM
      have hlt : j < n := by omega
      refine j_iload_n x dX5_fillRow_2 rfl ?_
      refine j_aload_n x dX5_fillRow_3 rfl ?_
      refine j2_alen x hb dX5_fillRow_4 hf (by decide) rfl ?_
      refine j_icmp_ge (tgt := 18) x dX5_fillRow_5 (by decide) (fun hc => absurd hc (nI_ge hlt hn)) (fun hc => ?_)
      refine j_aload_n x dX5_fillRow_8 rfl ?_
      refine j_iload_n x dX5_fillRow_9 rfl ?_
      refine j_iload_n x dX5_fillRow_10 rfl ?_
      refine j2_iast x hb dX5_fillRow_11 hf (vp_in_nI hlt hn) ?_
      refine j_iinc x dX5_fillRow_12 rfl (by decide) rfl ?_
      refine j_goto (tgt := 2) x dX5_fillRow_15 (by decide) ?_
      have h9 := ih (j + 1) (by omega) (by omega) (jm M1 i (nI j).toNatClampNeg v) (by
        rw [hM, nI_clamp (by omega)]
        funext a k
        simp only [jm, jfill]
        by_cases h1 : a = i ∧ k = j
        · rw [if_pos h1, if_pos ⟨h1.1, by omega⟩]
        · rw [if_neg h1]
          by_cases h2 : a = i ∧ k < j
          · rw [if_pos h2, if_pos ⟨h2.1, by omega⟩]
          · rw [if_neg h2, if_neg (fun q => h1 ⟨q.1, by have := q.2; have h3 : ¬ k < j := fun z => h2 ⟨q.1, z⟩; omega⟩)])
      rw [← nI_1 j] at h9
      exact h9
  refine j_iconst (v := 0) x dX5_fillRow_0 (by decide) ?_
  refine j_istore_n x dX5_fillRow_1 (by decide) rfl ?_
  exact key n 0 (by omega) (by omega) M (by funext a k; simp [jfill])
theorem jcpy_row {b : SBt} {Y : OUt} {M : MM} {a i n : Nat} (ha : fA a 100 n = true) (hi : fA i 100 n = true) : j_wr (HH b Y M) i (((HH b Y M).2 i).1, ((HH b Y M).2 i).2.1, jcpy ((HH b Y M).2 a).2.2 ((HH b Y M).2 i).2.2 0 0 n) = HH b Y (jrow M a i n) := by
  obtain ⟨a1, a2, a3, a4, a5, a6⟩ := fA_spec ha b Y M
  obtain ⟨i1, i2, i3, i4, i5, i6⟩ := fA_spec hi b Y M
  obtain ⟨-, -, -, -, -, i7⟩ := fA_spec hi b Y (jrow M a i n)
  refine Prod.ext rfl (funext fun z => ?_)
  show ju (HH b Y M).2 i _ z = _
  by_cases hz : z = i
  · subst hz
    rw [ju_s]
    show (hT z, hLen b z, jcpy (hF b Y M a) (hF b Y M z) 0 0 n) = (hT z, hLen b z, hF b Y (jrow M a z n) z)
    rw [i7, a6, i6]
    congr 2
    funext k
    simp only [jcpy, jrow, j_int, Nat.zero_add, Nat.zero_le, true_and, Nat.sub_zero]
    by_cases hk : k < n <;> simp [hk]
  · rw [ju_n hz]
    show (hT z, hLen b z, hF b Y M z) = (hT z, hLen b z, hF b Y (jrow M a i n) z)
    congr 2
    funext k
    simp only [hF, jrow, hz, false_and, if_false]
/-- copyRow(row a, row i), of one length -/
theorem c_copyRow {d : Nat} {b : SBt} {Y : OUt} {M : MM} (hb : 104 ≤ b.2.1) {a i n : Nat} (ha : fA a 100 n = true) (hi : fA i 100 n = true) (hn : n < 2 ^ 31) : CM (d) 0 0 yX5_copyRow cX5_copyRow 2 none [.ref a, .ref i] b Y M (.inl none) (jrow M a i n) := by
  refine Con.of (by decide +kernel) (Nat.le_of_ble_eq_true rfl) rfl fun p l e s m args below meth c D tyc A ad0 x hr htab hname => ?_
  change JJ _ _ _ _ _ _ _ _ _ _ _ _ _ _ _ _ _ 0 [some (.ref a), some (.ref i)] [] _ 0 0
  obtain ⟨a1, a2, a3, -⟩ := fA_spec ha b Y M
  obtain ⟨i1, i2, i3, -⟩ := fA_spec hi b Y M
  have hnc : (nI n).toNatClampNeg = n := nI_clamp hn
  refine j_aload_n x dX5_copyRow_0 rfl ?_
  refine j_iconst (v := 0) x dX5_copyRow_1 (by decide) ?_
  refine j_aload_n x dX5_copyRow_2 rfl ?_
  refine j_iconst (v := 0) x dX5_copyRow_3 (by decide) ?_
  refine j_aload_n x dX5_copyRow_4 rfl ?_
  refine j2_alen x hb dX5_copyRow_5 ha (by decide) rfl ?_
  refine j_aload_n x dX5_copyRow_6 rfl ?_
  refine j2_alen x hb dX5_copyRow_7 hi (by decide) rfl ?_
  refine j_min x wmath dX5_copyRow_8 wmX5_475 (Nat.le_of_ble_eq_true rfl) (Nat.zero_le _) (Nat.zero_le _) ?_
  have e1 : (if Int32.ofNat n < Int32.ofNat n then Int32.ofNat n else Int32.ofNat n) = nI n := by split <;> rfl
  rw [e1]
  refine j_copy x wcp dX5_copyRow_11 wmX5_478 (Nat.le_of_ble_eq_true rfl) (show a < b.2.1 by omega) a2 (show i < b.2.1 by omega) i2 (by decide) (by decide) (nI_pos hn) (by rw [hnc]; show 0 + n ≤ hLen b a; rw [hLen_lo (by omega), a3]; omega) (by rw [hnc]; show 0 + n ≤ hLen b i; rw [hLen_lo (by omega), i3]; omega) ?_
  rw [hnc]
  rw [show j_wr (HH b Y M) i (((HH b Y M).2 i).1, ((HH b Y M).2 i).2.1, jcpy ((HH b Y M).2 a).2.2 ((HH b Y M).2 i).2.2 (0 : Int32).toNatClampNeg (0 : Int32).toNatClampNeg n) = HH b Y (jrow M a i n) from jcpy_row ha hi]
  exact j_return x hr dX5_copyRow_14 (by omega) (by omega) ⟨rfl, rfl⟩
end

section
/-! ===== leagues, the history, refusals ===== -/
def jref (M : MM) (r t : Int32) : MM := jm (jm (jm M 0 9 r) 0 10 t) 0 11 (M 0 12)
def jisS (q : Option (Int32 × Int32)) : Int32 := match q with
  | some _ => 1
  | none => 0
def jrf (M : MM) (q : Option (Int32 × Int32)) : MM := match q with
  | some z => jref M z.1 z.2
  | none => M
/-- how many meetings, weeks there are -/
def jmc (M : MM) : Int32 := if M 1 2 = 0 then 0 else M 69 1
def jwc (M : MM) : Int32 := if M 1 2 = 0 then 0 else M 69 0
theorem c_isGround {d : Nat} {b : SBt} {Y : OUt} {M : MM} (hb : 104 ≤ b.2.1) {t : Int32} : CM (d) 0 0 yX5_isGround cX5_isGround 1 (some .boolean) [.int t] b Y M (.inl (some (.int (jb (¬ t < 0 ∧ ¬ 9 < t))))) (M) := by
  refine Con.of (by decide +kernel) (Nat.le_of_ble_eq_true rfl) rfl fun p l e s m args below meth c D tyc A ad0 x hr htab hname => ?_
  change JJ _ _ _ _ _ _ _ _ _ _ _ _ _ _ _ _ _ 0 [some (.int t)] [] _ 0 0
  refine j_iload_n x dX5_isGround_0 rfl ?_
  refine j_if_lt (tgt := 14) x dX5_isGround_1 (by decide) (fun h1 => ?_) (fun h1 => ?_)
  · refine j_iconst (v := 0) x dX5_isGround_14 (by decide) ?_
    exact j_zreturn x hr dX5_isGround_15 (by decide) (by omega) (by omega) ⟨by rw [jb_f (fun q => q.1 h1)], rfl⟩
  · refine j_iload_n x dX5_isGround_4 rfl ?_
    refine j_bipush (v := 9) x dX5_isGround_5 (by decide) ?_
    refine j_icmp_gt (tgt := 14) x dX5_isGround_7 (by decide) (fun h2 => ?_) (fun h2 => ?_)
    · refine j_iconst (v := 0) x dX5_isGround_14 (by decide) ?_
      exact j_zreturn x hr dX5_isGround_15 (by decide) (by omega) (by omega) ⟨by rw [jb_f (fun q => q.2 h2)], rfl⟩
    · refine j_iconst (v := 1) x dX5_isGround_10 (by decide) ?_
      refine j_goto (tgt := 15) x dX5_isGround_11 (by decide) ?_
      exact j_zreturn x hr dX5_isGround_15 (by decide) (by omega) (by omega) ⟨by rw [jb_t ⟨h1, h2⟩], rfl⟩
theorem c_isRuleOrNone {d : Nat} {b : SBt} {Y : OUt} {M : MM} (hb : 104 ≤ b.2.1) {t : Int32} : CM (d) 0 0 yX5_isRuleOrNone cX5_isRuleOrNone 1 (some .boolean) [.int t] b Y M (.inl (some (.int (jb (¬ t < (-1) ∧ ¬ 4 < t))))) (M) := by
  refine Con.of (by decide +kernel) (Nat.le_of_ble_eq_true rfl) rfl fun p l e s m args below meth c D tyc A ad0 x hr htab hname => ?_
  change JJ _ _ _ _ _ _ _ _ _ _ _ _ _ _ _ _ _ 0 [some (.int t)] [] _ 0 0
  refine j_iload_n x dX5_isRuleOrNone_0 rfl ?_
  refine j_iconst (v := (-1)) x dX5_isRuleOrNone_1 (by decide) ?_
  refine j_icmp_lt (tgt := 14) x dX5_isRuleOrNone_2 (by decide) (fun h1 => ?_) (fun h1 => ?_)
  · refine j_iconst (v := 0) x dX5_isRuleOrNone_14 (by decide) ?_
    exact j_zreturn x hr dX5_isRuleOrNone_15 (by decide) (by omega) (by omega) ⟨by rw [jb_f (fun q => q.1 h1)], rfl⟩
  · refine j_iload_n x dX5_isRuleOrNone_5 rfl ?_
    refine j_iconst (v := 4) x dX5_isRuleOrNone_6 (by decide) ?_
    refine j_icmp_gt (tgt := 14) x dX5_isRuleOrNone_7 (by decide) (fun h2 => ?_) (fun h2 => ?_)
    · refine j_iconst (v := 0) x dX5_isRuleOrNone_14 (by decide) ?_
      exact j_zreturn x hr dX5_isRuleOrNone_15 (by decide) (by omega) (by omega) ⟨by rw [jb_f (fun q => q.2 h2)], rfl⟩
    · refine j_iconst (v := 1) x dX5_isRuleOrNone_10 (by decide) ?_
      refine j_goto (tgt := 15) x dX5_isRuleOrNone_11 (by decide) ?_
      exact j_zreturn x hr dX5_isRuleOrNone_15 (by decide) (by omega) (by omega) ⟨by rw [jb_t ⟨h1, h2⟩], rfl⟩
theorem c_refuse {d : Nat} {b : SBt} {Y : OUt} {M : MM} (hb : 104 ≤ b.2.1) {r t : Int32} : CM (d) 0 0 yX5_refuse cX5_refuse 3 (some .boolean) [.ref 0, .int r, .int t] b Y M (.inl (some (.int 1))) (jref M r t) := by
  refine Con.of (by decide +kernel) (Nat.le_of_ble_eq_true rfl) rfl fun p l e s m args below meth c D tyc A ad0 x hr htab hname => ?_
  change JJ _ _ _ _ _ _ _ _ _ _ _ _ _ _ _ _ _ 0 [some (.ref 0), some (.int r), some (.int t)] [] _ 0 0
  refine j_aload_n x dX5_refuse_0 rfl ?_
  refine j_iload_n x dX5_refuse_1 rfl ?_
  refine j2_puti (k := 9) x hb dX5_refuse_2 jc_9 wfX5_343 (by decide) rfl rfl rfl rfl ?_
  refine j_aload_n x dX5_refuse_5 rfl ?_
  refine j_iload_n x dX5_refuse_6 rfl ?_
  refine j2_puti (k := 10) x hb dX5_refuse_7 jc_9 wfX5_348 (by decide) rfl rfl rfl rfl ?_
  refine j_aload_n x dX5_refuse_10 rfl ?_
  refine j_aload_n x dX5_refuse_11 rfl ?_
  refine j2_geti (k := 12) x hb dX5_refuse_12 jc_9 wfX5_444 (by decide) rfl ?_
  refine j2_puti (k := 11) x hb dX5_refuse_15 jc_9 wfX5_351 (by decide) rfl rfl rfl rfl ?_
  refine j_iconst (v := 1) x dX5_refuse_18 (by decide) ?_
  exact j_zreturn x hr dX5_refuse_19 (by decide) (by omega) (by omega) ⟨rfl, rfl⟩
theorem c_isTeam {d : Nat} {b : SBt} {Y : OUt} {M : MM} (hb : 104 ≤ b.2.1) {t : Int32} : CM (d) 0 0 yX5_isTeam cX5_isTeam 2 (some .boolean) [.ref 0, .int t] b Y M (.inl (some (.int (jb (¬ t < 0 ∧ ¬ M 1 0 ≤ t))))) (M) := by
  refine Con.of (by decide +kernel) (Nat.le_of_ble_eq_true rfl) rfl fun p l e s m args below meth c D tyc A ad0 x hr htab hname => ?_
  change JJ _ _ _ _ _ _ _ _ _ _ _ _ _ _ _ _ _ 0 [some (.ref 0), some (.int t)] [] _ 0 0
  refine j_iload_n x dX5_isTeam_0 rfl ?_
  refine j_if_lt (tgt := 19) x dX5_isTeam_1 (by decide) (fun h1 => ?_) (fun h1 => ?_)
  · refine j_iconst (v := 0) x dX5_isTeam_19 (by decide) ?_
    exact j_zreturn x hr dX5_isTeam_20 (by decide) (by omega) (by omega) ⟨by rw [jb_f (fun q => q.1 h1)], rfl⟩
  · refine j_iload_n x dX5_isTeam_4 rfl ?_
    refine j_aload_n x dX5_isTeam_5 rfl ?_
    refine j2_getr (k := 0) (r := 1) x hb dX5_isTeam_6 jc_9 wfX5_10 (by decide) rfl ?_
    refine j2_geti (k := 0) x hb dX5_isTeam_9 jc_6 wfX5_80 (by decide) rfl ?_
    refine j_icmp_ge (tgt := 19) x dX5_isTeam_12 (by decide) (fun h2 => ?_) (fun h2 => ?_)
    · refine j_iconst (v := 0) x dX5_isTeam_19 (by decide) ?_
      exact j_zreturn x hr dX5_isTeam_20 (by decide) (by omega) (by omega) ⟨by rw [jb_f (fun q => q.2 h2)], rfl⟩
    · refine j_iconst (v := 1) x dX5_isTeam_15 (by decide) ?_
      refine j_goto (tgt := 20) x dX5_isTeam_16 (by decide) ?_
      exact j_zreturn x hr dX5_isTeam_20 (by decide) (by omega) (by omega) ⟨by rw [jb_t ⟨h1, h2⟩], rfl⟩
theorem c_meetingCount {d : Nat} {b : SBt} {Y : OUt} {M : MM} (hb : 104 ≤ b.2.1)  : CM (d) 0 0 yX5_meetingCount cX5_meetingCount 1 (some .int) [.ref 0] b Y M (.inl (some (.int (jmc M)))) (M) := by
  refine Con.of (by decide +kernel) (Nat.le_of_ble_eq_true rfl) rfl fun p l e s m args below meth c D tyc A ad0 x hr htab hname => ?_
  change JJ _ _ _ _ _ _ _ _ _ _ _ _ _ _ _ _ _ 0 [some (.ref 0)] [] _ 0 0
  refine j_aload_n x dX5_meetingCount_0 rfl ?_
  refine j2_getr (k := 0) (r := 1) x hb dX5_meetingCount_1 jc_9 wfX5_10 (by decide) rfl ?_
  refine j2_geti (k := 2) x hb dX5_meetingCount_4 jc_6 wfX5_388 (by decide) rfl ?_
  refine j_if_eq (tgt := 20) x dX5_meetingCount_7 (by decide) (fun h1 => ?_) (fun h1 => ?_)
  · refine j_iconst (v := 0) x dX5_meetingCount_20 (by decide) ?_
    exact j_ireturn x hr dX5_meetingCount_21 (by omega) (by omega) ⟨by rw [jmc, if_pos h1], rfl⟩
  · refine j_aload_n x dX5_meetingCount_10 rfl ?_
    refine j2_getr (k := 4) (r := 69) x hb dX5_meetingCount_11 jc_9 wfX5_29 (by decide) rfl ?_
    refine j2_geti (k := 1) x hb dX5_meetingCount_14 jc_4 wfX5_462 (by decide) rfl ?_
    refine j_goto (tgt := 21) x dX5_meetingCount_17 (by decide) ?_
    exact j_ireturn x hr dX5_meetingCount_21 (by omega) (by omega) ⟨by rw [jmc, if_neg h1], rfl⟩
theorem c_weekCount {d : Nat} {b : SBt} {Y : OUt} {M : MM} (hb : 104 ≤ b.2.1)  : CM (d) 0 0 yX5_weekCount cX5_weekCount 1 (some .int) [.ref 0] b Y M (.inl (some (.int (jwc M)))) (M) := by
  refine Con.of (by decide +kernel) (Nat.le_of_ble_eq_true rfl) rfl fun p l e s m args below meth c D tyc A ad0 x hr htab hname => ?_
  change JJ _ _ _ _ _ _ _ _ _ _ _ _ _ _ _ _ _ 0 [some (.ref 0)] [] _ 0 0
  refine j_aload_n x dX5_weekCount_0 rfl ?_
  refine j2_getr (k := 0) (r := 1) x hb dX5_weekCount_1 jc_9 wfX5_10 (by decide) rfl ?_
  refine j2_geti (k := 2) x hb dX5_weekCount_4 jc_6 wfX5_388 (by decide) rfl ?_
  refine j_if_eq (tgt := 20) x dX5_weekCount_7 (by decide) (fun h1 => ?_) (fun h1 => ?_)
  · refine j_iconst (v := 0) x dX5_weekCount_20 (by decide) ?_
    exact j_ireturn x hr dX5_weekCount_21 (by omega) (by omega) ⟨by rw [jwc, if_pos h1], rfl⟩
  · refine j_aload_n x dX5_weekCount_10 rfl ?_
    refine j2_getr (k := 4) (r := 69) x hb dX5_weekCount_11 jc_9 wfX5_29 (by decide) rfl ?_
    refine j2_geti (k := 0) x hb dX5_weekCount_14 jc_4 wfX5_111 (by decide) rfl ?_
    refine j_goto (tgt := 21) x dX5_weekCount_17 (by decide) ?_
    exact j_ireturn x hr dX5_weekCount_21 (by omega) (by omega) ⟨by rw [jwc, if_neg h1], rfl⟩
theorem c_isMeeting {d : Nat} {b : SBt} {Y : OUt} {M : MM} (hb : 104 ≤ b.2.1) {t : Int32} : CM (d + 1) 0 0 yX5_isMeeting cX5_isMeeting 2 (some .boolean) [.ref 0, .int t] b Y M (.inl (some (.int (jb (¬ t < 0 ∧ ¬ jmc M ≤ t))))) (M) := by
  refine Con.of (by decide +kernel) (Nat.le_of_ble_eq_true rfl) rfl fun p l e s m args below meth c D tyc A ad0 x hr htab hname => ?_
  change JJ _ _ _ _ _ _ _ _ _ _ _ _ _ _ _ _ _ 0 [some (.ref 0), some (.int t)] [] _ 0 0
  refine j_iload_n x dX5_isMeeting_0 rfl ?_
  refine j_if_lt (tgt := 16) x dX5_isMeeting_1 (by decide) (fun h1 => ?_) (fun h1 => ?_)
  · refine j_iconst (v := 0) x dX5_isMeeting_16 (by decide) ?_
    exact j_zreturn x hr dX5_isMeeting_17 (by decide) (by omega) (by omega) ⟨by rw [jb_f (fun q => q.1 h1)], rfl⟩
  · refine j_iload_n x dX5_isMeeting_4 rfl ?_
    refine j_aload_n x dX5_isMeeting_5 rfl ?_
    refine j2_callVi x hb dX5_isMeeting_6 m_X5_meetingCount (c_meetingCount (d := d) hb) wmX5_258 jc_9 rfl rfl rfl (Nat.le_of_ble_eq_true rfl) (j_fit_rm (by omega) (by omega) (by omega)) rfl ?_
    refine j_icmp_ge (tgt := 16) x dX5_isMeeting_9 (by decide) (fun h2 => ?_) (fun h2 => ?_)
    · refine j_iconst (v := 0) x dX5_isMeeting_16 (by decide) ?_
      exact j_zreturn x hr dX5_isMeeting_17 (by decide) (by omega) (by omega) ⟨by rw [jb_f (fun q => q.2 h2)], rfl⟩
    · refine j_iconst (v := 1) x dX5_isMeeting_12 (by decide) ?_
      refine j_goto (tgt := 17) x dX5_isMeeting_13 (by decide) ?_
      exact j_zreturn x hr dX5_isMeeting_17 (by decide) (by omega) (by omega) ⟨by rw [jb_t ⟨h1, h2⟩], rfl⟩
theorem c_isWeek {d : Nat} {b : SBt} {Y : OUt} {M : MM} (hb : 104 ≤ b.2.1) {t : Int32} : CM (d + 1) 0 0 yX5_isWeek cX5_isWeek 2 (some .boolean) [.ref 0, .int t] b Y M (.inl (some (.int (jb (¬ t < 0 ∧ ¬ jwc M ≤ t))))) (M) := by
  refine Con.of (by decide +kernel) (Nat.le_of_ble_eq_true rfl) rfl fun p l e s m args below meth c D tyc A ad0 x hr htab hname => ?_
  change JJ _ _ _ _ _ _ _ _ _ _ _ _ _ _ _ _ _ 0 [some (.ref 0), some (.int t)] [] _ 0 0
  refine j_iload_n x dX5_isWeek_0 rfl ?_
  refine j_if_lt (tgt := 16) x dX5_isWeek_1 (by decide) (fun h1 => ?_) (fun h1 => ?_)
  · refine j_iconst (v := 0) x dX5_isWeek_16 (by decide) ?_
    exact j_zreturn x hr dX5_isWeek_17 (by decide) (by omega) (by omega) ⟨by rw [jb_f (fun q => q.1 h1)], rfl⟩
  · refine j_iload_n x dX5_isWeek_4 rfl ?_
    refine j_aload_n x dX5_isWeek_5 rfl ?_
    refine j2_callVi x hb dX5_isWeek_6 m_X5_weekCount (c_weekCount (d := d) hb) wmX5_392 jc_9 rfl rfl rfl (Nat.le_of_ble_eq_true rfl) (j_fit_rm (by omega) (by omega) (by omega)) rfl ?_
    refine j_icmp_ge (tgt := 16) x dX5_isWeek_9 (by decide) (fun h2 => ?_) (fun h2 => ?_)
    · refine j_iconst (v := 0) x dX5_isWeek_16 (by decide) ?_
      exact j_zreturn x hr dX5_isWeek_17 (by decide) (by omega) (by omega) ⟨by rw [jb_f (fun q => q.2 h2)], rfl⟩
    · refine j_iconst (v := 1) x dX5_isWeek_12 (by decide) ?_
      refine j_goto (tgt := 17) x dX5_isWeek_13 (by decide) ?_
      exact j_zreturn x hr dX5_isWeek_17 (by decide) (by omega) (by omega) ⟨by rw [jb_t ⟨h1, h2⟩], rfl⟩
theorem c_slotAt {d : Nat} {b : SBt} {Y : OUt} {M : MM} (hb : 104 ≤ b.2.1) {j : Nat} (hj : j < 9) : CM (d) 0 0 yX1_slotAt cX1_slotAt 2 (some (FieldType.object "LeagueTables$League")) [.ref 13, .int (nI j)] b Y M (.inl (some (.ref (15 + 6 * j)))) (M) := by
  refine Con.of (by decide +kernel) (Nat.le_of_ble_eq_true rfl) rfl fun p l e s m args below meth c D tyc A ad0 x hr htab hname => ?_
  change JJ _ _ _ _ _ _ _ _ _ _ _ _ _ _ _ _ _ 0 [some (.ref 13), some (.int (nI j))] [] _ 0 0
  refine j_iload_n x dX1_slotAt_0 rfl ?_
  refine j_if_lt (tgt := 22) x dX1_slotAt_1 (by decide) (fun hc => absurd hc (nI_pos (by omega))) (fun hc => ?_)
  refine j_iload_n x dX1_slotAt_4 rfl ?_
  refine j_aload_n x dX1_slotAt_5 rfl ?_
  refine j2_getr (k := 0) (r := 14) x hb dX1_slotAt_6 jc_5 wfX1_13 (by decide) rfl ?_
  refine j2_alenr x hb dX1_slotAt_9 rfl ?_
  refine j_icmp_ge (tgt := 22) x dX1_slotAt_10 (by decide) (fun hc => absurd hc (show ¬ (9 : Int32) ≤ nI j from nI_ge hj (by decide))) (fun hc => ?_)
  refine j_aload_n x dX1_slotAt_13 rfl ?_
  refine j2_getr (k := 0) (r := 14) x hb dX1_slotAt_14 jc_5 wfX1_13 (by decide) rfl ?_
  refine j_iload_n x dX1_slotAt_17 rfl ?_
  refine j2_ring x hb dX1_slotAt_18 hj rfl ?_
  refine j_goto (tgt := 23) x dX1_slotAt_19 (by decide) ?_
  exact j_areturn x hr (Or.inl ⟨_, rfl⟩) dX1_slotAt_23 (by omega) (by omega) ⟨rfl, rfl⟩
/-- the league c becomes what a is -/
def jlg (M : MM) (a c : Nat) : MM := fun z k =>
  if z = c ∧ (k = 0 ∨ k = 2 ∨ k = 3 ∨ k = 4 ∨ k = 5 ∨ k = 6) then M a k else if z = c + 1 ∧ k < 8 then M (a + 1) k else if z = c + 2 ∧ k < 3 then M (a + 2) k else if z = c + 3 ∧ k < 56 then M (a + 3) k else if z = c + 4 ∧ k < 56 then M (a + 4) k else if z = c + 5 ∧ k < 56 then M (a + 5) k else M z k
theorem c_copyFrom {d : Nat} {b : SBt} {Y : OUt} {M : MM} (hb : 104 ≤ b.2.1) {a g : Nat} (ha : isLg a = true) (hc : isLg g = true) (hne : a ≠ g) (hz : M a 2 = 0 ∨ M a 2 = 1) : CM (d + 1) 0 0 yX2_copyFrom cX2_copyFrom 2 none [.ref g, .ref a] b Y M (.inl none) (jlg M a g) := by
  have hg := isLg_gap ha hc hne
  have n00 : (a = g) = False := by simp only [eq_iff_iff, iff_false]; omega
  have n01 : (a = g + 1) = False := by simp only [eq_iff_iff, iff_false]; omega
  have n02 : (a = g + 2) = False := by simp only [eq_iff_iff, iff_false]; omega
  have n03 : (a = g + 3) = False := by simp only [eq_iff_iff, iff_false]; omega
  have n04 : (a = g + 4) = False := by simp only [eq_iff_iff, iff_false]; omega
  have n05 : (a = g + 5) = False := by simp only [eq_iff_iff, iff_false]; omega
  have n10 : (a + 1 = g) = False := by simp only [eq_iff_iff, iff_false]; omega
  have n11 : (a + 1 = g + 1) = False := by simp only [eq_iff_iff, iff_false]; omega
  have n12 : (a + 1 = g + 2) = False := by simp only [eq_iff_iff, iff_false]; omega
  have n13 : (a + 1 = g + 3) = False := by simp only [eq_iff_iff, iff_false]; omega
  have n14 : (a + 1 = g + 4) = False := by simp only [eq_iff_iff, iff_false]; omega
  have n15 : (a + 1 = g + 5) = False := by simp only [eq_iff_iff, iff_false]; omega
  have n20 : (a + 2 = g) = False := by simp only [eq_iff_iff, iff_false]; omega
  have n21 : (a + 2 = g + 1) = False := by simp only [eq_iff_iff, iff_false]; omega
  have n22 : (a + 2 = g + 2) = False := by simp only [eq_iff_iff, iff_false]; omega
  have n23 : (a + 2 = g + 3) = False := by simp only [eq_iff_iff, iff_false]; omega
  have n24 : (a + 2 = g + 4) = False := by simp only [eq_iff_iff, iff_false]; omega
  have n25 : (a + 2 = g + 5) = False := by simp only [eq_iff_iff, iff_false]; omega
  have n30 : (a + 3 = g) = False := by simp only [eq_iff_iff, iff_false]; omega
  have n31 : (a + 3 = g + 1) = False := by simp only [eq_iff_iff, iff_false]; omega
  have n32 : (a + 3 = g + 2) = False := by simp only [eq_iff_iff, iff_false]; omega
  have n33 : (a + 3 = g + 3) = False := by simp only [eq_iff_iff, iff_false]; omega
  have n34 : (a + 3 = g + 4) = False := by simp only [eq_iff_iff, iff_false]; omega
  have n35 : (a + 3 = g + 5) = False := by simp only [eq_iff_iff, iff_false]; omega
  have n40 : (a + 4 = g) = False := by simp only [eq_iff_iff, iff_false]; omega
  have n41 : (a + 4 = g + 1) = False := by simp only [eq_iff_iff, iff_false]; omega
  have n42 : (a + 4 = g + 2) = False := by simp only [eq_iff_iff, iff_false]; omega
  have n43 : (a + 4 = g + 3) = False := by simp only [eq_iff_iff, iff_false]; omega
  have n44 : (a + 4 = g + 4) = False := by simp only [eq_iff_iff, iff_false]; omega
  have n45 : (a + 4 = g + 5) = False := by simp only [eq_iff_iff, iff_false]; omega
  have n50 : (a + 5 = g) = False := by simp only [eq_iff_iff, iff_false]; omega
  have n51 : (a + 5 = g + 1) = False := by simp only [eq_iff_iff, iff_false]; omega
  have n52 : (a + 5 = g + 2) = False := by simp only [eq_iff_iff, iff_false]; omega
  have n53 : (a + 5 = g + 3) = False := by simp only [eq_iff_iff, iff_false]; omega
  have n54 : (a + 5 = g + 4) = False := by simp only [eq_iff_iff, iff_false]; omega
  have n55 : (a + 5 = g + 5) = False := by simp only [eq_iff_iff, iff_false]; omega
  have he : jrow (jrow (jrow (jrow (jm (jm (jm (jm (jm (jrow (jm M g 0 (M a 0)) (a + 1) (g + 1) 8) g 2 (M a 2)) g 3 (M a 3)) g 4 (M a 4)) g 5 (M a 5)) g 6 (M a 6)) (a + 2) (g + 2) 3) (a + 3) (g + 3) 56) (a + 4) (g + 4) 56) (a + 5) (g + 5) 56 = jlg M a g := by
    funext z k
    simp only [jrow, jm, jlg, n00, n01, n02, n03, n04, n05, n10, n11, n12, n13, n14, n15, n20, n21, n22, n23, n24, n25, n30, n31, n32, n33, n34, n35, n40, n41, n42, n43, n44, n45, n50, n51, n52, n53, n54, n55, false_and, if_false]
    grind (splits := 60)
  have e2 : jrow (jm M g 0 (M a 0)) (a + 1) (g + 1) 8 a 2 = M a 2 := by simp only [jrow, jm, n00, n01, n02, n03, n04, n05, n10, n11, n12, n13, n14, n15, n20, n21, n22, n23, n24, n25, n30, n31, n32, n33, n34, n35, n40, n41, n42, n43, n44, n45, n50, n51, n52, n53, n54, n55, false_and, if_false]
  have e3 : jm (jrow (jm M g 0 (M a 0)) (a + 1) (g + 1) 8) g 2 (M a 2) a 3 = M a 3 := by simp only [jrow, jm, n00, n01, n02, n03, n04, n05, n10, n11, n12, n13, n14, n15, n20, n21, n22, n23, n24, n25, n30, n31, n32, n33, n34, n35, n40, n41, n42, n43, n44, n45, n50, n51, n52, n53, n54, n55, false_and, if_false]
  have e4 : jm (jm (jrow (jm M g 0 (M a 0)) (a + 1) (g + 1) 8) g 2 (M a 2)) g 3 (M a 3) a 4 = M a 4 := by simp only [jrow, jm, n00, n01, n02, n03, n04, n05, n10, n11, n12, n13, n14, n15, n20, n21, n22, n23, n24, n25, n30, n31, n32, n33, n34, n35, n40, n41, n42, n43, n44, n45, n50, n51, n52, n53, n54, n55, false_and, if_false]
  have e5 : jm (jm (jm (jrow (jm M g 0 (M a 0)) (a + 1) (g + 1) 8) g 2 (M a 2)) g 3 (M a 3)) g 4 (M a 4) a 5 = M a 5 := by simp only [jrow, jm, n00, n01, n02, n03, n04, n05, n10, n11, n12, n13, n14, n15, n20, n21, n22, n23, n24, n25, n30, n31, n32, n33, n34, n35, n40, n41, n42, n43, n44, n45, n50, n51, n52, n53, n54, n55, false_and, if_false]
  have e6 : jm (jm (jm (jm (jrow (jm M g 0 (M a 0)) (a + 1) (g + 1) 8) g 2 (M a 2)) g 3 (M a 3)) g 4 (M a 4)) g 5 (M a 5) a 6 = M a 6 := by simp only [jrow, jm, n00, n01, n02, n03, n04, n05, n10, n11, n12, n13, n14, n15, n20, n21, n22, n23, n24, n25, n30, n31, n32, n33, n34, n35, n40, n41, n42, n43, n44, n45, n50, n51, n52, n53, n54, n55, false_and, if_false]
  have hz1 : narrow (tyX2 2) (.int (M a 2)) = .int (M a 2) := by rcases hz with h | h <;> rw [h] <;> rfl
  have hz2 : fits (tyX2 2) (.int (M a 2)) = true := by rcases hz with h | h <;> rw [h] <;> rfl
  refine Con.of (by decide +kernel) (Nat.le_of_ble_eq_true rfl) rfl fun p l e s m args below meth c D tyc A ad0 x hr htab hname => ?_
  change JJ _ _ _ _ _ _ _ _ _ _ _ _ _ _ _ _ _ 0 [some (.ref g), some (.ref a)] [] _ 0 0
  refine j_aload_n x dX2_copyFrom_0 rfl ?_
  refine j_aload_n x dX2_copyFrom_1 rfl ?_
  refine j2_geti (k := 0) x hb dX2_copyFrom_2 jc_6 wfX2_37 (by decide) (lg0 ha) ?_
  refine j2_puti (k := 0) x hb dX2_copyFrom_5 jc_6 wfX2_37 (by decide) rfl rfl rfl (lg0 hc) ?_
  refine j_aload_n x dX2_copyFrom_8 rfl ?_
  refine j2_getr (k := 1) (r := a + 1) x hb dX2_copyFrom_9 jc_6 wfX2_9 (by decide) (lg1 ha) ?_
  refine j_aload_n x dX2_copyFrom_12 rfl ?_
  refine j2_getr (k := 1) (r := g + 1) x hb dX2_copyFrom_13 jc_6 wfX2_9 (by decide) (lg1 hc) ?_
  refine j2_callSNv x hb dX2_copyFrom_16 m_X5_copyRow (c_copyRow (d := d) hb (lgA1 ha) (lgA1 hc) (by decide)) wnX2_40 rfl (Nat.le_of_ble_eq_true rfl) (j_fit_rm (by omega) (by omega) (by omega)) rfl ?_
  refine j_aload_n x dX2_copyFrom_19 rfl ?_
  refine j_aload_n x dX2_copyFrom_20 rfl ?_
  refine j2_geti (k := 2) x hb dX2_copyFrom_21 jc_6 wfX2_44 (by decide) (lg2 ha) ?_
  rw [e2]; refine j2_puti (k := 2) x hb dX2_copyFrom_24 jc_6 wfX2_44 (by decide) rfl hz1 hz2 (lg2 hc) ?_
  refine j_aload_n x dX2_copyFrom_27 rfl ?_
  refine j_aload_n x dX2_copyFrom_28 rfl ?_
  refine j2_geti (k := 3) x hb dX2_copyFrom_29 jc_6 wfX2_48 (by decide) (lg3 ha) ?_
  rw [e3]; refine j2_puti (k := 3) x hb dX2_copyFrom_32 jc_6 wfX2_48 (by decide) rfl rfl rfl (lg3 hc) ?_
  refine j_aload_n x dX2_copyFrom_35 rfl ?_
  refine j_aload_n x dX2_copyFrom_36 rfl ?_
  refine j2_geti (k := 4) x hb dX2_copyFrom_37 jc_6 wfX2_15 (by decide) (lg4 ha) ?_
  rw [e4]; refine j2_puti (k := 4) x hb dX2_copyFrom_40 jc_6 wfX2_15 (by decide) rfl rfl rfl (lg4 hc) ?_
  refine j_aload_n x dX2_copyFrom_43 rfl ?_
  refine j_aload_n x dX2_copyFrom_44 rfl ?_
  refine j2_geti (k := 5) x hb dX2_copyFrom_45 jc_6 wfX2_19 (by decide) (lg5 ha) ?_
  rw [e5]; refine j2_puti (k := 5) x hb dX2_copyFrom_48 jc_6 wfX2_19 (by decide) rfl rfl rfl (lg5 hc) ?_
  refine j_aload_n x dX2_copyFrom_51 rfl ?_
  refine j_aload_n x dX2_copyFrom_52 rfl ?_
  refine j2_geti (k := 6) x hb dX2_copyFrom_53 jc_6 wfX2_22 (by decide) (lg6 ha) ?_
  rw [e6]; refine j2_puti (k := 6) x hb dX2_copyFrom_56 jc_6 wfX2_22 (by decide) rfl rfl rfl (lg6 hc) ?_
  refine j_aload_n x dX2_copyFrom_59 rfl ?_
  refine j2_getr (k := 7) (r := a + 2) x hb dX2_copyFrom_60 jc_6 wfX2_25 (by decide) (lg7 ha) ?_
  refine j_aload_n x dX2_copyFrom_63 rfl ?_
  refine j2_getr (k := 7) (r := g + 2) x hb dX2_copyFrom_64 jc_6 wfX2_25 (by decide) (lg7 hc) ?_
  refine j2_callSNv x hb dX2_copyFrom_67 m_X5_copyRow (c_copyRow (d := d) hb (lgA2 ha) (lgA2 hc) (by decide)) wnX2_40 rfl (Nat.le_of_ble_eq_true rfl) (j_fit_rm (by omega) (by omega) (by omega)) rfl ?_
  refine j_aload_n x dX2_copyFrom_70 rfl ?_
  refine j2_getr (k := 8) (r := a + 3) x hb dX2_copyFrom_71 jc_6 wfX2_28 (by decide) (lg8 ha) ?_
  refine j_aload_n x dX2_copyFrom_74 rfl ?_
  refine j2_getr (k := 8) (r := g + 3) x hb dX2_copyFrom_75 jc_6 wfX2_28 (by decide) (lg8 hc) ?_
  refine j2_callSNv x hb dX2_copyFrom_78 m_X5_copyRow (c_copyRow (d := d) hb (lgA3 ha) (lgA3 hc) (by decide)) wnX2_40 rfl (Nat.le_of_ble_eq_true rfl) (j_fit_rm (by omega) (by omega) (by omega)) rfl ?_
  refine j_aload_n x dX2_copyFrom_81 rfl ?_
  refine j2_getr (k := 9) (r := a + 4) x hb dX2_copyFrom_82 jc_6 wfX2_31 (by decide) (lg9 ha) ?_
  refine j_aload_n x dX2_copyFrom_85 rfl ?_
  refine j2_getr (k := 9) (r := g + 4) x hb dX2_copyFrom_86 jc_6 wfX2_31 (by decide) (lg9 hc) ?_
  refine j2_callSNv x hb dX2_copyFrom_89 m_X5_copyRow (c_copyRow (d := d) hb (lgA4 ha) (lgA4 hc) (by decide)) wnX2_40 rfl (Nat.le_of_ble_eq_true rfl) (j_fit_rm (by omega) (by omega) (by omega)) rfl ?_
  refine j_aload_n x dX2_copyFrom_92 rfl ?_
  refine j2_getr (k := 10) (r := a + 5) x hb dX2_copyFrom_93 jc_6 wfX2_34 (by decide) (lg10 ha) ?_
  refine j_aload_n x dX2_copyFrom_96 rfl ?_
  refine j2_getr (k := 10) (r := g + 5) x hb dX2_copyFrom_97 jc_6 wfX2_34 (by decide) (lg10 hc) ?_
  refine j2_callSNv x hb dX2_copyFrom_100 m_X5_copyRow (c_copyRow (d := d) hb (lgA5 ha) (lgA5 hc) (by decide)) wnX2_40 rfl (Nat.le_of_ble_eq_true rfl) (j_fit_rm (by omega) (by omega) (by omega)) rfl ?_
  exact j_return x hr dX2_copyFrom_103 (by omega) (by omega) ⟨rfl, by rw [he]⟩
end

section
/-! ===== the history, the tally, refusals ===== -/
theorem jlg_n {M : MM} {a g z k : Nat} (h : z < g ∨ g + 5 < z) : jlg M a g z k = M z k := by
  simp only [jlg]
  grind
def jkh (M : MM) (j k : Nat) : MM := jm (jm M 13 1 (nI ((j + 1) % 9))) 13 2 (nI (min (k + 1) 8))
def jkeep (M : MM) (j k : Nat) : MM := jkh (jlg M 1 (15 + 6 * j)) j k
theorem c_hold {d : Nat} {b : SBt} {Y : OUt} {M : MM} (hb : 104 ≤ b.2.1) {j : Nat} (hj : j < 9) (hh : M 13 1 = nI j) (hz : M 1 2 = 0 ∨ M 1 2 = 1) : CM (d + 2) 0 0 yX1_hold cX1_hold 3 none [.ref 13, .ref 1] b Y M (.inl none) (jlg M 1 (15 + 6 * j)) := by
  refine Con.of (by decide +kernel) (Nat.le_of_ble_eq_true rfl) rfl fun p l e s m args below meth c D tyc A ad0 x hr htab hname => ?_
  change JJ _ _ _ _ _ _ _ _ _ _ _ _ _ _ _ _ _ 0 [some (.ref 13), some (.ref 1), none] [] _ 0 0
  refine j_aload_n x dX1_hold_0 rfl ?_
  refine j_aload_n x dX1_hold_1 rfl ?_
  refine j2_geti (k := 1) x hb dX1_hold_2 jc_5 wfX1_25 (by decide) rfl ?_
  rw [hh]; refine j2_callVr x hb dX1_hold_5 m_X1_slotAt (c_slotAt (d := d) hb hj) wmX1_29 jc_5 rfl rfl rfl (Nat.le_of_ble_eq_true rfl) (j_fit_rm (by omega) (by omega) (by omega)) rfl ?_
  refine j_astore_n x dX1_hold_8 (by decide) rfl ?_
  refine j_aload_n x dX1_hold_9 rfl ?_
  refine j_ifnull x dX1_hold_10 ?_
  refine j_aload_n x dX1_hold_13 rfl ?_
  refine j_aload_n x dX1_hold_14 rfl ?_
  refine j2_callVv x hb dX1_hold_15 m_X2_copyFrom (c_copyFrom (d := d) (a := 1) (g := 15 + 6 * j) hb rfl (lgR j hj) (by omega) hz) wmX1_33 jc_6 rfl (lgT (lgR j hj)) rfl (Nat.le_of_ble_eq_true rfl) (j_fit_rm (by omega) (by omega) (by omega)) rfl ?_
  exact j_return x hr dX1_hold_18 (by omega) (by omega) ⟨rfl, rfl⟩
theorem c_keepHeld {d : Nat} {b : SBt} {Y : OUt} {M : MM} (hb : 104 ≤ b.2.1) {j k : Nat} (hj : j < 9) (hk : k ≤ 8) (hh : M 13 1 = nI j) (h2 : M 13 2 = nI k) : CM (d) 0 0 yX1_keepHeld cX1_keepHeld 1 none [.ref 13] b Y M (.inl none) (jkh M j k) := by
  have e1 : M 13 1 + 1 - (M 13 1 + 1) / 9 * 9 = nI ((j + 1) % 9) := by rw [hh, nI_1]; exact pk_rem (a := j + 1) (d := 9) (by omega) (by omega) (by omega)
  have e2 : (if (8 : Int32) < jm M 13 1 (nI ((j + 1) % 9)) 13 2 + 1 then 8 else jm M 13 1 (nI ((j + 1) % 9)) 13 2 + 1) = nI (min (k + 1) 8) := by
    rw [jm_n (by omega), h2, nI_1]
    by_cases q : k + 1 ≤ 8
    · rw [if_neg (show ¬ (8 : Int32) < nI (k + 1) from nI_nlt (a := 8) (b := k + 1) q (by omega)), Nat.min_eq_left q]
    · rw [if_pos (show (8 : Int32) < nI (k + 1) from nI_lt (a := 8) (b := k + 1) (by omega) (by omega)), Nat.min_eq_right (by omega)]; rfl
  refine Con.of (by decide +kernel) (Nat.le_of_ble_eq_true rfl) rfl fun p l e s m args below meth c D tyc A ad0 x hr htab hname => ?_
  change JJ _ _ _ _ _ _ _ _ _ _ _ _ _ _ _ _ _ 0 [some (.ref 13)] [] _ 0 0
  refine j_aload_n x dX1_keepHeld_0 rfl ?_
  refine j_aload_n x dX1_keepHeld_1 rfl ?_
  refine j2_geti (k := 1) x hb dX1_keepHeld_2 jc_5 wfX1_25 (by decide) rfl ?_
  refine j_iconst (v := 1) x dX1_keepHeld_5 (by decide) ?_
  refine j_iadd x dX1_keepHeld_6 ?_
  refine j_bipush (v := 9) x dX1_keepHeld_7 (by decide) ?_
  refine j_irem x dX1_keepHeld_9 (by decide) ?_
  rw [e1]; refine j2_puti (k := 1) x hb dX1_keepHeld_10 jc_5 wfX1_25 (by decide) rfl rfl rfl rfl ?_
  refine j_aload_n x dX1_keepHeld_13 rfl ?_
  refine j_aload_n x dX1_keepHeld_14 rfl ?_
  refine j2_geti (k := 2) x hb dX1_keepHeld_15 jc_5 wfX1_36 (by decide) rfl ?_
  refine j_iconst (v := 1) x dX1_keepHeld_18 (by decide) ?_
  refine j_iadd x dX1_keepHeld_19 ?_
  refine j_bipush (v := 8) x dX1_keepHeld_20 (by decide) ?_
  refine j_min x wmath dX1_keepHeld_22 wmX1_39 (Nat.le_of_ble_eq_true rfl) (Nat.zero_le _) (Nat.zero_le _) ?_
  rw [e2]; refine j2_puti (k := 2) x hb dX1_keepHeld_25 jc_5 wfX1_36 (by decide) rfl rfl rfl rfl ?_
  exact j_return x hr dX1_keepHeld_28 (by omega) (by omega) ⟨rfl, rfl⟩
theorem c_keep {d : Nat} {b : SBt} {Y : OUt} {M : MM} (hb : 104 ≤ b.2.1) {j k : Nat} (hj : j < 9) (hk : k ≤ 8) (hh : M 13 1 = nI j) (h2 : M 13 2 = nI k) (hz : M 1 2 = 0 ∨ M 1 2 = 1) : CM (d + 3) 0 0 yX1_keep cX1_keep 2 none [.ref 13, .ref 1] b Y M (.inl none) (jkeep M j k) := by
  refine Con.of (by decide +kernel) (Nat.le_of_ble_eq_true rfl) rfl fun p l e s m args below meth c D tyc A ad0 x hr htab hname => ?_
  change JJ _ _ _ _ _ _ _ _ _ _ _ _ _ _ _ _ _ 0 [some (.ref 13), some (.ref 1)] [] _ 0 0
  refine j_aload_n x dX1_keep_0 rfl ?_
  refine j_aload_n x dX1_keep_1 rfl ?_
  refine j2_callVv x hb dX1_keep_2 m_X1_hold (c_hold (d := d) hb hj hh hz) wmX1_18 jc_5 rfl rfl rfl (Nat.le_of_ble_eq_true rfl) (j_fit_rm (by omega) (by omega) (by omega)) rfl ?_
  refine j_aload_n x dX1_keep_5 rfl ?_
  refine j2_callVv x hb dX1_keep_6 m_X1_keepHeld (c_keepHeld (d := d) hb hj hk (by rw [jlg_n (by omega)]; exact hh) (by rw [jlg_n (by omega)]; exact h2)) wmX1_22 jc_5 rfl rfl rfl (Nat.le_of_ble_eq_true rfl) (j_fit_rm (by omega) (by omega) (by omega)) rfl ?_
  exact j_return x hr dX1_keep_9 (by omega) (by omega) ⟨rfl, rfl⟩
def jaddr (M : MM) (g : Nat) (t : Int32) : MM := if t = -1 then M else jm (jput 3 M (g + 2) (M g 6) t) g 6 (M g 6 + 1)
def jsetr (M : MM) (g : Nat) (t u v : Int32) : MM := jaddr (jaddr (jaddr (jm M g 6 0) g t) g u) g v
theorem jput_n {n : Nat} {M : MM} {i a k : Nat} {t v : Int32} (h : a ≠ i) : jput n M i t v a k = M a k := by
  unfold jput
  split
  · rfl
  · exact jm_n (fun q => h q.1)
theorem c_addRule {d : Nat} {b : SBt} {Y : OUt} {M : MM} (hb : 104 ≤ b.2.1) {g : Nat} {t : Int32} (hg : isLg g = true) : CM (d + 1) 0 0 yX2_addRule cX2_addRule 2 none [.ref g, .int t] b Y M (.inl none) (jaddr M g t) := by
  refine Con.of (by decide +kernel) (Nat.le_of_ble_eq_true rfl) rfl fun p l e s m args below meth c D tyc A ad0 x hr htab hname => ?_
  change JJ _ _ _ _ _ _ _ _ _ _ _ _ _ _ _ _ _ 0 [some (.ref g), some (.int t)] [] _ 0 0
  refine j_iload_n x dX2_addRule_0 rfl ?_
  refine j_iconst (v := (-1)) x dX2_addRule_1 (by decide) ?_
  refine j_icmp_eq (tgt := 27) x dX2_addRule_2 (by decide) (fun h1 => ?_) (fun h1 => ?_)
  · exact j_return x hr dX2_addRule_27 (by omega) (by omega) ⟨rfl, by rw [jaddr, if_pos h1]⟩
  · refine j_aload_n x dX2_addRule_5 rfl ?_
    refine j2_getr (k := 7) (r := g + 2) x hb dX2_addRule_6 jc_6 wfX2_25 (by decide) (lg7 hg) ?_
    refine j_aload_n x dX2_addRule_9 rfl ?_
    refine j2_geti (k := 6) x hb dX2_addRule_10 jc_6 wfX2_22 (by decide) (lg6 hg) ?_
    refine j_iload_n x dX2_addRule_13 rfl ?_
    refine j2_callSNv x hb dX2_addRule_14 m_X5_put (c_put (d := d) hb (lgA2 hg) (by decide)) wnX2_64 rfl (Nat.le_of_ble_eq_true rfl) (j_fit_rm (by omega) (by omega) (by omega)) rfl ?_
    refine j_aload_n x dX2_addRule_17 rfl ?_
    refine j_dup x dX2_addRule_18 rfl ?_
    refine j2_geti (k := 6) x hb dX2_addRule_19 jc_6 wfX2_22 (by decide) (lg6 hg) ?_
    refine j_iconst (v := 1) x dX2_addRule_22 (by decide) ?_
    refine j_iadd x dX2_addRule_23 ?_
    refine j2_puti (k := 6) x hb dX2_addRule_24 jc_6 wfX2_22 (by decide) rfl rfl rfl (lg6 hg) ?_
    exact j_return x hr dX2_addRule_27 (by omega) (by omega) ⟨rfl, by rw [jaddr, if_neg h1, jput_n (by omega)]⟩
theorem c_setRules {d : Nat} {b : SBt} {Y : OUt} {M : MM} (hb : 104 ≤ b.2.1) {g : Nat} {t u v : Int32} (hg : isLg g = true) : CM (d + 2) 0 0 yX2_setRules cX2_setRules 4 none [.ref g, .int t, .int u, .int v] b Y M (.inl none) (jsetr M g t u v) := by
  refine Con.of (by decide +kernel) (Nat.le_of_ble_eq_true rfl) rfl fun p l e s m args below meth c D tyc A ad0 x hr htab hname => ?_
  change JJ _ _ _ _ _ _ _ _ _ _ _ _ _ _ _ _ _ 0 [some (.ref g), some (.int t), some (.int u), some (.int v)] [] _ 0 0
  refine j_aload_n x dX2_setRules_0 rfl ?_
  refine j_iconst (v := 0) x dX2_setRules_1 (by decide) ?_
  refine j2_puti (k := 6) x hb dX2_setRules_2 jc_6 wfX2_22 (by decide) rfl rfl rfl (lg6 hg) ?_
  refine j_aload_n x dX2_setRules_5 rfl ?_
  refine j_iload_n x dX2_setRules_6 rfl ?_
  refine j2_callVv x hb dX2_setRules_7 m_X2_addRule (c_addRule (d := d) hb hg) wmX2_60 jc_6 rfl (lgT hg) rfl (Nat.le_of_ble_eq_true rfl) (j_fit_rm (by omega) (by omega) (by omega)) rfl ?_
  refine j_aload_n x dX2_setRules_10 rfl ?_
  refine j_iload_n x dX2_setRules_11 rfl ?_
  refine j2_callVv x hb dX2_setRules_12 m_X2_addRule (c_addRule (d := d) hb hg) wmX2_60 jc_6 rfl (lgT hg) rfl (Nat.le_of_ble_eq_true rfl) (j_fit_rm (by omega) (by omega) (by omega)) rfl ?_
  refine j_aload_n x dX2_setRules_15 rfl ?_
  refine j_iload_n x dX2_setRules_16 rfl ?_
  refine j2_callVv x hb dX2_setRules_17 m_X2_addRule (c_addRule (d := d) hb hg) wmX2_60 jc_6 rfl (lgT hg) rfl (Nat.le_of_ble_eq_true rfl) (j_fit_rm (by omega) (by omega) (by omega)) rfl ?_
  exact j_return x hr dX2_setRules_20 (by omega) (by omega) ⟨rfl, rfl⟩
def jclear (M : MM) : MM := jfill (jfill (jfill (jfill (jfill (jfill (jfill (jfill (jfill (jm (jm (jm M 75 0 0) 75 1 0) 75 2 0) 76 8 0) 77 8 0) 78 8 0) 79 8 0) 80 8 0) 81 8 0) 82 8 0) 83 8 0) 84 8 0
theorem jclear_0 {M : MM} : jclear M 75 0 = 0 := by simp [jclear, jfill, jm]
theorem c_clear {d : Nat} {b : SBt} {Y : OUt} {M : MM} (hb : 104 ≤ b.2.1)  : CM (d + 1) 0 0 yX3_clear cX3_clear 1 none [.ref 75] b Y M (.inl none) (jclear M) := by
  refine Con.of (by decide +kernel) (Nat.le_of_ble_eq_true rfl) rfl fun p l e s m args below meth c D tyc A ad0 x hr htab hname => ?_
  change JJ _ _ _ _ _ _ _ _ _ _ _ _ _ _ _ _ _ 0 [some (.ref 75)] [] _ 0 0
  refine j_aload_n x dX3_clear_0 rfl ?_
  refine j_iconst (v := 0) x dX3_clear_1 (by decide) ?_
  refine j2_puti (k := 0) x hb dX3_clear_2 jc_7 wfX3_78 (by decide) rfl rfl rfl rfl ?_
  refine j_aload_n x dX3_clear_5 rfl ?_
  refine j_iconst (v := 0) x dX3_clear_6 (by decide) ?_
  refine j2_puti (k := 1) x hb dX3_clear_7 jc_7 wfX3_82 (by decide) rfl rfl rfl rfl ?_
  refine j_aload_n x dX3_clear_10 rfl ?_
  refine j_iconst (v := 0) x dX3_clear_11 (by decide) ?_
  refine j2_puti (k := 2) x hb dX3_clear_12 jc_7 wfX3_85 (by decide) rfl rfl rfl rfl ?_
  refine j_aload_n x dX3_clear_15 rfl ?_
  refine j2_getr (k := 3) (r := 76) x hb dX3_clear_16 jc_7 wfX3_9 (by decide) rfl ?_
  refine j_iconst (v := 0) x dX3_clear_19 (by decide) ?_
  refine j2_callSNv x hb dX3_clear_20 m_X5_fillRow (c_fillRow (d := d) hb fa_76 (by decide)) wnX3_88 rfl (Nat.le_of_ble_eq_true rfl) (j_fit_rm (by omega) (by omega) (by omega)) rfl ?_
  refine j_aload_n x dX3_clear_23 rfl ?_
  refine j2_getr (k := 4) (r := 77) x hb dX3_clear_24 jc_7 wfX3_15 (by decide) rfl ?_
  refine j_iconst (v := 0) x dX3_clear_27 (by decide) ?_
  refine j2_callSNv x hb dX3_clear_28 m_X5_fillRow (c_fillRow (d := d) hb fa_77 (by decide)) wnX3_88 rfl (Nat.le_of_ble_eq_true rfl) (j_fit_rm (by omega) (by omega) (by omega)) rfl ?_
  refine j_aload_n x dX3_clear_31 rfl ?_
  refine j2_getr (k := 5) (r := 78) x hb dX3_clear_32 jc_7 wfX3_18 (by decide) rfl ?_
  refine j_iconst (v := 0) x dX3_clear_35 (by decide) ?_
  refine j2_callSNv x hb dX3_clear_36 m_X5_fillRow (c_fillRow (d := d) hb fa_78 (by decide)) wnX3_88 rfl (Nat.le_of_ble_eq_true rfl) (j_fit_rm (by omega) (by omega) (by omega)) rfl ?_
  refine j_aload_n x dX3_clear_39 rfl ?_
  refine j2_getr (k := 6) (r := 79) x hb dX3_clear_40 jc_7 wfX3_21 (by decide) rfl ?_
  refine j_iconst (v := 0) x dX3_clear_43 (by decide) ?_
  refine j2_callSNv x hb dX3_clear_44 m_X5_fillRow (c_fillRow (d := d) hb fa_79 (by decide)) wnX3_88 rfl (Nat.le_of_ble_eq_true rfl) (j_fit_rm (by omega) (by omega) (by omega)) rfl ?_
  refine j_aload_n x dX3_clear_47 rfl ?_
  refine j2_getr (k := 7) (r := 80) x hb dX3_clear_48 jc_7 wfX3_24 (by decide) rfl ?_
  refine j_iconst (v := 0) x dX3_clear_51 (by decide) ?_
  refine j2_callSNv x hb dX3_clear_52 m_X5_fillRow (c_fillRow (d := d) hb fa_80 (by decide)) wnX3_88 rfl (Nat.le_of_ble_eq_true rfl) (j_fit_rm (by omega) (by omega) (by omega)) rfl ?_
  refine j_aload_n x dX3_clear_55 rfl ?_
  refine j2_getr (k := 8) (r := 81) x hb dX3_clear_56 jc_7 wfX3_27 (by decide) rfl ?_
  refine j_iconst (v := 0) x dX3_clear_59 (by decide) ?_
  refine j2_callSNv x hb dX3_clear_60 m_X5_fillRow (c_fillRow (d := d) hb fa_81 (by decide)) wnX3_88 rfl (Nat.le_of_ble_eq_true rfl) (j_fit_rm (by omega) (by omega) (by omega)) rfl ?_
  refine j_aload_n x dX3_clear_63 rfl ?_
  refine j2_getr (k := 9) (r := 82) x hb dX3_clear_64 jc_7 wfX3_30 (by decide) rfl ?_
  refine j_iconst (v := 0) x dX3_clear_67 (by decide) ?_
  refine j2_callSNv x hb dX3_clear_68 m_X5_fillRow (c_fillRow (d := d) hb fa_82 (by decide)) wnX3_88 rfl (Nat.le_of_ble_eq_true rfl) (j_fit_rm (by omega) (by omega) (by omega)) rfl ?_
  refine j_aload_n x dX3_clear_71 rfl ?_
  refine j2_getr (k := 10) (r := 83) x hb dX3_clear_72 jc_7 wfX3_33 (by decide) rfl ?_
  refine j_iconst (v := 0) x dX3_clear_75 (by decide) ?_
  refine j2_callSNv x hb dX3_clear_76 m_X5_fillRow (c_fillRow (d := d) hb fa_83 (by decide)) wnX3_88 rfl (Nat.le_of_ble_eq_true rfl) (j_fit_rm (by omega) (by omega) (by omega)) rfl ?_
  refine j_aload_n x dX3_clear_79 rfl ?_
  refine j2_getr (k := 11) (r := 84) x hb dX3_clear_80 jc_7 wfX3_36 (by decide) rfl ?_
  refine j_iconst (v := 0) x dX3_clear_83 (by decide) ?_
  refine j2_callSNv x hb dX3_clear_84 m_X5_fillRow (c_fillRow (d := d) hb fa_84 (by decide)) wnX3_88 rfl (Nat.le_of_ble_eq_true rfl) (j_fit_rm (by omega) (by omega) (by omega)) rfl ?_
  exact j_return x hr dX3_clear_87 (by omega) (by omega) ⟨rfl, rfl⟩
theorem c_take0 {d : Nat} {b : SBt} {Y : OUt} {M : MM} (hb : 104 ≤ b.2.1)  : CM (d + 2) 0 0 yX3_take cX3_take 7 none [.ref 75, .ref 1, .ref 69, .int 0] b Y M (.inl none) (jclear M) := by
  refine Con.of (by decide +kernel) (Nat.le_of_ble_eq_true rfl) rfl fun p l e s m args below meth c D tyc A ad0 x hr htab hname => ?_
  change JJ _ _ _ _ _ _ _ _ _ _ _ _ _ _ _ _ _ 0 [some (.ref 75), some (.ref 1), some (.ref 69), some (.int 0), none, none, none] [] _ 0 0
  refine j_aload_n x dX3_take_0 rfl ?_
  refine j2_callVv x hb dX3_take_1 m_X3_clear (c_clear (d := d) hb) wmX3_39 jc_7 rfl rfl rfl (Nat.le_of_ble_eq_true rfl) (j_fit_rm (by omega) (by omega) (by omega)) rfl ?_
  refine j_iconst (v := 0) x dX3_take_4 (by decide) ?_
  refine j_istore x dX3_take_5 (by decide) rfl ?_
  refine j_iload x dX3_take_7 rfl ?_
  refine j_iload_n x dX3_take_9 rfl ?_
  refine j_icmp_ge (tgt := 113) x dX3_take_10 (by decide) (fun hc => ?_) (fun hc => absurd (by decide) hc)
  refine j_iconst (v := 0) x dX3_take_113 (by decide) ?_
  refine j_istore x dX3_take_114 (by decide) rfl ?_
  refine j_iload x dX3_take_116 rfl ?_
  refine j_iload_n x dX3_take_118 rfl ?_
  refine j_icmp_ge (tgt := 194) x dX3_take_119 (by decide) (fun hc => ?_) (fun hc => absurd (by decide) hc)
  exact j_return x hr dX3_take_194 (by omega) (by omega) ⟨rfl, rfl⟩
theorem c_count0 {d : Nat} {b : SBt} {Y : OUt} {M : MM} (hb : 104 ≤ b.2.1) (hD : M 1 2 = 0) : CM (d + 3) 0 0 yX5_count cX5_count 1 none [.ref 0] b Y M (.inl none) (jclear M) := by
  refine Con.of (by decide +kernel) (Nat.le_of_ble_eq_true rfl) rfl fun p l e s m args below meth c D tyc A ad0 x hr htab hname => ?_
  change JJ _ _ _ _ _ _ _ _ _ _ _ _ _ _ _ _ _ 0 [some (.ref 0)] [] _ 0 0
  refine j_aload_n x dX5_count_0 rfl ?_
  refine j2_getr (k := 5) (r := 75) x hb dX5_count_1 jc_9 wfX5_36 (by decide) rfl ?_
  refine j_aload_n x dX5_count_4 rfl ?_
  refine j2_getr (k := 0) (r := 1) x hb dX5_count_5 jc_9 wfX5_10 (by decide) rfl ?_
  refine j_aload_n x dX5_count_8 rfl ?_
  refine j2_getr (k := 4) (r := 69) x hb dX5_count_9 jc_9 wfX5_29 (by decide) rfl ?_
  refine j_aload_n x dX5_count_12 rfl ?_
  refine j2_callVi x hb dX5_count_13 m_X5_meetingCount (c_meetingCount (d := d) hb) wmX5_258 jc_9 rfl rfl rfl (Nat.le_of_ble_eq_true rfl) (j_fit_rm (by omega) (by omega) (by omega)) rfl ?_
  rw [show jmc M = 0 from if_pos hD]; refine j2_callVv x hb dX5_count_16 m_X3_take (c_take0 (d := d) hb) wmX5_466 jc_7 rfl rfl rfl (Nat.le_of_ble_eq_true rfl) (j_fit_rm (by omega) (by omega) (by omega)) rfl ?_
  exact j_return x hr dX5_count_19 (by omega) (by omega) ⟨rfl, rfl⟩
/-- for which reason a call is refused, if it is: the reason, its detail -/
def rTeam (M : MM) (t : Int32) : Option (Int32 × Int32) := if ¬ (¬ t < 0 ∧ ¬ 9 < t) then some (1, 0) else if ¬ M 1 2 = 0 then some (4, 0) else if ¬ M 1 0 < 8 then some (2, 8) else none
def rGround (M : MM) (t u : Int32) : Option (Int32 × Int32) := if ¬ (¬ t < 0 ∧ ¬ M 1 0 ≤ t) then some (3, t) else if ¬ (¬ u < 0 ∧ ¬ 9 < u) then some (1, 0) else none
def rDraw (M : MM) : Option (Int32 × Int32) := if ¬ M 1 2 = 0 then some (4, 0) else if ¬ 2 ≤ M 1 0 then some (6, M 1 0) else none
def okR (t : Int32) : Prop := ¬ t < (-1) ∧ ¬ 4 < t
def rRules (t u v : Int32) : Option (Int32 × Int32) := if ¬ ((¬ t < (-1) ∧ ¬ 4 < t) ∧ (¬ u < (-1) ∧ ¬ 4 < u) ∧ (¬ v < (-1) ∧ ¬ 4 < v)) then some (1, 0) else if ¬ t = -1 ∧ (t = u ∨ t = v) then some (13, t) else if ¬ u = -1 ∧ u = v then some (13, u) else none
theorem jS {b : SBt} {Y : OUt} {M : MM} {q : Option (Int32 × Int32)} {r t : Int32} (h : q = some (r, t)) : jres b Y (.inl (some (.int (jisS q)))) (jrf M q) (.inl (some (.int 1))) (HH b Y (jref M r t)) := by
  subst h
  exact ⟨rfl, rfl⟩
theorem jN {b : SBt} {Y : OUt} {M : MM} {q : Option (Int32 × Int32)} (h : q = none) : jres b Y (.inl (some (.int (jisS q)))) (jrf M q) (.inl (some (.int 0))) (HH b Y M) := by
  subst h
  exact ⟨rfl, rfl⟩
theorem c_isTeamRefused {d : Nat} {b : SBt} {Y : OUt} {M : MM} (hb : 104 ≤ b.2.1) {t : Int32} : CM (d + 1) 0 0 yX5_isTeamRefused cX5_isTeamRefused 2 (some .boolean) [.ref 0, .int t] b Y M (.inl (some (.int (jisS (rTeam M t))))) (jrf M (rTeam M t)) := by
  refine Con.of (by decide +kernel) (Nat.le_of_ble_eq_true rfl) rfl fun p l e s m args below meth c D tyc A ad0 x hr htab hname => ?_
  change JJ _ _ _ _ _ _ _ _ _ _ _ _ _ _ _ _ _ 0 [some (.ref 0), some (.int t)] [] _ 0 0
  refine j_iload_n x dX5_isTeamRefused_0 rfl ?_
  refine j2_callSi x hb dX5_isTeamRefused_1 m_X5_isGround (c_isGround (d := d) hb) wmX5_423 rfl (Nat.le_of_ble_eq_true rfl) (j_fit_rm (by omega) (by omega) (by omega)) rfl ?_
  refine j_if_ne (tgt := 14) x dX5_isTeamRefused_4 (by decide) (fun h1 => ?_) (fun h1 => ?_)
  · refine j_aload_n x dX5_isTeamRefused_14 rfl ?_
    refine j2_getr (k := 0) (r := 1) x hb dX5_isTeamRefused_15 jc_9 wfX5_10 (by decide) rfl ?_
    refine j2_geti (k := 2) x hb dX5_isTeamRefused_18 jc_6 wfX5_388 (by decide) rfl ?_
    refine j_if_eq (tgt := 31) x dX5_isTeamRefused_21 (by decide) (fun h2 => ?_) (fun h2 => ?_)
    · refine j_aload_n x dX5_isTeamRefused_31 rfl ?_
      refine j2_getr (k := 0) (r := 1) x hb dX5_isTeamRefused_32 jc_9 wfX5_10 (by decide) rfl ?_
      refine j2_geti (k := 0) x hb dX5_isTeamRefused_35 jc_6 wfX5_80 (by decide) rfl ?_
      refine j_bipush (v := 8) x dX5_isTeamRefused_38 (by decide) ?_
      refine j_icmp_lt (tgt := 57) x dX5_isTeamRefused_40 (by decide) (fun h3 => ?_) (fun h3 => ?_)
      · refine j_iconst (v := 0) x dX5_isTeamRefused_57 (by decide) ?_
        exact j_zreturn x hr dX5_isTeamRefused_58 (by decide) (by omega) (by omega) (jN (by rw [rTeam, if_neg (fun q => q (jb_nz.mp h1)), if_neg (fun q => q h2), if_neg (fun q => q h3)]))
      · refine j_aload_n x dX5_isTeamRefused_43 rfl ?_
        refine j_iconst (v := 2) x dX5_isTeamRefused_44 (by decide) ?_
        refine j_bipush (v := 8) x dX5_isTeamRefused_45 (by decide) ?_
        refine j2_callVi x hb dX5_isTeamRefused_47 m_X5_refuse (c_refuse (d := d) hb) wmX5_426 jc_9 rfl rfl rfl (Nat.le_of_ble_eq_true rfl) (j_fit_rm (by omega) (by omega) (by omega)) rfl ?_
        refine j_if_eq (tgt := 57) x dX5_isTeamRefused_50 (by decide) (fun hc => absurd hc (by decide)) (fun hc => ?_)
        refine j_iconst (v := 1) x dX5_isTeamRefused_53 (by decide) ?_
        refine j_goto (tgt := 58) x dX5_isTeamRefused_54 (by decide) ?_
        exact j_zreturn x hr dX5_isTeamRefused_58 (by decide) (by omega) (by omega) (jS (by rw [rTeam, if_neg (fun q => q (jb_nz.mp h1)), if_neg (fun q => q h2), if_pos (h3)]))
    · refine j_aload_n x dX5_isTeamRefused_24 rfl ?_
      refine j_iconst (v := 4) x dX5_isTeamRefused_25 (by decide) ?_
      refine j_iconst (v := 0) x dX5_isTeamRefused_26 (by decide) ?_
      refine j2_callVi x hb dX5_isTeamRefused_27 m_X5_refuse (c_refuse (d := d) hb) wmX5_426 jc_9 rfl rfl rfl (Nat.le_of_ble_eq_true rfl) (j_fit_rm (by omega) (by omega) (by omega)) rfl ?_
      exact j_zreturn x hr dX5_isTeamRefused_30 (by decide) (by omega) (by omega) (jS (by rw [rTeam, if_neg (fun q => q (jb_nz.mp h1)), if_pos (h2)]))
  · refine j_aload_n x dX5_isTeamRefused_7 rfl ?_
    refine j_iconst (v := 1) x dX5_isTeamRefused_8 (by decide) ?_
    refine j_iconst (v := 0) x dX5_isTeamRefused_9 (by decide) ?_
    refine j2_callVi x hb dX5_isTeamRefused_10 m_X5_refuse (c_refuse (d := d) hb) wmX5_426 jc_9 rfl rfl rfl (Nat.le_of_ble_eq_true rfl) (j_fit_rm (by omega) (by omega) (by omega)) rfl ?_
    exact j_zreturn x hr dX5_isTeamRefused_13 (by decide) (by omega) (by omega) (jS (by rw [rTeam, if_pos (jb_0.mp h1)]))
theorem c_isGroundRefused {d : Nat} {b : SBt} {Y : OUt} {M : MM} (hb : 104 ≤ b.2.1) {t u : Int32} : CM (d + 1) 0 0 yX5_isGroundRefused cX5_isGroundRefused 3 (some .boolean) [.ref 0, .int t, .int u] b Y M (.inl (some (.int (jisS (rGround M t u))))) (jrf M (rGround M t u)) := by
  refine Con.of (by decide +kernel) (Nat.le_of_ble_eq_true rfl) rfl fun p l e s m args below meth c D tyc A ad0 x hr htab hname => ?_
  change JJ _ _ _ _ _ _ _ _ _ _ _ _ _ _ _ _ _ 0 [some (.ref 0), some (.int t), some (.int u)] [] _ 0 0
  refine j_aload_n x dX5_isGroundRefused_0 rfl ?_
  refine j_iload_n x dX5_isGroundRefused_1 rfl ?_
  refine j2_callVi x hb dX5_isGroundRefused_2 m_X5_isTeam (c_isTeam (d := d) hb) wmX5_174 jc_9 rfl rfl rfl (Nat.le_of_ble_eq_true rfl) (j_fit_rm (by omega) (by omega) (by omega)) rfl ?_
  refine j_if_ne (tgt := 15) x dX5_isGroundRefused_5 (by decide) (fun h1 => ?_) (fun h1 => ?_)
  · refine j_iload_n x dX5_isGroundRefused_15 rfl ?_
    refine j2_callSi x hb dX5_isGroundRefused_16 m_X5_isGround (c_isGround (d := d) hb) wmX5_423 rfl (Nat.le_of_ble_eq_true rfl) (j_fit_rm (by omega) (by omega) (by omega)) rfl ?_
    refine j_if_ne (tgt := 35) x dX5_isGroundRefused_19 (by decide) (fun h2 => ?_) (fun h2 => ?_)
    · refine j_iconst (v := 0) x dX5_isGroundRefused_35 (by decide) ?_
      exact j_zreturn x hr dX5_isGroundRefused_36 (by decide) (by omega) (by omega) (jN (by rw [rGround, if_neg (fun q => q (jb_nz.mp h1)), if_neg (fun q => q (jb_nz.mp h2))]))
    · refine j_aload_n x dX5_isGroundRefused_22 rfl ?_
      refine j_iconst (v := 1) x dX5_isGroundRefused_23 (by decide) ?_
      refine j_iconst (v := 0) x dX5_isGroundRefused_24 (by decide) ?_
      refine j2_callVi x hb dX5_isGroundRefused_25 m_X5_refuse (c_refuse (d := d) hb) wmX5_426 jc_9 rfl rfl rfl (Nat.le_of_ble_eq_true rfl) (j_fit_rm (by omega) (by omega) (by omega)) rfl ?_
      refine j_if_eq (tgt := 35) x dX5_isGroundRefused_28 (by decide) (fun hc => absurd hc (by decide)) (fun hc => ?_)
      refine j_iconst (v := 1) x dX5_isGroundRefused_31 (by decide) ?_
      refine j_goto (tgt := 36) x dX5_isGroundRefused_32 (by decide) ?_
      exact j_zreturn x hr dX5_isGroundRefused_36 (by decide) (by omega) (by omega) (jS (by rw [rGround, if_neg (fun q => q (jb_nz.mp h1)), if_pos (jb_0.mp h2)]))
  · refine j_aload_n x dX5_isGroundRefused_8 rfl ?_
    refine j_iconst (v := 3) x dX5_isGroundRefused_9 (by decide) ?_
    refine j_iload_n x dX5_isGroundRefused_10 rfl ?_
    refine j2_callVi x hb dX5_isGroundRefused_11 m_X5_refuse (c_refuse (d := d) hb) wmX5_426 jc_9 rfl rfl rfl (Nat.le_of_ble_eq_true rfl) (j_fit_rm (by omega) (by omega) (by omega)) rfl ?_
    exact j_zreturn x hr dX5_isGroundRefused_14 (by decide) (by omega) (by omega) (jS (by rw [rGround, if_pos (jb_0.mp h1)]))
theorem c_isDrawRefused {d : Nat} {b : SBt} {Y : OUt} {M : MM} (hb : 104 ≤ b.2.1)  : CM (d + 1) 0 0 yX5_isDrawRefused cX5_isDrawRefused 1 (some .boolean) [.ref 0] b Y M (.inl (some (.int (jisS (rDraw M))))) (jrf M (rDraw M)) := by
  refine Con.of (by decide +kernel) (Nat.le_of_ble_eq_true rfl) rfl fun p l e s m args below meth c D tyc A ad0 x hr htab hname => ?_
  change JJ _ _ _ _ _ _ _ _ _ _ _ _ _ _ _ _ _ 0 [some (.ref 0)] [] _ 0 0
  refine j_aload_n x dX5_isDrawRefused_0 rfl ?_
  refine j2_getr (k := 0) (r := 1) x hb dX5_isDrawRefused_1 jc_9 wfX5_10 (by decide) rfl ?_
  refine j2_geti (k := 2) x hb dX5_isDrawRefused_4 jc_6 wfX5_388 (by decide) rfl ?_
  refine j_if_eq (tgt := 17) x dX5_isDrawRefused_7 (by decide) (fun h1 => ?_) (fun h1 => ?_)
  · refine j_aload_n x dX5_isDrawRefused_17 rfl ?_
    refine j2_getr (k := 0) (r := 1) x hb dX5_isDrawRefused_18 jc_9 wfX5_10 (by decide) rfl ?_
    refine j2_geti (k := 0) x hb dX5_isDrawRefused_21 jc_6 wfX5_80 (by decide) rfl ?_
    refine j_iconst (v := 2) x dX5_isDrawRefused_24 (by decide) ?_
    refine j_icmp_ge (tgt := 48) x dX5_isDrawRefused_25 (by decide) (fun h2 => ?_) (fun h2 => ?_)
    · refine j_iconst (v := 0) x dX5_isDrawRefused_48 (by decide) ?_
      exact j_zreturn x hr dX5_isDrawRefused_49 (by decide) (by omega) (by omega) (jN (by rw [rDraw, if_neg (fun q => q h1), if_neg (fun q => q h2)]))
    · refine j_aload_n x dX5_isDrawRefused_28 rfl ?_
      refine j_bipush (v := 6) x dX5_isDrawRefused_29 (by decide) ?_
      refine j_aload_n x dX5_isDrawRefused_31 rfl ?_
      refine j2_getr (k := 0) (r := 1) x hb dX5_isDrawRefused_32 jc_9 wfX5_10 (by decide) rfl ?_
      refine j2_geti (k := 0) x hb dX5_isDrawRefused_35 jc_6 wfX5_80 (by decide) rfl ?_
      refine j2_callVi x hb dX5_isDrawRefused_38 m_X5_refuse (c_refuse (d := d) hb) wmX5_426 jc_9 rfl rfl rfl (Nat.le_of_ble_eq_true rfl) (j_fit_rm (by omega) (by omega) (by omega)) rfl ?_
      refine j_if_eq (tgt := 48) x dX5_isDrawRefused_41 (by decide) (fun hc => absurd hc (by decide)) (fun hc => ?_)
      refine j_iconst (v := 1) x dX5_isDrawRefused_44 (by decide) ?_
      refine j_goto (tgt := 49) x dX5_isDrawRefused_45 (by decide) ?_
      exact j_zreturn x hr dX5_isDrawRefused_49 (by decide) (by omega) (by omega) (jS (by rw [rDraw, if_neg (fun q => q h1), if_pos (h2)]))
  · refine j_aload_n x dX5_isDrawRefused_10 rfl ?_
    refine j_iconst (v := 4) x dX5_isDrawRefused_11 (by decide) ?_
    refine j_iconst (v := 0) x dX5_isDrawRefused_12 (by decide) ?_
    refine j2_callVi x hb dX5_isDrawRefused_13 m_X5_refuse (c_refuse (d := d) hb) wmX5_426 jc_9 rfl rfl rfl (Nat.le_of_ble_eq_true rfl) (j_fit_rm (by omega) (by omega) (by omega)) rfl ?_
    exact j_zreturn x hr dX5_isDrawRefused_16 (by decide) (by omega) (by omega) (jS (by rw [rDraw, if_pos (h1)]))
theorem c_isRulesRefused {d : Nat} {b : SBt} {Y : OUt} {M : MM} (hb : 104 ≤ b.2.1) {t u v : Int32} : CM (d + 1) 0 0 yX5_isRulesRefused cX5_isRulesRefused 4 (some .boolean) [.ref 0, .int t, .int u, .int v] b Y M (.inl (some (.int (jisS (rRules t u v))))) (jrf M (rRules t u v)) := by
  refine Con.of (by decide +kernel) (Nat.le_of_ble_eq_true rfl) rfl fun p l e s m args below meth c D tyc A ad0 x hr htab hname => ?_
  change JJ _ _ _ _ _ _ _ _ _ _ _ _ _ _ _ _ _ 0 [some (.ref 0), some (.int t), some (.int u), some (.int v)] [] _ 0 0
  refine j_iload_n x dX5_isRulesRefused_0 rfl ?_
  refine j2_callSi x hb dX5_isRulesRefused_1 m_X5_isRuleOrNone (c_isRuleOrNone (d := d) hb) wmX5_429 rfl (Nat.le_of_ble_eq_true rfl) (j_fit_rm (by omega) (by omega) (by omega)) rfl ?_
  refine j_if_eq (tgt := 21) x dX5_isRulesRefused_4 (by decide) (fun h1 => ?_) (fun h1 => ?_)
  · refine j_aload_n x dX5_isRulesRefused_21 rfl ?_
    refine j_iconst (v := 1) x dX5_isRulesRefused_22 (by decide) ?_
    refine j_iconst (v := 0) x dX5_isRulesRefused_23 (by decide) ?_
    refine j2_callVi x hb dX5_isRulesRefused_24 m_X5_refuse (c_refuse (d := d) hb) wmX5_426 jc_9 rfl rfl rfl (Nat.le_of_ble_eq_true rfl) (j_fit_rm (by omega) (by omega) (by omega)) rfl ?_
    exact j_zreturn x hr dX5_isRulesRefused_27 (by decide) (by omega) (by omega) (jS (by rw [rRules, if_pos (fun q => jb_0.mp h1 q.1)]))
  · refine j_iload_n x dX5_isRulesRefused_7 rfl ?_
    refine j2_callSi x hb dX5_isRulesRefused_8 m_X5_isRuleOrNone (c_isRuleOrNone (d := d) hb) wmX5_429 rfl (Nat.le_of_ble_eq_true rfl) (j_fit_rm (by omega) (by omega) (by omega)) rfl ?_
    refine j_if_eq (tgt := 21) x dX5_isRulesRefused_11 (by decide) (fun h2 => ?_) (fun h2 => ?_)
    · refine j_aload_n x dX5_isRulesRefused_21 rfl ?_
      refine j_iconst (v := 1) x dX5_isRulesRefused_22 (by decide) ?_
      refine j_iconst (v := 0) x dX5_isRulesRefused_23 (by decide) ?_
      refine j2_callVi x hb dX5_isRulesRefused_24 m_X5_refuse (c_refuse (d := d) hb) wmX5_426 jc_9 rfl rfl rfl (Nat.le_of_ble_eq_true rfl) (j_fit_rm (by omega) (by omega) (by omega)) rfl ?_
      exact j_zreturn x hr dX5_isRulesRefused_27 (by decide) (by omega) (by omega) (jS (by rw [rRules, if_pos (fun q => jb_0.mp h2 q.2.1)]))
    · refine j_iload_n x dX5_isRulesRefused_14 rfl ?_
      refine j2_callSi x hb dX5_isRulesRefused_15 m_X5_isRuleOrNone (c_isRuleOrNone (d := d) hb) wmX5_429 rfl (Nat.le_of_ble_eq_true rfl) (j_fit_rm (by omega) (by omega) (by omega)) rfl ?_
      refine j_if_ne (tgt := 28) x dX5_isRulesRefused_18 (by decide) (fun h3 => ?_) (fun h3 => ?_)
      · refine j_iload_n x dX5_isRulesRefused_28 rfl ?_
        refine j_iconst (v := (-1)) x dX5_isRulesRefused_29 (by decide) ?_
        refine j_icmp_eq (tgt := 51) x dX5_isRulesRefused_30 (by decide) (fun h4 => ?_) (fun h4 => ?_)
        · refine j_iload_n x dX5_isRulesRefused_51 rfl ?_
          refine j_iconst (v := (-1)) x dX5_isRulesRefused_52 (by decide) ?_
          refine j_icmp_eq (tgt := 75) x dX5_isRulesRefused_53 (by decide) (fun h7 => ?_) (fun h7 => ?_)
          · refine j_iconst (v := 0) x dX5_isRulesRefused_75 (by decide) ?_
            exact j_zreturn x hr dX5_isRulesRefused_76 (by decide) (by omega) (by omega) (jN (by rw [rRules, if_neg (fun q => q ⟨jb_nz.mp h1, jb_nz.mp h2, jb_nz.mp h3⟩), if_neg (fun q => q.1 h4), if_neg (fun q => q.1 h7)]))
          · refine j_iload_n x dX5_isRulesRefused_56 rfl ?_
            refine j_iload_n x dX5_isRulesRefused_57 rfl ?_
            refine j_icmp_ne (tgt := 75) x dX5_isRulesRefused_58 (by decide) (fun h8 => ?_) (fun h8 => ?_)
            · refine j_iconst (v := 0) x dX5_isRulesRefused_75 (by decide) ?_
              exact j_zreturn x hr dX5_isRulesRefused_76 (by decide) (by omega) (by omega) (jN (by rw [rRules, if_neg (fun q => q ⟨jb_nz.mp h1, jb_nz.mp h2, jb_nz.mp h3⟩), if_neg (fun q => q.1 h4), if_neg (fun q => h8 q.2)]))
            · refine j_aload_n x dX5_isRulesRefused_61 rfl ?_
              refine j_bipush (v := 13) x dX5_isRulesRefused_62 (by decide) ?_
              refine j_iload_n x dX5_isRulesRefused_64 rfl ?_
              refine j2_callVi x hb dX5_isRulesRefused_65 m_X5_refuse (c_refuse (d := d) hb) wmX5_426 jc_9 rfl rfl rfl (Nat.le_of_ble_eq_true rfl) (j_fit_rm (by omega) (by omega) (by omega)) rfl ?_
              refine j_if_eq (tgt := 75) x dX5_isRulesRefused_68 (by decide) (fun hc => absurd hc (by decide)) (fun hc => ?_)
              refine j_iconst (v := 1) x dX5_isRulesRefused_71 (by decide) ?_
              refine j_goto (tgt := 76) x dX5_isRulesRefused_72 (by decide) ?_
              exact j_zreturn x hr dX5_isRulesRefused_76 (by decide) (by omega) (by omega) (jS (by rw [rRules, if_neg (fun q => q ⟨jb_nz.mp h1, jb_nz.mp h2, jb_nz.mp h3⟩), if_neg (fun q => q.1 h4), if_pos (⟨h7, h8⟩)]))
        · refine j_iload_n x dX5_isRulesRefused_33 rfl ?_
          refine j_iload_n x dX5_isRulesRefused_34 rfl ?_
          refine j_icmp_eq (tgt := 43) x dX5_isRulesRefused_35 (by decide) (fun h5 => ?_) (fun h5 => ?_)
          · refine j_aload_n x dX5_isRulesRefused_43 rfl ?_
            refine j_bipush (v := 13) x dX5_isRulesRefused_44 (by decide) ?_
            refine j_iload_n x dX5_isRulesRefused_46 rfl ?_
            refine j2_callVi x hb dX5_isRulesRefused_47 m_X5_refuse (c_refuse (d := d) hb) wmX5_426 jc_9 rfl rfl rfl (Nat.le_of_ble_eq_true rfl) (j_fit_rm (by omega) (by omega) (by omega)) rfl ?_
            exact j_zreturn x hr dX5_isRulesRefused_50 (by decide) (by omega) (by omega) (jS (by rw [rRules, if_neg (fun q => q ⟨jb_nz.mp h1, jb_nz.mp h2, jb_nz.mp h3⟩), if_pos (⟨h4, Or.inl h5⟩)]))
          · refine j_iload_n x dX5_isRulesRefused_38 rfl ?_
            refine j_iload_n x dX5_isRulesRefused_39 rfl ?_
            refine j_icmp_ne (tgt := 51) x dX5_isRulesRefused_40 (by decide) (fun h6 => ?_) (fun h6 => ?_)
            · refine j_iload_n x dX5_isRulesRefused_51 rfl ?_
              refine j_iconst (v := (-1)) x dX5_isRulesRefused_52 (by decide) ?_
              refine j_icmp_eq (tgt := 75) x dX5_isRulesRefused_53 (by decide) (fun h7 => ?_) (fun h7 => ?_)
              · refine j_iconst (v := 0) x dX5_isRulesRefused_75 (by decide) ?_
                exact j_zreturn x hr dX5_isRulesRefused_76 (by decide) (by omega) (by omega) (jN (by rw [rRules, if_neg (fun q => q ⟨jb_nz.mp h1, jb_nz.mp h2, jb_nz.mp h3⟩), if_neg (fun q => q.2.elim h5 h6), if_neg (fun q => q.1 h7)]))
              · refine j_iload_n x dX5_isRulesRefused_56 rfl ?_
                refine j_iload_n x dX5_isRulesRefused_57 rfl ?_
                refine j_icmp_ne (tgt := 75) x dX5_isRulesRefused_58 (by decide) (fun h8 => ?_) (fun h8 => ?_)
                · refine j_iconst (v := 0) x dX5_isRulesRefused_75 (by decide) ?_
                  exact j_zreturn x hr dX5_isRulesRefused_76 (by decide) (by omega) (by omega) (jN (by rw [rRules, if_neg (fun q => q ⟨jb_nz.mp h1, jb_nz.mp h2, jb_nz.mp h3⟩), if_neg (fun q => q.2.elim h5 h6), if_neg (fun q => h8 q.2)]))
                · refine j_aload_n x dX5_isRulesRefused_61 rfl ?_
                  refine j_bipush (v := 13) x dX5_isRulesRefused_62 (by decide) ?_
                  refine j_iload_n x dX5_isRulesRefused_64 rfl ?_
                  refine j2_callVi x hb dX5_isRulesRefused_65 m_X5_refuse (c_refuse (d := d) hb) wmX5_426 jc_9 rfl rfl rfl (Nat.le_of_ble_eq_true rfl) (j_fit_rm (by omega) (by omega) (by omega)) rfl ?_
                  refine j_if_eq (tgt := 75) x dX5_isRulesRefused_68 (by decide) (fun hc => absurd hc (by decide)) (fun hc => ?_)
                  refine j_iconst (v := 1) x dX5_isRulesRefused_71 (by decide) ?_
                  refine j_goto (tgt := 76) x dX5_isRulesRefused_72 (by decide) ?_
                  exact j_zreturn x hr dX5_isRulesRefused_76 (by decide) (by omega) (by omega) (jS (by rw [rRules, if_neg (fun q => q ⟨jb_nz.mp h1, jb_nz.mp h2, jb_nz.mp h3⟩), if_neg (fun q => q.2.elim h5 h6), if_pos (⟨h7, h8⟩)]))
            · refine j_aload_n x dX5_isRulesRefused_43 rfl ?_
              refine j_bipush (v := 13) x dX5_isRulesRefused_44 (by decide) ?_
              refine j_iload_n x dX5_isRulesRefused_46 rfl ?_
              refine j2_callVi x hb dX5_isRulesRefused_47 m_X5_refuse (c_refuse (d := d) hb) wmX5_426 jc_9 rfl rfl rfl (Nat.le_of_ble_eq_true rfl) (j_fit_rm (by omega) (by omega) (by omega)) rfl ?_
              exact j_zreturn x hr dX5_isRulesRefused_50 (by decide) (by omega) (by omega) (jS (by rw [rRules, if_neg (fun q => q ⟨jb_nz.mp h1, jb_nz.mp h2, jb_nz.mp h3⟩), if_pos (⟨h4, Or.inr (h6)⟩)]))
      · refine j_aload_n x dX5_isRulesRefused_21 rfl ?_
        refine j_iconst (v := 1) x dX5_isRulesRefused_22 (by decide) ?_
        refine j_iconst (v := 0) x dX5_isRulesRefused_23 (by decide) ?_
        refine j2_callVi x hb dX5_isRulesRefused_24 m_X5_refuse (c_refuse (d := d) hb) wmX5_426 jc_9 rfl rfl rfl (Nat.le_of_ble_eq_true rfl) (j_fit_rm (by omega) (by omega) (by omega)) rfl ?_
        exact j_zreturn x hr dX5_isRulesRefused_27 (by decide) (by omega) (by omega) (jS (by rw [rRules, if_pos (fun q => jb_0.mp h3 q.2.2)]))
theorem c_isNoMeetingRefused0 {d : Nat} {b : SBt} {Y : OUt} {M : MM} (hb : 104 ≤ b.2.1) {t : Int32} (hD : M 1 2 = 0) : CM (d + 1) 0 0 yX5_isNoMeetingRefused cX5_isNoMeetingRefused 2 (some .boolean) [.ref 0, .int t] b Y M (.inl (some (.int 1))) (jref M 5 0) := by
  refine Con.of (by decide +kernel) (Nat.le_of_ble_eq_true rfl) rfl fun p l e s m args below meth c D tyc A ad0 x hr htab hname => ?_
  change JJ _ _ _ _ _ _ _ _ _ _ _ _ _ _ _ _ _ 0 [some (.ref 0), some (.int t)] [] _ 0 0
  refine j_aload_n x dX5_isNoMeetingRefused_0 rfl ?_
  refine j2_getr (k := 0) (r := 1) x hb dX5_isNoMeetingRefused_1 jc_9 wfX5_10 (by decide) rfl ?_
  refine j2_geti (k := 2) x hb dX5_isNoMeetingRefused_4 jc_6 wfX5_388 (by decide) rfl ?_
  refine j_if_ne (tgt := 17) x dX5_isNoMeetingRefused_7 (by decide) (fun hc => absurd hc (fun q => q hD)) (fun hc => ?_)
  refine j_aload_n x dX5_isNoMeetingRefused_10 rfl ?_
  refine j_iconst (v := 5) x dX5_isNoMeetingRefused_11 (by decide) ?_
  refine j_iconst (v := 0) x dX5_isNoMeetingRefused_12 (by decide) ?_
  refine j2_callVi x hb dX5_isNoMeetingRefused_13 m_X5_refuse (c_refuse (d := d) hb) wmX5_426 jc_9 rfl rfl rfl (Nat.le_of_ble_eq_true rfl) (j_fit_rm (by omega) (by omega) (by omega)) rfl ?_
  exact j_zreturn x hr dX5_isNoMeetingRefused_16 (by decide) (by omega) (by omega) ⟨rfl, rfl⟩
theorem c_isResultRefused0 {d : Nat} {b : SBt} {Y : OUt} {M : MM} (hb : 104 ≤ b.2.1) {t u v : Int32} (hD : M 1 2 = 0) : CM (d + 2) 0 0 yX5_isResultRefused cX5_isResultRefused 4 (some .boolean) [.ref 0, .int t, .int u, .int v] b Y M (.inl (some (.int 1))) (jref M 5 0) := by
  refine Con.of (by decide +kernel) (Nat.le_of_ble_eq_true rfl) rfl fun p l e s m args below meth c D tyc A ad0 x hr htab hname => ?_
  change JJ _ _ _ _ _ _ _ _ _ _ _ _ _ _ _ _ _ 0 [some (.ref 0), some (.int t), some (.int u), some (.int v)] [] _ 0 0
  refine j_aload_n x dX5_isResultRefused_0 rfl ?_
  refine j_iload_n x dX5_isResultRefused_1 rfl ?_
  refine j2_callVi x hb dX5_isResultRefused_2 m_X5_isNoMeetingRefused (c_isNoMeetingRefused0 (d := d) hb hD) wmX5_432 jc_9 rfl rfl rfl (Nat.le_of_ble_eq_true rfl) (j_fit_rm (by omega) (by omega) (by omega)) rfl ?_
  refine j_if_eq (tgt := 10) x dX5_isResultRefused_5 (by decide) (fun hc => absurd hc (by decide)) (fun hc => ?_)
  refine j_iconst (v := 1) x dX5_isResultRefused_8 (by decide) ?_
  exact j_zreturn x hr dX5_isResultRefused_9 (by decide) (by omega) (by omega) ⟨rfl, rfl⟩
theorem c_isBackRefused0 {d : Nat} {b : SBt} {Y : OUt} {M : MM} (hb : 104 ≤ b.2.1) {t : Int32} (hD : M 1 2 = 0) : CM (d + 2) 0 0 yX5_isBackRefused cX5_isBackRefused 2 (some .boolean) [.ref 0, .int t] b Y M (.inl (some (.int 1))) (jref M 5 0) := by
  refine Con.of (by decide +kernel) (Nat.le_of_ble_eq_true rfl) rfl fun p l e s m args below meth c D tyc A ad0 x hr htab hname => ?_
  change JJ _ _ _ _ _ _ _ _ _ _ _ _ _ _ _ _ _ 0 [some (.ref 0), some (.int t)] [] _ 0 0
  refine j_aload_n x dX5_isBackRefused_0 rfl ?_
  refine j_iload_n x dX5_isBackRefused_1 rfl ?_
  refine j2_callVi x hb dX5_isBackRefused_2 m_X5_isNoMeetingRefused (c_isNoMeetingRefused0 (d := d) hb hD) wmX5_432 jc_9 rfl rfl rfl (Nat.le_of_ble_eq_true rfl) (j_fit_rm (by omega) (by omega) (by omega)) rfl ?_
  refine j_if_eq (tgt := 10) x dX5_isBackRefused_5 (by decide) (fun hc => absurd hc (by decide)) (fun hc => ?_)
  refine j_iconst (v := 1) x dX5_isBackRefused_8 (by decide) ?_
  exact j_zreturn x hr dX5_isBackRefused_9 (by decide) (by omega) (by omega) ⟨rfl, rfl⟩
theorem c_isPutOffRefused0 {d : Nat} {b : SBt} {Y : OUt} {M : MM} (hb : 104 ≤ b.2.1) {t u : Int32} (hD : M 1 2 = 0) : CM (d + 2) 0 0 yX5_isPutOffRefused cX5_isPutOffRefused 4 (some .boolean) [.ref 0, .int t, .int u] b Y M (.inl (some (.int 1))) (jref M 5 0) := by
  refine Con.of (by decide +kernel) (Nat.le_of_ble_eq_true rfl) rfl fun p l e s m args below meth c D tyc A ad0 x hr htab hname => ?_
  change JJ _ _ _ _ _ _ _ _ _ _ _ _ _ _ _ _ _ 0 [some (.ref 0), some (.int t), some (.int u), none] [] _ 0 0
  refine j_aload_n x dX5_isPutOffRefused_0 rfl ?_
  refine j_iload_n x dX5_isPutOffRefused_1 rfl ?_
  refine j2_callVi x hb dX5_isPutOffRefused_2 m_X5_isNoMeetingRefused (c_isNoMeetingRefused0 (d := d) hb hD) wmX5_432 jc_9 rfl rfl rfl (Nat.le_of_ble_eq_true rfl) (j_fit_rm (by omega) (by omega) (by omega)) rfl ?_
  refine j_if_eq (tgt := 10) x dX5_isPutOffRefused_5 (by decide) (fun hc => absurd hc (by decide)) (fun hc => ?_)
  refine j_iconst (v := 1) x dX5_isPutOffRefused_8 (by decide) ?_
  exact j_zreturn x hr dX5_isPutOffRefused_9 (by decide) (by omega) (by omega) ⟨rfl, rfl⟩
theorem c_isNextRefused0 {d : Nat} {b : SBt} {Y : OUt} {M : MM} (hb : 104 ≤ b.2.1) (hD : M 1 2 = 0) : CM (d + 1) 0 0 yX5_isNextRefused cX5_isNextRefused 2 (some .boolean) [.ref 0] b Y M (.inl (some (.int 1))) (jref M 5 0) := by
  refine Con.of (by decide +kernel) (Nat.le_of_ble_eq_true rfl) rfl fun p l e s m args below meth c D tyc A ad0 x hr htab hname => ?_
  change JJ _ _ _ _ _ _ _ _ _ _ _ _ _ _ _ _ _ 0 [some (.ref 0), none] [] _ 0 0
  refine j_aload_n x dX5_isNextRefused_0 rfl ?_
  refine j2_getr (k := 0) (r := 1) x hb dX5_isNextRefused_1 jc_9 wfX5_10 (by decide) rfl ?_
  refine j2_geti (k := 2) x hb dX5_isNextRefused_4 jc_6 wfX5_388 (by decide) rfl ?_
  refine j_if_ne (tgt := 17) x dX5_isNextRefused_7 (by decide) (fun hc => absurd hc (fun q => q hD)) (fun hc => ?_)
  refine j_aload_n x dX5_isNextRefused_10 rfl ?_
  refine j_iconst (v := 5) x dX5_isNextRefused_11 (by decide) ?_
  refine j_iconst (v := 0) x dX5_isNextRefused_12 (by decide) ?_
  refine j2_callVi x hb dX5_isNextRefused_13 m_X5_refuse (c_refuse (d := d) hb) wmX5_426 jc_9 rfl rfl rfl (Nat.le_of_ble_eq_true rfl) (j_fit_rm (by omega) (by omega) (by omega)) rfl ?_
  exact j_zreturn x hr dX5_isNextRefused_16 (by decide) (by omega) (by omega) ⟨rfl, rfl⟩
theorem c_isGiveRefused1 {d : Nat} {b : SBt} {Y : OUt} {M : MM} (hb : 104 ≤ b.2.1) {t u : Int32} (hx : t < 1 ∨ 5 < t ∨ u < 0 ∨ ¬ u ≤ 3) : CM (d + 4) 0 0 yX5_isGiveRefused cX5_isGiveRefused 3 (some .boolean) [.ref 0, .int t, .int u] b Y M (.inl (some (.int 1))) (jref M 1 0) := by
  refine Con.of (by decide +kernel) (Nat.le_of_ble_eq_true rfl) rfl fun p l e s m args below meth c D tyc A ad0 x hr htab hname => ?_
  change JJ _ _ _ _ _ _ _ _ _ _ _ _ _ _ _ _ _ 0 [some (.ref 0), some (.int t), some (.int u)] [] _ 0 0
  refine j_iload_n x dX5_isGiveRefused_0 rfl ?_
  refine j_iconst (v := 1) x dX5_isGiveRefused_1 (by decide) ?_
  refine j_icmp_lt (tgt := 19) x dX5_isGiveRefused_2 (by decide) (fun h1 => ?_) (fun h1 => ?_)
  · refine j_aload_n x dX5_isGiveRefused_19 rfl ?_
    refine j_iconst (v := 1) x dX5_isGiveRefused_20 (by decide) ?_
    refine j_iconst (v := 0) x dX5_isGiveRefused_21 (by decide) ?_
    refine j2_callVi x hb dX5_isGiveRefused_22 m_X5_refuse (c_refuse (d := d) hb) wmX5_426 jc_9 rfl rfl rfl (Nat.le_of_ble_eq_true rfl) (j_fit_rm (by omega) (by omega) (by omega)) rfl ?_
    exact j_zreturn x hr dX5_isGiveRefused_25 (by decide) (by omega) (by omega) ⟨rfl, rfl⟩
  · refine j_iload_n x dX5_isGiveRefused_5 rfl ?_
    refine j_iconst (v := 5) x dX5_isGiveRefused_6 (by decide) ?_
    refine j_icmp_gt (tgt := 19) x dX5_isGiveRefused_7 (by decide) (fun h2 => ?_) (fun h2 => ?_)
    · refine j_aload_n x dX5_isGiveRefused_19 rfl ?_
      refine j_iconst (v := 1) x dX5_isGiveRefused_20 (by decide) ?_
      refine j_iconst (v := 0) x dX5_isGiveRefused_21 (by decide) ?_
      refine j2_callVi x hb dX5_isGiveRefused_22 m_X5_refuse (c_refuse (d := d) hb) wmX5_426 jc_9 rfl rfl rfl (Nat.le_of_ble_eq_true rfl) (j_fit_rm (by omega) (by omega) (by omega)) rfl ?_
      exact j_zreturn x hr dX5_isGiveRefused_25 (by decide) (by omega) (by omega) ⟨rfl, rfl⟩
    · refine j_iload_n x dX5_isGiveRefused_10 rfl ?_
      refine j_if_lt (tgt := 19) x dX5_isGiveRefused_11 (by decide) (fun h3 => ?_) (fun h3 => ?_)
      · refine j_aload_n x dX5_isGiveRefused_19 rfl ?_
        refine j_iconst (v := 1) x dX5_isGiveRefused_20 (by decide) ?_
        refine j_iconst (v := 0) x dX5_isGiveRefused_21 (by decide) ?_
        refine j2_callVi x hb dX5_isGiveRefused_22 m_X5_refuse (c_refuse (d := d) hb) wmX5_426 jc_9 rfl rfl rfl (Nat.le_of_ble_eq_true rfl) (j_fit_rm (by omega) (by omega) (by omega)) rfl ?_
        exact j_zreturn x hr dX5_isGiveRefused_25 (by decide) (by omega) (by omega) ⟨rfl, rfl⟩
      · refine j_iload_n x dX5_isGiveRefused_14 rfl ?_
        refine j_iconst (v := 3) x dX5_isGiveRefused_15 (by decide) ?_
        refine j_icmp_le (tgt := 26) x dX5_isGiveRefused_16 (by decide) (fun hc => absurd hc (by rcases hx with q | q | q | q; exact absurd q h1; exact absurd q h2; exact absurd q h3; exact q)) (fun hc => ?_)
        refine j_aload_n x dX5_isGiveRefused_19 rfl ?_
        refine j_iconst (v := 1) x dX5_isGiveRefused_20 (by decide) ?_
        refine j_iconst (v := 0) x dX5_isGiveRefused_21 (by decide) ?_
        refine j2_callVi x hb dX5_isGiveRefused_22 m_X5_refuse (c_refuse (d := d) hb) wmX5_426 jc_9 rfl rfl rfl (Nat.le_of_ble_eq_true rfl) (j_fit_rm (by omega) (by omega) (by omega)) rfl ?_
        exact j_zreturn x hr dX5_isGiveRefused_25 (by decide) (by omega) (by omega) ⟨rfl, rfl⟩
theorem c_isGiveRefused0 {d : Nat} {b : SBt} {Y : OUt} {M : MM} (hb : 104 ≤ b.2.1) {t u : Int32} (hx : ¬ (t < 1 ∨ 5 < t ∨ u < 0 ∨ ¬ u ≤ 3)) (hD : M 1 2 = 0) : CM (d + 4) 0 0 yX5_isGiveRefused cX5_isGiveRefused 3 (some .boolean) [.ref 0, .int t, .int u] b Y M (.inl (some (.int 0))) (jclear M) := by
  refine Con.of (by decide +kernel) (Nat.le_of_ble_eq_true rfl) rfl fun p l e s m args below meth c D tyc A ad0 x hr htab hname => ?_
  change JJ _ _ _ _ _ _ _ _ _ _ _ _ _ _ _ _ _ 0 [some (.ref 0), some (.int t), some (.int u)] [] _ 0 0
  refine j_iload_n x dX5_isGiveRefused_0 rfl ?_
  refine j_iconst (v := 1) x dX5_isGiveRefused_1 (by decide) ?_
  refine j_icmp_lt (tgt := 19) x dX5_isGiveRefused_2 (by decide) (fun hc => absurd hc (fun q => hx (Or.inl q))) (fun hc => ?_)
  refine j_iload_n x dX5_isGiveRefused_5 rfl ?_
  refine j_iconst (v := 5) x dX5_isGiveRefused_6 (by decide) ?_
  refine j_icmp_gt (tgt := 19) x dX5_isGiveRefused_7 (by decide) (fun hc => absurd hc (fun q => hx (Or.inr (Or.inl q)))) (fun hc => ?_)
  refine j_iload_n x dX5_isGiveRefused_10 rfl ?_
  refine j_if_lt (tgt := 19) x dX5_isGiveRefused_11 (by decide) (fun hc => absurd hc (fun q => hx (Or.inr (Or.inr (Or.inl q))))) (fun hc => ?_)
  refine j_iload_n x dX5_isGiveRefused_14 rfl ?_
  refine j_iconst (v := 3) x dX5_isGiveRefused_15 (by decide) ?_
  refine j_icmp_le (tgt := 26) x dX5_isGiveRefused_16 (by decide) (fun hc => ?_) (fun hc => absurd (Decidable.byContradiction fun q => hx (Or.inr (Or.inr (Or.inr q)))) hc)
  refine j_aload_n x dX5_isGiveRefused_26 rfl ?_
  refine j2_callVv x hb dX5_isGiveRefused_27 m_X5_count (c_count0 (d := d) hb hD) wmX5_187 jc_9 rfl rfl rfl (Nat.le_of_ble_eq_true rfl) (j_fit_rm (by omega) (by omega) (by omega)) rfl ?_
  refine j_aload_n x dX5_isGiveRefused_30 rfl ?_
  refine j2_getr (k := 5) (r := 75) x hb dX5_isGiveRefused_31 jc_9 wfX5_36 (by decide) rfl ?_
  refine j2_geti (k := 0) x hb dX5_isGiveRefused_34 jc_7 wfX5_372 (by decide) rfl ?_
  refine j_if_le (tgt := 60) x dX5_isGiveRefused_37 (by decide) (fun hc => ?_) (fun hc => absurd (by rw [jclear_0]; decide) hc)
  refine j_iconst (v := 0) x dX5_isGiveRefused_60 (by decide) ?_
  exact j_zreturn x hr dX5_isGiveRefused_61 (by decide) (by omega) (by omega) ⟨rfl, rfl⟩
end
