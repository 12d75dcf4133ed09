section ZJN0
noncomputable def tb1_0 : List Jvm.Cond := [(Jvm.Cond.initialized "PadConsoleLaw"), (Jvm.Cond.initialized "PadConsole"), (Jvm.Cond.initialized "PadConsole$Memory"), (Jvm.Cond.initialized "PadConsole$Video"), (Jvm.Cond.initialized "PadConsole$Painter"), (Jvm.Cond.initialized "PadConsole$Sound"), (Jvm.Cond.initialized "java/util/Arrays"), (Jvm.Cond.initialized "java/lang/Throwable"), (Jvm.Cond.initialized "java/lang/Exception"), (Jvm.Cond.initialized "java/lang/RuntimeException"), (Jvm.Cond.initialized "java/lang/IllegalArgumentException"), (Jvm.Cond.initialized "java/lang/AbstractStringBuilder"), (Jvm.Cond.initialized "java/lang/StringBuilder"), (Jvm.Cond.initialized "java/lang/String"), (Jvm.Cond.initialized "java/lang/StringUTF16"), (Jvm.Cond.initialized "jdk/internal/util/ArraysSupport")]
noncomputable def tb1_1 : List Jvm.Cond := [(Jvm.Cond.initialized "java/lang/Math"), (Jvm.Cond.initialized "java/lang/System"), (Jvm.Cond.initialized "jdk/internal/util/Preconditions"), (Jvm.Cond.initialized "java/lang/StringLatin1"), (Jvm.Cond.initialized "java/lang/Integer"), (Jvm.Cond.initialized "PadConsole$Waves"), (Jvm.Cond.initialized "PadConsole$Ports"), (Jvm.Cond.initialized "PadConsole$Processor"), (Jvm.Cond.initialized "PadConsole$Clock"), (Jvm.Cond.initialized "PadConsole$Ring"), (Jvm.Cond.initialized "PadConsole$Desk"), (Jvm.Cond.initialized "PadConsole$Teller"), (Jvm.Cond.initialized "PadConsoleModel"), (Jvm.Cond.initialized "java/lang/IllegalStateException"), (Jvm.Cond.initialized "java/util/NoSuchElementException"), (Jvm.Cond.classLink "PadConsoleLaw" (8 : Nat) "PadConsole")]
noncomputable def tb1_2 : List Jvm.Cond := [(Jvm.Cond.instantiable "PadConsole" (12 : Nat)), (Jvm.Cond.methodLink "PadConsoleLaw" (100 : Nat) ({ cls := "PadConsole", name := "<init>", desc := "(I)V" } : Jvm.MethodName)), (Jvm.Cond.instanceMethod ({ cls := "PadConsole", name := "<init>", desc := "(I)V" } : Jvm.MethodName)), (Jvm.Cond.code ({ cls := "PadConsole", name := "<init>", desc := "(I)V" } : Jvm.MethodName) prog_1_method_1_code (2 : Nat) (Option.none : Option Jvm.ClassFile.FieldType)), (Jvm.Cond.methodLink "PadConsole" (1 : Nat) ({ cls := "java/lang/Object", name := "<init>", desc := "()V" } : Jvm.MethodName)), (Jvm.Cond.instanceMethod ({ cls := "java/lang/Object", name := "<init>", desc := "()V" } : Jvm.MethodName)), (Jvm.Cond.code ({ cls := "java/lang/Object", name := "<init>", desc := "()V" } : Jvm.MethodName) object_method_1_code (1 : Nat) (Option.none : Option Jvm.ClassFile.FieldType)), (Jvm.Cond.classLink "PadConsole" (13 : Nat) "PadConsole$Memory"), (Jvm.Cond.instantiable "PadConsole$Memory" (14 : Nat)), (Jvm.Cond.methodLinkNest "PadConsole" (15 : Nat) ({ cls := "PadConsole$Memory", name := "<init>", desc := "()V" } : Jvm.MethodName) "PadConsole"), (Jvm.Cond.instanceMethod ({ cls := "PadConsole$Memory", name := "<init>", desc := "()V" } : Jvm.MethodName)), (Jvm.Cond.code ({ cls := "PadConsole$Memory", name := "<init>", desc := "()V" } : Jvm.MethodName) prog_4_method_1_code (1 : Nat) (Option.none : Option Jvm.ClassFile.FieldType)), (Jvm.Cond.methodLink "PadConsole$Memory" (1 : Nat) ({ cls := "java/lang/Object", name := "<init>", desc := "()V" } : Jvm.MethodName)), (Jvm.Cond.constant "PadConsole$Memory" (9 : Nat) (262656 : Int32)), (Jvm.Cond.constant "PadConsole$Memory" (27 : Nat) (32768 : Int32)), (Jvm.Cond.fieldLink "PadConsole$Memory" (10 : Nat) "PadConsole$Memory" "tape" "[I")]
noncomputable def tb1_3 : List Jvm.Cond := [(Jvm.Cond.fieldLink "PadConsole$Memory" (14 : Nat) "PadConsole$Memory" "rom" "[I"), (Jvm.Cond.fieldLink "PadConsole$Memory" (40 : Nat) "PadConsole$Memory" "tapeLength" "I"), (Jvm.Cond.fieldLink "PadConsole" (102 : Nat) "PadConsole$Memory" "tapeLength" "I"), (Jvm.Cond.fieldLink "PadConsole$Memory" (52 : Nat) "PadConsole$Memory" "base" "I"), (Jvm.Cond.fieldLink "PadConsole$Memory" (55 : Nat) "PadConsole$Memory" "size" "I"), (Jvm.Cond.fieldLink "PadConsole$Memory" (58 : Nat) "PadConsole$Memory" "banks" "I"), (Jvm.Cond.fieldLink "PadConsole$Memory" (68 : Nat) "PadConsole$Memory" "paging" "I"), (Jvm.Cond.fieldLink "PadConsole$Memory" (17 : Nat) "PadConsole$Memory" "header" "I"), (Jvm.Cond.fieldLink "PadConsole$Memory" (21 : Nat) "PadConsole$Memory" "ram" "[I"), (Jvm.Cond.fieldLink "PadConsole$Memory" (24 : Nat) "PadConsole$Memory" "ramKept" "[I"), (Jvm.Cond.fieldLink "PadConsole$Memory" (28 : Nat) "PadConsole$Memory" "charged" "[I"), (Jvm.Cond.fieldLink "PadConsole$Memory" (31 : Nat) "PadConsole$Memory" "chargedKept" "[I"), (Jvm.Cond.fieldLink "PadConsole$Memory" (34 : Nat) "PadConsole$Memory" "pages" "[I"), (Jvm.Cond.fieldLink "PadConsole$Memory" (37 : Nat) "PadConsole$Memory" "pagesKept" "[I"), (Jvm.Cond.lays "PadConsole$Memory" "PadConsole$Memory" "tape" "[I"), (Jvm.Cond.soleField "PadConsole$Memory" "tape")]
noncomputable def tb1_4 : List Jvm.Cond := [(Jvm.Cond.lays "PadConsole$Memory" "PadConsole$Memory" "rom" "[I"), (Jvm.Cond.soleField "PadConsole$Memory" "rom"), (Jvm.Cond.lays "PadConsole$Memory" "PadConsole$Memory" "tapeLength" "I"), (Jvm.Cond.soleField "PadConsole$Memory" "tapeLength"), (Jvm.Cond.lays "PadConsole$Memory" "PadConsole$Memory" "base" "I"), (Jvm.Cond.soleField "PadConsole$Memory" "base"), (Jvm.Cond.lays "PadConsole$Memory" "PadConsole$Memory" "size" "I"), (Jvm.Cond.soleField "PadConsole$Memory" "size"), (Jvm.Cond.lays "PadConsole$Memory" "PadConsole$Memory" "banks" "I"), (Jvm.Cond.soleField "PadConsole$Memory" "banks"), (Jvm.Cond.lays "PadConsole$Memory" "PadConsole$Memory" "paging" "I"), (Jvm.Cond.soleField "PadConsole$Memory" "paging"), (Jvm.Cond.lays "PadConsole$Memory" "PadConsole$Memory" "header" "I"), (Jvm.Cond.soleField "PadConsole$Memory" "header"), (Jvm.Cond.laysFinal "PadConsole$Memory" "PadConsole$Memory" "ram" "[I"), (Jvm.Cond.soleField "PadConsole$Memory" "ram")]
noncomputable def tb1_5 : List Jvm.Cond := [(Jvm.Cond.laysFinal "PadConsole$Memory" "PadConsole$Memory" "ramKept" "[I"), (Jvm.Cond.soleField "PadConsole$Memory" "ramKept"), (Jvm.Cond.laysFinal "PadConsole$Memory" "PadConsole$Memory" "charged" "[I"), (Jvm.Cond.soleField "PadConsole$Memory" "charged"), (Jvm.Cond.laysFinal "PadConsole$Memory" "PadConsole$Memory" "chargedKept" "[I"), (Jvm.Cond.soleField "PadConsole$Memory" "chargedKept"), (Jvm.Cond.laysFinal "PadConsole$Memory" "PadConsole$Memory" "pages" "[I"), (Jvm.Cond.soleField "PadConsole$Memory" "pages"), (Jvm.Cond.laysFinal "PadConsole$Memory" "PadConsole$Memory" "pagesKept" "[I"), (Jvm.Cond.soleField "PadConsole$Memory" "pagesKept"), (Jvm.Cond.superclass "PadConsole$Memory" "java/lang/Object"), (Jvm.Cond.arrayClass Jvm.ClassFile.FieldType.int), (Jvm.Cond.classLink "PadConsole" (20 : Nat) "PadConsole$Video"), (Jvm.Cond.instantiable "PadConsole$Video" (6 : Nat)), (Jvm.Cond.methodLink "PadConsole" (22 : Nat) ({ cls := "PadConsole$Video", name := "<init>", desc := "(ZI)V" } : Jvm.MethodName)), (Jvm.Cond.instanceMethod ({ cls := "PadConsole$Video", name := "<init>", desc := "(ZI)V" } : Jvm.MethodName))]
noncomputable def tb1_6 : List Jvm.Cond := [(Jvm.Cond.code ({ cls := "PadConsole$Video", name := "<init>", desc := "(ZI)V" } : Jvm.MethodName) prog_11_method_1_code (3 : Nat) (Option.none : Option Jvm.ClassFile.FieldType)), (Jvm.Cond.methodLink "PadConsole$Video" (1 : Nat) ({ cls := "java/lang/Object", name := "<init>", desc := "()V" } : Jvm.MethodName)), (Jvm.Cond.fieldLink "PadConsole$Video" (22 : Nat) "PadConsole$Video" "handy" "Z"), (Jvm.Cond.fieldLink "PadConsole$Video" (26 : Nat) "PadConsole$Video" "lines" "I"), (Jvm.Cond.fieldLink "PadConsole$Video" (9 : Nat) "PadConsole$Video" "vram" "[I"), (Jvm.Cond.fieldLink "PadConsole$Video" (13 : Nat) "PadConsole$Video" "vramKept" "[I"), (Jvm.Cond.fieldLink "PadConsole$Video" (16 : Nat) "PadConsole$Video" "s" "[I"), (Jvm.Cond.fieldLink "PadConsole$Video" (19 : Nat) "PadConsole$Video" "kept" "[I"), (Jvm.Cond.laysFinal "PadConsole$Video" "PadConsole$Video" "handy" "Z"), (Jvm.Cond.soleField "PadConsole$Video" "handy"), (Jvm.Cond.laysFinal "PadConsole$Video" "PadConsole$Video" "lines" "I"), (Jvm.Cond.soleField "PadConsole$Video" "lines"), (Jvm.Cond.laysFinal "PadConsole$Video" "PadConsole$Video" "vram" "[I"), (Jvm.Cond.soleField "PadConsole$Video" "vram"), (Jvm.Cond.laysFinal "PadConsole$Video" "PadConsole$Video" "vramKept" "[I"), (Jvm.Cond.soleField "PadConsole$Video" "vramKept")]
noncomputable def tb1_7 : List Jvm.Cond := [(Jvm.Cond.laysFinal "PadConsole$Video" "PadConsole$Video" "s" "[I"), (Jvm.Cond.soleField "PadConsole$Video" "s"), (Jvm.Cond.laysFinal "PadConsole$Video" "PadConsole$Video" "kept" "[I"), (Jvm.Cond.soleField "PadConsole$Video" "kept"), (Jvm.Cond.superclass "PadConsole$Video" "java/lang/Object"), (Jvm.Cond.classLink "PadConsole" (29 : Nat) "PadConsole$Painter"), (Jvm.Cond.instantiable "PadConsole$Painter" (9 : Nat)), (Jvm.Cond.methodLink "PadConsole" (31 : Nat) ({ cls := "PadConsole$Painter", name := "<init>", desc := "(LPadConsole$Video;Z)V" } : Jvm.MethodName)), (Jvm.Cond.instanceMethod ({ cls := "PadConsole$Painter", name := "<init>", desc := "(LPadConsole$Video;Z)V" } : Jvm.MethodName)), (Jvm.Cond.code ({ cls := "PadConsole$Painter", name := "<init>", desc := "(LPadConsole$Video;Z)V" } : Jvm.MethodName) prog_5_method_1_code (3 : Nat) (Option.none : Option Jvm.ClassFile.FieldType)), (Jvm.Cond.methodLink "PadConsole$Painter" (1 : Nat) ({ cls := "java/lang/Object", name := "<init>", desc := "()V" } : Jvm.MethodName)), (Jvm.Cond.constant "PadConsole$Painter" (9 : Nat) (61440 : Int32)), (Jvm.Cond.fieldLink "PadConsole$Painter" (26 : Nat) "PadConsole$Painter" "chip" "LPadConsole$Video;"), (Jvm.Cond.fieldLink "PadConsole$Painter" (30 : Nat) "PadConsole$Painter" "handy" "Z"), (Jvm.Cond.fieldLink "PadConsole$Painter" (10 : Nat) "PadConsole$Painter" "picture" "[I"), (Jvm.Cond.fieldLink "PadConsole$Painter" (14 : Nat) "PadConsole$Painter" "kept" "[I")]
noncomputable def tb1_8 : List Jvm.Cond := [(Jvm.Cond.fieldLink "PadConsole$Painter" (17 : Nat) "PadConsole$Painter" "numbers" "[I"), (Jvm.Cond.fieldLink "PadConsole$Painter" (20 : Nat) "PadConsole$Painter" "sprites" "[I"), (Jvm.Cond.fieldLink "PadConsole$Painter" (23 : Nat) "PadConsole$Painter" "colours" "[I"), (Jvm.Cond.fieldLink "PadConsole$Painter" (107 : Nat) "PadConsole$Painter" "planes" "I"), (Jvm.Cond.fieldLink "PadConsole$Painter" (103 : Nat) "PadConsole$Painter" "tileBits" "I"), (Jvm.Cond.laysFinal "PadConsole$Painter" "PadConsole$Painter" "chip" "LPadConsole$Video;"), (Jvm.Cond.soleField "PadConsole$Painter" "chip"), (Jvm.Cond.laysFinal "PadConsole$Painter" "PadConsole$Painter" "handy" "Z"), (Jvm.Cond.soleField "PadConsole$Painter" "handy"), (Jvm.Cond.laysFinal "PadConsole$Painter" "PadConsole$Painter" "picture" "[I"), (Jvm.Cond.soleField "PadConsole$Painter" "picture"), (Jvm.Cond.laysFinal "PadConsole$Painter" "PadConsole$Painter" "kept" "[I"), (Jvm.Cond.soleField "PadConsole$Painter" "kept"), (Jvm.Cond.laysFinal "PadConsole$Painter" "PadConsole$Painter" "numbers" "[I"), (Jvm.Cond.soleField "PadConsole$Painter" "numbers"), (Jvm.Cond.laysFinal "PadConsole$Painter" "PadConsole$Painter" "sprites" "[I")]
noncomputable def tb1_9 : List Jvm.Cond := [(Jvm.Cond.soleField "PadConsole$Painter" "sprites"), (Jvm.Cond.laysFinal "PadConsole$Painter" "PadConsole$Painter" "colours" "[I"), (Jvm.Cond.soleField "PadConsole$Painter" "colours"), (Jvm.Cond.lays "PadConsole$Painter" "PadConsole$Painter" "planes" "I"), (Jvm.Cond.soleField "PadConsole$Painter" "planes"), (Jvm.Cond.lays "PadConsole$Painter" "PadConsole$Painter" "tileBits" "I"), (Jvm.Cond.soleField "PadConsole$Painter" "tileBits"), (Jvm.Cond.superclass "PadConsole$Painter" "java/lang/Object"), (Jvm.Cond.classLink "PadConsole" (38 : Nat) "PadConsole$Sound"), (Jvm.Cond.instantiable "PadConsole$Sound" (2 : Nat)), (Jvm.Cond.methodLink "PadConsole" (40 : Nat) ({ cls := "PadConsole$Sound", name := "<init>", desc := "()V" } : Jvm.MethodName)), (Jvm.Cond.instanceMethod ({ cls := "PadConsole$Sound", name := "<init>", desc := "()V" } : Jvm.MethodName)), (Jvm.Cond.code ({ cls := "PadConsole$Sound", name := "<init>", desc := "()V" } : Jvm.MethodName) prog_9_method_1_code (1 : Nat) (Option.none : Option Jvm.ClassFile.FieldType)), (Jvm.Cond.methodLink "PadConsole$Sound" (1 : Nat) ({ cls := "java/lang/Object", name := "<init>", desc := "()V" } : Jvm.MethodName)), (Jvm.Cond.methodLink "PadConsole$Sound" (16 : Nat) ({ cls := "PadConsole$Sound", name := "clear", desc := "()V" } : Jvm.MethodName)), (Jvm.Cond.instanceMethod ({ cls := "PadConsole$Sound", name := "clear", desc := "()V" } : Jvm.MethodName))]
noncomputable def tb1_10 : List Jvm.Cond := [(Jvm.Cond.selects "PadConsole$Sound" ({ cls := "PadConsole$Sound", name := "clear", desc := "()V" } : Jvm.MethodName) ({ cls := "PadConsole$Sound", name := "clear", desc := "()V" } : Jvm.MethodName)), (Jvm.Cond.code ({ cls := "PadConsole$Sound", name := "clear", desc := "()V" } : Jvm.MethodName) prog_9_method_2_code (1 : Nat) (Option.none : Option Jvm.ClassFile.FieldType)), (Jvm.Cond.methodLink "PadConsole$Sound" (19 : Nat) ({ cls := "java/util/Arrays", name := "fill", desc := "([II)V" } : Jvm.MethodName)), (Jvm.Cond.static ({ cls := "java/util/Arrays", name := "fill", desc := "([II)V" } : Jvm.MethodName)), (Jvm.Cond.code ({ cls := "java/util/Arrays", name := "fill", desc := "([II)V" } : Jvm.MethodName) prog_29_method_103_code (4 : Nat) (Option.none : Option Jvm.ClassFile.FieldType)), (Jvm.Cond.methodLink "PadConsole$Sound" (25 : Nat) ({ cls := "java/util/Arrays", name := "fill", desc := "([IIII)V" } : Jvm.MethodName)), (Jvm.Cond.static ({ cls := "java/util/Arrays", name := "fill", desc := "([IIII)V" } : Jvm.MethodName)), (Jvm.Cond.code ({ cls := "java/util/Arrays", name := "fill", desc := "([IIII)V" } : Jvm.MethodName) prog_29_method_104_code (5 : Nat) (Option.none : Option Jvm.ClassFile.FieldType)), (Jvm.Cond.methodLink "java/util/Arrays" (13 : Nat) ({ cls := "java/util/Arrays", name := "rangeCheck", desc := "(III)V" } : Jvm.MethodName)), (Jvm.Cond.static ({ cls := "java/util/Arrays", name := "rangeCheck", desc := "(III)V" } : Jvm.MethodName)), (Jvm.Cond.code ({ cls := "java/util/Arrays", name := "rangeCheck", desc := "(III)V" } : Jvm.MethodName) prog_29_method_30_code (3 : Nat) (Option.none : Option Jvm.ClassFile.FieldType)), (Jvm.Cond.classLink "java/util/Arrays" (43 : Nat) "java/lang/IllegalArgumentException"), (Jvm.Cond.instantiable "java/lang/IllegalArgumentException" (6 : Nat)), (Jvm.Cond.castable "java/lang/IllegalArgumentException" "java/lang/IllegalArgumentException"), (Jvm.Cond.declares ({ cls := "java/lang/RuntimeException", name := "<init>", desc := "()V" } : Jvm.MethodName)), (Jvm.Cond.declares ({ cls := "java/lang/RuntimeException", name := "<init>", desc := "(Ljava/lang/String;)V" } : Jvm.MethodName))]
noncomputable def tb1_11 : List Jvm.Cond := [(Jvm.Cond.declares ({ cls := "java/lang/Exception", name := "<init>", desc := "()V" } : Jvm.MethodName)), (Jvm.Cond.declares ({ cls := "java/lang/Exception", name := "<init>", desc := "(Ljava/lang/String;)V" } : Jvm.MethodName)), (Jvm.Cond.declares ({ cls := "java/lang/Throwable", name := "<init>", desc := "()V" } : Jvm.MethodName)), (Jvm.Cond.declares ({ cls := "java/lang/Throwable", name := "<init>", desc := "(Ljava/lang/String;)V" } : Jvm.MethodName)), (Jvm.Cond.selects "java/lang/IllegalArgumentException" ({ cls := "java/lang/Throwable", name := "fillInStackTrace", desc := "(I)Ljava/lang/Throwable;" } : Jvm.MethodName) ({ cls := "java/lang/Throwable", name := "fillInStackTrace", desc := "(I)Ljava/lang/Throwable;" } : Jvm.MethodName)), (Jvm.Cond.selects "java/lang/IllegalArgumentException" ({ cls := "java/lang/Throwable", name := "fillInStackTrace", desc := "()Ljava/lang/Throwable;" } : Jvm.MethodName) ({ cls := "java/lang/Throwable", name := "fillInStackTrace", desc := "()Ljava/lang/Throwable;" } : Jvm.MethodName)), (Jvm.Cond.lays "java/lang/IllegalArgumentException" "java/lang/Throwable" "cause" "Ljava/lang/Throwable;"), (Jvm.Cond.lays "java/lang/Throwable" "java/lang/Throwable" "cause" "Ljava/lang/Throwable;"), (Jvm.Cond.lays "java/lang/IllegalArgumentException" "java/lang/Throwable" "stackTrace" "[Ljava/lang/StackTraceElement;"), (Jvm.Cond.lays "java/lang/Throwable" "java/lang/Throwable" "stackTrace" "[Ljava/lang/StackTraceElement;"), (Jvm.Cond.lays "java/lang/IllegalArgumentException" "java/lang/Throwable" "suppressedExceptions" "Ljava/util/List;"), (Jvm.Cond.lays "java/lang/Throwable" "java/lang/Throwable" "suppressedExceptions" "Ljava/util/List;"), (Jvm.Cond.lays "java/lang/IllegalArgumentException" "java/lang/Throwable" "detailMessage" "Ljava/lang/String;"), (Jvm.Cond.lays "java/lang/Throwable" "java/lang/Throwable" "detailMessage" "Ljava/lang/String;"), (Jvm.Cond.lays "java/lang/IllegalArgumentException" "java/lang/Throwable" "backtrace" "Ljava/lang/Object;"), (Jvm.Cond.lays "java/lang/Throwable" "java/lang/Throwable" "backtrace" "Ljava/lang/Object;")]
noncomputable def tb1_12 : List Jvm.Cond := [(Jvm.Cond.fieldLink "java/lang/Throwable" (198 : Nat) "java/lang/Throwable" "backtrace" "Ljava/lang/Object;"), (Jvm.Cond.superclass "java/lang/Throwable" "java/lang/Object"), (Jvm.Cond.instanceMethod ({ cls := "java/lang/Throwable", name := "<init>", desc := "()V" } : Jvm.MethodName)), (Jvm.Cond.code ({ cls := "java/lang/Throwable", name := "<init>", desc := "()V" } : Jvm.MethodName) prog_28_method_1_code (1 : Nat) (Option.none : Option Jvm.ClassFile.FieldType)), (Jvm.Cond.methodLink "java/lang/Throwable" (1 : Nat) ({ cls := "java/lang/Object", name := "<init>", desc := "()V" } : Jvm.MethodName)), (Jvm.Cond.fieldLink "java/lang/Throwable" (13 : Nat) "java/lang/Throwable" "UNASSIGNED_STACK" "[Ljava/lang/StackTraceElement;"), (Jvm.Cond.laysStatic "java/lang/Throwable" "UNASSIGNED_STACK" "[Ljava/lang/StackTraceElement;"), (Jvm.Cond.fieldLink "java/lang/Throwable" (20 : Nat) "java/lang/Throwable" "SUPPRESSED_SENTINEL" "Ljava/util/List;"), (Jvm.Cond.laysStatic "java/lang/Throwable" "SUPPRESSED_SENTINEL" "Ljava/util/List;"), (Jvm.Cond.methodLink "java/lang/Throwable" (27 : Nat) ({ cls := "java/lang/Throwable", name := "fillInStackTrace", desc := "()Ljava/lang/Throwable;" } : Jvm.MethodName)), (Jvm.Cond.instanceMethod ({ cls := "java/lang/Throwable", name := "fillInStackTrace", desc := "()Ljava/lang/Throwable;" } : Jvm.MethodName)), (Jvm.Cond.sameMethod "java/lang/Throwable" "java/lang/Throwable" "fillInStackTrace" "()Ljava/lang/Throwable;"), (Jvm.Cond.selects "java/lang/IllegalStateException" ({ cls := "java/lang/Throwable", name := "fillInStackTrace", desc := "()Ljava/lang/Throwable;" } : Jvm.MethodName) ({ cls := "java/lang/Throwable", name := "fillInStackTrace", desc := "()Ljava/lang/Throwable;" } : Jvm.MethodName)), (Jvm.Cond.selects "java/util/NoSuchElementException" ({ cls := "java/lang/Throwable", name := "fillInStackTrace", desc := "()Ljava/lang/Throwable;" } : Jvm.MethodName) ({ cls := "java/lang/Throwable", name := "fillInStackTrace", desc := "()Ljava/lang/Throwable;" } : Jvm.MethodName)), (Jvm.Cond.codeSync ({ cls := "java/lang/Throwable", name := "fillInStackTrace", desc := "()Ljava/lang/Throwable;" } : Jvm.MethodName) prog_28_method_18_code (1 : Nat) (Option.some (Jvm.ClassFile.FieldType.object "java/lang/Throwable"))), (Jvm.Cond.methodLink "java/lang/Throwable" (202 : Nat) ({ cls := "java/lang/Throwable", name := "fillInStackTrace", desc := "(I)Ljava/lang/Throwable;" } : Jvm.MethodName))]
noncomputable def tb1_13 : List Jvm.Cond := [(Jvm.Cond.privateMethod ({ cls := "java/lang/Throwable", name := "fillInStackTrace", desc := "(I)Ljava/lang/Throwable;" } : Jvm.MethodName)), (Jvm.Cond.instanceMethod ({ cls := "java/lang/Throwable", name := "fillInStackTrace", desc := "(I)Ljava/lang/Throwable;" } : Jvm.MethodName)), (Jvm.Cond.instantiable "java/lang/Throwable" (6 : Nat)), (Jvm.Cond.native ({ cls := "java/lang/Throwable", name := "fillInStackTrace", desc := "(I)Ljava/lang/Throwable;" } : Jvm.MethodName)), (Jvm.Cond.classLink "java/util/Arrays" (45 : Nat) "java/lang/StringBuilder"), (Jvm.Cond.instantiable "java/lang/StringBuilder" (4 : Nat)), (Jvm.Cond.methodLink "java/util/Arrays" (47 : Nat) ({ cls := "java/lang/StringBuilder", name := "<init>", desc := "()V" } : Jvm.MethodName)), (Jvm.Cond.instanceMethod ({ cls := "java/lang/StringBuilder", name := "<init>", desc := "()V" } : Jvm.MethodName)), (Jvm.Cond.code ({ cls := "java/lang/StringBuilder", name := "<init>", desc := "()V" } : Jvm.MethodName) prog_24_method_1_code (1 : Nat) (Option.none : Option Jvm.ClassFile.FieldType)), (Jvm.Cond.methodLink "java/lang/StringBuilder" (1 : Nat) ({ cls := "java/lang/AbstractStringBuilder", name := "<init>", desc := "(I)V" } : Jvm.MethodName)), (Jvm.Cond.instanceMethod ({ cls := "java/lang/AbstractStringBuilder", name := "<init>", desc := "(I)V" } : Jvm.MethodName)), (Jvm.Cond.code ({ cls := "java/lang/AbstractStringBuilder", name := "<init>", desc := "(I)V" } : Jvm.MethodName) prog_15_method_2_code (2 : Nat) (Option.none : Option Jvm.ClassFile.FieldType)), (Jvm.Cond.methodLink "java/lang/AbstractStringBuilder" (3 : Nat) ({ cls := "java/lang/Object", name := "<init>", desc := "()V" } : Jvm.MethodName)), (Jvm.Cond.fieldLink "java/lang/AbstractStringBuilder" (18 : Nat) "java/lang/String" "COMPACT_STRINGS" "Z"), (Jvm.Cond.laysStatic "java/lang/String" "COMPACT_STRINGS" "Z"), (Jvm.Cond.methodLink "java/lang/AbstractStringBuilder" (26 : Nat) ({ cls := "java/lang/StringUTF16", name := "newBytesFor", desc := "(I)[B" } : Jvm.MethodName))]
noncomputable def tb1_14 : List Jvm.Cond := [(Jvm.Cond.static ({ cls := "java/lang/StringUTF16", name := "newBytesFor", desc := "(I)[B" } : Jvm.MethodName)), (Jvm.Cond.code ({ cls := "java/lang/StringUTF16", name := "newBytesFor", desc := "(I)[B" } : Jvm.MethodName) prog_26_method_2_code (1 : Nat) (Option.some (Jvm.ClassFile.FieldType.array Jvm.ClassFile.FieldType.byte))), (Jvm.Cond.methodLink "java/lang/StringUTF16" (11 : Nat) ({ cls := "java/lang/StringUTF16", name := "newBytesLength", desc := "(I)I" } : Jvm.MethodName)), (Jvm.Cond.static ({ cls := "java/lang/StringUTF16", name := "newBytesLength", desc := "(I)I" } : Jvm.MethodName)), (Jvm.Cond.code ({ cls := "java/lang/StringUTF16", name := "newBytesLength", desc := "(I)I" } : Jvm.MethodName) prog_26_method_3_code (1 : Nat) (Option.some Jvm.ClassFile.FieldType.int)), (Jvm.Cond.constant "java/lang/StringUTF16" (20 : Nat) (1073741823 : Int32)), (Jvm.Cond.fieldLink "java/lang/AbstractStringBuilder" (15 : Nat) "java/lang/AbstractStringBuilder" "value" "[B"), (Jvm.Cond.fieldLink "java/lang/AbstractStringBuilder" (22 : Nat) "java/lang/AbstractStringBuilder" "coder" "B"), (Jvm.Cond.fieldLink "java/lang/String" (1048 : Nat) "java/lang/AbstractStringBuilder" "maybeLatin1" "Z"), (Jvm.Cond.fieldLink "java/lang/AbstractStringBuilder" (79 : Nat) "java/lang/AbstractStringBuilder" "count" "I"), (Jvm.Cond.lays "java/lang/StringBuilder" "java/lang/AbstractStringBuilder" "value" "[B"), (Jvm.Cond.soleField "java/lang/AbstractStringBuilder" "value"), (Jvm.Cond.lays "java/lang/StringBuilder" "java/lang/AbstractStringBuilder" "coder" "B"), (Jvm.Cond.soleField "java/lang/AbstractStringBuilder" "coder"), (Jvm.Cond.lays "java/lang/StringBuilder" "java/lang/AbstractStringBuilder" "maybeLatin1" "Z"), (Jvm.Cond.soleField "java/lang/AbstractStringBuilder" "maybeLatin1")]
set_option maxRecDepth 100000 in
theorem tbe1 : tables_1_1 = (tb1_0 ++ (tb1_1 ++ (tb1_2 ++ (tb1_3 ++ (tb1_4 ++ (tb1_5 ++ (tb1_6 ++ (tb1_7 ++ (tb1_8 ++ (tb1_9 ++ (tb1_10 ++ (tb1_11 ++ (tb1_12 ++ (tb1_13 ++ tb1_14)))))))))))))) := rfl
theorem tm1_0 {w : Jvm.Cond} (h : w ∈ tb1_0) : w ∈ tables_1_1 := by
  rw [tbe1]
  exact (List.mem_append_left _ h)
theorem tm1_1 {w : Jvm.Cond} (h : w ∈ tb1_1) : w ∈ tables_1_1 := by
  rw [tbe1]
  exact (List.mem_append_right _ (List.mem_append_left _ h))
theorem tm1_2 {w : Jvm.Cond} (h : w ∈ tb1_2) : w ∈ tables_1_1 := by
  rw [tbe1]
  exact (List.mem_append_right _ (List.mem_append_right _ (List.mem_append_left _ h)))
theorem tm1_3 {w : Jvm.Cond} (h : w ∈ tb1_3) : w ∈ tables_1_1 := by
  rw [tbe1]
  exact (List.mem_append_right _ (List.mem_append_right _ (List.mem_append_right _ (List.mem_append_left _ h))))
theorem tm1_4 {w : Jvm.Cond} (h : w ∈ tb1_4) : w ∈ tables_1_1 := by
  rw [tbe1]
  exact (List.mem_append_right _ (List.mem_append_right _ (List.mem_append_right _ (List.mem_append_right _ (List.mem_append_left _ h)))))
theorem tm1_5 {w : Jvm.Cond} (h : w ∈ tb1_5) : w ∈ tables_1_1 := by
  rw [tbe1]
  exact (List.mem_append_right _ (List.mem_append_right _ (List.mem_append_right _ (List.mem_append_right _ (List.mem_append_right _ (List.mem_append_left _ h))))))
theorem tm1_6 {w : Jvm.Cond} (h : w ∈ tb1_6) : w ∈ tables_1_1 := by
  rw [tbe1]
  exact (List.mem_append_right _ (List.mem_append_right _ (List.mem_append_right _ (List.mem_append_right _ (List.mem_append_right _ (List.mem_append_right _ (List.mem_append_left _ h)))))))
theorem tm1_7 {w : Jvm.Cond} (h : w ∈ tb1_7) : w ∈ tables_1_1 := by
  rw [tbe1]
  exact (List.mem_append_right _ (List.mem_append_right _ (List.mem_append_right _ (List.mem_append_right _ (List.mem_append_right _ (List.mem_append_right _ (List.mem_append_right _ (List.mem_append_left _ h))))))))
theorem tm1_8 {w : Jvm.Cond} (h : w ∈ tb1_8) : w ∈ tables_1_1 := by
  rw [tbe1]
  exact (List.mem_append_right _ (List.mem_append_right _ (List.mem_append_right _ (List.mem_append_right _ (List.mem_append_right _ (List.mem_append_right _ (List.mem_append_right _ (List.mem_append_right _ (List.mem_append_left _ h)))))))))
theorem tm1_9 {w : Jvm.Cond} (h : w ∈ tb1_9) : w ∈ tables_1_1 := by
  rw [tbe1]
  exact (List.mem_append_right _ (List.mem_append_right _ (List.mem_append_right _ (List.mem_append_right _ (List.mem_append_right _ (List.mem_append_right _ (List.mem_append_right _ (List.mem_append_right _ (List.mem_append_right _ (List.mem_append_left _ h))))))))))
theorem tm1_10 {w : Jvm.Cond} (h : w ∈ tb1_10) : w ∈ tables_1_1 := by
  rw [tbe1]
  exact (List.mem_append_right _ (List.mem_append_right _ (List.mem_append_right _ (List.mem_append_right _ (List.mem_append_right _ (List.mem_append_right _ (List.mem_append_right _ (List.mem_append_right _ (List.mem_append_right _ (List.mem_append_right _ (List.mem_append_left _ h)))))))))))
theorem tm1_11 {w : Jvm.Cond} (h : w ∈ tb1_11) : w ∈ tables_1_1 := by
  rw [tbe1]
  exact (List.mem_append_right _ (List.mem_append_right _ (List.mem_append_right _ (List.mem_append_right _ (List.mem_append_right _ (List.mem_append_right _ (List.mem_append_right _ (List.mem_append_right _ (List.mem_append_right _ (List.mem_append_right _ (List.mem_append_right _ (List.mem_append_left _ h))))))))))))
theorem tm1_12 {w : Jvm.Cond} (h : w ∈ tb1_12) : w ∈ tables_1_1 := by
  rw [tbe1]
  exact (List.mem_append_right _ (List.mem_append_right _ (List.mem_append_right _ (List.mem_append_right _ (List.mem_append_right _ (List.mem_append_right _ (List.mem_append_right _ (List.mem_append_right _ (List.mem_append_right _ (List.mem_append_right _ (List.mem_append_right _ (List.mem_append_right _ (List.mem_append_left _ h)))))))))))))
theorem tm1_13 {w : Jvm.Cond} (h : w ∈ tb1_13) : w ∈ tables_1_1 := by
  rw [tbe1]
  exact (List.mem_append_right _ (List.mem_append_right _ (List.mem_append_right _ (List.mem_append_right _ (List.mem_append_right _ (List.mem_append_right _ (List.mem_append_right _ (List.mem_append_right _ (List.mem_append_right _ (List.mem_append_right _ (List.mem_append_right _ (List.mem_append_right _ (List.mem_append_right _ (List.mem_append_left _ h))))))))))))))
theorem tm1_14 {w : Jvm.Cond} (h : w ∈ tb1_14) : w ∈ tables_1_1 := by
  rw [tbe1]
  exact (List.mem_append_right _ (List.mem_append_right _ (List.mem_append_right _ (List.mem_append_right _ (List.mem_append_right _ (List.mem_append_right _ (List.mem_append_right _ (List.mem_append_right _ (List.mem_append_right _ (List.mem_append_right _ (List.mem_append_right _ (List.mem_append_right _ (List.mem_append_right _ (List.mem_append_right _ h))))))))))))))
noncomputable def tb2_0 : List Jvm.Cond := [(Jvm.Cond.lays "java/lang/StringBuilder" "java/lang/AbstractStringBuilder" "count" "I"), (Jvm.Cond.soleField "java/lang/AbstractStringBuilder" "count"), (Jvm.Cond.superclass "java/lang/StringBuilder" "java/lang/AbstractStringBuilder"), (Jvm.Cond.arrayClass Jvm.ClassFile.FieldType.byte), (Jvm.Cond.stringRef "java/util/Arrays" (48 : Nat) "fromIndex("), (Jvm.Cond.methodLink "java/util/Arrays" (50 : Nat) ({ cls := "java/lang/StringBuilder", name := "append", desc := "(Ljava/lang/String;)Ljava/lang/StringBuilder;" } : Jvm.MethodName)), (Jvm.Cond.instanceMethod ({ cls := "java/lang/StringBuilder", name := "append", desc := "(Ljava/lang/String;)Ljava/lang/StringBuilder;" } : Jvm.MethodName)), (Jvm.Cond.selects "java/lang/StringBuilder" ({ cls := "java/lang/StringBuilder", name := "append", desc := "(Ljava/lang/String;)Ljava/lang/StringBuilder;" } : Jvm.MethodName) ({ cls := "java/lang/StringBuilder", name := "append", desc := "(Ljava/lang/String;)Ljava/lang/StringBuilder;" } : Jvm.MethodName)), (Jvm.Cond.code ({ cls := "java/lang/StringBuilder", name := "append", desc := "(Ljava/lang/String;)Ljava/lang/StringBuilder;" } : Jvm.MethodName) prog_24_method_7_code (2 : Nat) (Option.some (Jvm.ClassFile.FieldType.object "java/lang/StringBuilder"))), (Jvm.Cond.methodLink "java/lang/StringBuilder" (29 : Nat) ({ cls := "java/lang/AbstractStringBuilder", name := "append", desc := "(Ljava/lang/String;)Ljava/lang/AbstractStringBuilder;" } : Jvm.MethodName)), (Jvm.Cond.instanceMethod ({ cls := "java/lang/AbstractStringBuilder", name := "append", desc := "(Ljava/lang/String;)Ljava/lang/AbstractStringBuilder;" } : Jvm.MethodName)), (Jvm.Cond.code ({ cls := "java/lang/AbstractStringBuilder", name := "append", desc := "(Ljava/lang/String;)Ljava/lang/AbstractStringBuilder;" } : Jvm.MethodName) prog_15_method_22_code (3 : Nat) (Option.some (Jvm.ClassFile.FieldType.object "java/lang/AbstractStringBuilder"))), (Jvm.Cond.methodLink "java/lang/AbstractStringBuilder" (204 : Nat) ({ cls := "java/lang/AbstractStringBuilder", name := "appendNull", desc := "()Ljava/lang/AbstractStringBuilder;" } : Jvm.MethodName)), (Jvm.Cond.privateMethod ({ cls := "java/lang/AbstractStringBuilder", name := "appendNull", desc := "()Ljava/lang/AbstractStringBuilder;" } : Jvm.MethodName)), (Jvm.Cond.instanceMethod ({ cls := "java/lang/AbstractStringBuilder", name := "appendNull", desc := "()Ljava/lang/AbstractStringBuilder;" } : Jvm.MethodName)), (Jvm.Cond.code ({ cls := "java/lang/AbstractStringBuilder", name := "appendNull", desc := "()Ljava/lang/AbstractStringBuilder;" } : Jvm.MethodName) prog_15_method_26_code (3 : Nat) (Option.some (Jvm.ClassFile.FieldType.object "java/lang/AbstractStringBuilder")))]
noncomputable def tb2_1 : List Jvm.Cond := [(Jvm.Cond.methodLink "java/lang/AbstractStringBuilder" (100 : Nat) ({ cls := "java/lang/AbstractStringBuilder", name := "ensureCapacityInternal", desc := "(I)V" } : Jvm.MethodName)), (Jvm.Cond.privateMethod ({ cls := "java/lang/AbstractStringBuilder", name := "ensureCapacityInternal", desc := "(I)V" } : Jvm.MethodName)), (Jvm.Cond.instanceMethod ({ cls := "java/lang/AbstractStringBuilder", name := "ensureCapacityInternal", desc := "(I)V" } : Jvm.MethodName)), (Jvm.Cond.code ({ cls := "java/lang/AbstractStringBuilder", name := "ensureCapacityInternal", desc := "(I)V" } : Jvm.MethodName) prog_15_method_9_code (3 : Nat) (Option.none : Option Jvm.ClassFile.FieldType)), (Jvm.Cond.methodLink "java/lang/AbstractStringBuilder" (104 : Nat) ({ cls := "java/lang/AbstractStringBuilder", name := "newCapacity", desc := "(I)I" } : Jvm.MethodName)), (Jvm.Cond.privateMethod ({ cls := "java/lang/AbstractStringBuilder", name := "newCapacity", desc := "(I)I" } : Jvm.MethodName)), (Jvm.Cond.instanceMethod ({ cls := "java/lang/AbstractStringBuilder", name := "newCapacity", desc := "(I)I" } : Jvm.MethodName)), (Jvm.Cond.code ({ cls := "java/lang/AbstractStringBuilder", name := "newCapacity", desc := "(I)I" } : Jvm.MethodName) prog_15_method_10_code (6 : Nat) (Option.some Jvm.ClassFile.FieldType.int)), (Jvm.Cond.methodLink "java/lang/AbstractStringBuilder" (114 : Nat) ({ cls := "jdk/internal/util/ArraysSupport", name := "newLength", desc := "(III)I" } : Jvm.MethodName)), (Jvm.Cond.static ({ cls := "jdk/internal/util/ArraysSupport", name := "newLength", desc := "(III)I" } : Jvm.MethodName)), (Jvm.Cond.code ({ cls := "jdk/internal/util/ArraysSupport", name := "newLength", desc := "(III)I" } : Jvm.MethodName) prog_31_method_27_code (4 : Nat) (Option.some Jvm.ClassFile.FieldType.int)), (Jvm.Cond.methodLink "jdk/internal/util/ArraysSupport" (194 : Nat) ({ cls := "java/lang/Math", name := "max", desc := "(II)I" } : Jvm.MethodName)), (Jvm.Cond.static ({ cls := "java/lang/Math", name := "max", desc := "(II)I" } : Jvm.MethodName)), (Jvm.Cond.code ({ cls := "java/lang/Math", name := "max", desc := "(II)I" } : Jvm.MethodName) prog_21_method_65_code (2 : Nat) (Option.some Jvm.ClassFile.FieldType.int)), (Jvm.Cond.constant "jdk/internal/util/ArraysSupport" (200 : Nat) (2147483639 : Int32)), (Jvm.Cond.methodLink "jdk/internal/util/ArraysSupport" (201 : Nat) ({ cls := "jdk/internal/util/ArraysSupport", name := "hugeLength", desc := "(II)I" } : Jvm.MethodName))]
noncomputable def tb2_2 : List Jvm.Cond := [(Jvm.Cond.static ({ cls := "jdk/internal/util/ArraysSupport", name := "hugeLength", desc := "(II)I" } : Jvm.MethodName)), (Jvm.Cond.code ({ cls := "jdk/internal/util/ArraysSupport", name := "hugeLength", desc := "(II)I" } : Jvm.MethodName) prog_31_method_28_code (3 : Nat) (Option.some Jvm.ClassFile.FieldType.int)), (Jvm.Cond.constant "java/lang/AbstractStringBuilder" (39 : Nat) (2147483647 : Int32)), (Jvm.Cond.methodLink "java/lang/AbstractStringBuilder" (108 : Nat) ({ cls := "java/util/Arrays", name := "copyOf", desc := "([BI)[B" } : Jvm.MethodName)), (Jvm.Cond.static ({ cls := "java/util/Arrays", name := "copyOf", desc := "([BI)[B" } : Jvm.MethodName)), (Jvm.Cond.code ({ cls := "java/util/Arrays", name := "copyOf", desc := "([BI)[B" } : Jvm.MethodName) prog_29_method_121_code (3 : Nat) (Option.some (Jvm.ClassFile.FieldType.array Jvm.ClassFile.FieldType.byte))), (Jvm.Cond.methodLink "java/util/Arrays" (310 : Nat) ({ cls := "[B", name := "clone", desc := "()Ljava/lang/Object;" } : Jvm.MethodName)), (Jvm.Cond.sameMethod "[B" "java/lang/Object" "clone" "()Ljava/lang/Object;"), (Jvm.Cond.native ({ cls := "java/lang/Object", name := "clone", desc := "()Ljava/lang/Object;" } : Jvm.MethodName)), (Jvm.Cond.instanceMethod ({ cls := "java/lang/Object", name := "clone", desc := "()Ljava/lang/Object;" } : Jvm.MethodName)), (Jvm.Cond.selects "[B" ({ cls := "[B", name := "clone", desc := "()Ljava/lang/Object;" } : Jvm.MethodName) ({ cls := "java/lang/Object", name := "clone", desc := "()Ljava/lang/Object;" } : Jvm.MethodName)), (Jvm.Cond.castable "[B" "java/lang/Cloneable"), (Jvm.Cond.classLink "java/util/Arrays" (311 : Nat) "[B"), (Jvm.Cond.methodLink "java/util/Arrays" (304 : Nat) ({ cls := "java/lang/Math", name := "min", desc := "(II)I" } : Jvm.MethodName)), (Jvm.Cond.static ({ cls := "java/lang/Math", name := "min", desc := "(II)I" } : Jvm.MethodName)), (Jvm.Cond.code ({ cls := "java/lang/Math", name := "min", desc := "(II)I" } : Jvm.MethodName) prog_21_method_69_code (2 : Nat) (Option.some Jvm.ClassFile.FieldType.int))]
noncomputable def tb2_3 : List Jvm.Cond := [(Jvm.Cond.methodLink "java/util/Arrays" (150 : Nat) ({ cls := "java/lang/System", name := "arraycopy", desc := "(Ljava/lang/Object;ILjava/lang/Object;II)V" } : Jvm.MethodName)), (Jvm.Cond.static ({ cls := "java/lang/System", name := "arraycopy", desc := "(Ljava/lang/Object;ILjava/lang/Object;II)V" } : Jvm.MethodName)), (Jvm.Cond.native ({ cls := "java/lang/System", name := "arraycopy", desc := "(Ljava/lang/Object;ILjava/lang/Object;II)V" } : Jvm.MethodName)), (Jvm.Cond.methodLink "java/lang/AbstractStringBuilder" (83 : Nat) ({ cls := "java/lang/AbstractStringBuilder", name := "isLatin1", desc := "()Z" } : Jvm.MethodName)), (Jvm.Cond.instanceMethod ({ cls := "java/lang/AbstractStringBuilder", name := "isLatin1", desc := "()Z" } : Jvm.MethodName)), (Jvm.Cond.sameMethod "java/lang/AbstractStringBuilder" "java/lang/AbstractStringBuilder" "isLatin1" "()Z"), (Jvm.Cond.selects "java/lang/StringBuilder" ({ cls := "java/lang/AbstractStringBuilder", name := "isLatin1", desc := "()Z" } : Jvm.MethodName) ({ cls := "java/lang/AbstractStringBuilder", name := "isLatin1", desc := "()Z" } : Jvm.MethodName)), (Jvm.Cond.code ({ cls := "java/lang/AbstractStringBuilder", name := "isLatin1", desc := "()Z" } : Jvm.MethodName) prog_15_method_68_code (1 : Nat) (Option.some Jvm.ClassFile.FieldType.boolean)), (Jvm.Cond.methodLink "java/lang/AbstractStringBuilder" (226 : Nat) ({ cls := "java/lang/StringUTF16", name := "putCharsAt", desc := "([BICCCC)I" } : Jvm.MethodName)), (Jvm.Cond.static ({ cls := "java/lang/StringUTF16", name := "putCharsAt", desc := "([BICCCC)I" } : Jvm.MethodName)), (Jvm.Cond.code ({ cls := "java/lang/StringUTF16", name := "putCharsAt", desc := "([BICCCC)I" } : Jvm.MethodName) prog_26_method_81_code (7 : Nat) (Option.some Jvm.ClassFile.FieldType.int)), (Jvm.Cond.methodLink "java/lang/StringUTF16" (96 : Nat) ({ cls := "java/lang/StringUTF16", name := "checkBoundsBeginEnd", desc := "(II[B)V" } : Jvm.MethodName)), (Jvm.Cond.static ({ cls := "java/lang/StringUTF16", name := "checkBoundsBeginEnd", desc := "(II[B)V" } : Jvm.MethodName)), (Jvm.Cond.code ({ cls := "java/lang/StringUTF16", name := "checkBoundsBeginEnd", desc := "(II[B)V" } : Jvm.MethodName) prog_26_method_93_code (3 : Nat) (Option.none : Option Jvm.ClassFile.FieldType)), (Jvm.Cond.methodLink "java/lang/StringUTF16" (48 : Nat) ({ cls := "java/lang/StringUTF16", name := "length", desc := "([B)I" } : Jvm.MethodName)), (Jvm.Cond.static ({ cls := "java/lang/StringUTF16", name := "length", desc := "([B)I" } : Jvm.MethodName))]
noncomputable def tb2_4 : List Jvm.Cond := [(Jvm.Cond.code ({ cls := "java/lang/StringUTF16", name := "length", desc := "([B)I" } : Jvm.MethodName) prog_26_method_6_code (1 : Nat) (Option.some Jvm.ClassFile.FieldType.int)), (Jvm.Cond.methodLink "java/lang/StringUTF16" (241 : Nat) ({ cls := "java/lang/String", name := "checkBoundsBeginEnd", desc := "(III)V" } : Jvm.MethodName)), (Jvm.Cond.static ({ cls := "java/lang/String", name := "checkBoundsBeginEnd", desc := "(III)V" } : Jvm.MethodName)), (Jvm.Cond.code ({ cls := "java/lang/String", name := "checkBoundsBeginEnd", desc := "(III)V" } : Jvm.MethodName) prog_23_method_158_code (3 : Nat) (Option.none : Option Jvm.ClassFile.FieldType)), (Jvm.Cond.fieldLink "java/lang/String" (1053 : Nat) "jdk/internal/util/Preconditions" "SIOOBE_FORMATTER" "Ljava/util/function/BiFunction;"), (Jvm.Cond.laysStatic "jdk/internal/util/Preconditions" "SIOOBE_FORMATTER" "Ljava/util/function/BiFunction;"), (Jvm.Cond.methodLink "java/lang/String" (1062 : Nat) ({ cls := "jdk/internal/util/Preconditions", name := "checkFromToIndex", desc := "(IIILjava/util/function/BiFunction;)I" } : Jvm.MethodName)), (Jvm.Cond.static ({ cls := "jdk/internal/util/Preconditions", name := "checkFromToIndex", desc := "(IIILjava/util/function/BiFunction;)I" } : Jvm.MethodName)), (Jvm.Cond.code ({ cls := "jdk/internal/util/Preconditions", name := "checkFromToIndex", desc := "(IIILjava/util/function/BiFunction;)I" } : Jvm.MethodName) prog_32_method_12_code (4 : Nat) (Option.some Jvm.ClassFile.FieldType.int)), (Jvm.Cond.methodLink "java/lang/StringUTF16" (111 : Nat) ({ cls := "java/lang/StringUTF16", name := "putChar", desc := "([BII)V" } : Jvm.MethodName)), (Jvm.Cond.static ({ cls := "java/lang/StringUTF16", name := "putChar", desc := "([BII)V" } : Jvm.MethodName)), (Jvm.Cond.code ({ cls := "java/lang/StringUTF16", name := "putChar", desc := "([BII)V" } : Jvm.MethodName) prog_26_method_4_code (3 : Nat) (Option.none : Option Jvm.ClassFile.FieldType)), (Jvm.Cond.fieldLink "java/lang/StringUTF16" (44 : Nat) "java/lang/StringUTF16" "$assertionsDisabled" "Z"), (Jvm.Cond.laysStatic "java/lang/StringUTF16" "$assertionsDisabled" "Z"), (Jvm.Cond.fieldLink "java/lang/StringUTF16" (59 : Nat) "java/lang/StringUTF16" "HI_BYTE_SHIFT" "I"), (Jvm.Cond.laysStatic "java/lang/StringUTF16" "HI_BYTE_SHIFT" "I")]
noncomputable def tb2_5 : List Jvm.Cond := [(Jvm.Cond.fieldLink "java/lang/StringUTF16" (63 : Nat) "java/lang/StringUTF16" "LO_BYTE_SHIFT" "I"), (Jvm.Cond.laysStatic "java/lang/StringUTF16" "LO_BYTE_SHIFT" "I"), (Jvm.Cond.methodLink "java/lang/AbstractStringBuilder" (32 : Nat) ({ cls := "java/lang/String", name := "length", desc := "()I" } : Jvm.MethodName)), (Jvm.Cond.instanceMethod ({ cls := "java/lang/String", name := "length", desc := "()I" } : Jvm.MethodName)), (Jvm.Cond.selects "java/lang/String" ({ cls := "java/lang/String", name := "length", desc := "()I" } : Jvm.MethodName) ({ cls := "java/lang/String", name := "length", desc := "()I" } : Jvm.MethodName)), (Jvm.Cond.code ({ cls := "java/lang/String", name := "length", desc := "()I" } : Jvm.MethodName) prog_23_method_54_code (1 : Nat) (Option.some Jvm.ClassFile.FieldType.int)), (Jvm.Cond.methodLink "java/lang/String" (335 : Nat) ({ cls := "java/lang/String", name := "coder", desc := "()B" } : Jvm.MethodName)), (Jvm.Cond.instanceMethod ({ cls := "java/lang/String", name := "coder", desc := "()B" } : Jvm.MethodName)), (Jvm.Cond.selects "java/lang/String" ({ cls := "java/lang/String", name := "coder", desc := "()B" } : Jvm.MethodName) ({ cls := "java/lang/String", name := "coder", desc := "()B" } : Jvm.MethodName)), (Jvm.Cond.code ({ cls := "java/lang/String", name := "coder", desc := "()B" } : Jvm.MethodName) prog_23_method_152_code (1 : Nat) (Option.some Jvm.ClassFile.FieldType.byte)), (Jvm.Cond.fieldLink "java/lang/String" (38 : Nat) "java/lang/String" "COMPACT_STRINGS" "Z"), (Jvm.Cond.methodLink "java/lang/AbstractStringBuilder" (208 : Nat) ({ cls := "java/lang/AbstractStringBuilder", name := "putStringAt", desc := "(ILjava/lang/String;)V" } : Jvm.MethodName)), (Jvm.Cond.privateMethod ({ cls := "java/lang/AbstractStringBuilder", name := "putStringAt", desc := "(ILjava/lang/String;)V" } : Jvm.MethodName)), (Jvm.Cond.instanceMethod ({ cls := "java/lang/AbstractStringBuilder", name := "putStringAt", desc := "(ILjava/lang/String;)V" } : Jvm.MethodName)), (Jvm.Cond.code ({ cls := "java/lang/AbstractStringBuilder", name := "putStringAt", desc := "(ILjava/lang/String;)V" } : Jvm.MethodName) prog_15_method_73_code (3 : Nat) (Option.none : Option Jvm.ClassFile.FieldType)), (Jvm.Cond.methodLink "java/lang/AbstractStringBuilder" (397 : Nat) ({ cls := "java/lang/AbstractStringBuilder", name := "inflateIfNeededFor", desc := "(Ljava/lang/String;)V" } : Jvm.MethodName))]
noncomputable def tb2_6 : List Jvm.Cond := [(Jvm.Cond.privateMethod ({ cls := "java/lang/AbstractStringBuilder", name := "inflateIfNeededFor", desc := "(Ljava/lang/String;)V" } : Jvm.MethodName)), (Jvm.Cond.instanceMethod ({ cls := "java/lang/AbstractStringBuilder", name := "inflateIfNeededFor", desc := "(Ljava/lang/String;)V" } : Jvm.MethodName)), (Jvm.Cond.code ({ cls := "java/lang/AbstractStringBuilder", name := "inflateIfNeededFor", desc := "(Ljava/lang/String;)V" } : Jvm.MethodName) prog_15_method_71_code (2 : Nat) (Option.none : Option Jvm.ClassFile.FieldType)), (Jvm.Cond.methodLink "java/lang/AbstractStringBuilder" (40 : Nat) ({ cls := "java/lang/String", name := "coder", desc := "()B" } : Jvm.MethodName)), (Jvm.Cond.methodLink "java/lang/AbstractStringBuilder" (195 : Nat) ({ cls := "java/lang/AbstractStringBuilder", name := "inflate", desc := "()V" } : Jvm.MethodName)), (Jvm.Cond.privateMethod ({ cls := "java/lang/AbstractStringBuilder", name := "inflate", desc := "()V" } : Jvm.MethodName)), (Jvm.Cond.instanceMethod ({ cls := "java/lang/AbstractStringBuilder", name := "inflate", desc := "()V" } : Jvm.MethodName)), (Jvm.Cond.code ({ cls := "java/lang/AbstractStringBuilder", name := "inflate", desc := "()V" } : Jvm.MethodName) prog_15_method_11_code (2 : Nat) (Option.none : Option Jvm.ClassFile.FieldType)), (Jvm.Cond.methodLink "java/lang/AbstractStringBuilder" (125 : Nat) ({ cls := "java/lang/StringLatin1", name := "inflate", desc := "([BI[BII)V" } : Jvm.MethodName)), (Jvm.Cond.static ({ cls := "java/lang/StringLatin1", name := "inflate", desc := "([BI[BII)V" } : Jvm.MethodName)), (Jvm.Cond.code ({ cls := "java/lang/StringLatin1", name := "inflate", desc := "([BI[BII)V" } : Jvm.MethodName) prog_25_method_50_code (5 : Nat) (Option.none : Option Jvm.ClassFile.FieldType)), (Jvm.Cond.methodLink "java/lang/StringLatin1" (240 : Nat) ({ cls := "java/lang/StringUTF16", name := "inflate", desc := "([BI[BII)V" } : Jvm.MethodName)), (Jvm.Cond.static ({ cls := "java/lang/StringUTF16", name := "inflate", desc := "([BI[BII)V" } : Jvm.MethodName)), (Jvm.Cond.code ({ cls := "java/lang/StringUTF16", name := "inflate", desc := "([BI[BII)V" } : Jvm.MethodName) prog_26_method_86_code (6 : Nat) (Option.none : Option Jvm.ClassFile.FieldType)), (Jvm.Cond.methodLink "java/lang/StringUTF16" (173 : Nat) ({ cls := "java/lang/StringUTF16", name := "checkBoundsOffCount", desc := "(II[B)V" } : Jvm.MethodName)), (Jvm.Cond.static ({ cls := "java/lang/StringUTF16", name := "checkBoundsOffCount", desc := "(II[B)V" } : Jvm.MethodName))]
noncomputable def tb2_7 : List Jvm.Cond := [(Jvm.Cond.code ({ cls := "java/lang/StringUTF16", name := "checkBoundsOffCount", desc := "(II[B)V" } : Jvm.MethodName) prog_26_method_94_code (3 : Nat) (Option.none : Option Jvm.ClassFile.FieldType)), (Jvm.Cond.methodLink "java/lang/StringUTF16" (419 : Nat) ({ cls := "java/lang/String", name := "checkBoundsOffCount", desc := "(III)I" } : Jvm.MethodName)), (Jvm.Cond.static ({ cls := "java/lang/String", name := "checkBoundsOffCount", desc := "(III)I" } : Jvm.MethodName)), (Jvm.Cond.code ({ cls := "java/lang/String", name := "checkBoundsOffCount", desc := "(III)I" } : Jvm.MethodName) prog_23_method_157_code (3 : Nat) (Option.some Jvm.ClassFile.FieldType.int)), (Jvm.Cond.methodLink "java/lang/String" (1065 : Nat) ({ cls := "jdk/internal/util/Preconditions", name := "checkFromIndexSize", desc := "(IIILjava/util/function/BiFunction;)I" } : Jvm.MethodName)), (Jvm.Cond.static ({ cls := "jdk/internal/util/Preconditions", name := "checkFromIndexSize", desc := "(IIILjava/util/function/BiFunction;)I" } : Jvm.MethodName)), (Jvm.Cond.code ({ cls := "jdk/internal/util/Preconditions", name := "checkFromIndexSize", desc := "(IIILjava/util/function/BiFunction;)I" } : Jvm.MethodName) prog_32_method_13_code (4 : Nat) (Option.some Jvm.ClassFile.FieldType.int)), (Jvm.Cond.methodLink "java/lang/AbstractStringBuilder" (399 : Nat) ({ cls := "java/lang/String", name := "getBytes", desc := "([BIB)V" } : Jvm.MethodName)), (Jvm.Cond.instanceMethod ({ cls := "java/lang/String", name := "getBytes", desc := "([BIB)V" } : Jvm.MethodName)), (Jvm.Cond.selects "java/lang/String" ({ cls := "java/lang/String", name := "getBytes", desc := "([BIB)V" } : Jvm.MethodName) ({ cls := "java/lang/String", name := "getBytes", desc := "([BIB)V" } : Jvm.MethodName)), (Jvm.Cond.code ({ cls := "java/lang/String", name := "getBytes", desc := "([BIB)V" } : Jvm.MethodName) prog_23_method_147_code (4 : Nat) (Option.none : Option Jvm.ClassFile.FieldType)), (Jvm.Cond.methodLink "java/lang/String" (212 : Nat) ({ cls := "java/lang/System", name := "arraycopy", desc := "(Ljava/lang/Object;ILjava/lang/Object;II)V" } : Jvm.MethodName)), (Jvm.Cond.methodLink "java/lang/String" (106 : Nat) ({ cls := "java/lang/StringLatin1", name := "inflate", desc := "([BI[BII)V" } : Jvm.MethodName)), (Jvm.Cond.methodLink "java/util/Arrays" (54 : Nat) ({ cls := "java/lang/StringBuilder", name := "append", desc := "(I)Ljava/lang/StringBuilder;" } : Jvm.MethodName)), (Jvm.Cond.instanceMethod ({ cls := "java/lang/StringBuilder", name := "append", desc := "(I)Ljava/lang/StringBuilder;" } : Jvm.MethodName)), (Jvm.Cond.selects "java/lang/StringBuilder" ({ cls := "java/lang/StringBuilder", name := "append", desc := "(I)Ljava/lang/StringBuilder;" } : Jvm.MethodName) ({ cls := "java/lang/StringBuilder", name := "append", desc := "(I)Ljava/lang/StringBuilder;" } : Jvm.MethodName))]
noncomputable def tb2_8 : List Jvm.Cond := [(Jvm.Cond.code ({ cls := "java/lang/StringBuilder", name := "append", desc := "(I)Ljava/lang/StringBuilder;" } : Jvm.MethodName) prog_24_method_15_code (2 : Nat) (Option.some (Jvm.ClassFile.FieldType.object "java/lang/StringBuilder"))), (Jvm.Cond.methodLink "java/lang/StringBuilder" (53 : Nat) ({ cls := "java/lang/AbstractStringBuilder", name := "append", desc := "(I)Ljava/lang/AbstractStringBuilder;" } : Jvm.MethodName)), (Jvm.Cond.instanceMethod ({ cls := "java/lang/AbstractStringBuilder", name := "append", desc := "(I)Ljava/lang/AbstractStringBuilder;" } : Jvm.MethodName)), (Jvm.Cond.code ({ cls := "java/lang/AbstractStringBuilder", name := "append", desc := "(I)Ljava/lang/AbstractStringBuilder;" } : Jvm.MethodName) prog_15_method_32_code (4 : Nat) (Option.some (Jvm.ClassFile.FieldType.object "java/lang/AbstractStringBuilder"))), (Jvm.Cond.methodLink "java/lang/AbstractStringBuilder" (245 : Nat) ({ cls := "java/lang/Integer", name := "stringSize", desc := "(I)I" } : Jvm.MethodName)), (Jvm.Cond.static ({ cls := "java/lang/Integer", name := "stringSize", desc := "(I)I" } : Jvm.MethodName)), (Jvm.Cond.code ({ cls := "java/lang/Integer", name := "stringSize", desc := "(I)I" } : Jvm.MethodName) prog_20_method_13_code (4 : Nat) (Option.some Jvm.ClassFile.FieldType.int)), (Jvm.Cond.methodLink "java/lang/AbstractStringBuilder" (248 : Nat) ({ cls := "java/lang/Integer", name := "getChars", desc := "(II[B)I" } : Jvm.MethodName)), (Jvm.Cond.static ({ cls := "java/lang/Integer", name := "getChars", desc := "(II[B)I" } : Jvm.MethodName)), (Jvm.Cond.code ({ cls := "java/lang/Integer", name := "getChars", desc := "(II[B)I" } : Jvm.MethodName) prog_20_method_12_code (7 : Nat) (Option.some Jvm.ClassFile.FieldType.int)), (Jvm.Cond.fieldLink "java/lang/Integer" (83 : Nat) "java/lang/Integer" "DigitOnes" "[B"), (Jvm.Cond.laysStatic "java/lang/Integer" "DigitOnes" "[B"), (Jvm.Cond.fieldLink "java/lang/Integer" (87 : Nat) "java/lang/Integer" "DigitTens" "[B"), (Jvm.Cond.laysStatic "java/lang/Integer" "DigitTens" "[B"), (Jvm.Cond.methodLink "java/lang/AbstractStringBuilder" (251 : Nat) ({ cls := "java/lang/StringUTF16", name := "getChars", desc := "(III[B)I" } : Jvm.MethodName)), (Jvm.Cond.static ({ cls := "java/lang/StringUTF16", name := "getChars", desc := "(III[B)I" } : Jvm.MethodName))]
noncomputable def tb2_9 : List Jvm.Cond := [(Jvm.Cond.code ({ cls := "java/lang/StringUTF16", name := "getChars", desc := "(III[B)I" } : Jvm.MethodName) prog_26_method_77_code (5 : Nat) (Option.some Jvm.ClassFile.FieldType.int)), (Jvm.Cond.methodLink "java/lang/StringUTF16" (393 : Nat) ({ cls := "java/lang/StringUTF16", name := "getChars", desc := "(II[B)I" } : Jvm.MethodName)), (Jvm.Cond.static ({ cls := "java/lang/StringUTF16", name := "getChars", desc := "(II[B)I" } : Jvm.MethodName)), (Jvm.Cond.code ({ cls := "java/lang/StringUTF16", name := "getChars", desc := "(II[B)I" } : Jvm.MethodName) prog_26_method_89_code (7 : Nat) (Option.some Jvm.ClassFile.FieldType.int)), (Jvm.Cond.fieldLink "java/lang/StringUTF16" (403 : Nat) "java/lang/Integer" "DigitOnes" "[B"), (Jvm.Cond.fieldLink "java/lang/StringUTF16" (407 : Nat) "java/lang/Integer" "DigitTens" "[B"), (Jvm.Cond.stringRef "java/util/Arrays" (57 : Nat) ") > toIndex("), (Jvm.Cond.stringRef "java/util/Arrays" (59 : Nat) ")"), (Jvm.Cond.methodLink "java/util/Arrays" (61 : Nat) ({ cls := "java/lang/StringBuilder", name := "toString", desc := "()Ljava/lang/String;" } : Jvm.MethodName)), (Jvm.Cond.instanceMethod ({ cls := "java/lang/StringBuilder", name := "toString", desc := "()Ljava/lang/String;" } : Jvm.MethodName)), (Jvm.Cond.selects "java/lang/StringBuilder" ({ cls := "java/lang/StringBuilder", name := "toString", desc := "()Ljava/lang/String;" } : Jvm.MethodName) ({ cls := "java/lang/StringBuilder", name := "toString", desc := "()Ljava/lang/String;" } : Jvm.MethodName)), (Jvm.Cond.code ({ cls := "java/lang/StringBuilder", name := "toString", desc := "()Ljava/lang/String;" } : Jvm.MethodName) prog_24_method_42_code (1 : Nat) (Option.some (Jvm.ClassFile.FieldType.object "java/lang/String"))), (Jvm.Cond.classLink "java/lang/StringBuilder" (18 : Nat) "java/lang/String"), (Jvm.Cond.instantiable "java/lang/String" (4 : Nat)), (Jvm.Cond.methodLink "java/lang/StringBuilder" (137 : Nat) ({ cls := "java/lang/String", name := "<init>", desc := "(Ljava/lang/StringBuilder;)V" } : Jvm.MethodName)), (Jvm.Cond.instanceMethod ({ cls := "java/lang/String", name := "<init>", desc := "(Ljava/lang/StringBuilder;)V" } : Jvm.MethodName))]
noncomputable def tb2_10 : List Jvm.Cond := [(Jvm.Cond.code ({ cls := "java/lang/String", name := "<init>", desc := "(Ljava/lang/StringBuilder;)V" } : Jvm.MethodName) prog_23_method_53_code (2 : Nat) (Option.none : Option Jvm.ClassFile.FieldType)), (Jvm.Cond.methodLink "java/lang/String" (489 : Nat) ({ cls := "java/lang/String", name := "<init>", desc := "(Ljava/lang/AbstractStringBuilder;Ljava/lang/Void;)V" } : Jvm.MethodName)), (Jvm.Cond.instanceMethod ({ cls := "java/lang/String", name := "<init>", desc := "(Ljava/lang/AbstractStringBuilder;Ljava/lang/Void;)V" } : Jvm.MethodName)), (Jvm.Cond.code ({ cls := "java/lang/String", name := "<init>", desc := "(Ljava/lang/AbstractStringBuilder;Ljava/lang/Void;)V" } : Jvm.MethodName) prog_23_method_150_code (5 : Nat) (Option.none : Option Jvm.ClassFile.FieldType)), (Jvm.Cond.methodLink "java/lang/String" (1 : Nat) ({ cls := "java/lang/Object", name := "<init>", desc := "()V" } : Jvm.MethodName)), (Jvm.Cond.methodLink "java/lang/String" (552 : Nat) ({ cls := "java/lang/AbstractStringBuilder", name := "getValue", desc := "()[B" } : Jvm.MethodName)), (Jvm.Cond.instanceMethod ({ cls := "java/lang/AbstractStringBuilder", name := "getValue", desc := "()[B" } : Jvm.MethodName)), (Jvm.Cond.sameMethod "java/lang/AbstractStringBuilder" "java/lang/AbstractStringBuilder" "getValue" "()[B"), (Jvm.Cond.selects "java/lang/StringBuilder" ({ cls := "java/lang/AbstractStringBuilder", name := "getValue", desc := "()[B" } : Jvm.MethodName) ({ cls := "java/lang/AbstractStringBuilder", name := "getValue", desc := "()[B" } : Jvm.MethodName)), (Jvm.Cond.code ({ cls := "java/lang/AbstractStringBuilder", name := "getValue", desc := "()[B" } : Jvm.MethodName) prog_15_method_64_code (1 : Nat) (Option.some (Jvm.ClassFile.FieldType.array Jvm.ClassFile.FieldType.byte))), (Jvm.Cond.methodLink "java/lang/String" (549 : Nat) ({ cls := "java/lang/AbstractStringBuilder", name := "length", desc := "()I" } : Jvm.MethodName)), (Jvm.Cond.instanceMethod ({ cls := "java/lang/AbstractStringBuilder", name := "length", desc := "()I" } : Jvm.MethodName)), (Jvm.Cond.sameMethod "java/lang/AbstractStringBuilder" "java/lang/AbstractStringBuilder" "length" "()I"), (Jvm.Cond.selects "java/lang/StringBuilder" ({ cls := "java/lang/AbstractStringBuilder", name := "length", desc := "()I" } : Jvm.MethodName) ({ cls := "java/lang/StringBuilder", name := "length", desc := "()I" } : Jvm.MethodName)), (Jvm.Cond.instanceMethod ({ cls := "java/lang/StringBuilder", name := "length", desc := "()I" } : Jvm.MethodName)), (Jvm.Cond.code ({ cls := "java/lang/StringBuilder", name := "length", desc := "()I" } : Jvm.MethodName) prog_24_method_93_code (1 : Nat) (Option.some Jvm.ClassFile.FieldType.int))]
noncomputable def tb2_11 : List Jvm.Cond := [(Jvm.Cond.methodLink "java/lang/StringBuilder" (343 : Nat) ({ cls := "java/lang/AbstractStringBuilder", name := "length", desc := "()I" } : Jvm.MethodName)), (Jvm.Cond.code ({ cls := "java/lang/AbstractStringBuilder", name := "length", desc := "()I" } : Jvm.MethodName) prog_15_method_6_code (1 : Nat) (Option.some Jvm.ClassFile.FieldType.int)), (Jvm.Cond.methodLink "java/lang/String" (1047 : Nat) ({ cls := "java/lang/AbstractStringBuilder", name := "isLatin1", desc := "()Z" } : Jvm.MethodName)), (Jvm.Cond.methodLink "java/lang/String" (54 : Nat) ({ cls := "java/util/Arrays", name := "copyOfRange", desc := "([BII)[B" } : Jvm.MethodName)), (Jvm.Cond.static ({ cls := "java/util/Arrays", name := "copyOfRange", desc := "([BII)[B" } : Jvm.MethodName)), (Jvm.Cond.code ({ cls := "java/util/Arrays", name := "copyOfRange", desc := "([BII)[B" } : Jvm.MethodName) prog_29_method_132_code (3 : Nat) (Option.some (Jvm.ClassFile.FieldType.array Jvm.ClassFile.FieldType.byte))), (Jvm.Cond.methodLink "java/util/Arrays" (339 : Nat) ({ cls := "java/util/Arrays", name := "copyOfRangeByte", desc := "([BII)[B" } : Jvm.MethodName)), (Jvm.Cond.static ({ cls := "java/util/Arrays", name := "copyOfRangeByte", desc := "([BII)[B" } : Jvm.MethodName)), (Jvm.Cond.code ({ cls := "java/util/Arrays", name := "copyOfRangeByte", desc := "([BII)[B" } : Jvm.MethodName) prog_29_method_133_code (5 : Nat) (Option.some (Jvm.ClassFile.FieldType.array Jvm.ClassFile.FieldType.byte))), (Jvm.Cond.methodLink "java/util/Arrays" (343 : Nat) ({ cls := "java/util/Arrays", name := "checkLength", desc := "(II)V" } : Jvm.MethodName)), (Jvm.Cond.static ({ cls := "java/util/Arrays", name := "checkLength", desc := "(II)V" } : Jvm.MethodName)), (Jvm.Cond.code ({ cls := "java/util/Arrays", name := "checkLength", desc := "(II)V" } : Jvm.MethodName) prog_29_method_131_code (2 : Nat) (Option.none : Option Jvm.ClassFile.FieldType)), (Jvm.Cond.stringRef "java/util/Arrays" (337 : Nat) " > "), (Jvm.Cond.methodLink "java/util/Arrays" (65 : Nat) ({ cls := "java/lang/IllegalArgumentException", name := "<init>", desc := "(Ljava/lang/String;)V" } : Jvm.MethodName)), (Jvm.Cond.instanceMethod ({ cls := "java/lang/IllegalArgumentException", name := "<init>", desc := "(Ljava/lang/String;)V" } : Jvm.MethodName)), (Jvm.Cond.code ({ cls := "java/lang/IllegalArgumentException", name := "<init>", desc := "(Ljava/lang/String;)V" } : Jvm.MethodName) prog_18_method_2_code (2 : Nat) (Option.none : Option Jvm.ClassFile.FieldType))]
noncomputable def tb2_12 : List Jvm.Cond := [(Jvm.Cond.methodLink "java/lang/IllegalArgumentException" (7 : Nat) ({ cls := "java/lang/RuntimeException", name := "<init>", desc := "(Ljava/lang/String;)V" } : Jvm.MethodName)), (Jvm.Cond.instanceMethod ({ cls := "java/lang/RuntimeException", name := "<init>", desc := "(Ljava/lang/String;)V" } : Jvm.MethodName)), (Jvm.Cond.code ({ cls := "java/lang/RuntimeException", name := "<init>", desc := "(Ljava/lang/String;)V" } : Jvm.MethodName) prog_22_method_2_code (2 : Nat) (Option.none : Option Jvm.ClassFile.FieldType)), (Jvm.Cond.methodLink "java/lang/RuntimeException" (7 : Nat) ({ cls := "java/lang/Exception", name := "<init>", desc := "(Ljava/lang/String;)V" } : Jvm.MethodName)), (Jvm.Cond.instanceMethod ({ cls := "java/lang/Exception", name := "<init>", desc := "(Ljava/lang/String;)V" } : Jvm.MethodName)), (Jvm.Cond.code ({ cls := "java/lang/Exception", name := "<init>", desc := "(Ljava/lang/String;)V" } : Jvm.MethodName) prog_17_method_2_code (2 : Nat) (Option.none : Option Jvm.ClassFile.FieldType)), (Jvm.Cond.methodLink "java/lang/Exception" (7 : Nat) ({ cls := "java/lang/Throwable", name := "<init>", desc := "(Ljava/lang/String;)V" } : Jvm.MethodName)), (Jvm.Cond.instanceMethod ({ cls := "java/lang/Throwable", name := "<init>", desc := "(Ljava/lang/String;)V" } : Jvm.MethodName)), (Jvm.Cond.code ({ cls := "java/lang/Throwable", name := "<init>", desc := "(Ljava/lang/String;)V" } : Jvm.MethodName) prog_28_method_2_code (2 : Nat) (Option.none : Option Jvm.ClassFile.FieldType)), (Jvm.Cond.fieldLink "java/lang/Throwable" (198 : Nat) "java/lang/Throwable" "backtrace" "Ljava/lang/Object;"), (Jvm.Cond.fieldLink "java/lang/Throwable" (31 : Nat) "java/lang/Throwable" "detailMessage" "Ljava/lang/String;"), (Jvm.Cond.fieldLink "java/lang/Throwable" (7 : Nat) "java/lang/Throwable" "cause" "Ljava/lang/Throwable;"), (Jvm.Cond.fieldLink "java/lang/Throwable" (17 : Nat) "java/lang/Throwable" "stackTrace" "[Ljava/lang/StackTraceElement;"), (Jvm.Cond.fieldLink "java/lang/Throwable" (24 : Nat) "java/lang/Throwable" "suppressedExceptions" "Ljava/util/List;"), (Jvm.Cond.soleField "java/lang/Throwable" "backtrace"), (Jvm.Cond.soleField "java/lang/Throwable" "detailMessage")]
noncomputable def tb2_13 : List Jvm.Cond := [(Jvm.Cond.soleField "java/lang/Throwable" "cause"), (Jvm.Cond.soleField "java/lang/Throwable" "stackTrace"), (Jvm.Cond.lays "java/lang/IllegalArgumentException" "java/lang/Throwable" "depth" "I"), (Jvm.Cond.soleField "java/lang/Throwable" "depth"), (Jvm.Cond.soleField "java/lang/Throwable" "suppressedExceptions"), (Jvm.Cond.superclass "java/lang/IllegalArgumentException" "java/lang/RuntimeException"), (Jvm.Cond.methodLink "java/lang/String" (1051 : Nat) ({ cls := "java/lang/StringUTF16", name := "compress", desc := "([BII)[B" } : Jvm.MethodName)), (Jvm.Cond.static ({ cls := "java/lang/StringUTF16", name := "compress", desc := "([BII)[B" } : Jvm.MethodName)), (Jvm.Cond.code ({ cls := "java/lang/StringUTF16", name := "compress", desc := "([BII)[B" } : Jvm.MethodName) prog_26_method_17_code (6 : Nat) (Option.some (Jvm.ClassFile.FieldType.array Jvm.ClassFile.FieldType.byte))), (Jvm.Cond.methodLink "java/lang/StringUTF16" (123 : Nat) ({ cls := "java/lang/StringUTF16", name := "compress", desc := "([BI[BII)I" } : Jvm.MethodName)), (Jvm.Cond.static ({ cls := "java/lang/StringUTF16", name := "compress", desc := "([BI[BII)I" } : Jvm.MethodName)), (Jvm.Cond.code ({ cls := "java/lang/StringUTF16", name := "compress", desc := "([BI[BII)I" } : Jvm.MethodName) prog_26_method_22_code (7 : Nat) (Option.some Jvm.ClassFile.FieldType.int)), (Jvm.Cond.methodLink "java/lang/StringUTF16" (71 : Nat) ({ cls := "java/lang/StringUTF16", name := "getChar", desc := "([BI)C" } : Jvm.MethodName)), (Jvm.Cond.static ({ cls := "java/lang/StringUTF16", name := "getChar", desc := "([BI)C" } : Jvm.MethodName)), (Jvm.Cond.code ({ cls := "java/lang/StringUTF16", name := "getChar", desc := "([BI)C" } : Jvm.MethodName) prog_26_method_5_code (2 : Nat) (Option.some Jvm.ClassFile.FieldType.char)), (Jvm.Cond.methodLink "java/lang/StringUTF16" (126 : Nat) ({ cls := "java/util/Arrays", name := "copyOfRange", desc := "([BII)[B" } : Jvm.MethodName))]
noncomputable def tb2_14 : List Jvm.Cond := [(Jvm.Cond.methodLink "java/lang/String" (47 : Nat) ({ cls := "java/lang/StringUTF16", name := "coderFromArrayLen", desc := "([BI)B" } : Jvm.MethodName)), (Jvm.Cond.static ({ cls := "java/lang/StringUTF16", name := "coderFromArrayLen", desc := "([BI)B" } : Jvm.MethodName)), (Jvm.Cond.code ({ cls := "java/lang/StringUTF16", name := "coderFromArrayLen", desc := "([BI)B" } : Jvm.MethodName) prog_26_method_15_code (2 : Nat) (Option.some Jvm.ClassFile.FieldType.byte)), (Jvm.Cond.fieldLink "java/lang/String" (9 : Nat) "java/lang/String" "value" "[B"), (Jvm.Cond.fieldLink "java/lang/String" (15 : Nat) "java/lang/String" "coder" "B"), (Jvm.Cond.laysFinal "java/lang/String" "java/lang/String" "value" "[B"), (Jvm.Cond.soleField "java/lang/String" "value"), (Jvm.Cond.laysFinal "java/lang/String" "java/lang/String" "coder" "B"), (Jvm.Cond.soleField "java/lang/String" "coder"), (Jvm.Cond.lays "java/lang/String" "java/lang/String" "hash" "I"), (Jvm.Cond.soleField "java/lang/String" "hash"), (Jvm.Cond.lays "java/lang/String" "java/lang/String" "hashIsZero" "Z"), (Jvm.Cond.soleField "java/lang/String" "hashIsZero"), (Jvm.Cond.superclass "java/lang/String" "java/lang/Object"), (Jvm.Cond.constant "PadConsole$Sound" (28 : Nat) (32768 : Int32)), (Jvm.Cond.fieldLink "PadConsole$Sound" (9 : Nat) "PadConsole$Sound" "s" "[I")]
set_option maxRecDepth 100000 in
theorem tbe2 : tables_1_2 = (tb2_0 ++ (tb2_1 ++ (tb2_2 ++ (tb2_3 ++ (tb2_4 ++ (tb2_5 ++ (tb2_6 ++ (tb2_7 ++ (tb2_8 ++ (tb2_9 ++ (tb2_10 ++ (tb2_11 ++ (tb2_12 ++ (tb2_13 ++ tb2_14)))))))))))))) := rfl
theorem tm2_0 {w : Jvm.Cond} (h : w ∈ tb2_0) : w ∈ tables_1_2 := by
  rw [tbe2]
  exact (List.mem_append_left _ h)
theorem tm2_1 {w : Jvm.Cond} (h : w ∈ tb2_1) : w ∈ tables_1_2 := by
  rw [tbe2]
  exact (List.mem_append_right _ (List.mem_append_left _ h))
theorem tm2_2 {w : Jvm.Cond} (h : w ∈ tb2_2) : w ∈ tables_1_2 := by
  rw [tbe2]
  exact (List.mem_append_right _ (List.mem_append_right _ (List.mem_append_left _ h)))
theorem tm2_3 {w : Jvm.Cond} (h : w ∈ tb2_3) : w ∈ tables_1_2 := by
  rw [tbe2]
  exact (List.mem_append_right _ (List.mem_append_right _ (List.mem_append_right _ (List.mem_append_left _ h))))
theorem tm2_4 {w : Jvm.Cond} (h : w ∈ tb2_4) : w ∈ tables_1_2 := by
  rw [tbe2]
  exact (List.mem_append_right _ (List.mem_append_right _ (List.mem_append_right _ (List.mem_append_right _ (List.mem_append_left _ h)))))
theorem tm2_5 {w : Jvm.Cond} (h : w ∈ tb2_5) : w ∈ tables_1_2 := by
  rw [tbe2]
  exact (List.mem_append_right _ (List.mem_append_right _ (List.mem_append_right _ (List.mem_append_right _ (List.mem_append_right _ (List.mem_append_left _ h))))))
theorem tm2_6 {w : Jvm.Cond} (h : w ∈ tb2_6) : w ∈ tables_1_2 := by
  rw [tbe2]
  exact (List.mem_append_right _ (List.mem_append_right _ (List.mem_append_right _ (List.mem_append_right _ (List.mem_append_right _ (List.mem_append_right _ (List.mem_append_left _ h)))))))
theorem tm2_7 {w : Jvm.Cond} (h : w ∈ tb2_7) : w ∈ tables_1_2 := by
  rw [tbe2]
  exact (List.mem_append_right _ (List.mem_append_right _ (List.mem_append_right _ (List.mem_append_right _ (List.mem_append_right _ (List.mem_append_right _ (List.mem_append_right _ (List.mem_append_left _ h))))))))
theorem tm2_8 {w : Jvm.Cond} (h : w ∈ tb2_8) : w ∈ tables_1_2 := by
  rw [tbe2]
  exact (List.mem_append_right _ (List.mem_append_right _ (List.mem_append_right _ (List.mem_append_right _ (List.mem_append_right _ (List.mem_append_right _ (List.mem_append_right _ (List.mem_append_right _ (List.mem_append_left _ h)))))))))
theorem tm2_9 {w : Jvm.Cond} (h : w ∈ tb2_9) : w ∈ tables_1_2 := by
  rw [tbe2]
  exact (List.mem_append_right _ (List.mem_append_right _ (List.mem_append_right _ (List.mem_append_right _ (List.mem_append_right _ (List.mem_append_right _ (List.mem_append_right _ (List.mem_append_right _ (List.mem_append_right _ (List.mem_append_left _ h))))))))))
theorem tm2_10 {w : Jvm.Cond} (h : w ∈ tb2_10) : w ∈ tables_1_2 := by
  rw [tbe2]
  exact (List.mem_append_right _ (List.mem_append_right _ (List.mem_append_right _ (List.mem_append_right _ (List.mem_append_right _ (List.mem_append_right _ (List.mem_append_right _ (List.mem_append_right _ (List.mem_append_right _ (List.mem_append_right _ (List.mem_append_left _ h)))))))))))
theorem tm2_11 {w : Jvm.Cond} (h : w ∈ tb2_11) : w ∈ tables_1_2 := by
  rw [tbe2]
  exact (List.mem_append_right _ (List.mem_append_right _ (List.mem_append_right _ (List.mem_append_right _ (List.mem_append_right _ (List.mem_append_right _ (List.mem_append_right _ (List.mem_append_right _ (List.mem_append_right _ (List.mem_append_right _ (List.mem_append_right _ (List.mem_append_left _ h))))))))))))
theorem tm2_12 {w : Jvm.Cond} (h : w ∈ tb2_12) : w ∈ tables_1_2 := by
  rw [tbe2]
  exact (List.mem_append_right _ (List.mem_append_right _ (List.mem_append_right _ (List.mem_append_right _ (List.mem_append_right _ (List.mem_append_right _ (List.mem_append_right _ (List.mem_append_right _ (List.mem_append_right _ (List.mem_append_right _ (List.mem_append_right _ (List.mem_append_right _ (List.mem_append_left _ h)))))))))))))
theorem tm2_13 {w : Jvm.Cond} (h : w ∈ tb2_13) : w ∈ tables_1_2 := by
  rw [tbe2]
  exact (List.mem_append_right _ (List.mem_append_right _ (List.mem_append_right _ (List.mem_append_right _ (List.mem_append_right _ (List.mem_append_right _ (List.mem_append_right _ (List.mem_append_right _ (List.mem_append_right _ (List.mem_append_right _ (List.mem_append_right _ (List.mem_append_right _ (List.mem_append_right _ (List.mem_append_left _ h))))))))))))))
theorem tm2_14 {w : Jvm.Cond} (h : w ∈ tb2_14) : w ∈ tables_1_2 := by
  rw [tbe2]
  exact (List.mem_append_right _ (List.mem_append_right _ (List.mem_append_right _ (List.mem_append_right _ (List.mem_append_right _ (List.mem_append_right _ (List.mem_append_right _ (List.mem_append_right _ (List.mem_append_right _ (List.mem_append_right _ (List.mem_append_right _ (List.mem_append_right _ (List.mem_append_right _ (List.mem_append_right _ h))))))))))))))
noncomputable def tb3_0 : List Jvm.Cond := [(Jvm.Cond.fieldLink "PadConsole$Sound" (13 : Nat) "PadConsole$Sound" "kept" "[I"), (Jvm.Cond.laysFinal "PadConsole$Sound" "PadConsole$Sound" "s" "[I"), (Jvm.Cond.soleField "PadConsole$Sound" "s"), (Jvm.Cond.laysFinal "PadConsole$Sound" "PadConsole$Sound" "kept" "[I"), (Jvm.Cond.soleField "PadConsole$Sound" "kept"), (Jvm.Cond.superclass "PadConsole$Sound" "java/lang/Object"), (Jvm.Cond.classLink "PadConsole" (45 : Nat) "PadConsole$Waves"), (Jvm.Cond.instantiable "PadConsole$Waves" (8 : Nat)), (Jvm.Cond.methodLink "PadConsole" (47 : Nat) ({ cls := "PadConsole$Waves", name := "<init>", desc := "()V" } : Jvm.MethodName)), (Jvm.Cond.instanceMethod ({ cls := "PadConsole$Waves", name := "<init>", desc := "()V" } : Jvm.MethodName)), (Jvm.Cond.code ({ cls := "PadConsole$Waves", name := "<init>", desc := "()V" } : Jvm.MethodName) prog_12_method_1_code (1 : Nat) (Option.none : Option Jvm.ClassFile.FieldType)), (Jvm.Cond.methodLink "PadConsole$Waves" (1 : Nat) ({ cls := "java/lang/Object", name := "<init>", desc := "()V" } : Jvm.MethodName)), (Jvm.Cond.methodLink "PadConsole$Waves" (16 : Nat) ({ cls := "PadConsole$Waves", name := "clear", desc := "()V" } : Jvm.MethodName)), (Jvm.Cond.instanceMethod ({ cls := "PadConsole$Waves", name := "clear", desc := "()V" } : Jvm.MethodName)), (Jvm.Cond.selects "PadConsole$Waves" ({ cls := "PadConsole$Waves", name := "clear", desc := "()V" } : Jvm.MethodName) ({ cls := "PadConsole$Waves", name := "clear", desc := "()V" } : Jvm.MethodName)), (Jvm.Cond.code ({ cls := "PadConsole$Waves", name := "clear", desc := "()V" } : Jvm.MethodName) prog_12_method_2_code (3 : Nat) (Option.none : Option Jvm.ClassFile.FieldType))]
noncomputable def tb3_1 : List Jvm.Cond := [(Jvm.Cond.methodLink "PadConsole$Waves" (19 : Nat) ({ cls := "java/util/Arrays", name := "fill", desc := "([II)V" } : Jvm.MethodName)), (Jvm.Cond.fieldLink "PadConsole$Waves" (9 : Nat) "PadConsole$Waves" "s" "[I"), (Jvm.Cond.fieldLink "PadConsole$Waves" (13 : Nat) "PadConsole$Waves" "kept" "[I"), (Jvm.Cond.fieldLink "PadConsole$Waves" (32 : Nat) "PadConsole$Waves" "rhythm" "Z"), (Jvm.Cond.fieldLink "PadConsole$Waves" (48 : Nat) "PadConsole$Waves" "channel" "I"), (Jvm.Cond.fieldLink "PadConsole$Waves" (52 : Nat) "PadConsole$Waves" "f" "I"), (Jvm.Cond.fieldLink "PadConsole$Waves" (55 : Nat) "PadConsole$Waves" "block" "I"), (Jvm.Cond.fieldLink "PadConsole$Waves" (66 : Nat) "PadConsole$Waves" "patch" "J"), (Jvm.Cond.fieldLink "PadConsole$Waves" (62 : Nat) "PadConsole$Waves" "ownPatch" "J"), (Jvm.Cond.laysFinal "PadConsole$Waves" "PadConsole$Waves" "s" "[I"), (Jvm.Cond.soleField "PadConsole$Waves" "s"), (Jvm.Cond.laysFinal "PadConsole$Waves" "PadConsole$Waves" "kept" "[I"), (Jvm.Cond.soleField "PadConsole$Waves" "kept"), (Jvm.Cond.lays "PadConsole$Waves" "PadConsole$Waves" "rhythm" "Z"), (Jvm.Cond.soleField "PadConsole$Waves" "rhythm"), (Jvm.Cond.lays "PadConsole$Waves" "PadConsole$Waves" "channel" "I")]
noncomputable def tb3_2 : List Jvm.Cond := [(Jvm.Cond.soleField "PadConsole$Waves" "channel"), (Jvm.Cond.lays "PadConsole$Waves" "PadConsole$Waves" "f" "I"), (Jvm.Cond.soleField "PadConsole$Waves" "f"), (Jvm.Cond.lays "PadConsole$Waves" "PadConsole$Waves" "block" "I"), (Jvm.Cond.soleField "PadConsole$Waves" "block"), (Jvm.Cond.lays "PadConsole$Waves" "PadConsole$Waves" "patch" "J"), (Jvm.Cond.soleField "PadConsole$Waves" "patch"), (Jvm.Cond.lays "PadConsole$Waves" "PadConsole$Waves" "ownPatch" "J"), (Jvm.Cond.soleField "PadConsole$Waves" "ownPatch"), (Jvm.Cond.superclass "PadConsole$Waves" "java/lang/Object"), (Jvm.Cond.classLink "PadConsole" (52 : Nat) "PadConsole$Ports"), (Jvm.Cond.instantiable "PadConsole$Ports" (6 : Nat)), (Jvm.Cond.methodLink "PadConsole" (54 : Nat) ({ cls := "PadConsole$Ports", name := "<init>", desc := "(ZLPadConsole$Video;LPadConsole$Sound;LPadConsole$Waves;)V" } : Jvm.MethodName)), (Jvm.Cond.instanceMethod ({ cls := "PadConsole$Ports", name := "<init>", desc := "(ZLPadConsole$Video;LPadConsole$Sound;LPadConsole$Waves;)V" } : Jvm.MethodName)), (Jvm.Cond.code ({ cls := "PadConsole$Ports", name := "<init>", desc := "(ZLPadConsole$Video;LPadConsole$Sound;LPadConsole$Waves;)V" } : Jvm.MethodName) prog_6_method_1_code (5 : Nat) (Option.none : Option Jvm.ClassFile.FieldType)), (Jvm.Cond.methodLink "PadConsole$Ports" (1 : Nat) ({ cls := "java/lang/Object", name := "<init>", desc := "()V" } : Jvm.MethodName))]
noncomputable def tb3_3 : List Jvm.Cond := [(Jvm.Cond.methodLink "PadConsole$Ports" (32 : Nat) ({ cls := "PadConsole$Ports", name := "clear", desc := "()V" } : Jvm.MethodName)), (Jvm.Cond.instanceMethod ({ cls := "PadConsole$Ports", name := "clear", desc := "()V" } : Jvm.MethodName)), (Jvm.Cond.selects "PadConsole$Ports" ({ cls := "PadConsole$Ports", name := "clear", desc := "()V" } : Jvm.MethodName) ({ cls := "PadConsole$Ports", name := "clear", desc := "()V" } : Jvm.MethodName)), (Jvm.Cond.code ({ cls := "PadConsole$Ports", name := "clear", desc := "()V" } : Jvm.MethodName) prog_6_method_2_code (1 : Nat) (Option.none : Option Jvm.ClassFile.FieldType)), (Jvm.Cond.fieldLink "PadConsole$Ports" (16 : Nat) "PadConsole$Ports" "handy" "Z"), (Jvm.Cond.fieldLink "PadConsole$Ports" (20 : Nat) "PadConsole$Ports" "screen" "LPadConsole$Video;"), (Jvm.Cond.fieldLink "PadConsole$Ports" (24 : Nat) "PadConsole$Ports" "tones" "LPadConsole$Sound;"), (Jvm.Cond.fieldLink "PadConsole$Ports" (28 : Nat) "PadConsole$Ports" "synth" "LPadConsole$Waves;"), (Jvm.Cond.fieldLink "PadConsole$Ports" (9 : Nat) "PadConsole$Ports" "p" "[I"), (Jvm.Cond.fieldLink "PadConsole$Ports" (13 : Nat) "PadConsole$Ports" "kept" "[I"), (Jvm.Cond.laysFinal "PadConsole$Ports" "PadConsole$Ports" "handy" "Z"), (Jvm.Cond.soleField "PadConsole$Ports" "handy"), (Jvm.Cond.laysFinal "PadConsole$Ports" "PadConsole$Ports" "screen" "LPadConsole$Video;"), (Jvm.Cond.soleField "PadConsole$Ports" "screen"), (Jvm.Cond.laysFinal "PadConsole$Ports" "PadConsole$Ports" "tones" "LPadConsole$Sound;"), (Jvm.Cond.soleField "PadConsole$Ports" "tones")]
noncomputable def tb3_4 : List Jvm.Cond := [(Jvm.Cond.laysFinal "PadConsole$Ports" "PadConsole$Ports" "synth" "LPadConsole$Waves;"), (Jvm.Cond.soleField "PadConsole$Ports" "synth"), (Jvm.Cond.laysFinal "PadConsole$Ports" "PadConsole$Ports" "p" "[I"), (Jvm.Cond.soleField "PadConsole$Ports" "p"), (Jvm.Cond.laysFinal "PadConsole$Ports" "PadConsole$Ports" "kept" "[I"), (Jvm.Cond.soleField "PadConsole$Ports" "kept"), (Jvm.Cond.superclass "PadConsole$Ports" "java/lang/Object"), (Jvm.Cond.classLink "PadConsole" (61 : Nat) "PadConsole$Processor"), (Jvm.Cond.instantiable "PadConsole$Processor" (6 : Nat)), (Jvm.Cond.methodLink "PadConsole" (63 : Nat) ({ cls := "PadConsole$Processor", name := "<init>", desc := "(LPadConsole$Memory;LPadConsole$Ports;)V" } : Jvm.MethodName)), (Jvm.Cond.instanceMethod ({ cls := "PadConsole$Processor", name := "<init>", desc := "(LPadConsole$Memory;LPadConsole$Ports;)V" } : Jvm.MethodName)), (Jvm.Cond.code ({ cls := "PadConsole$Processor", name := "<init>", desc := "(LPadConsole$Memory;LPadConsole$Ports;)V" } : Jvm.MethodName) prog_7_method_1_code (3 : Nat) (Option.none : Option Jvm.ClassFile.FieldType)), (Jvm.Cond.methodLink "PadConsole$Processor" (1 : Nat) ({ cls := "java/lang/Object", name := "<init>", desc := "()V" } : Jvm.MethodName)), (Jvm.Cond.constant "PadConsole$Processor" (28 : Nat) (57328 : Int32)), (Jvm.Cond.fieldLink "PadConsole$Processor" (20 : Nat) "PadConsole$Processor" "memory" "LPadConsole$Memory;"), (Jvm.Cond.fieldLink "PadConsole$Processor" (24 : Nat) "PadConsole$Processor" "ports" "LPadConsole$Ports;")]
noncomputable def tb3_5 : List Jvm.Cond := [(Jvm.Cond.fieldLink "PadConsole$Processor" (9 : Nat) "PadConsole$Processor" "\x72" "[I"), (Jvm.Cond.fieldLink "PadConsole$Processor" (13 : Nat) "PadConsole$Processor" "kept" "[I"), (Jvm.Cond.fieldLink "PadConsole$Processor" (16 : Nat) "PadConsole$Processor" "j" "I"), (Jvm.Cond.fieldLink "PadConsole$Processor" (68 : Nat) "PadConsole$Processor" "place" "I"), (Jvm.Cond.laysFinal "PadConsole$Processor" "PadConsole$Processor" "memory" "LPadConsole$Memory;"), (Jvm.Cond.soleField "PadConsole$Processor" "memory"), (Jvm.Cond.laysFinal "PadConsole$Processor" "PadConsole$Processor" "ports" "LPadConsole$Ports;"), (Jvm.Cond.soleField "PadConsole$Processor" "ports"), (Jvm.Cond.laysFinal "PadConsole$Processor" "PadConsole$Processor" "\x72" "[I"), (Jvm.Cond.soleField "PadConsole$Processor" "\x72"), (Jvm.Cond.laysFinal "PadConsole$Processor" "PadConsole$Processor" "kept" "[I"), (Jvm.Cond.soleField "PadConsole$Processor" "kept"), (Jvm.Cond.lays "PadConsole$Processor" "PadConsole$Processor" "j" "I"), (Jvm.Cond.soleField "PadConsole$Processor" "j"), (Jvm.Cond.lays "PadConsole$Processor" "PadConsole$Processor" "place" "I"), (Jvm.Cond.soleField "PadConsole$Processor" "place")]
noncomputable def tb3_6 : List Jvm.Cond := [(Jvm.Cond.superclass "PadConsole$Processor" "java/lang/Object"), (Jvm.Cond.classLink "PadConsole" (70 : Nat) "PadConsole$Clock"), (Jvm.Cond.instantiable "PadConsole$Clock" (6 : Nat)), (Jvm.Cond.methodLink "PadConsole" (72 : Nat) ({ cls := "PadConsole$Clock", name := "<init>", desc := "(LPadConsole$Sound;LPadConsole$Waves;)V" } : Jvm.MethodName)), (Jvm.Cond.instanceMethod ({ cls := "PadConsole$Clock", name := "<init>", desc := "(LPadConsole$Sound;LPadConsole$Waves;)V" } : Jvm.MethodName)), (Jvm.Cond.code ({ cls := "PadConsole$Clock", name := "<init>", desc := "(LPadConsole$Sound;LPadConsole$Waves;)V" } : Jvm.MethodName) prog_2_method_1_code (3 : Nat) (Option.none : Option Jvm.ClassFile.FieldType)), (Jvm.Cond.methodLink "PadConsole$Clock" (1 : Nat) ({ cls := "java/lang/Object", name := "<init>", desc := "()V" } : Jvm.MethodName)), (Jvm.Cond.classLink "PadConsole$Clock" (7 : Nat) "PadConsole$Ring"), (Jvm.Cond.instantiable "PadConsole$Ring" (6 : Nat)), (Jvm.Cond.methodLinkNest "PadConsole$Clock" (9 : Nat) ({ cls := "PadConsole$Ring", name := "<init>", desc := "()V" } : Jvm.MethodName) "PadConsole"), (Jvm.Cond.instanceMethod ({ cls := "PadConsole$Ring", name := "<init>", desc := "()V" } : Jvm.MethodName)), (Jvm.Cond.code ({ cls := "PadConsole$Ring", name := "<init>", desc := "()V" } : Jvm.MethodName) prog_8_method_1_code (1 : Nat) (Option.none : Option Jvm.ClassFile.FieldType)), (Jvm.Cond.methodLink "PadConsole$Ring" (1 : Nat) ({ cls := "java/lang/Object", name := "<init>", desc := "()V" } : Jvm.MethodName)), (Jvm.Cond.fieldLink "PadConsole$Ring" (9 : Nat) "PadConsole$Ring" "values" "[J"), (Jvm.Cond.fieldLink "PadConsole$Ring" (13 : Nat) "PadConsole$Ring" "kept" "[J"), (Jvm.Cond.fieldLink "PadConsole$Ring" (16 : Nat) "PadConsole$Ring" "first" "I")]
noncomputable def tb3_7 : List Jvm.Cond := [(Jvm.Cond.fieldLink "PadConsole$Ring" (20 : Nat) "PadConsole$Ring" "count" "I"), (Jvm.Cond.fieldLink "PadConsole$Ring" (29 : Nat) "PadConsole$Ring" "firstKept" "I"), (Jvm.Cond.fieldLink "PadConsole$Ring" (32 : Nat) "PadConsole$Ring" "countKept" "I"), (Jvm.Cond.laysFinal "PadConsole$Ring" "PadConsole$Ring" "values" "[J"), (Jvm.Cond.soleField "PadConsole$Ring" "values"), (Jvm.Cond.laysFinal "PadConsole$Ring" "PadConsole$Ring" "kept" "[J"), (Jvm.Cond.soleField "PadConsole$Ring" "kept"), (Jvm.Cond.lays "PadConsole$Ring" "PadConsole$Ring" "first" "I"), (Jvm.Cond.soleField "PadConsole$Ring" "first"), (Jvm.Cond.lays "PadConsole$Ring" "PadConsole$Ring" "count" "I"), (Jvm.Cond.soleField "PadConsole$Ring" "count"), (Jvm.Cond.lays "PadConsole$Ring" "PadConsole$Ring" "firstKept" "I"), (Jvm.Cond.soleField "PadConsole$Ring" "firstKept"), (Jvm.Cond.lays "PadConsole$Ring" "PadConsole$Ring" "countKept" "I"), (Jvm.Cond.soleField "PadConsole$Ring" "countKept"), (Jvm.Cond.superclass "PadConsole$Ring" "java/lang/Object")]
noncomputable def tb3_8 : List Jvm.Cond := [(Jvm.Cond.arrayClass Jvm.ClassFile.FieldType.long), (Jvm.Cond.fieldLink "PadConsole$Clock" (26 : Nat) "PadConsole$Clock" "tones" "LPadConsole$Sound;"), (Jvm.Cond.fieldLink "PadConsole$Clock" (30 : Nat) "PadConsole$Clock" "synth" "LPadConsole$Waves;"), (Jvm.Cond.fieldLink "PadConsole$Clock" (10 : Nat) "PadConsole$Clock" "samples" "LPadConsole$Ring;"), (Jvm.Cond.fieldLink "PadConsole" (293 : Nat) "PadConsole$Clock" "samples" "LPadConsole$Ring;"), (Jvm.Cond.fieldLink "PadConsole$Clock" (16 : Nat) "PadConsole$Clock" "mixes" "LPadConsole$Ring;"), (Jvm.Cond.fieldLink "PadConsole" (308 : Nat) "PadConsole$Clock" "mixes" "LPadConsole$Ring;"), (Jvm.Cond.fieldLink "PadConsole$Clock" (19 : Nat) "PadConsole$Clock" "counts" "[J"), (Jvm.Cond.fieldLink "PadConsole$Clock" (23 : Nat) "PadConsole$Clock" "kept" "[J"), (Jvm.Cond.laysFinal "PadConsole$Clock" "PadConsole$Clock" "tones" "LPadConsole$Sound;"), (Jvm.Cond.soleField "PadConsole$Clock" "tones"), (Jvm.Cond.laysFinal "PadConsole$Clock" "PadConsole$Clock" "synth" "LPadConsole$Waves;"), (Jvm.Cond.soleField "PadConsole$Clock" "synth"), (Jvm.Cond.laysFinal "PadConsole$Clock" "PadConsole$Clock" "samples" "LPadConsole$Ring;"), (Jvm.Cond.soleField "PadConsole$Clock" "samples"), (Jvm.Cond.laysFinal "PadConsole$Clock" "PadConsole$Clock" "mixes" "LPadConsole$Ring;")]
noncomputable def tb3_9 : List Jvm.Cond := [(Jvm.Cond.soleField "PadConsole$Clock" "mixes"), (Jvm.Cond.laysFinal "PadConsole$Clock" "PadConsole$Clock" "counts" "[J"), (Jvm.Cond.soleField "PadConsole$Clock" "counts"), (Jvm.Cond.laysFinal "PadConsole$Clock" "PadConsole$Clock" "kept" "[J"), (Jvm.Cond.soleField "PadConsole$Clock" "kept"), (Jvm.Cond.superclass "PadConsole$Clock" "java/lang/Object"), (Jvm.Cond.classLink "PadConsole" (79 : Nat) "PadConsole$Desk"), (Jvm.Cond.instantiable "PadConsole$Desk" (6 : Nat)), (Jvm.Cond.methodLink "PadConsole" (81 : Nat) ({ cls := "PadConsole$Desk", name := "<init>", desc := "()V" } : Jvm.MethodName)), (Jvm.Cond.instanceMethod ({ cls := "PadConsole$Desk", name := "<init>", desc := "()V" } : Jvm.MethodName)), (Jvm.Cond.code ({ cls := "PadConsole$Desk", name := "<init>", desc := "()V" } : Jvm.MethodName) prog_3_method_1_code (1 : Nat) (Option.none : Option Jvm.ClassFile.FieldType)), (Jvm.Cond.methodLink "PadConsole$Desk" (1 : Nat) ({ cls := "java/lang/Object", name := "<init>", desc := "()V" } : Jvm.MethodName)), (Jvm.Cond.methodLink "PadConsole$Desk" (25 : Nat) ({ cls := "java/util/Arrays", name := "fill", desc := "([II)V" } : Jvm.MethodName)), (Jvm.Cond.fieldLink "PadConsole$Desk" (9 : Nat) "PadConsole$Desk" "stops" "[I"), (Jvm.Cond.fieldLink "PadConsole$Desk" (13 : Nat) "PadConsole$Desk" "stopsKept" "[I"), (Jvm.Cond.fieldLink "PadConsole$Desk" (16 : Nat) "PadConsole$Desk" "plans" "[I")]
noncomputable def tb3_10 : List Jvm.Cond := [(Jvm.Cond.fieldLink "PadConsole$Desk" (19 : Nat) "PadConsole$Desk" "plansKept" "[I"), (Jvm.Cond.fieldLink "PadConsole$Desk" (22 : Nat) "PadConsole$Desk" "steps" "[I"), (Jvm.Cond.fieldLink "PadConsole$Desk" (37 : Nat) "PadConsole$Desk" "nextStep" "I"), (Jvm.Cond.laysFinal "PadConsole$Desk" "PadConsole$Desk" "stops" "[I"), (Jvm.Cond.soleField "PadConsole$Desk" "stops"), (Jvm.Cond.laysFinal "PadConsole$Desk" "PadConsole$Desk" "stopsKept" "[I"), (Jvm.Cond.soleField "PadConsole$Desk" "stopsKept"), (Jvm.Cond.laysFinal "PadConsole$Desk" "PadConsole$Desk" "plans" "[I"), (Jvm.Cond.soleField "PadConsole$Desk" "plans"), (Jvm.Cond.laysFinal "PadConsole$Desk" "PadConsole$Desk" "plansKept" "[I"), (Jvm.Cond.soleField "PadConsole$Desk" "plansKept"), (Jvm.Cond.laysFinal "PadConsole$Desk" "PadConsole$Desk" "steps" "[I"), (Jvm.Cond.soleField "PadConsole$Desk" "steps"), (Jvm.Cond.lays "PadConsole$Desk" "PadConsole$Desk" "nextStep" "I"), (Jvm.Cond.soleField "PadConsole$Desk" "nextStep"), (Jvm.Cond.superclass "PadConsole$Desk" "java/lang/Object")]
noncomputable def tb3_11 : List Jvm.Cond := [(Jvm.Cond.classLink "PadConsole" (86 : Nat) "PadConsole$Teller"), (Jvm.Cond.instantiable "PadConsole$Teller" (11 : Nat)), (Jvm.Cond.methodLink "PadConsole" (88 : Nat) ({ cls := "PadConsole$Teller", name := "<init>", desc := "(LPadConsole$Memory;)V" } : Jvm.MethodName)), (Jvm.Cond.instanceMethod ({ cls := "PadConsole$Teller", name := "<init>", desc := "(LPadConsole$Memory;)V" } : Jvm.MethodName)), (Jvm.Cond.code ({ cls := "PadConsole$Teller", name := "<init>", desc := "(LPadConsole$Memory;)V" } : Jvm.MethodName) prog_10_method_1_code (2 : Nat) (Option.none : Option Jvm.ClassFile.FieldType)), (Jvm.Cond.methodLink "PadConsole$Teller" (1 : Nat) ({ cls := "java/lang/Object", name := "<init>", desc := "()V" } : Jvm.MethodName)), (Jvm.Cond.fieldLink "PadConsole$Teller" (13 : Nat) "PadConsole$Teller" "memory" "LPadConsole$Memory;"), (Jvm.Cond.fieldLink "PadConsole$Teller" (9 : Nat) "PadConsole$Teller" "signs" "[I"), (Jvm.Cond.fieldLink "PadConsole$Teller" (25 : Nat) "PadConsole$Teller" "length" "I"), (Jvm.Cond.fieldLink "PadConsole" (197 : Nat) "PadConsole$Teller" "length" "I"), (Jvm.Cond.fieldLink "PadConsole$Teller" (18 : Nat) "PadConsole$Teller" "at" "I"), (Jvm.Cond.fieldLink "PadConsole$Teller" (22 : Nat) "PadConsole$Teller" "count" "I"), (Jvm.Cond.fieldLink "PadConsole$Teller" (61 : Nat) "PadConsole$Teller" "x" "I"), (Jvm.Cond.fieldLink "PadConsole$Teller" (64 : Nat) "PadConsole$Teller" "y" "I"), (Jvm.Cond.fieldLink "PadConsole$Teller" (67 : Nat) "PadConsole$Teller" "z" "I"), (Jvm.Cond.fieldLink "PadConsole$Teller" (28 : Nat) "PadConsole$Teller" "prefix" "I")]
noncomputable def tb3_12 : List Jvm.Cond := [(Jvm.Cond.fieldLink "PadConsole$Teller" (31 : Nat) "PadConsole$Teller" "beside" "Z"), (Jvm.Cond.fieldLink "PadConsole$Teller" (70 : Nat) "PadConsole$Teller" "early" "I"), (Jvm.Cond.laysFinal "PadConsole$Teller" "PadConsole$Teller" "memory" "LPadConsole$Memory;"), (Jvm.Cond.soleField "PadConsole$Teller" "memory"), (Jvm.Cond.laysFinal "PadConsole$Teller" "PadConsole$Teller" "signs" "[I"), (Jvm.Cond.soleField "PadConsole$Teller" "signs"), (Jvm.Cond.lays "PadConsole$Teller" "PadConsole$Teller" "length" "I"), (Jvm.Cond.soleField "PadConsole$Teller" "length"), (Jvm.Cond.lays "PadConsole$Teller" "PadConsole$Teller" "at" "I"), (Jvm.Cond.soleField "PadConsole$Teller" "at"), (Jvm.Cond.lays "PadConsole$Teller" "PadConsole$Teller" "count" "I"), (Jvm.Cond.soleField "PadConsole$Teller" "count"), (Jvm.Cond.lays "PadConsole$Teller" "PadConsole$Teller" "x" "I"), (Jvm.Cond.soleField "PadConsole$Teller" "x"), (Jvm.Cond.lays "PadConsole$Teller" "PadConsole$Teller" "y" "I"), (Jvm.Cond.soleField "PadConsole$Teller" "y")]
noncomputable def tb3_13 : List Jvm.Cond := [(Jvm.Cond.lays "PadConsole$Teller" "PadConsole$Teller" "z" "I"), (Jvm.Cond.soleField "PadConsole$Teller" "z"), (Jvm.Cond.lays "PadConsole$Teller" "PadConsole$Teller" "prefix" "I"), (Jvm.Cond.soleField "PadConsole$Teller" "prefix"), (Jvm.Cond.lays "PadConsole$Teller" "PadConsole$Teller" "beside" "Z"), (Jvm.Cond.soleField "PadConsole$Teller" "beside"), (Jvm.Cond.lays "PadConsole$Teller" "PadConsole$Teller" "early" "I"), (Jvm.Cond.soleField "PadConsole$Teller" "early"), (Jvm.Cond.superclass "PadConsole$Teller" "java/lang/Object"), (Jvm.Cond.fieldLink "PadConsole" (7 : Nat) "PadConsole" "handy" "Z"), (Jvm.Cond.fieldLink "PadConsole" (16 : Nat) "PadConsole" "memory" "LPadConsole$Memory;"), (Jvm.Cond.fieldLink "PadConsole" (25 : Nat) "PadConsole" "screen" "LPadConsole$Video;"), (Jvm.Cond.fieldLink "PadConsole" (34 : Nat) "PadConsole" "painter" "LPadConsole$Painter;"), (Jvm.Cond.fieldLink "PadConsole" (41 : Nat) "PadConsole" "tones" "LPadConsole$Sound;"), (Jvm.Cond.fieldLink "PadConsole" (48 : Nat) "PadConsole" "synth" "LPadConsole$Waves;"), (Jvm.Cond.fieldLink "PadConsole" (57 : Nat) "PadConsole" "ports" "LPadConsole$Ports;")]
noncomputable def tb3_14 : List Jvm.Cond := [(Jvm.Cond.fieldLink "PadConsole" (66 : Nat) "PadConsole" "processor" "LPadConsole$Processor;"), (Jvm.Cond.fieldLink "PadConsole" (75 : Nat) "PadConsole" "clock" "LPadConsole$Clock;"), (Jvm.Cond.fieldLink "PadConsole" (82 : Nat) "PadConsole" "desk" "LPadConsole$Desk;"), (Jvm.Cond.fieldLink "PadConsole" (91 : Nat) "PadConsole" "teller" "LPadConsole$Teller;"), (Jvm.Cond.fieldLink "PadConsole" (139 : Nat) "PadConsole" "saved" "Z"), (Jvm.Cond.laysFinal "PadConsole" "PadConsole" "handy" "Z"), (Jvm.Cond.soleField "PadConsole" "handy"), (Jvm.Cond.laysFinal "PadConsole" "PadConsole" "memory" "LPadConsole$Memory;"), (Jvm.Cond.soleField "PadConsole" "memory"), (Jvm.Cond.laysFinal "PadConsole" "PadConsole" "screen" "LPadConsole$Video;"), (Jvm.Cond.soleField "PadConsole" "screen"), (Jvm.Cond.laysFinal "PadConsole" "PadConsole" "painter" "LPadConsole$Painter;"), (Jvm.Cond.soleField "PadConsole" "painter"), (Jvm.Cond.laysFinal "PadConsole" "PadConsole" "tones" "LPadConsole$Sound;"), (Jvm.Cond.soleField "PadConsole" "tones"), (Jvm.Cond.laysFinal "PadConsole" "PadConsole" "synth" "LPadConsole$Waves;")]
set_option maxRecDepth 100000 in
theorem tbe3 : tables_1_3 = (tb3_0 ++ (tb3_1 ++ (tb3_2 ++ (tb3_3 ++ (tb3_4 ++ (tb3_5 ++ (tb3_6 ++ (tb3_7 ++ (tb3_8 ++ (tb3_9 ++ (tb3_10 ++ (tb3_11 ++ (tb3_12 ++ (tb3_13 ++ tb3_14)))))))))))))) := rfl
theorem tm3_0 {w : Jvm.Cond} (h : w ∈ tb3_0) : w ∈ tables_1_3 := by
  rw [tbe3]
  exact (List.mem_append_left _ h)
theorem tm3_1 {w : Jvm.Cond} (h : w ∈ tb3_1) : w ∈ tables_1_3 := by
  rw [tbe3]
  exact (List.mem_append_right _ (List.mem_append_left _ h))
theorem tm3_2 {w : Jvm.Cond} (h : w ∈ tb3_2) : w ∈ tables_1_3 := by
  rw [tbe3]
  exact (List.mem_append_right _ (List.mem_append_right _ (List.mem_append_left _ h)))
theorem tm3_3 {w : Jvm.Cond} (h : w ∈ tb3_3) : w ∈ tables_1_3 := by
  rw [tbe3]
  exact (List.mem_append_right _ (List.mem_append_right _ (List.mem_append_right _ (List.mem_append_left _ h))))
theorem tm3_4 {w : Jvm.Cond} (h : w ∈ tb3_4) : w ∈ tables_1_3 := by
  rw [tbe3]
  exact (List.mem_append_right _ (List.mem_append_right _ (List.mem_append_right _ (List.mem_append_right _ (List.mem_append_left _ h)))))
theorem tm3_5 {w : Jvm.Cond} (h : w ∈ tb3_5) : w ∈ tables_1_3 := by
  rw [tbe3]
  exact (List.mem_append_right _ (List.mem_append_right _ (List.mem_append_right _ (List.mem_append_right _ (List.mem_append_right _ (List.mem_append_left _ h))))))
theorem tm3_6 {w : Jvm.Cond} (h : w ∈ tb3_6) : w ∈ tables_1_3 := by
  rw [tbe3]
  exact (List.mem_append_right _ (List.mem_append_right _ (List.mem_append_right _ (List.mem_append_right _ (List.mem_append_right _ (List.mem_append_right _ (List.mem_append_left _ h)))))))
theorem tm3_7 {w : Jvm.Cond} (h : w ∈ tb3_7) : w ∈ tables_1_3 := by
  rw [tbe3]
  exact (List.mem_append_right _ (List.mem_append_right _ (List.mem_append_right _ (List.mem_append_right _ (List.mem_append_right _ (List.mem_append_right _ (List.mem_append_right _ (List.mem_append_left _ h))))))))
theorem tm3_8 {w : Jvm.Cond} (h : w ∈ tb3_8) : w ∈ tables_1_3 := by
  rw [tbe3]
  exact (List.mem_append_right _ (List.mem_append_right _ (List.mem_append_right _ (List.mem_append_right _ (List.mem_append_right _ (List.mem_append_right _ (List.mem_append_right _ (List.mem_append_right _ (List.mem_append_left _ h)))))))))
theorem tm3_9 {w : Jvm.Cond} (h : w ∈ tb3_9) : w ∈ tables_1_3 := by
  rw [tbe3]
  exact (List.mem_append_right _ (List.mem_append_right _ (List.mem_append_right _ (List.mem_append_right _ (List.mem_append_right _ (List.mem_append_right _ (List.mem_append_right _ (List.mem_append_right _ (List.mem_append_right _ (List.mem_append_left _ h))))))))))
theorem tm3_10 {w : Jvm.Cond} (h : w ∈ tb3_10) : w ∈ tables_1_3 := by
  rw [tbe3]
  exact (List.mem_append_right _ (List.mem_append_right _ (List.mem_append_right _ (List.mem_append_right _ (List.mem_append_right _ (List.mem_append_right _ (List.mem_append_right _ (List.mem_append_right _ (List.mem_append_right _ (List.mem_append_right _ (List.mem_append_left _ h)))))))))))
theorem tm3_11 {w : Jvm.Cond} (h : w ∈ tb3_11) : w ∈ tables_1_3 := by
  rw [tbe3]
  exact (List.mem_append_right _ (List.mem_append_right _ (List.mem_append_right _ (List.mem_append_right _ (List.mem_append_right _ (List.mem_append_right _ (List.mem_append_right _ (List.mem_append_right _ (List.mem_append_right _ (List.mem_append_right _ (List.mem_append_right _ (List.mem_append_left _ h))))))))))))
theorem tm3_12 {w : Jvm.Cond} (h : w ∈ tb3_12) : w ∈ tables_1_3 := by
  rw [tbe3]
  exact (List.mem_append_right _ (List.mem_append_right _ (List.mem_append_right _ (List.mem_append_right _ (List.mem_append_right _ (List.mem_append_right _ (List.mem_append_right _ (List.mem_append_right _ (List.mem_append_right _ (List.mem_append_right _ (List.mem_append_right _ (List.mem_append_right _ (List.mem_append_left _ h)))))))))))))
theorem tm3_13 {w : Jvm.Cond} (h : w ∈ tb3_13) : w ∈ tables_1_3 := by
  rw [tbe3]
  exact (List.mem_append_right _ (List.mem_append_right _ (List.mem_append_right _ (List.mem_append_right _ (List.mem_append_right _ (List.mem_append_right _ (List.mem_append_right _ (List.mem_append_right _ (List.mem_append_right _ (List.mem_append_right _ (List.mem_append_right _ (List.mem_append_right _ (List.mem_append_right _ (List.mem_append_left _ h))))))))))))))
theorem tm3_14 {w : Jvm.Cond} (h : w ∈ tb3_14) : w ∈ tables_1_3 := by
  rw [tbe3]
  exact (List.mem_append_right _ (List.mem_append_right _ (List.mem_append_right _ (List.mem_append_right _ (List.mem_append_right _ (List.mem_append_right _ (List.mem_append_right _ (List.mem_append_right _ (List.mem_append_right _ (List.mem_append_right _ (List.mem_append_right _ (List.mem_append_right _ (List.mem_append_right _ (List.mem_append_right _ h))))))))))))))
noncomputable def tb4_0 : List Jvm.Cond := [(Jvm.Cond.soleField "PadConsole" "synth"), (Jvm.Cond.laysFinal "PadConsole" "PadConsole" "ports" "LPadConsole$Ports;"), (Jvm.Cond.soleField "PadConsole" "ports"), (Jvm.Cond.laysFinal "PadConsole" "PadConsole" "processor" "LPadConsole$Processor;"), (Jvm.Cond.soleField "PadConsole" "processor"), (Jvm.Cond.laysFinal "PadConsole" "PadConsole" "clock" "LPadConsole$Clock;"), (Jvm.Cond.soleField "PadConsole" "clock"), (Jvm.Cond.laysFinal "PadConsole" "PadConsole" "desk" "LPadConsole$Desk;"), (Jvm.Cond.soleField "PadConsole" "desk"), (Jvm.Cond.laysFinal "PadConsole" "PadConsole" "teller" "LPadConsole$Teller;"), (Jvm.Cond.soleField "PadConsole" "teller"), (Jvm.Cond.lays "PadConsole" "PadConsole" "saved" "Z"), (Jvm.Cond.soleField "PadConsole" "saved"), (Jvm.Cond.superclass "PadConsole" "java/lang/Object"), (Jvm.Cond.methodLink "PadConsoleLaw" (120 : Nat) ({ cls := "PadConsole", name := "load", desc := "()I" } : Jvm.MethodName)), (Jvm.Cond.instanceMethod ({ cls := "PadConsole", name := "load", desc := "()I" } : Jvm.MethodName))]
noncomputable def tb4_1 : List Jvm.Cond := [(Jvm.Cond.selects "PadConsole" ({ cls := "PadConsole", name := "load", desc := "()I" } : Jvm.MethodName) ({ cls := "PadConsole", name := "load", desc := "()I" } : Jvm.MethodName)), (Jvm.Cond.code ({ cls := "PadConsole", name := "load", desc := "()I" } : Jvm.MethodName) prog_1_method_5_code (2 : Nat) (Option.some Jvm.ClassFile.FieldType.int)), (Jvm.Cond.methodLink "PadConsole" (129 : Nat) ({ cls := "PadConsole$Memory", name := "takeTape", desc := "()I" } : Jvm.MethodName)), (Jvm.Cond.instanceMethod ({ cls := "PadConsole$Memory", name := "takeTape", desc := "()I" } : Jvm.MethodName)), (Jvm.Cond.selects "PadConsole$Memory" ({ cls := "PadConsole$Memory", name := "takeTape", desc := "()I" } : Jvm.MethodName) ({ cls := "PadConsole$Memory", name := "takeTape", desc := "()I" } : Jvm.MethodName)), (Jvm.Cond.code ({ cls := "PadConsole$Memory", name := "takeTape", desc := "()I" } : Jvm.MethodName) prog_4_method_5_code (4 : Nat) (Option.some Jvm.ClassFile.FieldType.int)), (Jvm.Cond.methodLink "PadConsole$Memory" (61 : Nat) ({ cls := "PadConsole$Memory", name := "findHeader", desc := "()I" } : Jvm.MethodName)), (Jvm.Cond.privateMethod ({ cls := "PadConsole$Memory", name := "findHeader", desc := "()I" } : Jvm.MethodName)), (Jvm.Cond.instanceMethod ({ cls := "PadConsole$Memory", name := "findHeader", desc := "()I" } : Jvm.MethodName)), (Jvm.Cond.code ({ cls := "PadConsole$Memory", name := "findHeader", desc := "()I" } : Jvm.MethodName) prog_4_method_6_code (7 : Nat) (Option.some Jvm.ClassFile.FieldType.int)), (Jvm.Cond.fieldLink "PadConsole$Memory" (71 : Nat) "PadConsole$Memory" "HEADER_PLACES" "[I"), (Jvm.Cond.laysStatic "PadConsole$Memory" "HEADER_PLACES" "[I"), (Jvm.Cond.methodLink "PadConsole$Memory" (74 : Nat) ({ cls := "PadConsole$Memory", name := "romByte", desc := "(I)I" } : Jvm.MethodName)), (Jvm.Cond.privateMethod ({ cls := "PadConsole$Memory", name := "romByte", desc := "(I)I" } : Jvm.MethodName)), (Jvm.Cond.instanceMethod ({ cls := "PadConsole$Memory", name := "romByte", desc := "(I)I" } : Jvm.MethodName)), (Jvm.Cond.code ({ cls := "PadConsole$Memory", name := "romByte", desc := "(I)I" } : Jvm.MethodName) prog_4_method_8_code (2 : Nat) (Option.some Jvm.ClassFile.FieldType.int))]
noncomputable def tb4_2 : List Jvm.Cond := [(Jvm.Cond.fieldLink "PadConsole$Memory" (78 : Nat) "PadConsole$Memory" "HEADER_SIGNS" "[I"), (Jvm.Cond.laysStatic "PadConsole$Memory" "HEADER_SIGNS" "[I"), (Jvm.Cond.methodLink "PadConsole$Memory" (65 : Nat) ({ cls := "PadConsole$Memory", name := "findPaging", desc := "()I" } : Jvm.MethodName)), (Jvm.Cond.privateMethod ({ cls := "PadConsole$Memory", name := "findPaging", desc := "()I" } : Jvm.MethodName)), (Jvm.Cond.instanceMethod ({ cls := "PadConsole$Memory", name := "findPaging", desc := "()I" } : Jvm.MethodName)), (Jvm.Cond.code ({ cls := "PadConsole$Memory", name := "findPaging", desc := "()I" } : Jvm.MethodName) prog_4_method_7_code (1 : Nat) (Option.some Jvm.ClassFile.FieldType.int)), (Jvm.Cond.constant "PadConsole$Memory" (81 : Nat) (49152 : Int32)), (Jvm.Cond.methodLink "PadConsole$Memory" (82 : Nat) ({ cls := "PadConsole$Memory", name := "romWord", desc := "(I)I" } : Jvm.MethodName)), (Jvm.Cond.privateMethod ({ cls := "PadConsole$Memory", name := "romWord", desc := "(I)I" } : Jvm.MethodName)), (Jvm.Cond.instanceMethod ({ cls := "PadConsole$Memory", name := "romWord", desc := "(I)I" } : Jvm.MethodName)), (Jvm.Cond.code ({ cls := "PadConsole$Memory", name := "romWord", desc := "(I)I" } : Jvm.MethodName) prog_4_method_9_code (2 : Nat) (Option.some Jvm.ClassFile.FieldType.int)), (Jvm.Cond.constant "PadConsole$Memory" (85 : Nat) (65536 : Int32)), (Jvm.Cond.methodLink "PadConsole" (133 : Nat) ({ cls := "PadConsole$Memory", name := "clearRam", desc := "()V" } : Jvm.MethodName)), (Jvm.Cond.instanceMethod ({ cls := "PadConsole$Memory", name := "clearRam", desc := "()V" } : Jvm.MethodName)), (Jvm.Cond.selects "PadConsole$Memory" ({ cls := "PadConsole$Memory", name := "clearRam", desc := "()V" } : Jvm.MethodName) ({ cls := "PadConsole$Memory", name := "clearRam", desc := "()V" } : Jvm.MethodName)), (Jvm.Cond.code ({ cls := "PadConsole$Memory", name := "clearRam", desc := "()V" } : Jvm.MethodName) prog_4_method_21_code (1 : Nat) (Option.none : Option Jvm.ClassFile.FieldType))]
noncomputable def tb4_3 : List Jvm.Cond := [(Jvm.Cond.methodLink "PadConsole$Memory" (103 : Nat) ({ cls := "java/util/Arrays", name := "fill", desc := "([II)V" } : Jvm.MethodName)), (Jvm.Cond.methodLink "PadConsole" (136 : Nat) ({ cls := "PadConsole", name := "clearAll", desc := "()V" } : Jvm.MethodName)), (Jvm.Cond.privateMethod ({ cls := "PadConsole", name := "clearAll", desc := "()V" } : Jvm.MethodName)), (Jvm.Cond.instanceMethod ({ cls := "PadConsole", name := "clearAll", desc := "()V" } : Jvm.MethodName)), (Jvm.Cond.code ({ cls := "PadConsole", name := "clearAll", desc := "()V" } : Jvm.MethodName) prog_1_method_38_code (1 : Nat) (Option.none : Option Jvm.ClassFile.FieldType)), (Jvm.Cond.methodLink "PadConsole" (338 : Nat) ({ cls := "PadConsole$Memory", name := "clearPages", desc := "()V" } : Jvm.MethodName)), (Jvm.Cond.instanceMethod ({ cls := "PadConsole$Memory", name := "clearPages", desc := "()V" } : Jvm.MethodName)), (Jvm.Cond.selects "PadConsole$Memory" ({ cls := "PadConsole$Memory", name := "clearPages", desc := "()V" } : Jvm.MethodName) ({ cls := "PadConsole$Memory", name := "clearPages", desc := "()V" } : Jvm.MethodName)), (Jvm.Cond.code ({ cls := "PadConsole$Memory", name := "clearPages", desc := "()V" } : Jvm.MethodName) prog_4_method_22_code (1 : Nat) (Option.none : Option Jvm.ClassFile.FieldType)), (Jvm.Cond.methodLink "PadConsole" (341 : Nat) ({ cls := "PadConsole$Video", name := "clear", desc := "()V" } : Jvm.MethodName)), (Jvm.Cond.instanceMethod ({ cls := "PadConsole$Video", name := "clear", desc := "()V" } : Jvm.MethodName)), (Jvm.Cond.selects "PadConsole$Video" ({ cls := "PadConsole$Video", name := "clear", desc := "()V" } : Jvm.MethodName) ({ cls := "PadConsole$Video", name := "clear", desc := "()V" } : Jvm.MethodName)), (Jvm.Cond.code ({ cls := "PadConsole$Video", name := "clear", desc := "()V" } : Jvm.MethodName) prog_11_method_2_code (1 : Nat) (Option.none : Option Jvm.ClassFile.FieldType)), (Jvm.Cond.methodLink "PadConsole$Video" (30 : Nat) ({ cls := "java/util/Arrays", name := "fill", desc := "([II)V" } : Jvm.MethodName)), (Jvm.Cond.methodLink "PadConsole" (344 : Nat) ({ cls := "PadConsole$Sound", name := "clear", desc := "()V" } : Jvm.MethodName)), (Jvm.Cond.methodLink "PadConsole" (345 : Nat) ({ cls := "PadConsole$Waves", name := "clear", desc := "()V" } : Jvm.MethodName))]
noncomputable def tb4_4 : List Jvm.Cond := [(Jvm.Cond.methodLink "PadConsole" (346 : Nat) ({ cls := "PadConsole$Ports", name := "clear", desc := "()V" } : Jvm.MethodName)), (Jvm.Cond.methodLink "PadConsole" (347 : Nat) ({ cls := "PadConsole$Processor", name := "clear", desc := "()V" } : Jvm.MethodName)), (Jvm.Cond.instanceMethod ({ cls := "PadConsole$Processor", name := "clear", desc := "()V" } : Jvm.MethodName)), (Jvm.Cond.selects "PadConsole$Processor" ({ cls := "PadConsole$Processor", name := "clear", desc := "()V" } : Jvm.MethodName) ({ cls := "PadConsole$Processor", name := "clear", desc := "()V" } : Jvm.MethodName)), (Jvm.Cond.code ({ cls := "PadConsole$Processor", name := "clear", desc := "()V" } : Jvm.MethodName) prog_7_method_2_code (1 : Nat) (Option.none : Option Jvm.ClassFile.FieldType)), (Jvm.Cond.methodLink "PadConsole$Processor" (29 : Nat) ({ cls := "java/util/Arrays", name := "fill", desc := "([II)V" } : Jvm.MethodName)), (Jvm.Cond.methodLink "PadConsoleLaw" (134 : Nat) ({ cls := "PadConsole", name := "reset", desc := "()V" } : Jvm.MethodName)), (Jvm.Cond.instanceMethod ({ cls := "PadConsole", name := "reset", desc := "()V" } : Jvm.MethodName)), (Jvm.Cond.selects "PadConsole" ({ cls := "PadConsole", name := "reset", desc := "()V" } : Jvm.MethodName) ({ cls := "PadConsole", name := "reset", desc := "()V" } : Jvm.MethodName)), (Jvm.Cond.code ({ cls := "PadConsole", name := "reset", desc := "()V" } : Jvm.MethodName) prog_1_method_9_code (1 : Nat) (Option.none : Option Jvm.ClassFile.FieldType)), (Jvm.Cond.methodLink "PadConsoleLaw" (138 : Nat) ({ cls := "PadConsole", name := "pause", desc := "()Z" } : Jvm.MethodName)), (Jvm.Cond.instanceMethod ({ cls := "PadConsole", name := "pause", desc := "()Z" } : Jvm.MethodName)), (Jvm.Cond.selects "PadConsole" ({ cls := "PadConsole", name := "pause", desc := "()Z" } : Jvm.MethodName) ({ cls := "PadConsole", name := "pause", desc := "()Z" } : Jvm.MethodName)), (Jvm.Cond.code ({ cls := "PadConsole", name := "pause", desc := "()Z" } : Jvm.MethodName) prog_1_method_10_code (1 : Nat) (Option.some Jvm.ClassFile.FieldType.boolean)), (Jvm.Cond.methodLink "PadConsole" (157 : Nat) ({ cls := "PadConsole$Processor", name := "askForPause", desc := "()V" } : Jvm.MethodName)), (Jvm.Cond.instanceMethod ({ cls := "PadConsole$Processor", name := "askForPause", desc := "()V" } : Jvm.MethodName))]
noncomputable def tb4_5 : List Jvm.Cond := [(Jvm.Cond.selects "PadConsole$Processor" ({ cls := "PadConsole$Processor", name := "askForPause", desc := "()V" } : Jvm.MethodName) ({ cls := "PadConsole$Processor", name := "askForPause", desc := "()V" } : Jvm.MethodName)), (Jvm.Cond.code ({ cls := "PadConsole$Processor", name := "askForPause", desc := "()V" } : Jvm.MethodName) prog_7_method_7_code (1 : Nat) (Option.none : Option Jvm.ClassFile.FieldType)), (Jvm.Cond.methodLink "PadConsoleLaw" (147 : Nat) ({ cls := "PadConsole", name := "start", desc := "(Z)V" } : Jvm.MethodName)), (Jvm.Cond.instanceMethod ({ cls := "PadConsole", name := "start", desc := "(Z)V" } : Jvm.MethodName)), (Jvm.Cond.selects "PadConsole" ({ cls := "PadConsole", name := "start", desc := "(Z)V" } : Jvm.MethodName) ({ cls := "PadConsole", name := "start", desc := "(Z)V" } : Jvm.MethodName)), (Jvm.Cond.code ({ cls := "PadConsole", name := "start", desc := "(Z)V" } : Jvm.MethodName) prog_1_method_12_code (2 : Nat) (Option.none : Option Jvm.ClassFile.FieldType)), (Jvm.Cond.methodLink "PadConsole" (170 : Nat) ({ cls := "PadConsole$Ports", name := "holdStart", desc := "(Z)V" } : Jvm.MethodName)), (Jvm.Cond.instanceMethod ({ cls := "PadConsole$Ports", name := "holdStart", desc := "(Z)V" } : Jvm.MethodName)), (Jvm.Cond.selects "PadConsole$Ports" ({ cls := "PadConsole$Ports", name := "holdStart", desc := "(Z)V" } : Jvm.MethodName) ({ cls := "PadConsole$Ports", name := "holdStart", desc := "(Z)V" } : Jvm.MethodName)), (Jvm.Cond.code ({ cls := "PadConsole$Ports", name := "holdStart", desc := "(Z)V" } : Jvm.MethodName) prog_6_method_8_code (2 : Nat) (Option.none : Option Jvm.ClassFile.FieldType)), (Jvm.Cond.methodLink "PadConsoleLaw" (160 : Nat) ({ cls := "PadConsole", name := "tell", desc := "(I)I" } : Jvm.MethodName)), (Jvm.Cond.instanceMethod ({ cls := "PadConsole", name := "tell", desc := "(I)I" } : Jvm.MethodName)), (Jvm.Cond.selects "PadConsole" ({ cls := "PadConsole", name := "tell", desc := "(I)I" } : Jvm.MethodName) ({ cls := "PadConsole", name := "tell", desc := "(I)I" } : Jvm.MethodName)), (Jvm.Cond.code ({ cls := "PadConsole", name := "tell", desc := "(I)I" } : Jvm.MethodName) prog_1_method_15_code (2 : Nat) (Option.some Jvm.ClassFile.FieldType.int)), (Jvm.Cond.methodLink "PadConsole" (194 : Nat) ({ cls := "PadConsole$Teller", name := "write", desc := "(I)I" } : Jvm.MethodName)), (Jvm.Cond.instanceMethod ({ cls := "PadConsole$Teller", name := "write", desc := "(I)I" } : Jvm.MethodName))]
noncomputable def tb4_6 : List Jvm.Cond := [(Jvm.Cond.selects "PadConsole$Teller" ({ cls := "PadConsole$Teller", name := "write", desc := "(I)I" } : Jvm.MethodName) ({ cls := "PadConsole$Teller", name := "write", desc := "(I)I" } : Jvm.MethodName)), (Jvm.Cond.code ({ cls := "PadConsole$Teller", name := "write", desc := "(I)I" } : Jvm.MethodName) prog_10_method_2_code (4 : Nat) (Option.some Jvm.ClassFile.FieldType.int)), (Jvm.Cond.constant "PadConsole$Teller" (17 : Nat) (65535 : Int32)), (Jvm.Cond.methodLink "PadConsole$Teller" (35 : Nat) ({ cls := "PadConsole$Teller", name := "take", desc := "()I" } : Jvm.MethodName)), (Jvm.Cond.privateMethod ({ cls := "PadConsole$Teller", name := "take", desc := "()I" } : Jvm.MethodName)), (Jvm.Cond.instanceMethod ({ cls := "PadConsole$Teller", name := "take", desc := "()I" } : Jvm.MethodName)), (Jvm.Cond.code ({ cls := "PadConsole$Teller", name := "take", desc := "()I" } : Jvm.MethodName) prog_10_method_3_code (2 : Nat) (Option.some Jvm.ClassFile.FieldType.int)), (Jvm.Cond.methodLink "PadConsole$Teller" (39 : Nat) ({ cls := "PadConsole$Memory", name := "read", desc := "(I)I" } : Jvm.MethodName)), (Jvm.Cond.instanceMethod ({ cls := "PadConsole$Memory", name := "read", desc := "(I)I" } : Jvm.MethodName)), (Jvm.Cond.selects "PadConsole$Memory" ({ cls := "PadConsole$Memory", name := "read", desc := "(I)I" } : Jvm.MethodName) ({ cls := "PadConsole$Memory", name := "read", desc := "(I)I" } : Jvm.MethodName)), (Jvm.Cond.code ({ cls := "PadConsole$Memory", name := "read", desc := "(I)I" } : Jvm.MethodName) prog_4_method_15_code (7 : Nat) (Option.some Jvm.ClassFile.FieldType.int)), (Jvm.Cond.constant "PadConsole$Memory" (92 : Nat) (65535 : Int32)), (Jvm.Cond.methodLink "PadConsole$Memory" (93 : Nat) ({ cls := "PadConsole$Memory", name := "batteryIsIn", desc := "()Z" } : Jvm.MethodName)), (Jvm.Cond.privateMethod ({ cls := "PadConsole$Memory", name := "batteryIsIn", desc := "()Z" } : Jvm.MethodName)), (Jvm.Cond.instanceMethod ({ cls := "PadConsole$Memory", name := "batteryIsIn", desc := "()Z" } : Jvm.MethodName)), (Jvm.Cond.code ({ cls := "PadConsole$Memory", name := "batteryIsIn", desc := "()Z" } : Jvm.MethodName) prog_4_method_17_code (1 : Nat) (Option.some Jvm.ClassFile.FieldType.boolean))]
noncomputable def tb4_7 : List Jvm.Cond := [(Jvm.Cond.methodLink "PadConsole$Memory" (97 : Nat) ({ cls := "PadConsole$Memory", name := "batteryPlace", desc := "(I)I" } : Jvm.MethodName)), (Jvm.Cond.privateMethod ({ cls := "PadConsole$Memory", name := "batteryPlace", desc := "(I)I" } : Jvm.MethodName)), (Jvm.Cond.instanceMethod ({ cls := "PadConsole$Memory", name := "batteryPlace", desc := "(I)I" } : Jvm.MethodName)), (Jvm.Cond.code ({ cls := "PadConsole$Memory", name := "batteryPlace", desc := "(I)I" } : Jvm.MethodName) prog_4_method_18_code (2 : Nat) (Option.some Jvm.ClassFile.FieldType.int)), (Jvm.Cond.stringRef "PadConsole$Teller" (45 : Nat) "nop"), (Jvm.Cond.methodLink "PadConsole$Teller" (47 : Nat) ({ cls := "PadConsole$Teller", name := "put", desc := "(Ljava/lang/String;)V" } : Jvm.MethodName)), (Jvm.Cond.privateMethod ({ cls := "PadConsole$Teller", name := "put", desc := "(Ljava/lang/String;)V" } : Jvm.MethodName)), (Jvm.Cond.instanceMethod ({ cls := "PadConsole$Teller", name := "put", desc := "(Ljava/lang/String;)V" } : Jvm.MethodName)), (Jvm.Cond.code ({ cls := "PadConsole$Teller", name := "put", desc := "(Ljava/lang/String;)V" } : Jvm.MethodName) prog_10_method_12_code (6 : Nat) (Option.none : Option Jvm.ClassFile.FieldType)), (Jvm.Cond.methodLink "PadConsole$Teller" (169 : Nat) ({ cls := "java/lang/String", name := "length", desc := "()I" } : Jvm.MethodName)), (Jvm.Cond.methodLink "PadConsole$Teller" (173 : Nat) ({ cls := "java/lang/String", name := "charAt", desc := "(I)C" } : Jvm.MethodName)), (Jvm.Cond.instanceMethod ({ cls := "java/lang/String", name := "charAt", desc := "(I)C" } : Jvm.MethodName)), (Jvm.Cond.selects "java/lang/String" ({ cls := "java/lang/String", name := "charAt", desc := "(I)C" } : Jvm.MethodName) ({ cls := "java/lang/String", name := "charAt", desc := "(I)C" } : Jvm.MethodName)), (Jvm.Cond.code ({ cls := "java/lang/String", name := "charAt", desc := "(I)C" } : Jvm.MethodName) prog_23_method_56_code (2 : Nat) (Option.some Jvm.ClassFile.FieldType.char)), (Jvm.Cond.methodLink "java/lang/String" (492 : Nat) ({ cls := "java/lang/String", name := "isLatin1", desc := "()Z" } : Jvm.MethodName)), (Jvm.Cond.instanceMethod ({ cls := "java/lang/String", name := "isLatin1", desc := "()Z" } : Jvm.MethodName))]
noncomputable def tb4_8 : List Jvm.Cond := [(Jvm.Cond.selects "java/lang/String" ({ cls := "java/lang/String", name := "isLatin1", desc := "()Z" } : Jvm.MethodName) ({ cls := "java/lang/String", name := "isLatin1", desc := "()Z" } : Jvm.MethodName)), (Jvm.Cond.code ({ cls := "java/lang/String", name := "isLatin1", desc := "()Z" } : Jvm.MethodName) prog_23_method_154_code (1 : Nat) (Option.some Jvm.ClassFile.FieldType.boolean)), (Jvm.Cond.methodLink "java/lang/String" (495 : Nat) ({ cls := "java/lang/StringLatin1", name := "charAt", desc := "([BI)C" } : Jvm.MethodName)), (Jvm.Cond.static ({ cls := "java/lang/StringLatin1", name := "charAt", desc := "([BI)C" } : Jvm.MethodName)), (Jvm.Cond.code ({ cls := "java/lang/StringLatin1", name := "charAt", desc := "([BI)C" } : Jvm.MethodName) prog_25_method_2_code (2 : Nat) (Option.some Jvm.ClassFile.FieldType.char)), (Jvm.Cond.methodLink "java/lang/StringLatin1" (9 : Nat) ({ cls := "java/lang/String", name := "checkIndex", desc := "(II)V" } : Jvm.MethodName)), (Jvm.Cond.static ({ cls := "java/lang/String", name := "checkIndex", desc := "(II)V" } : Jvm.MethodName)), (Jvm.Cond.code ({ cls := "java/lang/String", name := "checkIndex", desc := "(II)V" } : Jvm.MethodName) prog_23_method_155_code (2 : Nat) (Option.none : Option Jvm.ClassFile.FieldType)), (Jvm.Cond.methodLink "java/lang/String" (1059 : Nat) ({ cls := "jdk/internal/util/Preconditions", name := "checkIndex", desc := "(IILjava/util/function/BiFunction;)I" } : Jvm.MethodName)), (Jvm.Cond.static ({ cls := "jdk/internal/util/Preconditions", name := "checkIndex", desc := "(IILjava/util/function/BiFunction;)I" } : Jvm.MethodName)), (Jvm.Cond.code ({ cls := "jdk/internal/util/Preconditions", name := "checkIndex", desc := "(IILjava/util/function/BiFunction;)I" } : Jvm.MethodName) prog_32_method_11_code (3 : Nat) (Option.some Jvm.ClassFile.FieldType.int)), (Jvm.Cond.methodLink "java/lang/String" (498 : Nat) ({ cls := "java/lang/StringUTF16", name := "charAt", desc := "([BI)C" } : Jvm.MethodName)), (Jvm.Cond.static ({ cls := "java/lang/StringUTF16", name := "charAt", desc := "([BI)C" } : Jvm.MethodName)), (Jvm.Cond.code ({ cls := "java/lang/StringUTF16", name := "charAt", desc := "([BI)C" } : Jvm.MethodName) prog_26_method_83_code (2 : Nat) (Option.some Jvm.ClassFile.FieldType.char)), (Jvm.Cond.methodLink "java/lang/StringUTF16" (67 : Nat) ({ cls := "java/lang/StringUTF16", name := "checkIndex", desc := "(I[B)V" } : Jvm.MethodName)), (Jvm.Cond.static ({ cls := "java/lang/StringUTF16", name := "checkIndex", desc := "(I[B)V" } : Jvm.MethodName))]
noncomputable def tb4_9 : List Jvm.Cond := [(Jvm.Cond.code ({ cls := "java/lang/StringUTF16", name := "checkIndex", desc := "(I[B)V" } : Jvm.MethodName) prog_26_method_91_code (2 : Nat) (Option.none : Option Jvm.ClassFile.FieldType)), (Jvm.Cond.methodLink "java/lang/StringUTF16" (414 : Nat) ({ cls := "java/lang/String", name := "checkIndex", desc := "(II)V" } : Jvm.MethodName)), (Jvm.Cond.methodLink "PadConsole$Teller" (177 : Nat) ({ cls := "PadConsole$Teller", name := "putMeant", desc := "(I)V" } : Jvm.MethodName)), (Jvm.Cond.privateMethod ({ cls := "PadConsole$Teller", name := "putMeant", desc := "(I)V" } : Jvm.MethodName)), (Jvm.Cond.instanceMethod ({ cls := "PadConsole$Teller", name := "putMeant", desc := "(I)V" } : Jvm.MethodName)), (Jvm.Cond.code ({ cls := "PadConsole$Teller", name := "putMeant", desc := "(I)V" } : Jvm.MethodName) prog_10_method_14_code (2 : Nat) (Option.none : Option Jvm.ClassFile.FieldType)), (Jvm.Cond.methodLink "PadConsole$Teller" (183 : Nat) ({ cls := "PadConsole$Teller", name := "putOne", desc := "(I)V" } : Jvm.MethodName)), (Jvm.Cond.privateMethod ({ cls := "PadConsole$Teller", name := "putOne", desc := "(I)V" } : Jvm.MethodName)), (Jvm.Cond.instanceMethod ({ cls := "PadConsole$Teller", name := "putOne", desc := "(I)V" } : Jvm.MethodName)), (Jvm.Cond.code ({ cls := "PadConsole$Teller", name := "putOne", desc := "(I)V" } : Jvm.MethodName) prog_10_method_16_code (2 : Nat) (Option.none : Option Jvm.ClassFile.FieldType)), (Jvm.Cond.methodLink "PadConsole$Teller" (211 : Nat) ({ cls := "PadConsole$Teller", name := "putPlace", desc := "(I)V" } : Jvm.MethodName)), (Jvm.Cond.privateMethod ({ cls := "PadConsole$Teller", name := "putPlace", desc := "(I)V" } : Jvm.MethodName)), (Jvm.Cond.instanceMethod ({ cls := "PadConsole$Teller", name := "putPlace", desc := "(I)V" } : Jvm.MethodName)), (Jvm.Cond.code ({ cls := "PadConsole$Teller", name := "putPlace", desc := "(I)V" } : Jvm.MethodName) prog_10_method_20_code (2 : Nat) (Option.none : Option Jvm.ClassFile.FieldType)), (Jvm.Cond.methodLink "PadConsole$Teller" (180 : Nat) ({ cls := "PadConsole$Teller", name := "putSign", desc := "(I)V" } : Jvm.MethodName)), (Jvm.Cond.privateMethod ({ cls := "PadConsole$Teller", name := "putSign", desc := "(I)V" } : Jvm.MethodName))]
noncomputable def tb4_10 : List Jvm.Cond := [(Jvm.Cond.instanceMethod ({ cls := "PadConsole$Teller", name := "putSign", desc := "(I)V" } : Jvm.MethodName)), (Jvm.Cond.code ({ cls := "PadConsole$Teller", name := "putSign", desc := "(I)V" } : Jvm.MethodName) prog_10_method_13_code (2 : Nat) (Option.none : Option Jvm.ClassFile.FieldType)), (Jvm.Cond.methodLink "PadConsole$Teller" (196 : Nat) ({ cls := "PadConsole$Teller", name := "putHl", desc := "()V" } : Jvm.MethodName)), (Jvm.Cond.privateMethod ({ cls := "PadConsole$Teller", name := "putHl", desc := "()V" } : Jvm.MethodName)), (Jvm.Cond.instanceMethod ({ cls := "PadConsole$Teller", name := "putHl", desc := "()V" } : Jvm.MethodName)), (Jvm.Cond.code ({ cls := "PadConsole$Teller", name := "putHl", desc := "()V" } : Jvm.MethodName) prog_10_method_19_code (1 : Nat) (Option.none : Option Jvm.ClassFile.FieldType)), (Jvm.Cond.methodLink "PadConsole$Teller" (205 : Nat) ({ cls := "PadConsole$Teller", name := "putByte", desc := "(I)V" } : Jvm.MethodName)), (Jvm.Cond.privateMethod ({ cls := "PadConsole$Teller", name := "putByte", desc := "(I)V" } : Jvm.MethodName)), (Jvm.Cond.instanceMethod ({ cls := "PadConsole$Teller", name := "putByte", desc := "(I)V" } : Jvm.MethodName)), (Jvm.Cond.code ({ cls := "PadConsole$Teller", name := "putByte", desc := "(I)V" } : Jvm.MethodName) prog_10_method_21_code (2 : Nat) (Option.none : Option Jvm.ClassFile.FieldType)), (Jvm.Cond.stringRef "PadConsole$Teller" (216 : Nat) "0123456789abcdef"), (Jvm.Cond.stringRef "PadConsole$Teller" (214 : Nat) "b;c;d;e;h;l;(hl);a"), (Jvm.Cond.methodLink "PadConsole$Teller" (201 : Nat) ({ cls := "PadConsole$Teller", name := "putName", desc := "(Ljava/lang/String;I)V" } : Jvm.MethodName)), (Jvm.Cond.privateMethod ({ cls := "PadConsole$Teller", name := "putName", desc := "(Ljava/lang/String;I)V" } : Jvm.MethodName)), (Jvm.Cond.instanceMethod ({ cls := "PadConsole$Teller", name := "putName", desc := "(Ljava/lang/String;I)V" } : Jvm.MethodName)), (Jvm.Cond.code ({ cls := "PadConsole$Teller", name := "putName", desc := "(Ljava/lang/String;I)V" } : Jvm.MethodName) prog_10_method_15_code (5 : Nat) (Option.none : Option Jvm.ClassFile.FieldType))]
noncomputable def tb4_11 : List Jvm.Cond := [(Jvm.Cond.methodLink "PadConsole$Teller" (186 : Nat) ({ cls := "PadConsole$Teller", name := "putTurned", desc := "()V" } : Jvm.MethodName)), (Jvm.Cond.privateMethod ({ cls := "PadConsole$Teller", name := "putTurned", desc := "()V" } : Jvm.MethodName)), (Jvm.Cond.instanceMethod ({ cls := "PadConsole$Teller", name := "putTurned", desc := "()V" } : Jvm.MethodName)), (Jvm.Cond.code ({ cls := "PadConsole$Teller", name := "putTurned", desc := "()V" } : Jvm.MethodName) prog_10_method_17_code (1 : Nat) (Option.none : Option Jvm.ClassFile.FieldType)), (Jvm.Cond.stringRef "PadConsole$Teller" (189 : Nat) "bc;de;hl;sp"), (Jvm.Cond.methodLink "PadConsole$Teller" (191 : Nat) ({ cls := "PadConsole$Teller", name := "putPair", desc := "(Ljava/lang/String;)V" } : Jvm.MethodName)), (Jvm.Cond.privateMethod ({ cls := "PadConsole$Teller", name := "putPair", desc := "(Ljava/lang/String;)V" } : Jvm.MethodName)), (Jvm.Cond.instanceMethod ({ cls := "PadConsole$Teller", name := "putPair", desc := "(Ljava/lang/String;)V" } : Jvm.MethodName)), (Jvm.Cond.code ({ cls := "PadConsole$Teller", name := "putPair", desc := "(Ljava/lang/String;)V" } : Jvm.MethodName) prog_10_method_18_code (2 : Nat) (Option.none : Option Jvm.ClassFile.FieldType)), (Jvm.Cond.stringRef "PadConsole$Teller" (194 : Nat) "bc;de;hl;af"), (Jvm.Cond.stringRef "PadConsole$Teller" (199 : Nat) "nz;z;nc;c;po;pe;p;m"), (Jvm.Cond.methodLink "PadConsole$Teller" (208 : Nat) ({ cls := "PadConsole$Teller", name := "putWord", desc := "(I)V" } : Jvm.MethodName)), (Jvm.Cond.privateMethod ({ cls := "PadConsole$Teller", name := "putWord", desc := "(I)V" } : Jvm.MethodName)), (Jvm.Cond.instanceMethod ({ cls := "PadConsole$Teller", name := "putWord", desc := "(I)V" } : Jvm.MethodName)), (Jvm.Cond.code ({ cls := "PadConsole$Teller", name := "putWord", desc := "(I)V" } : Jvm.MethodName) prog_10_method_22_code (2 : Nat) (Option.none : Option Jvm.ClassFile.FieldType)), (Jvm.Cond.methodLink "PadConsole$Teller" (51 : Nat) ({ cls := "PadConsole$Processor", name := "meansPlace", desc := "(I)Z" } : Jvm.MethodName))]
noncomputable def tb4_12 : List Jvm.Cond := [(Jvm.Cond.static ({ cls := "PadConsole$Processor", name := "meansPlace", desc := "(I)Z" } : Jvm.MethodName)), (Jvm.Cond.code ({ cls := "PadConsole$Processor", name := "meansPlace", desc := "(I)Z" } : Jvm.MethodName) prog_7_method_12_code (3 : Nat) (Option.some Jvm.ClassFile.FieldType.boolean)), (Jvm.Cond.methodLink "PadConsole$Teller" (57 : Nat) ({ cls := "PadConsole$Teller", name := "patternsOf", desc := "(I)Ljava/lang/String;" } : Jvm.MethodName)), (Jvm.Cond.privateMethod ({ cls := "PadConsole$Teller", name := "patternsOf", desc := "(I)Ljava/lang/String;" } : Jvm.MethodName)), (Jvm.Cond.instanceMethod ({ cls := "PadConsole$Teller", name := "patternsOf", desc := "(I)Ljava/lang/String;" } : Jvm.MethodName)), (Jvm.Cond.code ({ cls := "PadConsole$Teller", name := "patternsOf", desc := "(I)Ljava/lang/String;" } : Jvm.MethodName) prog_10_method_6_code (2 : Nat) (Option.some (Jvm.ClassFile.FieldType.object "java/lang/String"))), (Jvm.Cond.methodLink "PadConsole$Teller" (73 : Nat) ({ cls := "PadConsole$Teller", name := "split", desc := "(I)V" } : Jvm.MethodName)), (Jvm.Cond.privateMethod ({ cls := "PadConsole$Teller", name := "split", desc := "(I)V" } : Jvm.MethodName)), (Jvm.Cond.instanceMethod ({ cls := "PadConsole$Teller", name := "split", desc := "(I)V" } : Jvm.MethodName)), (Jvm.Cond.code ({ cls := "PadConsole$Teller", name := "split", desc := "(I)V" } : Jvm.MethodName) prog_10_method_4_code (2 : Nat) (Option.none : Option Jvm.ClassFile.FieldType)), (Jvm.Cond.methodLink "PadConsole$Teller" (77 : Nat) ({ cls := "PadConsole$Teller", name := "turnPatterns", desc := "()Ljava/lang/String;" } : Jvm.MethodName)), (Jvm.Cond.privateMethod ({ cls := "PadConsole$Teller", name := "turnPatterns", desc := "()Ljava/lang/String;" } : Jvm.MethodName)), (Jvm.Cond.instanceMethod ({ cls := "PadConsole$Teller", name := "turnPatterns", desc := "()Ljava/lang/String;" } : Jvm.MethodName)), (Jvm.Cond.code ({ cls := "PadConsole$Teller", name := "turnPatterns", desc := "()Ljava/lang/String;" } : Jvm.MethodName) prog_10_method_9_code (1 : Nat) (Option.some (Jvm.ClassFile.FieldType.object "java/lang/String"))), (Jvm.Cond.stringRef "PadConsole$Teller" (131 : Nat) "rlc T;rrc T;rl T;rr T;sla T;sra T;sll T;srl T"), (Jvm.Cond.stringRef "PadConsole$Teller" (133 : Nat) "bit B,T")]
noncomputable def tb4_13 : List Jvm.Cond := [(Jvm.Cond.stringRef "PadConsole$Teller" (135 : Nat) "res B,T"), (Jvm.Cond.stringRef "PadConsole$Teller" (137 : Nat) "set B,T"), (Jvm.Cond.methodLink "PadConsole$Teller" (81 : Nat) ({ cls := "PadConsole$Teller", name := "blockPatterns", desc := "()Ljava/lang/String;" } : Jvm.MethodName)), (Jvm.Cond.privateMethod ({ cls := "PadConsole$Teller", name := "blockPatterns", desc := "()Ljava/lang/String;" } : Jvm.MethodName)), (Jvm.Cond.instanceMethod ({ cls := "PadConsole$Teller", name := "blockPatterns", desc := "()Ljava/lang/String;" } : Jvm.MethodName)), (Jvm.Cond.code ({ cls := "PadConsole$Teller", name := "blockPatterns", desc := "()Ljava/lang/String;" } : Jvm.MethodName) prog_10_method_10_code (1 : Nat) (Option.some (Jvm.ClassFile.FieldType.object "java/lang/String"))), (Jvm.Cond.stringRef "PadConsole$Teller" (139 : Nat) "ldi;ldd;ldir;lddr"), (Jvm.Cond.stringRef "PadConsole$Teller" (141 : Nat) "cpi;cpd;cpir;cpdr"), (Jvm.Cond.stringRef "PadConsole$Teller" (143 : Nat) "ini;ind;inir;indr"), (Jvm.Cond.stringRef "PadConsole$Teller" (145 : Nat) "outi;outd;otir;otdr"), (Jvm.Cond.methodLink "PadConsole$Teller" (84 : Nat) ({ cls := "PadConsole$Teller", name := "morePatterns", desc := "()Ljava/lang/String;" } : Jvm.MethodName)), (Jvm.Cond.privateMethod ({ cls := "PadConsole$Teller", name := "morePatterns", desc := "()Ljava/lang/String;" } : Jvm.MethodName)), (Jvm.Cond.instanceMethod ({ cls := "PadConsole$Teller", name := "morePatterns", desc := "()Ljava/lang/String;" } : Jvm.MethodName)), (Jvm.Cond.code ({ cls := "PadConsole$Teller", name := "morePatterns", desc := "()Ljava/lang/String;" } : Jvm.MethodName) prog_10_method_11_code (1 : Nat) (Option.some (Jvm.ClassFile.FieldType.object "java/lang/String"))), (Jvm.Cond.stringRef "PadConsole$Teller" (147 : Nat) "in (c)"), (Jvm.Cond.stringRef "PadConsole$Teller" (149 : Nat) "in Y,(c)")]
noncomputable def tb4_14 : List Jvm.Cond := [(Jvm.Cond.stringRef "PadConsole$Teller" (151 : Nat) "out (c),0"), (Jvm.Cond.stringRef "PadConsole$Teller" (153 : Nat) "out (c),Y"), (Jvm.Cond.stringRef "PadConsole$Teller" (155 : Nat) "sbc hl,P;adc hl,P"), (Jvm.Cond.stringRef "PadConsole$Teller" (157 : Nat) "ld (W),P;ld P,(W)"), (Jvm.Cond.stringRef "PadConsole$Teller" (159 : Nat) "neg"), (Jvm.Cond.stringRef "PadConsole$Teller" (161 : Nat) "reti"), (Jvm.Cond.stringRef "PadConsole$Teller" (163 : Nat) "retn"), (Jvm.Cond.stringRef "PadConsole$Teller" (165 : Nat) "im 0;im 0;im 1;im 2"), (Jvm.Cond.stringRef "PadConsole$Teller" (167 : Nat) "ld i,a;ld r,a;ld a,i;ld a,r;rrd;rld;nop;nop"), (Jvm.Cond.methodLink "PadConsole$Teller" (87 : Nat) ({ cls := "PadConsole$Teller", name := "firstPatterns", desc := "()Ljava/lang/String;" } : Jvm.MethodName)), (Jvm.Cond.privateMethod ({ cls := "PadConsole$Teller", name := "firstPatterns", desc := "()Ljava/lang/String;" } : Jvm.MethodName)), (Jvm.Cond.instanceMethod ({ cls := "PadConsole$Teller", name := "firstPatterns", desc := "()Ljava/lang/String;" } : Jvm.MethodName)), (Jvm.Cond.code ({ cls := "PadConsole$Teller", name := "firstPatterns", desc := "()Ljava/lang/String;" } : Jvm.MethodName) prog_10_method_7_code (1 : Nat) (Option.some (Jvm.ClassFile.FieldType.object "java/lang/String"))), (Jvm.Cond.stringRef "PadConsole$Teller" (99 : Nat) "nop;ex af,af2;djnz E;jr E;jr D,E;jr D,E;jr D,E;jr D,E"), (Jvm.Cond.stringRef "PadConsole$Teller" (101 : Nat) "ld P,W;add J,P"), (Jvm.Cond.stringRef "PadConsole$Teller" (103 : Nat) "ld (bc),a;ld a,(bc);ld (de),a;ld a,(de);ld (W),J;ld J,(W);ld (W),a;ld a,(W)")]
set_option maxRecDepth 100000 in
theorem tbe4 : tables_1_4 = (tb4_0 ++ (tb4_1 ++ (tb4_2 ++ (tb4_3 ++ (tb4_4 ++ (tb4_5 ++ (tb4_6 ++ (tb4_7 ++ (tb4_8 ++ (tb4_9 ++ (tb4_10 ++ (tb4_11 ++ (tb4_12 ++ (tb4_13 ++ tb4_14)))))))))))))) := rfl
theorem tm4_0 {w : Jvm.Cond} (h : w ∈ tb4_0) : w ∈ tables_1_4 := by
  rw [tbe4]
  exact (List.mem_append_left _ h)
theorem tm4_1 {w : Jvm.Cond} (h : w ∈ tb4_1) : w ∈ tables_1_4 := by
  rw [tbe4]
  exact (List.mem_append_right _ (List.mem_append_left _ h))
theorem tm4_2 {w : Jvm.Cond} (h : w ∈ tb4_2) : w ∈ tables_1_4 := by
  rw [tbe4]
  exact (List.mem_append_right _ (List.mem_append_right _ (List.mem_append_left _ h)))
theorem tm4_3 {w : Jvm.Cond} (h : w ∈ tb4_3) : w ∈ tables_1_4 := by
  rw [tbe4]
  exact (List.mem_append_right _ (List.mem_append_right _ (List.mem_append_right _ (List.mem_append_left _ h))))
theorem tm4_4 {w : Jvm.Cond} (h : w ∈ tb4_4) : w ∈ tables_1_4 := by
  rw [tbe4]
  exact (List.mem_append_right _ (List.mem_append_right _ (List.mem_append_right _ (List.mem_append_right _ (List.mem_append_left _ h)))))
theorem tm4_5 {w : Jvm.Cond} (h : w ∈ tb4_5) : w ∈ tables_1_4 := by
  rw [tbe4]
  exact (List.mem_append_right _ (List.mem_append_right _ (List.mem_append_right _ (List.mem_append_right _ (List.mem_append_right _ (List.mem_append_left _ h))))))
theorem tm4_6 {w : Jvm.Cond} (h : w ∈ tb4_6) : w ∈ tables_1_4 := by
  rw [tbe4]
  exact (List.mem_append_right _ (List.mem_append_right _ (List.mem_append_right _ (List.mem_append_right _ (List.mem_append_right _ (List.mem_append_right _ (List.mem_append_left _ h)))))))
theorem tm4_7 {w : Jvm.Cond} (h : w ∈ tb4_7) : w ∈ tables_1_4 := by
  rw [tbe4]
  exact (List.mem_append_right _ (List.mem_append_right _ (List.mem_append_right _ (List.mem_append_right _ (List.mem_append_right _ (List.mem_append_right _ (List.mem_append_right _ (List.mem_append_left _ h))))))))
theorem tm4_8 {w : Jvm.Cond} (h : w ∈ tb4_8) : w ∈ tables_1_4 := by
  rw [tbe4]
  exact (List.mem_append_right _ (List.mem_append_right _ (List.mem_append_right _ (List.mem_append_right _ (List.mem_append_right _ (List.mem_append_right _ (List.mem_append_right _ (List.mem_append_right _ (List.mem_append_left _ h)))))))))
theorem tm4_9 {w : Jvm.Cond} (h : w ∈ tb4_9) : w ∈ tables_1_4 := by
  rw [tbe4]
  exact (List.mem_append_right _ (List.mem_append_right _ (List.mem_append_right _ (List.mem_append_right _ (List.mem_append_right _ (List.mem_append_right _ (List.mem_append_right _ (List.mem_append_right _ (List.mem_append_right _ (List.mem_append_left _ h))))))))))
theorem tm4_10 {w : Jvm.Cond} (h : w ∈ tb4_10) : w ∈ tables_1_4 := by
  rw [tbe4]
  exact (List.mem_append_right _ (List.mem_append_right _ (List.mem_append_right _ (List.mem_append_right _ (List.mem_append_right _ (List.mem_append_right _ (List.mem_append_right _ (List.mem_append_right _ (List.mem_append_right _ (List.mem_append_right _ (List.mem_append_left _ h)))))))))))
theorem tm4_11 {w : Jvm.Cond} (h : w ∈ tb4_11) : w ∈ tables_1_4 := by
  rw [tbe4]
  exact (List.mem_append_right _ (List.mem_append_right _ (List.mem_append_right _ (List.mem_append_right _ (List.mem_append_right _ (List.mem_append_right _ (List.mem_append_right _ (List.mem_append_right _ (List.mem_append_right _ (List.mem_append_right _ (List.mem_append_right _ (List.mem_append_left _ h))))))))))))
theorem tm4_12 {w : Jvm.Cond} (h : w ∈ tb4_12) : w ∈ tables_1_4 := by
  rw [tbe4]
  exact (List.mem_append_right _ (List.mem_append_right _ (List.mem_append_right _ (List.mem_append_right _ (List.mem_append_right _ (List.mem_append_right _ (List.mem_append_right _ (List.mem_append_right _ (List.mem_append_right _ (List.mem_append_right _ (List.mem_append_right _ (List.mem_append_right _ (List.mem_append_left _ h)))))))))))))
theorem tm4_13 {w : Jvm.Cond} (h : w ∈ tb4_13) : w ∈ tables_1_4 := by
  rw [tbe4]
  exact (List.mem_append_right _ (List.mem_append_right _ (List.mem_append_right _ (List.mem_append_right _ (List.mem_append_right _ (List.mem_append_right _ (List.mem_append_right _ (List.mem_append_right _ (List.mem_append_right _ (List.mem_append_right _ (List.mem_append_right _ (List.mem_append_right _ (List.mem_append_right _ (List.mem_append_left _ h))))))))))))))
theorem tm4_14 {w : Jvm.Cond} (h : w ∈ tb4_14) : w ∈ tables_1_4 := by
  rw [tbe4]
  exact (List.mem_append_right _ (List.mem_append_right _ (List.mem_append_right _ (List.mem_append_right _ (List.mem_append_right _ (List.mem_append_right _ (List.mem_append_right _ (List.mem_append_right _ (List.mem_append_right _ (List.mem_append_right _ (List.mem_append_right _ (List.mem_append_right _ (List.mem_append_right _ (List.mem_append_right _ h))))))))))))))
noncomputable def tb5_0 : List Jvm.Cond := [(Jvm.Cond.stringRef "PadConsole$Teller" (105 : Nat) "inc P;dec P"), (Jvm.Cond.stringRef "PadConsole$Teller" (107 : Nat) "inc Y"), (Jvm.Cond.stringRef "PadConsole$Teller" (109 : Nat) "dec Y"), (Jvm.Cond.stringRef "PadConsole$Teller" (111 : Nat) "ld Y,N"), (Jvm.Cond.stringRef "PadConsole$Teller" (113 : Nat) "rlca;rrca;rla;rra;daa;cpl;scf;ccf"), (Jvm.Cond.stringRef "PadConsole$Teller" (90 : Nat) "halt"), (Jvm.Cond.stringRef "PadConsole$Teller" (92 : Nat) "ld Y,Z"), (Jvm.Cond.stringRef "PadConsole$Teller" (94 : Nat) "add Z;adc Z;sub Z;sbc Z;and Z;xor Z;or Z;cp Z"), (Jvm.Cond.methodLink "PadConsole$Teller" (96 : Nat) ({ cls := "PadConsole$Teller", name := "lastPatterns", desc := "()Ljava/lang/String;" } : Jvm.MethodName)), (Jvm.Cond.privateMethod ({ cls := "PadConsole$Teller", name := "lastPatterns", desc := "()Ljava/lang/String;" } : Jvm.MethodName)), (Jvm.Cond.instanceMethod ({ cls := "PadConsole$Teller", name := "lastPatterns", desc := "()Ljava/lang/String;" } : Jvm.MethodName)), (Jvm.Cond.code ({ cls := "PadConsole$Teller", name := "lastPatterns", desc := "()Ljava/lang/String;" } : Jvm.MethodName) prog_10_method_8_code (1 : Nat) (Option.some (Jvm.ClassFile.FieldType.object "java/lang/String"))), (Jvm.Cond.stringRef "PadConsole$Teller" (115 : Nat) "ret C"), (Jvm.Cond.stringRef "PadConsole$Teller" (117 : Nat) "pop Q;ret;pop Q;exx;pop Q;jp (J);pop Q;ld sp,J"), (Jvm.Cond.stringRef "PadConsole$Teller" (119 : Nat) "jp C,W"), (Jvm.Cond.stringRef "PadConsole$Teller" (121 : Nat) "jp W;;out (N),a;in a,(N);ex (sp),J;ex de,J;di;ei")]
noncomputable def tb5_1 : List Jvm.Cond := [(Jvm.Cond.stringRef "PadConsole$Teller" (123 : Nat) "call C,W"), (Jvm.Cond.stringRef "PadConsole$Teller" (125 : Nat) "push Q;call W"), (Jvm.Cond.stringRef "PadConsole$Teller" (127 : Nat) "add N;adc N;sub N;sbc N;and N;xor N;or N;cp N"), (Jvm.Cond.stringRef "PadConsole$Teller" (129 : Nat) "rst V"), (Jvm.Cond.methodLink "PadConsoleLaw" (171 : Nat) ({ cls := "PadConsole", name := "save", desc := "()V" } : Jvm.MethodName)), (Jvm.Cond.instanceMethod ({ cls := "PadConsole", name := "save", desc := "()V" } : Jvm.MethodName)), (Jvm.Cond.selects "PadConsole" ({ cls := "PadConsole", name := "save", desc := "()V" } : Jvm.MethodName) ({ cls := "PadConsole", name := "save", desc := "()V" } : Jvm.MethodName)), (Jvm.Cond.code ({ cls := "PadConsole", name := "save", desc := "()V" } : Jvm.MethodName) prog_1_method_18_code (1 : Nat) (Option.none : Option Jvm.ClassFile.FieldType)), (Jvm.Cond.methodLink "PadConsole" (221 : Nat) ({ cls := "PadConsole$Memory", name := "keep", desc := "()V" } : Jvm.MethodName)), (Jvm.Cond.instanceMethod ({ cls := "PadConsole$Memory", name := "keep", desc := "()V" } : Jvm.MethodName)), (Jvm.Cond.selects "PadConsole$Memory" ({ cls := "PadConsole$Memory", name := "keep", desc := "()V" } : Jvm.MethodName) ({ cls := "PadConsole$Memory", name := "keep", desc := "()V" } : Jvm.MethodName)), (Jvm.Cond.code ({ cls := "PadConsole$Memory", name := "keep", desc := "()V" } : Jvm.MethodName) prog_4_method_23_code (1 : Nat) (Option.none : Option Jvm.ClassFile.FieldType)), (Jvm.Cond.methodLink "PadConsole$Memory" (109 : Nat) ({ cls := "java/lang/System", name := "arraycopy", desc := "(Ljava/lang/Object;ILjava/lang/Object;II)V" } : Jvm.MethodName)), (Jvm.Cond.methodLink "PadConsole" (224 : Nat) ({ cls := "PadConsole$Video", name := "keep", desc := "()V" } : Jvm.MethodName)), (Jvm.Cond.instanceMethod ({ cls := "PadConsole$Video", name := "keep", desc := "()V" } : Jvm.MethodName)), (Jvm.Cond.selects "PadConsole$Video" ({ cls := "PadConsole$Video", name := "keep", desc := "()V" } : Jvm.MethodName) ({ cls := "PadConsole$Video", name := "keep", desc := "()V" } : Jvm.MethodName))]
noncomputable def tb5_2 : List Jvm.Cond := [(Jvm.Cond.code ({ cls := "PadConsole$Video", name := "keep", desc := "()V" } : Jvm.MethodName) prog_11_method_3_code (1 : Nat) (Option.none : Option Jvm.ClassFile.FieldType)), (Jvm.Cond.methodLink "PadConsole$Video" (36 : Nat) ({ cls := "java/lang/System", name := "arraycopy", desc := "(Ljava/lang/Object;ILjava/lang/Object;II)V" } : Jvm.MethodName)), (Jvm.Cond.methodLink "PadConsole" (225 : Nat) ({ cls := "PadConsole$Painter", name := "keep", desc := "()V" } : Jvm.MethodName)), (Jvm.Cond.instanceMethod ({ cls := "PadConsole$Painter", name := "keep", desc := "()V" } : Jvm.MethodName)), (Jvm.Cond.selects "PadConsole$Painter" ({ cls := "PadConsole$Painter", name := "keep", desc := "()V" } : Jvm.MethodName) ({ cls := "PadConsole$Painter", name := "keep", desc := "()V" } : Jvm.MethodName)), (Jvm.Cond.code ({ cls := "PadConsole$Painter", name := "keep", desc := "()V" } : Jvm.MethodName) prog_5_method_2_code (1 : Nat) (Option.none : Option Jvm.ClassFile.FieldType)), (Jvm.Cond.methodLink "PadConsole$Painter" (34 : Nat) ({ cls := "java/lang/System", name := "arraycopy", desc := "(Ljava/lang/Object;ILjava/lang/Object;II)V" } : Jvm.MethodName)), (Jvm.Cond.methodLink "PadConsole" (226 : Nat) ({ cls := "PadConsole$Sound", name := "keep", desc := "()V" } : Jvm.MethodName)), (Jvm.Cond.instanceMethod ({ cls := "PadConsole$Sound", name := "keep", desc := "()V" } : Jvm.MethodName)), (Jvm.Cond.selects "PadConsole$Sound" ({ cls := "PadConsole$Sound", name := "keep", desc := "()V" } : Jvm.MethodName) ({ cls := "PadConsole$Sound", name := "keep", desc := "()V" } : Jvm.MethodName)), (Jvm.Cond.code ({ cls := "PadConsole$Sound", name := "keep", desc := "()V" } : Jvm.MethodName) prog_9_method_3_code (1 : Nat) (Option.none : Option Jvm.ClassFile.FieldType)), (Jvm.Cond.methodLink "PadConsole$Sound" (29 : Nat) ({ cls := "java/lang/System", name := "arraycopy", desc := "(Ljava/lang/Object;ILjava/lang/Object;II)V" } : Jvm.MethodName)), (Jvm.Cond.methodLink "PadConsole" (227 : Nat) ({ cls := "PadConsole$Waves", name := "keep", desc := "()V" } : Jvm.MethodName)), (Jvm.Cond.instanceMethod ({ cls := "PadConsole$Waves", name := "keep", desc := "()V" } : Jvm.MethodName)), (Jvm.Cond.selects "PadConsole$Waves" ({ cls := "PadConsole$Waves", name := "keep", desc := "()V" } : Jvm.MethodName) ({ cls := "PadConsole$Waves", name := "keep", desc := "()V" } : Jvm.MethodName)), (Jvm.Cond.code ({ cls := "PadConsole$Waves", name := "keep", desc := "()V" } : Jvm.MethodName) prog_12_method_3_code (1 : Nat) (Option.none : Option Jvm.ClassFile.FieldType))]
noncomputable def tb5_3 : List Jvm.Cond := [(Jvm.Cond.methodLink "PadConsole$Waves" (25 : Nat) ({ cls := "java/lang/System", name := "arraycopy", desc := "(Ljava/lang/Object;ILjava/lang/Object;II)V" } : Jvm.MethodName)), (Jvm.Cond.methodLink "PadConsole" (228 : Nat) ({ cls := "PadConsole$Ports", name := "keep", desc := "()V" } : Jvm.MethodName)), (Jvm.Cond.instanceMethod ({ cls := "PadConsole$Ports", name := "keep", desc := "()V" } : Jvm.MethodName)), (Jvm.Cond.selects "PadConsole$Ports" ({ cls := "PadConsole$Ports", name := "keep", desc := "()V" } : Jvm.MethodName) ({ cls := "PadConsole$Ports", name := "keep", desc := "()V" } : Jvm.MethodName)), (Jvm.Cond.code ({ cls := "PadConsole$Ports", name := "keep", desc := "()V" } : Jvm.MethodName) prog_6_method_3_code (1 : Nat) (Option.none : Option Jvm.ClassFile.FieldType)), (Jvm.Cond.methodLink "PadConsole$Ports" (35 : Nat) ({ cls := "java/lang/System", name := "arraycopy", desc := "(Ljava/lang/Object;ILjava/lang/Object;II)V" } : Jvm.MethodName)), (Jvm.Cond.methodLink "PadConsole" (229 : Nat) ({ cls := "PadConsole$Processor", name := "keep", desc := "()V" } : Jvm.MethodName)), (Jvm.Cond.instanceMethod ({ cls := "PadConsole$Processor", name := "keep", desc := "()V" } : Jvm.MethodName)), (Jvm.Cond.selects "PadConsole$Processor" ({ cls := "PadConsole$Processor", name := "keep", desc := "()V" } : Jvm.MethodName) ({ cls := "PadConsole$Processor", name := "keep", desc := "()V" } : Jvm.MethodName)), (Jvm.Cond.code ({ cls := "PadConsole$Processor", name := "keep", desc := "()V" } : Jvm.MethodName) prog_7_method_3_code (1 : Nat) (Option.none : Option Jvm.ClassFile.FieldType)), (Jvm.Cond.methodLink "PadConsole$Processor" (35 : Nat) ({ cls := "java/lang/System", name := "arraycopy", desc := "(Ljava/lang/Object;ILjava/lang/Object;II)V" } : Jvm.MethodName)), (Jvm.Cond.methodLink "PadConsole" (230 : Nat) ({ cls := "PadConsole$Clock", name := "keep", desc := "()V" } : Jvm.MethodName)), (Jvm.Cond.instanceMethod ({ cls := "PadConsole$Clock", name := "keep", desc := "()V" } : Jvm.MethodName)), (Jvm.Cond.selects "PadConsole$Clock" ({ cls := "PadConsole$Clock", name := "keep", desc := "()V" } : Jvm.MethodName) ({ cls := "PadConsole$Clock", name := "keep", desc := "()V" } : Jvm.MethodName)), (Jvm.Cond.code ({ cls := "PadConsole$Clock", name := "keep", desc := "()V" } : Jvm.MethodName) prog_2_method_2_code (1 : Nat) (Option.none : Option Jvm.ClassFile.FieldType)), (Jvm.Cond.methodLink "PadConsole$Clock" (34 : Nat) ({ cls := "java/lang/System", name := "arraycopy", desc := "(Ljava/lang/Object;ILjava/lang/Object;II)V" } : Jvm.MethodName))]
noncomputable def tb5_4 : List Jvm.Cond := [(Jvm.Cond.methodLink "PadConsole$Clock" (40 : Nat) ({ cls := "PadConsole$Ring", name := "keep", desc := "()V" } : Jvm.MethodName)), (Jvm.Cond.instanceMethod ({ cls := "PadConsole$Ring", name := "keep", desc := "()V" } : Jvm.MethodName)), (Jvm.Cond.selects "PadConsole$Ring" ({ cls := "PadConsole$Ring", name := "keep", desc := "()V" } : Jvm.MethodName) ({ cls := "PadConsole$Ring", name := "keep", desc := "()V" } : Jvm.MethodName)), (Jvm.Cond.code ({ cls := "PadConsole$Ring", name := "keep", desc := "()V" } : Jvm.MethodName) prog_8_method_5_code (1 : Nat) (Option.none : Option Jvm.ClassFile.FieldType)), (Jvm.Cond.methodLink "PadConsole$Ring" (23 : Nat) ({ cls := "java/lang/System", name := "arraycopy", desc := "(Ljava/lang/Object;ILjava/lang/Object;II)V" } : Jvm.MethodName)), (Jvm.Cond.methodLink "PadConsole" (231 : Nat) ({ cls := "PadConsole$Desk", name := "keep", desc := "()V" } : Jvm.MethodName)), (Jvm.Cond.instanceMethod ({ cls := "PadConsole$Desk", name := "keep", desc := "()V" } : Jvm.MethodName)), (Jvm.Cond.selects "PadConsole$Desk" ({ cls := "PadConsole$Desk", name := "keep", desc := "()V" } : Jvm.MethodName) ({ cls := "PadConsole$Desk", name := "keep", desc := "()V" } : Jvm.MethodName)), (Jvm.Cond.code ({ cls := "PadConsole$Desk", name := "keep", desc := "()V" } : Jvm.MethodName) prog_3_method_2_code (1 : Nat) (Option.none : Option Jvm.ClassFile.FieldType)), (Jvm.Cond.methodLink "PadConsole$Desk" (31 : Nat) ({ cls := "java/lang/System", name := "arraycopy", desc := "(Ljava/lang/Object;ILjava/lang/Object;II)V" } : Jvm.MethodName)), (Jvm.Cond.methodLink "PadConsoleLaw" (185 : Nat) ({ cls := "PadConsole", name := "peek", desc := "(I)I" } : Jvm.MethodName)), (Jvm.Cond.instanceMethod ({ cls := "PadConsole", name := "peek", desc := "(I)I" } : Jvm.MethodName)), (Jvm.Cond.selects "PadConsole" ({ cls := "PadConsole", name := "peek", desc := "(I)I" } : Jvm.MethodName) ({ cls := "PadConsole", name := "peek", desc := "(I)I" } : Jvm.MethodName)), (Jvm.Cond.code ({ cls := "PadConsole", name := "peek", desc := "(I)I" } : Jvm.MethodName) prog_1_method_22_code (2 : Nat) (Option.some Jvm.ClassFile.FieldType.int)), (Jvm.Cond.constant "PadConsole" (209 : Nat) (65535 : Int32)), (Jvm.Cond.methodLink "PadConsole" (253 : Nat) ({ cls := "PadConsole$Memory", name := "read", desc := "(I)I" } : Jvm.MethodName))]
noncomputable def tb5_5 : List Jvm.Cond := [(Jvm.Cond.methodLink "PadConsoleLaw" (189 : Nat) ({ cls := "PadConsole", name := "poke", desc := "(II)V" } : Jvm.MethodName)), (Jvm.Cond.instanceMethod ({ cls := "PadConsole", name := "poke", desc := "(II)V" } : Jvm.MethodName)), (Jvm.Cond.selects "PadConsole" ({ cls := "PadConsole", name := "poke", desc := "(II)V" } : Jvm.MethodName) ({ cls := "PadConsole", name := "poke", desc := "(II)V" } : Jvm.MethodName)), (Jvm.Cond.code ({ cls := "PadConsole", name := "poke", desc := "(II)V" } : Jvm.MethodName) prog_1_method_23_code (3 : Nat) (Option.none : Option Jvm.ClassFile.FieldType)), (Jvm.Cond.methodLink "PadConsole" (256 : Nat) ({ cls := "PadConsole$Memory", name := "write", desc := "(II)V" } : Jvm.MethodName)), (Jvm.Cond.instanceMethod ({ cls := "PadConsole$Memory", name := "write", desc := "(II)V" } : Jvm.MethodName)), (Jvm.Cond.selects "PadConsole$Memory" ({ cls := "PadConsole$Memory", name := "write", desc := "(II)V" } : Jvm.MethodName) ({ cls := "PadConsole$Memory", name := "write", desc := "(II)V" } : Jvm.MethodName)), (Jvm.Cond.code ({ cls := "PadConsole$Memory", name := "write", desc := "(II)V" } : Jvm.MethodName) prog_4_method_16_code (4 : Nat) (Option.none : Option Jvm.ClassFile.FieldType)), (Jvm.Cond.constant "PadConsole$Memory" (100 : Nat) (65532 : Int32)), (Jvm.Cond.constant "PadConsole$Memory" (101 : Nat) (65533 : Int32)), (Jvm.Cond.constant "PadConsole$Memory" (102 : Nat) (40960 : Int32)), (Jvm.Cond.methodLink "PadConsoleLaw" (193 : Nat) ({ cls := "PadConsole", name := "in", desc := "(I)I" } : Jvm.MethodName)), (Jvm.Cond.instanceMethod ({ cls := "PadConsole", name := "in", desc := "(I)I" } : Jvm.MethodName)), (Jvm.Cond.selects "PadConsole" ({ cls := "PadConsole", name := "in", desc := "(I)I" } : Jvm.MethodName) ({ cls := "PadConsole", name := "in", desc := "(I)I" } : Jvm.MethodName)), (Jvm.Cond.code ({ cls := "PadConsole", name := "in", desc := "(I)I" } : Jvm.MethodName) prog_1_method_24_code (2 : Nat) (Option.some Jvm.ClassFile.FieldType.int)), (Jvm.Cond.methodLink "PadConsole" (258 : Nat) ({ cls := "PadConsole$Ports", name := "read", desc := "(I)I" } : Jvm.MethodName))]
noncomputable def tb5_6 : List Jvm.Cond := [(Jvm.Cond.instanceMethod ({ cls := "PadConsole$Ports", name := "read", desc := "(I)I" } : Jvm.MethodName)), (Jvm.Cond.selects "PadConsole$Ports" ({ cls := "PadConsole$Ports", name := "read", desc := "(I)I" } : Jvm.MethodName) ({ cls := "PadConsole$Ports", name := "read", desc := "(I)I" } : Jvm.MethodName)), (Jvm.Cond.code ({ cls := "PadConsole$Ports", name := "read", desc := "(I)I" } : Jvm.MethodName) prog_6_method_12_code (3 : Nat) (Option.some Jvm.ClassFile.FieldType.int)), (Jvm.Cond.methodLink "PadConsole$Ports" (54 : Nat) ({ cls := "PadConsole$Ports", name := "readHandy", desc := "(I)I" } : Jvm.MethodName)), (Jvm.Cond.privateMethod ({ cls := "PadConsole$Ports", name := "readHandy", desc := "(I)I" } : Jvm.MethodName)), (Jvm.Cond.instanceMethod ({ cls := "PadConsole$Ports", name := "readHandy", desc := "(I)I" } : Jvm.MethodName)), (Jvm.Cond.code ({ cls := "PadConsole$Ports", name := "readHandy", desc := "(I)I" } : Jvm.MethodName) prog_6_method_13_code (2 : Nat) (Option.some Jvm.ClassFile.FieldType.int)), (Jvm.Cond.methodLink "PadConsole$Ports" (58 : Nat) ({ cls := "PadConsole$Video", name := "vCount", desc := "()I" } : Jvm.MethodName)), (Jvm.Cond.instanceMethod ({ cls := "PadConsole$Video", name := "vCount", desc := "()I" } : Jvm.MethodName)), (Jvm.Cond.selects "PadConsole$Video" ({ cls := "PadConsole$Video", name := "vCount", desc := "()I" } : Jvm.MethodName) ({ cls := "PadConsole$Video", name := "vCount", desc := "()I" } : Jvm.MethodName)), (Jvm.Cond.code ({ cls := "PadConsole$Video", name := "vCount", desc := "()I" } : Jvm.MethodName) prog_11_method_22_code (5 : Nat) (Option.some Jvm.ClassFile.FieldType.int)), (Jvm.Cond.methodLink "PadConsole$Video" (50 : Nat) ({ cls := "PadConsole$Video", name := "height", desc := "()I" } : Jvm.MethodName)), (Jvm.Cond.instanceMethod ({ cls := "PadConsole$Video", name := "height", desc := "()I" } : Jvm.MethodName)), (Jvm.Cond.selects "PadConsole$Video" ({ cls := "PadConsole$Video", name := "height", desc := "()I" } : Jvm.MethodName) ({ cls := "PadConsole$Video", name := "height", desc := "()I" } : Jvm.MethodName)), (Jvm.Cond.code ({ cls := "PadConsole$Video", name := "height", desc := "()I" } : Jvm.MethodName) prog_11_method_20_code (1 : Nat) (Option.some Jvm.ClassFile.FieldType.int)), (Jvm.Cond.methodLink "PadConsole$Ports" (61 : Nat) ({ cls := "PadConsole$Video", name := "readData", desc := "()I" } : Jvm.MethodName))]
noncomputable def tb5_7 : List Jvm.Cond := [(Jvm.Cond.instanceMethod ({ cls := "PadConsole$Video", name := "readData", desc := "()I" } : Jvm.MethodName)), (Jvm.Cond.selects "PadConsole$Video" ({ cls := "PadConsole$Video", name := "readData", desc := "()I" } : Jvm.MethodName) ({ cls := "PadConsole$Video", name := "readData", desc := "()I" } : Jvm.MethodName)), (Jvm.Cond.code ({ cls := "PadConsole$Video", name := "readData", desc := "()I" } : Jvm.MethodName) prog_11_method_15_code (2 : Nat) (Option.some Jvm.ClassFile.FieldType.int)), (Jvm.Cond.methodLink "PadConsole$Video" (63 : Nat) ({ cls := "PadConsole$Video", name := "readAhead", desc := "()V" } : Jvm.MethodName)), (Jvm.Cond.privateMethod ({ cls := "PadConsole$Video", name := "readAhead", desc := "()V" } : Jvm.MethodName)), (Jvm.Cond.instanceMethod ({ cls := "PadConsole$Video", name := "readAhead", desc := "()V" } : Jvm.MethodName)), (Jvm.Cond.code ({ cls := "PadConsole$Video", name := "readAhead", desc := "()V" } : Jvm.MethodName) prog_11_method_13_code (1 : Nat) (Option.none : Option Jvm.ClassFile.FieldType)), (Jvm.Cond.methodLink "PadConsole$Ports" (64 : Nat) ({ cls := "PadConsole$Video", name := "readStatus", desc := "()I" } : Jvm.MethodName)), (Jvm.Cond.instanceMethod ({ cls := "PadConsole$Video", name := "readStatus", desc := "()I" } : Jvm.MethodName)), (Jvm.Cond.selects "PadConsole$Video" ({ cls := "PadConsole$Video", name := "readStatus", desc := "()I" } : Jvm.MethodName) ({ cls := "PadConsole$Video", name := "readStatus", desc := "()I" } : Jvm.MethodName)), (Jvm.Cond.code ({ cls := "PadConsole$Video", name := "readStatus", desc := "()I" } : Jvm.MethodName) prog_11_method_14_code (2 : Nat) (Option.some Jvm.ClassFile.FieldType.int)), (Jvm.Cond.methodLink "PadConsole$Ports" (69 : Nat) ({ cls := "PadConsole$Waves", name := "value", desc := "(I)I" } : Jvm.MethodName)), (Jvm.Cond.instanceMethod ({ cls := "PadConsole$Waves", name := "value", desc := "(I)I" } : Jvm.MethodName)), (Jvm.Cond.selects "PadConsole$Waves" ({ cls := "PadConsole$Waves", name := "value", desc := "(I)I" } : Jvm.MethodName) ({ cls := "PadConsole$Waves", name := "value", desc := "(I)I" } : Jvm.MethodName)), (Jvm.Cond.code ({ cls := "PadConsole$Waves", name := "value", desc := "(I)I" } : Jvm.MethodName) prog_12_method_6_code (2 : Nat) (Option.some Jvm.ClassFile.FieldType.int)), (Jvm.Cond.constant "PadConsole$Waves" (31 : Nat) (65535 : Int32))]
noncomputable def tb5_8 : List Jvm.Cond := [(Jvm.Cond.methodLink "PadConsole$Ports" (72 : Nat) ({ cls := "PadConsole$Ports", name := "readEvenPads", desc := "()I" } : Jvm.MethodName)), (Jvm.Cond.privateMethod ({ cls := "PadConsole$Ports", name := "readEvenPads", desc := "()I" } : Jvm.MethodName)), (Jvm.Cond.instanceMethod ({ cls := "PadConsole$Ports", name := "readEvenPads", desc := "()I" } : Jvm.MethodName)), (Jvm.Cond.code ({ cls := "PadConsole$Ports", name := "readEvenPads", desc := "()I" } : Jvm.MethodName) prog_6_method_14_code (2 : Nat) (Option.some Jvm.ClassFile.FieldType.int)), (Jvm.Cond.methodLink "PadConsole$Ports" (75 : Nat) ({ cls := "PadConsole$Ports", name := "readOddPads", desc := "()I" } : Jvm.MethodName)), (Jvm.Cond.privateMethod ({ cls := "PadConsole$Ports", name := "readOddPads", desc := "()I" } : Jvm.MethodName)), (Jvm.Cond.instanceMethod ({ cls := "PadConsole$Ports", name := "readOddPads", desc := "()I" } : Jvm.MethodName)), (Jvm.Cond.code ({ cls := "PadConsole$Ports", name := "readOddPads", desc := "()I" } : Jvm.MethodName) prog_6_method_15_code (2 : Nat) (Option.some Jvm.ClassFile.FieldType.int)), (Jvm.Cond.methodLink "PadConsole$Ports" (45 : Nat) ({ cls := "PadConsole$Ports", name := "lines", desc := "()I" } : Jvm.MethodName)), (Jvm.Cond.privateMethod ({ cls := "PadConsole$Ports", name := "lines", desc := "()I" } : Jvm.MethodName)), (Jvm.Cond.instanceMethod ({ cls := "PadConsole$Ports", name := "lines", desc := "()I" } : Jvm.MethodName)), (Jvm.Cond.code ({ cls := "PadConsole$Ports", name := "lines", desc := "()I" } : Jvm.MethodName) prog_6_method_10_code (4 : Nat) (Option.some Jvm.ClassFile.FieldType.int)), (Jvm.Cond.methodLink "PadConsoleLaw" (197 : Nat) ({ cls := "PadConsole", name := "out", desc := "(II)V" } : Jvm.MethodName)), (Jvm.Cond.instanceMethod ({ cls := "PadConsole", name := "out", desc := "(II)V" } : Jvm.MethodName)), (Jvm.Cond.selects "PadConsole" ({ cls := "PadConsole", name := "out", desc := "(II)V" } : Jvm.MethodName) ({ cls := "PadConsole", name := "out", desc := "(II)V" } : Jvm.MethodName)), (Jvm.Cond.code ({ cls := "PadConsole", name := "out", desc := "(II)V" } : Jvm.MethodName) prog_1_method_25_code (3 : Nat) (Option.none : Option Jvm.ClassFile.FieldType))]
noncomputable def tb5_9 : List Jvm.Cond := [(Jvm.Cond.methodLink "PadConsole" (259 : Nat) ({ cls := "PadConsole$Ports", name := "write", desc := "(II)V" } : Jvm.MethodName)), (Jvm.Cond.instanceMethod ({ cls := "PadConsole$Ports", name := "write", desc := "(II)V" } : Jvm.MethodName)), (Jvm.Cond.selects "PadConsole$Ports" ({ cls := "PadConsole$Ports", name := "write", desc := "(II)V" } : Jvm.MethodName) ({ cls := "PadConsole$Ports", name := "write", desc := "(II)V" } : Jvm.MethodName)), (Jvm.Cond.code ({ cls := "PadConsole$Ports", name := "write", desc := "(II)V" } : Jvm.MethodName) prog_6_method_16_code (4 : Nat) (Option.none : Option Jvm.ClassFile.FieldType)), (Jvm.Cond.methodLink "PadConsole$Ports" (78 : Nat) ({ cls := "PadConsole$Ports", name := "writeHandy", desc := "(II)V" } : Jvm.MethodName)), (Jvm.Cond.privateMethod ({ cls := "PadConsole$Ports", name := "writeHandy", desc := "(II)V" } : Jvm.MethodName)), (Jvm.Cond.instanceMethod ({ cls := "PadConsole$Ports", name := "writeHandy", desc := "(II)V" } : Jvm.MethodName)), (Jvm.Cond.code ({ cls := "PadConsole$Ports", name := "writeHandy", desc := "(II)V" } : Jvm.MethodName) prog_6_method_17_code (3 : Nat) (Option.none : Option Jvm.ClassFile.FieldType)), (Jvm.Cond.methodLink "PadConsole$Ports" (95 : Nat) ({ cls := "PadConsole$Sound", name := "takeStereo", desc := "(I)V" } : Jvm.MethodName)), (Jvm.Cond.instanceMethod ({ cls := "PadConsole$Sound", name := "takeStereo", desc := "(I)V" } : Jvm.MethodName)), (Jvm.Cond.selects "PadConsole$Sound" ({ cls := "PadConsole$Sound", name := "takeStereo", desc := "(I)V" } : Jvm.MethodName) ({ cls := "PadConsole$Sound", name := "takeStereo", desc := "(I)V" } : Jvm.MethodName)), (Jvm.Cond.code ({ cls := "PadConsole$Sound", name := "takeStereo", desc := "(I)V" } : Jvm.MethodName) prog_9_method_6_code (2 : Nat) (Option.none : Option Jvm.ClassFile.FieldType)), (Jvm.Cond.methodLink "PadConsole$Ports" (41 : Nat) ({ cls := "PadConsole$Ports", name := "changeLines", desc := "(II)V" } : Jvm.MethodName)), (Jvm.Cond.privateMethod ({ cls := "PadConsole$Ports", name := "changeLines", desc := "(II)V" } : Jvm.MethodName)), (Jvm.Cond.instanceMethod ({ cls := "PadConsole$Ports", name := "changeLines", desc := "(II)V" } : Jvm.MethodName)), (Jvm.Cond.code ({ cls := "PadConsole$Ports", name := "changeLines", desc := "(II)V" } : Jvm.MethodName) prog_6_method_11_code (4 : Nat) (Option.none : Option Jvm.ClassFile.FieldType))]
noncomputable def tb5_10 : List Jvm.Cond := [(Jvm.Cond.methodLink "PadConsole$Ports" (49 : Nat) ({ cls := "PadConsole$Video", name := "hCount", desc := "()I" } : Jvm.MethodName)), (Jvm.Cond.instanceMethod ({ cls := "PadConsole$Video", name := "hCount", desc := "()I" } : Jvm.MethodName)), (Jvm.Cond.selects "PadConsole$Video" ({ cls := "PadConsole$Video", name := "hCount", desc := "()I" } : Jvm.MethodName) ({ cls := "PadConsole$Video", name := "hCount", desc := "()I" } : Jvm.MethodName)), (Jvm.Cond.code ({ cls := "PadConsole$Video", name := "hCount", desc := "()I" } : Jvm.MethodName) prog_11_method_21_code (2 : Nat) (Option.some Jvm.ClassFile.FieldType.int)), (Jvm.Cond.methodLink "PadConsole$Ports" (81 : Nat) ({ cls := "PadConsole$Sound", name := "take", desc := "(I)V" } : Jvm.MethodName)), (Jvm.Cond.instanceMethod ({ cls := "PadConsole$Sound", name := "take", desc := "(I)V" } : Jvm.MethodName)), (Jvm.Cond.selects "PadConsole$Sound" ({ cls := "PadConsole$Sound", name := "take", desc := "(I)V" } : Jvm.MethodName) ({ cls := "PadConsole$Sound", name := "take", desc := "(I)V" } : Jvm.MethodName)), (Jvm.Cond.code ({ cls := "PadConsole$Sound", name := "take", desc := "(I)V" } : Jvm.MethodName) prog_9_method_7_code (4 : Nat) (Option.none : Option Jvm.ClassFile.FieldType)), (Jvm.Cond.methodLink "PadConsole$Ports" (87 : Nat) ({ cls := "PadConsole$Video", name := "writeData", desc := "(I)V" } : Jvm.MethodName)), (Jvm.Cond.instanceMethod ({ cls := "PadConsole$Video", name := "writeData", desc := "(I)V" } : Jvm.MethodName)), (Jvm.Cond.selects "PadConsole$Video" ({ cls := "PadConsole$Video", name := "writeData", desc := "(I)V" } : Jvm.MethodName) ({ cls := "PadConsole$Video", name := "writeData", desc := "(I)V" } : Jvm.MethodName)), (Jvm.Cond.code ({ cls := "PadConsole$Video", name := "writeData", desc := "(I)V" } : Jvm.MethodName) prog_11_method_16_code (3 : Nat) (Option.none : Option Jvm.ClassFile.FieldType)), (Jvm.Cond.methodLink "PadConsole$Video" (66 : Nat) ({ cls := "PadConsole$Video", name := "writeColour", desc := "(II)V" } : Jvm.MethodName)), (Jvm.Cond.privateMethod ({ cls := "PadConsole$Video", name := "writeColour", desc := "(II)V" } : Jvm.MethodName)), (Jvm.Cond.instanceMethod ({ cls := "PadConsole$Video", name := "writeColour", desc := "(II)V" } : Jvm.MethodName)), (Jvm.Cond.code ({ cls := "PadConsole$Video", name := "writeColour", desc := "(II)V" } : Jvm.MethodName) prog_11_method_17_code (3 : Nat) (Option.none : Option Jvm.ClassFile.FieldType))]
noncomputable def tb5_11 : List Jvm.Cond := [(Jvm.Cond.methodLink "PadConsole$Ports" (90 : Nat) ({ cls := "PadConsole$Video", name := "writeControl", desc := "(I)V" } : Jvm.MethodName)), (Jvm.Cond.instanceMethod ({ cls := "PadConsole$Video", name := "writeControl", desc := "(I)V" } : Jvm.MethodName)), (Jvm.Cond.selects "PadConsole$Video" ({ cls := "PadConsole$Video", name := "writeControl", desc := "(I)V" } : Jvm.MethodName) ({ cls := "PadConsole$Video", name := "writeControl", desc := "(I)V" } : Jvm.MethodName)), (Jvm.Cond.code ({ cls := "PadConsole$Video", name := "writeControl", desc := "(I)V" } : Jvm.MethodName) prog_11_method_12_code (2 : Nat) (Option.none : Option Jvm.ClassFile.FieldType)), (Jvm.Cond.methodLink "PadConsole$Ports" (93 : Nat) ({ cls := "PadConsole$Waves", name := "take", desc := "(II)V" } : Jvm.MethodName)), (Jvm.Cond.instanceMethod ({ cls := "PadConsole$Waves", name := "take", desc := "(II)V" } : Jvm.MethodName)), (Jvm.Cond.selects "PadConsole$Waves" ({ cls := "PadConsole$Waves", name := "take", desc := "(II)V" } : Jvm.MethodName) ({ cls := "PadConsole$Waves", name := "take", desc := "(II)V" } : Jvm.MethodName)), (Jvm.Cond.code ({ cls := "PadConsole$Waves", name := "take", desc := "(II)V" } : Jvm.MethodName) prog_12_method_8_code (3 : Nat) (Option.none : Option Jvm.ClassFile.FieldType)), (Jvm.Cond.methodLink "PadConsoleLaw" (204 : Nat) ({ cls := "PadConsole", name := "wipe", desc := "()V" } : Jvm.MethodName)), (Jvm.Cond.instanceMethod ({ cls := "PadConsole", name := "wipe", desc := "()V" } : Jvm.MethodName)), (Jvm.Cond.selects "PadConsole" ({ cls := "PadConsole", name := "wipe", desc := "()V" } : Jvm.MethodName) ({ cls := "PadConsole", name := "wipe", desc := "()V" } : Jvm.MethodName)), (Jvm.Cond.code ({ cls := "PadConsole", name := "wipe", desc := "()V" } : Jvm.MethodName) prog_1_method_27_code (1 : Nat) (Option.none : Option Jvm.ClassFile.FieldType)), (Jvm.Cond.methodLink "PadConsole" (266 : Nat) ({ cls := "PadConsole$Memory", name := "clearBattery", desc := "()V" } : Jvm.MethodName)), (Jvm.Cond.instanceMethod ({ cls := "PadConsole$Memory", name := "clearBattery", desc := "()V" } : Jvm.MethodName)), (Jvm.Cond.selects "PadConsole$Memory" ({ cls := "PadConsole$Memory", name := "clearBattery", desc := "()V" } : Jvm.MethodName) ({ cls := "PadConsole$Memory", name := "clearBattery", desc := "()V" } : Jvm.MethodName)), (Jvm.Cond.code ({ cls := "PadConsole$Memory", name := "clearBattery", desc := "()V" } : Jvm.MethodName) prog_4_method_20_code (1 : Nat) (Option.none : Option Jvm.ClassFile.FieldType))]
noncomputable def tb5_12 : List Jvm.Cond := [(Jvm.Cond.methodLink "PadConsoleLaw" (208 : Nat) ({ cls := "PadConsole", name := "video", desc := "(I)J" } : Jvm.MethodName)), (Jvm.Cond.instanceMethod ({ cls := "PadConsole", name := "video", desc := "(I)J" } : Jvm.MethodName)), (Jvm.Cond.selects "PadConsole" ({ cls := "PadConsole", name := "video", desc := "(I)J" } : Jvm.MethodName) ({ cls := "PadConsole", name := "video", desc := "(I)J" } : Jvm.MethodName)), (Jvm.Cond.code ({ cls := "PadConsole", name := "video", desc := "(I)J" } : Jvm.MethodName) prog_1_method_28_code (2 : Nat) (Option.some Jvm.ClassFile.FieldType.long)), (Jvm.Cond.methodLink "PadConsole" (269 : Nat) ({ cls := "PadConsole$Video", name := "eightFrom", desc := "(I)J" } : Jvm.MethodName)), (Jvm.Cond.instanceMethod ({ cls := "PadConsole$Video", name := "eightFrom", desc := "(I)J" } : Jvm.MethodName)), (Jvm.Cond.selects "PadConsole$Video" ({ cls := "PadConsole$Video", name := "eightFrom", desc := "(I)J" } : Jvm.MethodName) ({ cls := "PadConsole$Video", name := "eightFrom", desc := "(I)J" } : Jvm.MethodName)), (Jvm.Cond.code ({ cls := "PadConsole$Video", name := "eightFrom", desc := "(I)J" } : Jvm.MethodName) prog_11_method_9_code (5 : Nat) (Option.some Jvm.ClassFile.FieldType.long)), (Jvm.Cond.methodLink "PadConsoleLaw" (235 : Nat) ({ cls := "PadConsole", name := "trace", desc := "(I)I" } : Jvm.MethodName)), (Jvm.Cond.instanceMethod ({ cls := "PadConsole", name := "trace", desc := "(I)I" } : Jvm.MethodName)), (Jvm.Cond.selects "PadConsole" ({ cls := "PadConsole", name := "trace", desc := "(I)I" } : Jvm.MethodName) ({ cls := "PadConsole", name := "trace", desc := "(I)I" } : Jvm.MethodName)), (Jvm.Cond.code ({ cls := "PadConsole", name := "trace", desc := "(I)I" } : Jvm.MethodName) prog_1_method_36_code (2 : Nat) (Option.some Jvm.ClassFile.FieldType.int)), (Jvm.Cond.methodLink "PadConsole" (320 : Nat) ({ cls := "PadConsole$Desk", name := "stepBack", desc := "(I)I" } : Jvm.MethodName)), (Jvm.Cond.instanceMethod ({ cls := "PadConsole$Desk", name := "stepBack", desc := "(I)I" } : Jvm.MethodName)), (Jvm.Cond.selects "PadConsole$Desk" ({ cls := "PadConsole$Desk", name := "stepBack", desc := "(I)I" } : Jvm.MethodName) ({ cls := "PadConsole$Desk", name := "stepBack", desc := "(I)I" } : Jvm.MethodName)), (Jvm.Cond.code ({ cls := "PadConsole$Desk", name := "stepBack", desc := "(I)I" } : Jvm.MethodName) prog_3_method_5_code (2 : Nat) (Option.some Jvm.ClassFile.FieldType.int))]
noncomputable def tb5_13 : List Jvm.Cond := [(Jvm.Cond.methodLink "PadConsoleLaw" (94 : Nat) ({ cls := "PadConsoleLaw", name := "cell", desc := "([II)I" } : Jvm.MethodName)), (Jvm.Cond.static ({ cls := "PadConsoleLaw", name := "cell", desc := "([II)I" } : Jvm.MethodName)), (Jvm.Cond.code ({ cls := "PadConsoleLaw", name := "cell", desc := "([II)I" } : Jvm.MethodName) method_2_code (2 : Nat) (Option.some Jvm.ClassFile.FieldType.int)), (Jvm.Cond.methodLink "PadConsoleLaw" (108 : Nat) ({ cls := "PadConsoleLaw", name := "feed", desc := "(LPadConsole;IJJJ[J)I" } : Jvm.MethodName)), (Jvm.Cond.static ({ cls := "PadConsoleLaw", name := "feed", desc := "(LPadConsole;IJJJ[J)I" } : Jvm.MethodName)), (Jvm.Cond.codeWith ({ cls := "PadConsoleLaw", name := "feed", desc := "(LPadConsole;IJJJ[J)I" } : Jvm.MethodName) method_3_code (10 : Nat) (Option.some Jvm.ClassFile.FieldType.int) [((0 : Nat), (15 : Nat), (18 : Nat), (13 : Nat)), ((0 : Nat), (15 : Nat), (22 : Nat), (15 : Nat))]), (Jvm.Cond.classLink "PadConsoleLaw" (13 : Nat) "java/lang/IllegalArgumentException"), (Jvm.Cond.classLink "PadConsoleLaw" (15 : Nat) "java/lang/IllegalStateException"), (Jvm.Cond.methodLink "PadConsoleLaw" (7 : Nat) ({ cls := "PadConsole", name := "feed", desc := "(IJJJ)I" } : Jvm.MethodName)), (Jvm.Cond.instanceMethod ({ cls := "PadConsole", name := "feed", desc := "(IJJJ)I" } : Jvm.MethodName)), (Jvm.Cond.selects "PadConsole" ({ cls := "PadConsole", name := "feed", desc := "(IJJJ)I" } : Jvm.MethodName) ({ cls := "PadConsole", name := "feed", desc := "(IJJJ)I" } : Jvm.MethodName)), (Jvm.Cond.code ({ cls := "PadConsole", name := "feed", desc := "(IJJJ)I" } : Jvm.MethodName) prog_1_method_2_code (11 : Nat) (Option.some Jvm.ClassFile.FieldType.int)), (Jvm.Cond.classLink "PadConsole" (95 : Nat) "java/lang/IllegalArgumentException"), (Jvm.Cond.stringRef "PadConsole" (97 : Nat) "a call feeds 1 to 24 bytes"), (Jvm.Cond.methodLink "PadConsole" (99 : Nat) ({ cls := "java/lang/IllegalArgumentException", name := "<init>", desc := "(Ljava/lang/String;)V" } : Jvm.MethodName)), (Jvm.Cond.constant "PadConsole" (106 : Nat) (262656 : Int32))]
noncomputable def tb5_14 : List Jvm.Cond := [(Jvm.Cond.classLink "PadConsole" (107 : Nat) "java/lang/IllegalStateException"), (Jvm.Cond.instantiable "java/lang/IllegalStateException" (6 : Nat)), (Jvm.Cond.castable "java/lang/IllegalStateException" "java/lang/IllegalStateException"), (Jvm.Cond.selects "java/lang/IllegalStateException" ({ cls := "java/lang/Throwable", name := "fillInStackTrace", desc := "(I)Ljava/lang/Throwable;" } : Jvm.MethodName) ({ cls := "java/lang/Throwable", name := "fillInStackTrace", desc := "(I)Ljava/lang/Throwable;" } : Jvm.MethodName)), (Jvm.Cond.lays "java/lang/IllegalStateException" "java/lang/Throwable" "cause" "Ljava/lang/Throwable;"), (Jvm.Cond.lays "java/lang/IllegalStateException" "java/lang/Throwable" "stackTrace" "[Ljava/lang/StackTraceElement;"), (Jvm.Cond.lays "java/lang/IllegalStateException" "java/lang/Throwable" "suppressedExceptions" "Ljava/util/List;"), (Jvm.Cond.lays "java/lang/IllegalStateException" "java/lang/Throwable" "detailMessage" "Ljava/lang/String;"), (Jvm.Cond.lays "java/lang/IllegalStateException" "java/lang/Throwable" "backtrace" "Ljava/lang/Object;"), (Jvm.Cond.stringRef "PadConsole" (109 : Nat) "the tape is full"), (Jvm.Cond.methodLink "PadConsole" (111 : Nat) ({ cls := "java/lang/IllegalStateException", name := "<init>", desc := "(Ljava/lang/String;)V" } : Jvm.MethodName)), (Jvm.Cond.instanceMethod ({ cls := "java/lang/IllegalStateException", name := "<init>", desc := "(Ljava/lang/String;)V" } : Jvm.MethodName)), (Jvm.Cond.code ({ cls := "java/lang/IllegalStateException", name := "<init>", desc := "(Ljava/lang/String;)V" } : Jvm.MethodName) prog_19_method_2_code (2 : Nat) (Option.none : Option Jvm.ClassFile.FieldType)), (Jvm.Cond.methodLink "java/lang/IllegalStateException" (7 : Nat) ({ cls := "java/lang/RuntimeException", name := "<init>", desc := "(Ljava/lang/String;)V" } : Jvm.MethodName)), (Jvm.Cond.lays "java/lang/IllegalStateException" "java/lang/Throwable" "depth" "I"), (Jvm.Cond.superclass "java/lang/IllegalStateException" "java/lang/RuntimeException")]
set_option maxRecDepth 100000 in
theorem tbe5 : tables_1_5 = (tb5_0 ++ (tb5_1 ++ (tb5_2 ++ (tb5_3 ++ (tb5_4 ++ (tb5_5 ++ (tb5_6 ++ (tb5_7 ++ (tb5_8 ++ (tb5_9 ++ (tb5_10 ++ (tb5_11 ++ (tb5_12 ++ (tb5_13 ++ tb5_14)))))))))))))) := rfl
theorem tm5_0 {w : Jvm.Cond} (h : w ∈ tb5_0) : w ∈ tables_1_5 := by
  rw [tbe5]
  exact (List.mem_append_left _ h)
theorem tm5_1 {w : Jvm.Cond} (h : w ∈ tb5_1) : w ∈ tables_1_5 := by
  rw [tbe5]
  exact (List.mem_append_right _ (List.mem_append_left _ h))
theorem tm5_2 {w : Jvm.Cond} (h : w ∈ tb5_2) : w ∈ tables_1_5 := by
  rw [tbe5]
  exact (List.mem_append_right _ (List.mem_append_right _ (List.mem_append_left _ h)))
theorem tm5_3 {w : Jvm.Cond} (h : w ∈ tb5_3) : w ∈ tables_1_5 := by
  rw [tbe5]
  exact (List.mem_append_right _ (List.mem_append_right _ (List.mem_append_right _ (List.mem_append_left _ h))))
theorem tm5_4 {w : Jvm.Cond} (h : w ∈ tb5_4) : w ∈ tables_1_5 := by
  rw [tbe5]
  exact (List.mem_append_right _ (List.mem_append_right _ (List.mem_append_right _ (List.mem_append_right _ (List.mem_append_left _ h)))))
theorem tm5_5 {w : Jvm.Cond} (h : w ∈ tb5_5) : w ∈ tables_1_5 := by
  rw [tbe5]
  exact (List.mem_append_right _ (List.mem_append_right _ (List.mem_append_right _ (List.mem_append_right _ (List.mem_append_right _ (List.mem_append_left _ h))))))
theorem tm5_6 {w : Jvm.Cond} (h : w ∈ tb5_6) : w ∈ tables_1_5 := by
  rw [tbe5]
  exact (List.mem_append_right _ (List.mem_append_right _ (List.mem_append_right _ (List.mem_append_right _ (List.mem_append_right _ (List.mem_append_right _ (List.mem_append_left _ h)))))))
theorem tm5_7 {w : Jvm.Cond} (h : w ∈ tb5_7) : w ∈ tables_1_5 := by
  rw [tbe5]
  exact (List.mem_append_right _ (List.mem_append_right _ (List.mem_append_right _ (List.mem_append_right _ (List.mem_append_right _ (List.mem_append_right _ (List.mem_append_right _ (List.mem_append_left _ h))))))))
theorem tm5_8 {w : Jvm.Cond} (h : w ∈ tb5_8) : w ∈ tables_1_5 := by
  rw [tbe5]
  exact (List.mem_append_right _ (List.mem_append_right _ (List.mem_append_right _ (List.mem_append_right _ (List.mem_append_right _ (List.mem_append_right _ (List.mem_append_right _ (List.mem_append_right _ (List.mem_append_left _ h)))))))))
theorem tm5_9 {w : Jvm.Cond} (h : w ∈ tb5_9) : w ∈ tables_1_5 := by
  rw [tbe5]
  exact (List.mem_append_right _ (List.mem_append_right _ (List.mem_append_right _ (List.mem_append_right _ (List.mem_append_right _ (List.mem_append_right _ (List.mem_append_right _ (List.mem_append_right _ (List.mem_append_right _ (List.mem_append_left _ h))))))))))
theorem tm5_10 {w : Jvm.Cond} (h : w ∈ tb5_10) : w ∈ tables_1_5 := by
  rw [tbe5]
  exact (List.mem_append_right _ (List.mem_append_right _ (List.mem_append_right _ (List.mem_append_right _ (List.mem_append_right _ (List.mem_append_right _ (List.mem_append_right _ (List.mem_append_right _ (List.mem_append_right _ (List.mem_append_right _ (List.mem_append_left _ h)))))))))))
theorem tm5_11 {w : Jvm.Cond} (h : w ∈ tb5_11) : w ∈ tables_1_5 := by
  rw [tbe5]
  exact (List.mem_append_right _ (List.mem_append_right _ (List.mem_append_right _ (List.mem_append_right _ (List.mem_append_right _ (List.mem_append_right _ (List.mem_append_right _ (List.mem_append_right _ (List.mem_append_right _ (List.mem_append_right _ (List.mem_append_right _ (List.mem_append_left _ h))))))))))))
theorem tm5_12 {w : Jvm.Cond} (h : w ∈ tb5_12) : w ∈ tables_1_5 := by
  rw [tbe5]
  exact (List.mem_append_right _ (List.mem_append_right _ (List.mem_append_right _ (List.mem_append_right _ (List.mem_append_right _ (List.mem_append_right _ (List.mem_append_right _ (List.mem_append_right _ (List.mem_append_right _ (List.mem_append_right _ (List.mem_append_right _ (List.mem_append_right _ (List.mem_append_left _ h)))))))))))))
theorem tm5_13 {w : Jvm.Cond} (h : w ∈ tb5_13) : w ∈ tables_1_5 := by
  rw [tbe5]
  exact (List.mem_append_right _ (List.mem_append_right _ (List.mem_append_right _ (List.mem_append_right _ (List.mem_append_right _ (List.mem_append_right _ (List.mem_append_right _ (List.mem_append_right _ (List.mem_append_right _ (List.mem_append_right _ (List.mem_append_right _ (List.mem_append_right _ (List.mem_append_right _ (List.mem_append_left _ h))))))))))))))
theorem tm5_14 {w : Jvm.Cond} (h : w ∈ tb5_14) : w ∈ tables_1_5 := by
  rw [tbe5]
  exact (List.mem_append_right _ (List.mem_append_right _ (List.mem_append_right _ (List.mem_append_right _ (List.mem_append_right _ (List.mem_append_right _ (List.mem_append_right _ (List.mem_append_right _ (List.mem_append_right _ (List.mem_append_right _ (List.mem_append_right _ (List.mem_append_right _ (List.mem_append_right _ (List.mem_append_right _ h))))))))))))))
noncomputable def tb6_0 : List Jvm.Cond := [(Jvm.Cond.methodLink "PadConsole" (112 : Nat) ({ cls := "PadConsole$Memory", name := "addToTape", desc := "(I)V" } : Jvm.MethodName)), (Jvm.Cond.instanceMethod ({ cls := "PadConsole$Memory", name := "addToTape", desc := "(I)V" } : Jvm.MethodName)), (Jvm.Cond.selects "PadConsole$Memory" ({ cls := "PadConsole$Memory", name := "addToTape", desc := "(I)V" } : Jvm.MethodName) ({ cls := "PadConsole$Memory", name := "addToTape", desc := "(I)V" } : Jvm.MethodName)), (Jvm.Cond.code ({ cls := "PadConsole$Memory", name := "addToTape", desc := "(I)V" } : Jvm.MethodName) prog_4_method_2_code (2 : Nat) (Option.none : Option Jvm.ClassFile.FieldType)), (Jvm.Cond.methodLink "PadConsoleLaw" (112 : Nat) ({ cls := "PadConsoleLaw", name := "grow", desc := "(LPadConsole;I[J)I" } : Jvm.MethodName)), (Jvm.Cond.static ({ cls := "PadConsoleLaw", name := "grow", desc := "(LPadConsole;I[J)I" } : Jvm.MethodName)), (Jvm.Cond.codeWith ({ cls := "PadConsoleLaw", name := "grow", desc := "(LPadConsole;I[J)I" } : Jvm.MethodName) method_4_code (4 : Nat) (Option.some Jvm.ClassFile.FieldType.int) [((0 : Nat), (9 : Nat), (12 : Nat), (13 : Nat)), ((0 : Nat), (9 : Nat), (15 : Nat), (15 : Nat))]), (Jvm.Cond.methodLink "PadConsoleLaw" (17 : Nat) ({ cls := "PadConsole", name := "grow", desc := "(I)I" } : Jvm.MethodName)), (Jvm.Cond.instanceMethod ({ cls := "PadConsole", name := "grow", desc := "(I)I" } : Jvm.MethodName)), (Jvm.Cond.selects "PadConsole" ({ cls := "PadConsole", name := "grow", desc := "(I)I" } : Jvm.MethodName) ({ cls := "PadConsole", name := "grow", desc := "(I)I" } : Jvm.MethodName)), (Jvm.Cond.code ({ cls := "PadConsole", name := "grow", desc := "(I)I" } : Jvm.MethodName) prog_1_method_3_code (3 : Nat) (Option.some Jvm.ClassFile.FieldType.int)), (Jvm.Cond.stringRef "PadConsole" (116 : Nat) "the tape can't have that length"), (Jvm.Cond.stringRef "PadConsole" (118 : Nat) "the tape is empty"), (Jvm.Cond.methodLink "PadConsole" (120 : Nat) ({ cls := "PadConsole$Memory", name := "repeatTape", desc := "(I)V" } : Jvm.MethodName)), (Jvm.Cond.instanceMethod ({ cls := "PadConsole$Memory", name := "repeatTape", desc := "(I)V" } : Jvm.MethodName)), (Jvm.Cond.selects "PadConsole$Memory" ({ cls := "PadConsole$Memory", name := "repeatTape", desc := "(I)V" } : Jvm.MethodName) ({ cls := "PadConsole$Memory", name := "repeatTape", desc := "(I)V" } : Jvm.MethodName))]
noncomputable def tb6_1 : List Jvm.Cond := [(Jvm.Cond.code ({ cls := "PadConsole$Memory", name := "repeatTape", desc := "(I)V" } : Jvm.MethodName) prog_4_method_3_code (5 : Nat) (Option.none : Option Jvm.ClassFile.FieldType)), (Jvm.Cond.methodLink "PadConsole$Memory" (43 : Nat) ({ cls := "java/lang/Math", name := "min", desc := "(II)I" } : Jvm.MethodName)), (Jvm.Cond.methodLink "PadConsole$Memory" (49 : Nat) ({ cls := "java/lang/Math", name := "max", desc := "(II)I" } : Jvm.MethodName)), (Jvm.Cond.methodLink "PadConsoleLaw" (116 : Nat) ({ cls := "PadConsoleLaw", name := "patch", desc := "(LPadConsole;IJ)I" } : Jvm.MethodName)), (Jvm.Cond.static ({ cls := "PadConsoleLaw", name := "patch", desc := "(LPadConsole;IJ)I" } : Jvm.MethodName)), (Jvm.Cond.codeWith ({ cls := "PadConsoleLaw", name := "patch", desc := "(LPadConsole;IJ)I" } : Jvm.MethodName) method_5_code (5 : Nat) (Option.some Jvm.ClassFile.FieldType.int) [((0 : Nat), (6 : Nat), (9 : Nat), (13 : Nat))]), (Jvm.Cond.methodLink "PadConsoleLaw" (21 : Nat) ({ cls := "PadConsole", name := "patch", desc := "(IJ)V" } : Jvm.MethodName)), (Jvm.Cond.instanceMethod ({ cls := "PadConsole", name := "patch", desc := "(IJ)V" } : Jvm.MethodName)), (Jvm.Cond.selects "PadConsole" ({ cls := "PadConsole", name := "patch", desc := "(IJ)V" } : Jvm.MethodName) ({ cls := "PadConsole", name := "patch", desc := "(IJ)V" } : Jvm.MethodName)), (Jvm.Cond.code ({ cls := "PadConsole", name := "patch", desc := "(IJ)V" } : Jvm.MethodName) prog_1_method_4_code (4 : Nat) (Option.none : Option Jvm.ClassFile.FieldType)), (Jvm.Cond.stringRef "PadConsole" (123 : Nat) "the tape has no eight bytes there"), (Jvm.Cond.methodLink "PadConsole" (125 : Nat) ({ cls := "PadConsole$Memory", name := "changeTape", desc := "(IJ)V" } : Jvm.MethodName)), (Jvm.Cond.instanceMethod ({ cls := "PadConsole$Memory", name := "changeTape", desc := "(IJ)V" } : Jvm.MethodName)), (Jvm.Cond.selects "PadConsole$Memory" ({ cls := "PadConsole$Memory", name := "changeTape", desc := "(IJ)V" } : Jvm.MethodName) ({ cls := "PadConsole$Memory", name := "changeTape", desc := "(IJ)V" } : Jvm.MethodName)), (Jvm.Cond.code ({ cls := "PadConsole$Memory", name := "changeTape", desc := "(IJ)V" } : Jvm.MethodName) prog_4_method_4_code (5 : Nat) (Option.none : Option Jvm.ClassFile.FieldType)), (Jvm.Cond.methodLink "PadConsoleLaw" (125 : Nat) ({ cls := "PadConsoleLaw", name := "card", desc := "(LPadConsole;I[J)I" } : Jvm.MethodName))]
noncomputable def tb6_2 : List Jvm.Cond := [(Jvm.Cond.static ({ cls := "PadConsoleLaw", name := "card", desc := "(LPadConsole;I[J)I" } : Jvm.MethodName)), (Jvm.Cond.codeWith ({ cls := "PadConsoleLaw", name := "card", desc := "(LPadConsole;I[J)I" } : Jvm.MethodName) method_6_code (4 : Nat) (Option.some Jvm.ClassFile.FieldType.int) [((0 : Nat), (9 : Nat), (12 : Nat), (13 : Nat))]), (Jvm.Cond.methodLink "PadConsoleLaw" (25 : Nat) ({ cls := "PadConsole", name := "card", desc := "(I)I" } : Jvm.MethodName)), (Jvm.Cond.instanceMethod ({ cls := "PadConsole", name := "card", desc := "(I)I" } : Jvm.MethodName)), (Jvm.Cond.selects "PadConsole" ({ cls := "PadConsole", name := "card", desc := "(I)I" } : Jvm.MethodName) ({ cls := "PadConsole", name := "card", desc := "(I)I" } : Jvm.MethodName)), (Jvm.Cond.code ({ cls := "PadConsole", name := "card", desc := "(I)I" } : Jvm.MethodName) prog_1_method_6_code (2 : Nat) (Option.some Jvm.ClassFile.FieldType.int)), (Jvm.Cond.stringRef "PadConsole" (142 : Nat) "a cartridge has no such number"), (Jvm.Cond.methodLink "PadConsole" (144 : Nat) ({ cls := "PadConsole$Memory", name := "aboutCard", desc := "(I)I" } : Jvm.MethodName)), (Jvm.Cond.instanceMethod ({ cls := "PadConsole$Memory", name := "aboutCard", desc := "(I)I" } : Jvm.MethodName)), (Jvm.Cond.selects "PadConsole$Memory" ({ cls := "PadConsole$Memory", name := "aboutCard", desc := "(I)I" } : Jvm.MethodName) ({ cls := "PadConsole$Memory", name := "aboutCard", desc := "(I)I" } : Jvm.MethodName)), (Jvm.Cond.code ({ cls := "PadConsole$Memory", name := "aboutCard", desc := "(I)I" } : Jvm.MethodName) prog_4_method_10_code (2 : Nat) (Option.some Jvm.ClassFile.FieldType.int)), (Jvm.Cond.methodLink "PadConsole$Memory" (86 : Nat) ({ cls := "PadConsole$Memory", name := "decimal", desc := "(I)I" } : Jvm.MethodName)), (Jvm.Cond.privateMethod ({ cls := "PadConsole$Memory", name := "decimal", desc := "(I)I" } : Jvm.MethodName)), (Jvm.Cond.instanceMethod ({ cls := "PadConsole$Memory", name := "decimal", desc := "(I)I" } : Jvm.MethodName)), (Jvm.Cond.code ({ cls := "PadConsole$Memory", name := "decimal", desc := "(I)I" } : Jvm.MethodName) prog_4_method_11_code (3 : Nat) (Option.some Jvm.ClassFile.FieldType.int)), (Jvm.Cond.methodLink "PadConsole$Memory" (89 : Nat) ({ cls := "PadConsole$Memory", name := "sumOfCard", desc := "()I" } : Jvm.MethodName))]
noncomputable def tb6_3 : List Jvm.Cond := [(Jvm.Cond.privateMethod ({ cls := "PadConsole$Memory", name := "sumOfCard", desc := "()I" } : Jvm.MethodName)), (Jvm.Cond.instanceMethod ({ cls := "PadConsole$Memory", name := "sumOfCard", desc := "()I" } : Jvm.MethodName)), (Jvm.Cond.code ({ cls := "PadConsole$Memory", name := "sumOfCard", desc := "()I" } : Jvm.MethodName) prog_4_method_12_code (4 : Nat) (Option.some Jvm.ClassFile.FieldType.int)), (Jvm.Cond.methodLink "PadConsoleLaw" (128 : Nat) ({ cls := "PadConsoleLaw", name := "step", desc := "(LPadConsole;I[J)I" } : Jvm.MethodName)), (Jvm.Cond.static ({ cls := "PadConsoleLaw", name := "step", desc := "(LPadConsole;I[J)I" } : Jvm.MethodName)), (Jvm.Cond.codeWith ({ cls := "PadConsoleLaw", name := "step", desc := "(LPadConsole;I[J)I" } : Jvm.MethodName) method_7_code (4 : Nat) (Option.some Jvm.ClassFile.FieldType.int) [((0 : Nat), (9 : Nat), (12 : Nat), (13 : Nat))]), (Jvm.Cond.methodLink "PadConsoleLaw" (28 : Nat) ({ cls := "PadConsole", name := "step", desc := "(I)I" } : Jvm.MethodName)), (Jvm.Cond.instanceMethod ({ cls := "PadConsole", name := "step", desc := "(I)I" } : Jvm.MethodName)), (Jvm.Cond.selects "PadConsole" ({ cls := "PadConsole", name := "step", desc := "(I)I" } : Jvm.MethodName) ({ cls := "PadConsole", name := "step", desc := "(I)I" } : Jvm.MethodName)), (Jvm.Cond.code ({ cls := "PadConsole", name := "step", desc := "(I)I" } : Jvm.MethodName) prog_1_method_7_code (2 : Nat) (Option.some Jvm.ClassFile.FieldType.int)), (Jvm.Cond.stringRef "PadConsole" (148 : Nat) "a call makes 1 to 20000 steps"), (Jvm.Cond.methodLink "PadConsole" (150 : Nat) ({ cls := "PadConsole", name := "run", desc := "(II)I" } : Jvm.MethodName)), (Jvm.Cond.privateMethod ({ cls := "PadConsole", name := "run", desc := "(II)I" } : Jvm.MethodName)), (Jvm.Cond.instanceMethod ({ cls := "PadConsole", name := "run", desc := "(II)I" } : Jvm.MethodName)), (Jvm.Cond.code ({ cls := "PadConsole", name := "run", desc := "(II)I" } : Jvm.MethodName) prog_1_method_39_code (8 : Nat) (Option.some Jvm.ClassFile.FieldType.int)), (Jvm.Cond.methodLink "PadConsole" (325 : Nat) ({ cls := "PadConsole$Clock", name := "count", desc := "(I)J" } : Jvm.MethodName))]
noncomputable def tb6_4 : List Jvm.Cond := [(Jvm.Cond.instanceMethod ({ cls := "PadConsole$Clock", name := "count", desc := "(I)J" } : Jvm.MethodName)), (Jvm.Cond.selects "PadConsole$Clock" ({ cls := "PadConsole$Clock", name := "count", desc := "(I)J" } : Jvm.MethodName) ({ cls := "PadConsole$Clock", name := "count", desc := "(I)J" } : Jvm.MethodName)), (Jvm.Cond.code ({ cls := "PadConsole$Clock", name := "count", desc := "(I)J" } : Jvm.MethodName) prog_2_method_4_code (2 : Nat) (Option.some Jvm.ClassFile.FieldType.long)), (Jvm.Cond.methodLink "PadConsole" (247 : Nat) ({ cls := "PadConsole$Processor", name := "value", desc := "(I)I" } : Jvm.MethodName)), (Jvm.Cond.instanceMethod ({ cls := "PadConsole$Processor", name := "value", desc := "(I)I" } : Jvm.MethodName)), (Jvm.Cond.selects "PadConsole$Processor" ({ cls := "PadConsole$Processor", name := "value", desc := "(I)I" } : Jvm.MethodName) ({ cls := "PadConsole$Processor", name := "value", desc := "(I)I" } : Jvm.MethodName)), (Jvm.Cond.code ({ cls := "PadConsole$Processor", name := "value", desc := "(I)I" } : Jvm.MethodName) prog_7_method_5_code (2 : Nat) (Option.some Jvm.ClassFile.FieldType.int)), (Jvm.Cond.methodLink "PadConsole" (348 : Nat) ({ cls := "PadConsole$Desk", name := "isStop", desc := "(I)Z" } : Jvm.MethodName)), (Jvm.Cond.instanceMethod ({ cls := "PadConsole$Desk", name := "isStop", desc := "(I)Z" } : Jvm.MethodName)), (Jvm.Cond.selects "PadConsole$Desk" ({ cls := "PadConsole$Desk", name := "isStop", desc := "(I)Z" } : Jvm.MethodName) ({ cls := "PadConsole$Desk", name := "isStop", desc := "(I)Z" } : Jvm.MethodName)), (Jvm.Cond.code ({ cls := "PadConsole$Desk", name := "isStop", desc := "(I)Z" } : Jvm.MethodName) prog_3_method_7_code (2 : Nat) (Option.some Jvm.ClassFile.FieldType.boolean)), (Jvm.Cond.methodLink "PadConsole$Desk" (41 : Nat) ({ cls := "PadConsole$Desk", name := "placeOfStop", desc := "(I)I" } : Jvm.MethodName)), (Jvm.Cond.privateMethod ({ cls := "PadConsole$Desk", name := "placeOfStop", desc := "(I)I" } : Jvm.MethodName)), (Jvm.Cond.instanceMethod ({ cls := "PadConsole$Desk", name := "placeOfStop", desc := "(I)I" } : Jvm.MethodName)), (Jvm.Cond.code ({ cls := "PadConsole$Desk", name := "placeOfStop", desc := "(I)I" } : Jvm.MethodName) prog_3_method_8_code (3 : Nat) (Option.some Jvm.ClassFile.FieldType.int)), (Jvm.Cond.methodLink "PadConsole" (351 : Nat) ({ cls := "PadConsole$Desk", name := "noteStep", desc := "(I)V" } : Jvm.MethodName))]
noncomputable def tb6_5 : List Jvm.Cond := [(Jvm.Cond.instanceMethod ({ cls := "PadConsole$Desk", name := "noteStep", desc := "(I)V" } : Jvm.MethodName)), (Jvm.Cond.selects "PadConsole$Desk" ({ cls := "PadConsole$Desk", name := "noteStep", desc := "(I)V" } : Jvm.MethodName) ({ cls := "PadConsole$Desk", name := "noteStep", desc := "(I)V" } : Jvm.MethodName)), (Jvm.Cond.code ({ cls := "PadConsole$Desk", name := "noteStep", desc := "(I)V" } : Jvm.MethodName) prog_3_method_4_code (2 : Nat) (Option.none : Option Jvm.ClassFile.FieldType)), (Jvm.Cond.methodLink "PadConsole" (354 : Nat) ({ cls := "PadConsole$Video", name := "asks", desc := "()Z" } : Jvm.MethodName)), (Jvm.Cond.instanceMethod ({ cls := "PadConsole$Video", name := "asks", desc := "()Z" } : Jvm.MethodName)), (Jvm.Cond.selects "PadConsole$Video" ({ cls := "PadConsole$Video", name := "asks", desc := "()Z" } : Jvm.MethodName) ({ cls := "PadConsole$Video", name := "asks", desc := "()Z" } : Jvm.MethodName)), (Jvm.Cond.code ({ cls := "PadConsole$Video", name := "asks", desc := "()Z" } : Jvm.MethodName) prog_11_method_18_code (1 : Nat) (Option.some Jvm.ClassFile.FieldType.boolean)), (Jvm.Cond.methodLink "PadConsole" (358 : Nat) ({ cls := "PadConsole$Processor", name := "answerCalls", desc := "(Z)I" } : Jvm.MethodName)), (Jvm.Cond.instanceMethod ({ cls := "PadConsole$Processor", name := "answerCalls", desc := "(Z)I" } : Jvm.MethodName)), (Jvm.Cond.selects "PadConsole$Processor" ({ cls := "PadConsole$Processor", name := "answerCalls", desc := "(Z)I" } : Jvm.MethodName) ({ cls := "PadConsole$Processor", name := "answerCalls", desc := "(Z)I" } : Jvm.MethodName)), (Jvm.Cond.code ({ cls := "PadConsole$Processor", name := "answerCalls", desc := "(Z)I" } : Jvm.MethodName) prog_7_method_8_code (3 : Nat) (Option.some Jvm.ClassFile.FieldType.int)), (Jvm.Cond.methodLink "PadConsole$Processor" (48 : Nat) ({ cls := "PadConsole$Processor", name := "breakOff", desc := "(I)V" } : Jvm.MethodName)), (Jvm.Cond.privateMethod ({ cls := "PadConsole$Processor", name := "breakOff", desc := "(I)V" } : Jvm.MethodName)), (Jvm.Cond.instanceMethod ({ cls := "PadConsole$Processor", name := "breakOff", desc := "(I)V" } : Jvm.MethodName)), (Jvm.Cond.code ({ cls := "PadConsole$Processor", name := "breakOff", desc := "(I)V" } : Jvm.MethodName) prog_7_method_9_code (2 : Nat) (Option.none : Option Jvm.ClassFile.FieldType)), (Jvm.Cond.methodLink "PadConsole$Processor" (56 : Nat) ({ cls := "PadConsole$Processor", name := "growR", desc := "()V" } : Jvm.MethodName))]
noncomputable def tb6_6 : List Jvm.Cond := [(Jvm.Cond.privateMethod ({ cls := "PadConsole$Processor", name := "growR", desc := "()V" } : Jvm.MethodName)), (Jvm.Cond.instanceMethod ({ cls := "PadConsole$Processor", name := "growR", desc := "()V" } : Jvm.MethodName)), (Jvm.Cond.code ({ cls := "PadConsole$Processor", name := "growR", desc := "()V" } : Jvm.MethodName) prog_7_method_16_code (1 : Nat) (Option.none : Option Jvm.ClassFile.FieldType)), (Jvm.Cond.methodLink "PadConsole$Processor" (59 : Nat) ({ cls := "PadConsole$Processor", name := "push", desc := "(I)V" } : Jvm.MethodName)), (Jvm.Cond.privateMethod ({ cls := "PadConsole$Processor", name := "push", desc := "(I)V" } : Jvm.MethodName)), (Jvm.Cond.instanceMethod ({ cls := "PadConsole$Processor", name := "push", desc := "(I)V" } : Jvm.MethodName)), (Jvm.Cond.code ({ cls := "PadConsole$Processor", name := "push", desc := "(I)V" } : Jvm.MethodName) prog_7_method_19_code (2 : Nat) (Option.none : Option Jvm.ClassFile.FieldType)), (Jvm.Cond.methodLink "PadConsole$Processor" (117 : Nat) ({ cls := "PadConsole$Memory", name := "write", desc := "(II)V" } : Jvm.MethodName)), (Jvm.Cond.constant "PadConsole$Processor" (47 : Nat) (65535 : Int32)), (Jvm.Cond.methodLink "PadConsole$Processor" (62 : Nat) ({ cls := "PadConsole$Processor", name := "goTo", desc := "(I)V" } : Jvm.MethodName)), (Jvm.Cond.privateMethod ({ cls := "PadConsole$Processor", name := "goTo", desc := "(I)V" } : Jvm.MethodName)), (Jvm.Cond.instanceMethod ({ cls := "PadConsole$Processor", name := "goTo", desc := "(I)V" } : Jvm.MethodName)), (Jvm.Cond.code ({ cls := "PadConsole$Processor", name := "goTo", desc := "(I)V" } : Jvm.MethodName) prog_7_method_21_code (2 : Nat) (Option.none : Option Jvm.ClassFile.FieldType)), (Jvm.Cond.methodLink "PadConsole$Processor" (52 : Nat) ({ cls := "PadConsole$Processor", name := "readWord", desc := "(I)I" } : Jvm.MethodName)), (Jvm.Cond.privateMethod ({ cls := "PadConsole$Processor", name := "readWord", desc := "(I)I" } : Jvm.MethodName)), (Jvm.Cond.instanceMethod ({ cls := "PadConsole$Processor", name := "readWord", desc := "(I)I" } : Jvm.MethodName))]
noncomputable def tb6_7 : List Jvm.Cond := [(Jvm.Cond.code ({ cls := "PadConsole$Processor", name := "readWord", desc := "(I)I" } : Jvm.MethodName) prog_7_method_17_code (2 : Nat) (Option.some Jvm.ClassFile.FieldType.int)), (Jvm.Cond.methodLink "PadConsole$Processor" (75 : Nat) ({ cls := "PadConsole$Memory", name := "read", desc := "(I)I" } : Jvm.MethodName)), (Jvm.Cond.methodLink "PadConsole" (362 : Nat) ({ cls := "PadConsole$Processor", name := "carryOn", desc := "()I" } : Jvm.MethodName)), (Jvm.Cond.instanceMethod ({ cls := "PadConsole$Processor", name := "carryOn", desc := "()I" } : Jvm.MethodName)), (Jvm.Cond.selects "PadConsole$Processor" ({ cls := "PadConsole$Processor", name := "carryOn", desc := "()I" } : Jvm.MethodName) ({ cls := "PadConsole$Processor", name := "carryOn", desc := "()I" } : Jvm.MethodName)), (Jvm.Cond.code ({ cls := "PadConsole$Processor", name := "carryOn", desc := "()I" } : Jvm.MethodName) prog_7_method_10_code (4 : Nat) (Option.some Jvm.ClassFile.FieldType.int)), (Jvm.Cond.methodLink "PadConsole$Processor" (65 : Nat) ({ cls := "PadConsole$Processor", name := "pairAt", desc := "(I)I" } : Jvm.MethodName)), (Jvm.Cond.privateMethod ({ cls := "PadConsole$Processor", name := "pairAt", desc := "(I)I" } : Jvm.MethodName)), (Jvm.Cond.instanceMethod ({ cls := "PadConsole$Processor", name := "pairAt", desc := "(I)I" } : Jvm.MethodName)), (Jvm.Cond.code ({ cls := "PadConsole$Processor", name := "pairAt", desc := "(I)I" } : Jvm.MethodName) prog_7_method_22_code (2 : Nat) (Option.some Jvm.ClassFile.FieldType.int)), (Jvm.Cond.methodLink "PadConsole$Processor" (71 : Nat) ({ cls := "PadConsole$Processor", name := "fetchOp", desc := "()I" } : Jvm.MethodName)), (Jvm.Cond.privateMethod ({ cls := "PadConsole$Processor", name := "fetchOp", desc := "()I" } : Jvm.MethodName)), (Jvm.Cond.instanceMethod ({ cls := "PadConsole$Processor", name := "fetchOp", desc := "()I" } : Jvm.MethodName)), (Jvm.Cond.code ({ cls := "PadConsole$Processor", name := "fetchOp", desc := "()I" } : Jvm.MethodName) prog_7_method_14_code (1 : Nat) (Option.some Jvm.ClassFile.FieldType.int)), (Jvm.Cond.methodLink "PadConsole$Processor" (114 : Nat) ({ cls := "PadConsole$Processor", name := "fetch", desc := "()I" } : Jvm.MethodName)), (Jvm.Cond.privateMethod ({ cls := "PadConsole$Processor", name := "fetch", desc := "()I" } : Jvm.MethodName))]
noncomputable def tb6_8 : List Jvm.Cond := [(Jvm.Cond.instanceMethod ({ cls := "PadConsole$Processor", name := "fetch", desc := "()I" } : Jvm.MethodName)), (Jvm.Cond.code ({ cls := "PadConsole$Processor", name := "fetch", desc := "()I" } : Jvm.MethodName) prog_7_method_13_code (2 : Nat) (Option.some Jvm.ClassFile.FieldType.int)), (Jvm.Cond.methodLink "PadConsole$Processor" (80 : Nat) ({ cls := "PadConsole$Processor", name := "turnBeside", desc := "()I" } : Jvm.MethodName)), (Jvm.Cond.privateMethod ({ cls := "PadConsole$Processor", name := "turnBeside", desc := "()I" } : Jvm.MethodName)), (Jvm.Cond.instanceMethod ({ cls := "PadConsole$Processor", name := "turnBeside", desc := "()I" } : Jvm.MethodName)), (Jvm.Cond.code ({ cls := "PadConsole$Processor", name := "turnBeside", desc := "()I" } : Jvm.MethodName) prog_7_method_56_code (4 : Nat) (Option.some Jvm.ClassFile.FieldType.int)), (Jvm.Cond.methodLink "PadConsole$Processor" (226 : Nat) ({ cls := "PadConsole$Processor", name := "askBit", desc := "(III)V" } : Jvm.MethodName)), (Jvm.Cond.privateMethod ({ cls := "PadConsole$Processor", name := "askBit", desc := "(III)V" } : Jvm.MethodName)), (Jvm.Cond.instanceMethod ({ cls := "PadConsole$Processor", name := "askBit", desc := "(III)V" } : Jvm.MethodName)), (Jvm.Cond.code ({ cls := "PadConsole$Processor", name := "askBit", desc := "(III)V" } : Jvm.MethodName) prog_7_method_58_code (5 : Nat) (Option.none : Option Jvm.ClassFile.FieldType)), (Jvm.Cond.methodLink "PadConsole$Processor" (230 : Nat) ({ cls := "PadConsole$Processor", name := "turned", desc := "(II)I" } : Jvm.MethodName)), (Jvm.Cond.privateMethod ({ cls := "PadConsole$Processor", name := "turned", desc := "(II)I" } : Jvm.MethodName)), (Jvm.Cond.instanceMethod ({ cls := "PadConsole$Processor", name := "turned", desc := "(II)I" } : Jvm.MethodName)), (Jvm.Cond.code ({ cls := "PadConsole$Processor", name := "turned", desc := "(II)I" } : Jvm.MethodName) prog_7_method_57_code (4 : Nat) (Option.some Jvm.ClassFile.FieldType.int)), (Jvm.Cond.methodLink "PadConsole$Processor" (193 : Nat) ({ cls := "PadConsole$Processor", name := "turn", desc := "(II)I" } : Jvm.MethodName)), (Jvm.Cond.privateMethod ({ cls := "PadConsole$Processor", name := "turn", desc := "(II)I" } : Jvm.MethodName))]
noncomputable def tb6_9 : List Jvm.Cond := [(Jvm.Cond.instanceMethod ({ cls := "PadConsole$Processor", name := "turn", desc := "(II)I" } : Jvm.MethodName)), (Jvm.Cond.code ({ cls := "PadConsole$Processor", name := "turn", desc := "(II)I" } : Jvm.MethodName) prog_7_method_44_code (7 : Nat) (Option.some Jvm.ClassFile.FieldType.int)), (Jvm.Cond.methodLink "PadConsole$Processor" (187 : Nat) ({ cls := "PadConsole$Processor", name := "by", desc := "(I)I" } : Jvm.MethodName)), (Jvm.Cond.static ({ cls := "PadConsole$Processor", name := "by", desc := "(I)I" } : Jvm.MethodName)), (Jvm.Cond.code ({ cls := "PadConsole$Processor", name := "by", desc := "(I)I" } : Jvm.MethodName) prog_7_method_32_code (1 : Nat) (Option.some Jvm.ClassFile.FieldType.int)), (Jvm.Cond.methodLink "PadConsole$Processor" (196 : Nat) ({ cls := "PadConsole$Processor", name := "parity", desc := "(I)I" } : Jvm.MethodName)), (Jvm.Cond.static ({ cls := "PadConsole$Processor", name := "parity", desc := "(I)I" } : Jvm.MethodName)), (Jvm.Cond.code ({ cls := "PadConsole$Processor", name := "parity", desc := "(I)I" } : Jvm.MethodName) prog_7_method_33_code (1 : Nat) (Option.some Jvm.ClassFile.FieldType.int)), (Jvm.Cond.methodLink "PadConsole$Processor" (137 : Nat) ({ cls := "java/lang/Integer", name := "bitCount", desc := "(I)I" } : Jvm.MethodName)), (Jvm.Cond.static ({ cls := "java/lang/Integer", name := "bitCount", desc := "(I)I" } : Jvm.MethodName)), (Jvm.Cond.code ({ cls := "java/lang/Integer", name := "bitCount", desc := "(I)I" } : Jvm.MethodName) prog_20_method_49_code (1 : Nat) (Option.some Jvm.ClassFile.FieldType.int)), (Jvm.Cond.constant "java/lang/Integer" (265 : Nat) (1431655765 : Int32)), (Jvm.Cond.constant "java/lang/Integer" (266 : Nat) (858993459 : Int32)), (Jvm.Cond.constant "java/lang/Integer" (267 : Nat) (252645135 : Int32)), (Jvm.Cond.methodLink "PadConsole$Processor" (166 : Nat) ({ cls := "PadConsole$Processor", name := "putOne", desc := "(II)V" } : Jvm.MethodName)), (Jvm.Cond.privateMethod ({ cls := "PadConsole$Processor", name := "putOne", desc := "(II)V" } : Jvm.MethodName))]
noncomputable def tb6_10 : List Jvm.Cond := [(Jvm.Cond.instanceMethod ({ cls := "PadConsole$Processor", name := "putOne", desc := "(II)V" } : Jvm.MethodName)), (Jvm.Cond.code ({ cls := "PadConsole$Processor", name := "putOne", desc := "(II)V" } : Jvm.MethodName) prog_7_method_29_code (3 : Nat) (Option.none : Option Jvm.ClassFile.FieldType)), (Jvm.Cond.methodLink "PadConsole$Processor" (130 : Nat) ({ cls := "PadConsole$Processor", name := "putPairHalf", desc := "(II)V" } : Jvm.MethodName)), (Jvm.Cond.privateMethod ({ cls := "PadConsole$Processor", name := "putPairHalf", desc := "(II)V" } : Jvm.MethodName)), (Jvm.Cond.instanceMethod ({ cls := "PadConsole$Processor", name := "putPairHalf", desc := "(II)V" } : Jvm.MethodName)), (Jvm.Cond.code ({ cls := "PadConsole$Processor", name := "putPairHalf", desc := "(II)V" } : Jvm.MethodName) prog_7_method_30_code (3 : Nat) (Option.none : Option Jvm.ClassFile.FieldType)), (Jvm.Cond.constant "PadConsole$Processor" (133 : Nat) (65280 : Int32)), (Jvm.Cond.methodLink "PadConsole$Processor" (83 : Nat) ({ cls := "PadConsole$Processor", name := "takePlace", desc := "(I)I" } : Jvm.MethodName)), (Jvm.Cond.privateMethod ({ cls := "PadConsole$Processor", name := "takePlace", desc := "(I)I" } : Jvm.MethodName)), (Jvm.Cond.instanceMethod ({ cls := "PadConsole$Processor", name := "takePlace", desc := "(I)I" } : Jvm.MethodName)), (Jvm.Cond.code ({ cls := "PadConsole$Processor", name := "takePlace", desc := "(I)I" } : Jvm.MethodName) prog_7_method_11_code (2 : Nat) (Option.some Jvm.ClassFile.FieldType.int)), (Jvm.Cond.methodLink "PadConsole$Processor" (110 : Nat) ({ cls := "PadConsole$Processor", name := "meansPlace", desc := "(I)Z" } : Jvm.MethodName)), (Jvm.Cond.methodLink "PadConsole$Processor" (86 : Nat) ({ cls := "PadConsole$Processor", name := "turns", desc := "(I)I" } : Jvm.MethodName)), (Jvm.Cond.privateMethod ({ cls := "PadConsole$Processor", name := "turns", desc := "(I)I" } : Jvm.MethodName)), (Jvm.Cond.instanceMethod ({ cls := "PadConsole$Processor", name := "turns", desc := "(I)I" } : Jvm.MethodName)), (Jvm.Cond.code ({ cls := "PadConsole$Processor", name := "turns", desc := "(I)I" } : Jvm.MethodName) prog_7_method_55_code (4 : Nat) (Option.some Jvm.ClassFile.FieldType.int))]
noncomputable def tb6_11 : List Jvm.Cond := [(Jvm.Cond.methodLink "PadConsole$Processor" (160 : Nat) ({ cls := "PadConsole$Processor", name := "one", desc := "(I)I" } : Jvm.MethodName)), (Jvm.Cond.privateMethod ({ cls := "PadConsole$Processor", name := "one", desc := "(I)I" } : Jvm.MethodName)), (Jvm.Cond.instanceMethod ({ cls := "PadConsole$Processor", name := "one", desc := "(I)I" } : Jvm.MethodName)), (Jvm.Cond.code ({ cls := "PadConsole$Processor", name := "one", desc := "(I)I" } : Jvm.MethodName) prog_7_method_28_code (2 : Nat) (Option.some Jvm.ClassFile.FieldType.int)), (Jvm.Cond.methodLink "PadConsole$Processor" (89 : Nat) ({ cls := "PadConsole$Processor", name := "block", desc := "(I)I" } : Jvm.MethodName)), (Jvm.Cond.privateMethod ({ cls := "PadConsole$Processor", name := "block", desc := "(I)I" } : Jvm.MethodName)), (Jvm.Cond.instanceMethod ({ cls := "PadConsole$Processor", name := "block", desc := "(I)I" } : Jvm.MethodName)), (Jvm.Cond.code ({ cls := "PadConsole$Processor", name := "block", desc := "(I)I" } : Jvm.MethodName) prog_7_method_67_code (4 : Nat) (Option.some Jvm.ClassFile.FieldType.int)), (Jvm.Cond.methodLink "PadConsole$Processor" (259 : Nat) ({ cls := "PadConsole$Processor", name := "copyOne", desc := "(I)Z" } : Jvm.MethodName)), (Jvm.Cond.privateMethod ({ cls := "PadConsole$Processor", name := "copyOne", desc := "(I)Z" } : Jvm.MethodName)), (Jvm.Cond.instanceMethod ({ cls := "PadConsole$Processor", name := "copyOne", desc := "(I)Z" } : Jvm.MethodName)), (Jvm.Cond.code ({ cls := "PadConsole$Processor", name := "copyOne", desc := "(I)Z" } : Jvm.MethodName) prog_7_method_68_code (5 : Nat) (Option.some Jvm.ClassFile.FieldType.boolean)), (Jvm.Cond.methodLink "PadConsole$Processor" (121 : Nat) ({ cls := "PadConsole$Processor", name := "putPairAt", desc := "(II)V" } : Jvm.MethodName)), (Jvm.Cond.privateMethod ({ cls := "PadConsole$Processor", name := "putPairAt", desc := "(II)V" } : Jvm.MethodName)), (Jvm.Cond.instanceMethod ({ cls := "PadConsole$Processor", name := "putPairAt", desc := "(II)V" } : Jvm.MethodName)), (Jvm.Cond.code ({ cls := "PadConsole$Processor", name := "putPairAt", desc := "(II)V" } : Jvm.MethodName) prog_7_method_23_code (3 : Nat) (Option.none : Option Jvm.ClassFile.FieldType))]
noncomputable def tb6_12 : List Jvm.Cond := [(Jvm.Cond.methodLink "PadConsole$Processor" (262 : Nat) ({ cls := "PadConsole$Processor", name := "compareOne", desc := "(I)Z" } : Jvm.MethodName)), (Jvm.Cond.privateMethod ({ cls := "PadConsole$Processor", name := "compareOne", desc := "(I)Z" } : Jvm.MethodName)), (Jvm.Cond.instanceMethod ({ cls := "PadConsole$Processor", name := "compareOne", desc := "(I)Z" } : Jvm.MethodName)), (Jvm.Cond.code ({ cls := "PadConsole$Processor", name := "compareOne", desc := "(I)Z" } : Jvm.MethodName) prog_7_method_69_code (7 : Nat) (Option.some Jvm.ClassFile.FieldType.boolean)), (Jvm.Cond.methodLink "PadConsole$Processor" (265 : Nat) ({ cls := "PadConsole$Processor", name := "takeOne", desc := "(I)Z" } : Jvm.MethodName)), (Jvm.Cond.privateMethod ({ cls := "PadConsole$Processor", name := "takeOne", desc := "(I)Z" } : Jvm.MethodName)), (Jvm.Cond.instanceMethod ({ cls := "PadConsole$Processor", name := "takeOne", desc := "(I)Z" } : Jvm.MethodName)), (Jvm.Cond.code ({ cls := "PadConsole$Processor", name := "takeOne", desc := "(I)Z" } : Jvm.MethodName) prog_7_method_70_code (3 : Nat) (Option.some Jvm.ClassFile.FieldType.boolean)), (Jvm.Cond.methodLink "PadConsole$Processor" (225 : Nat) ({ cls := "PadConsole$Ports", name := "read", desc := "(I)I" } : Jvm.MethodName)), (Jvm.Cond.methodLink "PadConsole$Processor" (271 : Nat) ({ cls := "PadConsole$Processor", name := "tellOfPort", desc := "(II)V" } : Jvm.MethodName)), (Jvm.Cond.privateMethod ({ cls := "PadConsole$Processor", name := "tellOfPort", desc := "(II)V" } : Jvm.MethodName)), (Jvm.Cond.instanceMethod ({ cls := "PadConsole$Processor", name := "tellOfPort", desc := "(II)V" } : Jvm.MethodName)), (Jvm.Cond.code ({ cls := "PadConsole$Processor", name := "tellOfPort", desc := "(II)V" } : Jvm.MethodName) prog_7_method_72_code (3 : Nat) (Option.none : Option Jvm.ClassFile.FieldType)), (Jvm.Cond.methodLink "PadConsole$Processor" (268 : Nat) ({ cls := "PadConsole$Processor", name := "giveOne", desc := "(I)Z" } : Jvm.MethodName)), (Jvm.Cond.privateMethod ({ cls := "PadConsole$Processor", name := "giveOne", desc := "(I)Z" } : Jvm.MethodName)), (Jvm.Cond.instanceMethod ({ cls := "PadConsole$Processor", name := "giveOne", desc := "(I)Z" } : Jvm.MethodName))]
noncomputable def tb6_13 : List Jvm.Cond := [(Jvm.Cond.code ({ cls := "PadConsole$Processor", name := "giveOne", desc := "(I)Z" } : Jvm.MethodName) prog_7_method_71_code (3 : Nat) (Option.some Jvm.ClassFile.FieldType.boolean)), (Jvm.Cond.methodLink "PadConsole$Processor" (222 : Nat) ({ cls := "PadConsole$Ports", name := "write", desc := "(II)V" } : Jvm.MethodName)), (Jvm.Cond.methodLink "PadConsole$Processor" (92 : Nat) ({ cls := "PadConsole$Processor", name := "behindEd", desc := "(I)I" } : Jvm.MethodName)), (Jvm.Cond.privateMethod ({ cls := "PadConsole$Processor", name := "behindEd", desc := "(I)I" } : Jvm.MethodName)), (Jvm.Cond.instanceMethod ({ cls := "PadConsole$Processor", name := "behindEd", desc := "(I)I" } : Jvm.MethodName)), (Jvm.Cond.code ({ cls := "PadConsole$Processor", name := "behindEd", desc := "(I)I" } : Jvm.MethodName) prog_7_method_59_code (3 : Nat) (Option.some Jvm.ClassFile.FieldType.int)), (Jvm.Cond.methodLink "PadConsole$Processor" (233 : Nat) ({ cls := "PadConsole$Processor", name := "takeFromPort", desc := "(I)V" } : Jvm.MethodName)), (Jvm.Cond.privateMethod ({ cls := "PadConsole$Processor", name := "takeFromPort", desc := "(I)V" } : Jvm.MethodName)), (Jvm.Cond.instanceMethod ({ cls := "PadConsole$Processor", name := "takeFromPort", desc := "(I)V" } : Jvm.MethodName)), (Jvm.Cond.code ({ cls := "PadConsole$Processor", name := "takeFromPort", desc := "(I)V" } : Jvm.MethodName) prog_7_method_60_code (3 : Nat) (Option.none : Option Jvm.ClassFile.FieldType)), (Jvm.Cond.methodLink "PadConsole$Processor" (236 : Nat) ({ cls := "PadConsole$Processor", name := "takePair", desc := "(I)I" } : Jvm.MethodName)), (Jvm.Cond.privateMethod ({ cls := "PadConsole$Processor", name := "takePair", desc := "(I)I" } : Jvm.MethodName)), (Jvm.Cond.instanceMethod ({ cls := "PadConsole$Processor", name := "takePair", desc := "(I)I" } : Jvm.MethodName)), (Jvm.Cond.code ({ cls := "PadConsole$Processor", name := "takePair", desc := "(I)I" } : Jvm.MethodName) prog_7_method_61_code (6 : Nat) (Option.some Jvm.ClassFile.FieldType.int)), (Jvm.Cond.methodLink "PadConsole$Processor" (124 : Nat) ({ cls := "PadConsole$Processor", name := "hl", desc := "()I" } : Jvm.MethodName)), (Jvm.Cond.privateMethod ({ cls := "PadConsole$Processor", name := "hl", desc := "()I" } : Jvm.MethodName))]
noncomputable def tb6_14 : List Jvm.Cond := [(Jvm.Cond.instanceMethod ({ cls := "PadConsole$Processor", name := "hl", desc := "()I" } : Jvm.MethodName)), (Jvm.Cond.code ({ cls := "PadConsole$Processor", name := "hl", desc := "()I" } : Jvm.MethodName) prog_7_method_24_code (1 : Nat) (Option.some Jvm.ClassFile.FieldType.int)), (Jvm.Cond.methodLink "PadConsole$Processor" (154 : Nat) ({ cls := "PadConsole$Processor", name := "pair", desc := "(I)I" } : Jvm.MethodName)), (Jvm.Cond.privateMethod ({ cls := "PadConsole$Processor", name := "pair", desc := "(I)I" } : Jvm.MethodName)), (Jvm.Cond.instanceMethod ({ cls := "PadConsole$Processor", name := "pair", desc := "(I)I" } : Jvm.MethodName)), (Jvm.Cond.code ({ cls := "PadConsole$Processor", name := "pair", desc := "(I)I" } : Jvm.MethodName) prog_7_method_26_code (2 : Nat) (Option.some Jvm.ClassFile.FieldType.int)), (Jvm.Cond.methodLink "PadConsole$Processor" (251 : Nat) ({ cls := "PadConsole$Processor", name := "putWide", desc := "(III)V" } : Jvm.MethodName)), (Jvm.Cond.privateMethod ({ cls := "PadConsole$Processor", name := "putWide", desc := "(III)V" } : Jvm.MethodName)), (Jvm.Cond.instanceMethod ({ cls := "PadConsole$Processor", name := "putWide", desc := "(III)V" } : Jvm.MethodName)), (Jvm.Cond.code ({ cls := "PadConsole$Processor", name := "putWide", desc := "(III)V" } : Jvm.MethodName) prog_7_method_63_code (4 : Nat) (Option.none : Option Jvm.ClassFile.FieldType)), (Jvm.Cond.methodLink "PadConsole$Processor" (127 : Nat) ({ cls := "PadConsole$Processor", name := "putHl", desc := "(I)V" } : Jvm.MethodName)), (Jvm.Cond.privateMethod ({ cls := "PadConsole$Processor", name := "putHl", desc := "(I)V" } : Jvm.MethodName)), (Jvm.Cond.instanceMethod ({ cls := "PadConsole$Processor", name := "putHl", desc := "(I)V" } : Jvm.MethodName)), (Jvm.Cond.code ({ cls := "PadConsole$Processor", name := "putHl", desc := "(I)V" } : Jvm.MethodName) prog_7_method_25_code (2 : Nat) (Option.none : Option Jvm.ClassFile.FieldType)), (Jvm.Cond.constant "PadConsole$Processor" (254 : Nat) (32768 : Int32)), (Jvm.Cond.methodLink "PadConsole$Processor" (239 : Nat) ({ cls := "PadConsole$Processor", name := "addPairAndCarry", desc := "(I)I" } : Jvm.MethodName))]
set_option maxRecDepth 100000 in
theorem tbe6 : tables_1_6 = (tb6_0 ++ (tb6_1 ++ (tb6_2 ++ (tb6_3 ++ (tb6_4 ++ (tb6_5 ++ (tb6_6 ++ (tb6_7 ++ (tb6_8 ++ (tb6_9 ++ (tb6_10 ++ (tb6_11 ++ (tb6_12 ++ (tb6_13 ++ tb6_14)))))))))))))) := rfl
theorem tm6_0 {w : Jvm.Cond} (h : w ∈ tb6_0) : w ∈ tables_1_6 := by
  rw [tbe6]
  exact (List.mem_append_left _ h)
theorem tm6_1 {w : Jvm.Cond} (h : w ∈ tb6_1) : w ∈ tables_1_6 := by
  rw [tbe6]
  exact (List.mem_append_right _ (List.mem_append_left _ h))
theorem tm6_2 {w : Jvm.Cond} (h : w ∈ tb6_2) : w ∈ tables_1_6 := by
  rw [tbe6]
  exact (List.mem_append_right _ (List.mem_append_right _ (List.mem_append_left _ h)))
theorem tm6_3 {w : Jvm.Cond} (h : w ∈ tb6_3) : w ∈ tables_1_6 := by
  rw [tbe6]
  exact (List.mem_append_right _ (List.mem_append_right _ (List.mem_append_right _ (List.mem_append_left _ h))))
theorem tm6_4 {w : Jvm.Cond} (h : w ∈ tb6_4) : w ∈ tables_1_6 := by
  rw [tbe6]
  exact (List.mem_append_right _ (List.mem_append_right _ (List.mem_append_right _ (List.mem_append_right _ (List.mem_append_left _ h)))))
theorem tm6_5 {w : Jvm.Cond} (h : w ∈ tb6_5) : w ∈ tables_1_6 := by
  rw [tbe6]
  exact (List.mem_append_right _ (List.mem_append_right _ (List.mem_append_right _ (List.mem_append_right _ (List.mem_append_right _ (List.mem_append_left _ h))))))
theorem tm6_6 {w : Jvm.Cond} (h : w ∈ tb6_6) : w ∈ tables_1_6 := by
  rw [tbe6]
  exact (List.mem_append_right _ (List.mem_append_right _ (List.mem_append_right _ (List.mem_append_right _ (List.mem_append_right _ (List.mem_append_right _ (List.mem_append_left _ h)))))))
theorem tm6_7 {w : Jvm.Cond} (h : w ∈ tb6_7) : w ∈ tables_1_6 := by
  rw [tbe6]
  exact (List.mem_append_right _ (List.mem_append_right _ (List.mem_append_right _ (List.mem_append_right _ (List.mem_append_right _ (List.mem_append_right _ (List.mem_append_right _ (List.mem_append_left _ h))))))))
theorem tm6_8 {w : Jvm.Cond} (h : w ∈ tb6_8) : w ∈ tables_1_6 := by
  rw [tbe6]
  exact (List.mem_append_right _ (List.mem_append_right _ (List.mem_append_right _ (List.mem_append_right _ (List.mem_append_right _ (List.mem_append_right _ (List.mem_append_right _ (List.mem_append_right _ (List.mem_append_left _ h)))))))))
theorem tm6_9 {w : Jvm.Cond} (h : w ∈ tb6_9) : w ∈ tables_1_6 := by
  rw [tbe6]
  exact (List.mem_append_right _ (List.mem_append_right _ (List.mem_append_right _ (List.mem_append_right _ (List.mem_append_right _ (List.mem_append_right _ (List.mem_append_right _ (List.mem_append_right _ (List.mem_append_right _ (List.mem_append_left _ h))))))))))
theorem tm6_10 {w : Jvm.Cond} (h : w ∈ tb6_10) : w ∈ tables_1_6 := by
  rw [tbe6]
  exact (List.mem_append_right _ (List.mem_append_right _ (List.mem_append_right _ (List.mem_append_right _ (List.mem_append_right _ (List.mem_append_right _ (List.mem_append_right _ (List.mem_append_right _ (List.mem_append_right _ (List.mem_append_right _ (List.mem_append_left _ h)))))))))))
theorem tm6_11 {w : Jvm.Cond} (h : w ∈ tb6_11) : w ∈ tables_1_6 := by
  rw [tbe6]
  exact (List.mem_append_right _ (List.mem_append_right _ (List.mem_append_right _ (List.mem_append_right _ (List.mem_append_right _ (List.mem_append_right _ (List.mem_append_right _ (List.mem_append_right _ (List.mem_append_right _ (List.mem_append_right _ (List.mem_append_right _ (List.mem_append_left _ h))))))))))))
theorem tm6_12 {w : Jvm.Cond} (h : w ∈ tb6_12) : w ∈ tables_1_6 := by
  rw [tbe6]
  exact (List.mem_append_right _ (List.mem_append_right _ (List.mem_append_right _ (List.mem_append_right _ (List.mem_append_right _ (List.mem_append_right _ (List.mem_append_right _ (List.mem_append_right _ (List.mem_append_right _ (List.mem_append_right _ (List.mem_append_right _ (List.mem_append_right _ (List.mem_append_left _ h)))))))))))))
theorem tm6_13 {w : Jvm.Cond} (h : w ∈ tb6_13) : w ∈ tables_1_6 := by
  rw [tbe6]
  exact (List.mem_append_right _ (List.mem_append_right _ (List.mem_append_right _ (List.mem_append_right _ (List.mem_append_right _ (List.mem_append_right _ (List.mem_append_right _ (List.mem_append_right _ (List.mem_append_right _ (List.mem_append_right _ (List.mem_append_right _ (List.mem_append_right _ (List.mem_append_right _ (List.mem_append_left _ h))))))))))))))
theorem tm6_14 {w : Jvm.Cond} (h : w ∈ tb6_14) : w ∈ tables_1_6 := by
  rw [tbe6]
  exact (List.mem_append_right _ (List.mem_append_right _ (List.mem_append_right _ (List.mem_append_right _ (List.mem_append_right _ (List.mem_append_right _ (List.mem_append_right _ (List.mem_append_right _ (List.mem_append_right _ (List.mem_append_right _ (List.mem_append_right _ (List.mem_append_right _ (List.mem_append_right _ (List.mem_append_right _ h))))))))))))))
noncomputable def tb7_0 : List Jvm.Cond := [(Jvm.Cond.privateMethod ({ cls := "PadConsole$Processor", name := "addPairAndCarry", desc := "(I)I" } : Jvm.MethodName)), (Jvm.Cond.instanceMethod ({ cls := "PadConsole$Processor", name := "addPairAndCarry", desc := "(I)I" } : Jvm.MethodName)), (Jvm.Cond.code ({ cls := "PadConsole$Processor", name := "addPairAndCarry", desc := "(I)I" } : Jvm.MethodName) prog_7_method_62_code (6 : Nat) (Option.some Jvm.ClassFile.FieldType.int)), (Jvm.Cond.methodLink "PadConsole$Processor" (242 : Nat) ({ cls := "PadConsole$Processor", name := "farPair", desc := "(I)I" } : Jvm.MethodName)), (Jvm.Cond.privateMethod ({ cls := "PadConsole$Processor", name := "farPair", desc := "(I)I" } : Jvm.MethodName)), (Jvm.Cond.instanceMethod ({ cls := "PadConsole$Processor", name := "farPair", desc := "(I)I" } : Jvm.MethodName)), (Jvm.Cond.code ({ cls := "PadConsole$Processor", name := "farPair", desc := "(I)I" } : Jvm.MethodName) prog_7_method_64_code (3 : Nat) (Option.some Jvm.ClassFile.FieldType.int)), (Jvm.Cond.methodLink "PadConsole$Processor" (181 : Nat) ({ cls := "PadConsole$Processor", name := "fetchWord", desc := "()I" } : Jvm.MethodName)), (Jvm.Cond.privateMethod ({ cls := "PadConsole$Processor", name := "fetchWord", desc := "()I" } : Jvm.MethodName)), (Jvm.Cond.instanceMethod ({ cls := "PadConsole$Processor", name := "fetchWord", desc := "()I" } : Jvm.MethodName)), (Jvm.Cond.code ({ cls := "PadConsole$Processor", name := "fetchWord", desc := "()I" } : Jvm.MethodName) prog_7_method_15_code (2 : Nat) (Option.some Jvm.ClassFile.FieldType.int)), (Jvm.Cond.methodLink "PadConsole$Processor" (184 : Nat) ({ cls := "PadConsole$Processor", name := "writeWord", desc := "(II)V" } : Jvm.MethodName)), (Jvm.Cond.privateMethod ({ cls := "PadConsole$Processor", name := "writeWord", desc := "(II)V" } : Jvm.MethodName)), (Jvm.Cond.instanceMethod ({ cls := "PadConsole$Processor", name := "writeWord", desc := "(II)V" } : Jvm.MethodName)), (Jvm.Cond.code ({ cls := "PadConsole$Processor", name := "writeWord", desc := "(II)V" } : Jvm.MethodName) prog_7_method_18_code (3 : Nat) (Option.none : Option Jvm.ClassFile.FieldType)), (Jvm.Cond.methodLink "PadConsole$Processor" (157 : Nat) ({ cls := "PadConsole$Processor", name := "putPair", desc := "(II)V" } : Jvm.MethodName))]
noncomputable def tb7_1 : List Jvm.Cond := [(Jvm.Cond.privateMethod ({ cls := "PadConsole$Processor", name := "putPair", desc := "(II)V" } : Jvm.MethodName)), (Jvm.Cond.instanceMethod ({ cls := "PadConsole$Processor", name := "putPair", desc := "(II)V" } : Jvm.MethodName)), (Jvm.Cond.code ({ cls := "PadConsole$Processor", name := "putPair", desc := "(II)V" } : Jvm.MethodName) prog_7_method_27_code (3 : Nat) (Option.none : Option Jvm.ClassFile.FieldType)), (Jvm.Cond.methodLink "PadConsole$Processor" (206 : Nat) ({ cls := "PadConsole$Processor", name := "difference", desc := "(III)I" } : Jvm.MethodName)), (Jvm.Cond.privateMethod ({ cls := "PadConsole$Processor", name := "difference", desc := "(III)I" } : Jvm.MethodName)), (Jvm.Cond.instanceMethod ({ cls := "PadConsole$Processor", name := "difference", desc := "(III)I" } : Jvm.MethodName)), (Jvm.Cond.code ({ cls := "PadConsole$Processor", name := "difference", desc := "(III)I" } : Jvm.MethodName) prog_7_method_49_code (7 : Nat) (Option.some Jvm.ClassFile.FieldType.int)), (Jvm.Cond.methodLink "PadConsole$Processor" (209 : Nat) ({ cls := "PadConsole$Processor", name := "pop", desc := "()I" } : Jvm.MethodName)), (Jvm.Cond.privateMethod ({ cls := "PadConsole$Processor", name := "pop", desc := "()I" } : Jvm.MethodName)), (Jvm.Cond.instanceMethod ({ cls := "PadConsole$Processor", name := "pop", desc := "()I" } : Jvm.MethodName)), (Jvm.Cond.code ({ cls := "PadConsole$Processor", name := "pop", desc := "()I" } : Jvm.MethodName) prog_7_method_20_code (2 : Nat) (Option.some Jvm.ClassFile.FieldType.int)), (Jvm.Cond.methodLink "PadConsole$Processor" (245 : Nat) ({ cls := "java/lang/Math", name := "max", desc := "(II)I" } : Jvm.MethodName)), (Jvm.Cond.methodLink "PadConsole$Processor" (248 : Nat) ({ cls := "PadConsole$Processor", name := "moreOfA", desc := "(I)I" } : Jvm.MethodName)), (Jvm.Cond.privateMethod ({ cls := "PadConsole$Processor", name := "moreOfA", desc := "(I)I" } : Jvm.MethodName)), (Jvm.Cond.instanceMethod ({ cls := "PadConsole$Processor", name := "moreOfA", desc := "(I)I" } : Jvm.MethodName)), (Jvm.Cond.code ({ cls := "PadConsole$Processor", name := "moreOfA", desc := "(I)I" } : Jvm.MethodName) prog_7_method_65_code (2 : Nat) (Option.some Jvm.ClassFile.FieldType.int))]
noncomputable def tb7_2 : List Jvm.Cond := [(Jvm.Cond.methodLink "PadConsole$Processor" (255 : Nat) ({ cls := "PadConsole$Processor", name := "turnDigits", desc := "(Z)V" } : Jvm.MethodName)), (Jvm.Cond.privateMethod ({ cls := "PadConsole$Processor", name := "turnDigits", desc := "(Z)V" } : Jvm.MethodName)), (Jvm.Cond.instanceMethod ({ cls := "PadConsole$Processor", name := "turnDigits", desc := "(Z)V" } : Jvm.MethodName)), (Jvm.Cond.code ({ cls := "PadConsole$Processor", name := "turnDigits", desc := "(Z)V" } : Jvm.MethodName) prog_7_method_66_code (5 : Nat) (Option.none : Option Jvm.ClassFile.FieldType)), (Jvm.Cond.methodLink "PadConsole$Processor" (95 : Nat) ({ cls := "PadConsole$Processor", name := "firstQuarter", desc := "(I)I" } : Jvm.MethodName)), (Jvm.Cond.privateMethod ({ cls := "PadConsole$Processor", name := "firstQuarter", desc := "(I)I" } : Jvm.MethodName)), (Jvm.Cond.instanceMethod ({ cls := "PadConsole$Processor", name := "firstQuarter", desc := "(I)I" } : Jvm.MethodName)), (Jvm.Cond.code ({ cls := "PadConsole$Processor", name := "firstQuarter", desc := "(I)I" } : Jvm.MethodName) prog_7_method_35_code (3 : Nat) (Option.some Jvm.ClassFile.FieldType.int)), (Jvm.Cond.methodLink "PadConsole$Processor" (142 : Nat) ({ cls := "PadConsole$Processor", name := "near", desc := "(I)I" } : Jvm.MethodName)), (Jvm.Cond.privateMethod ({ cls := "PadConsole$Processor", name := "near", desc := "(I)I" } : Jvm.MethodName)), (Jvm.Cond.instanceMethod ({ cls := "PadConsole$Processor", name := "near", desc := "(I)I" } : Jvm.MethodName)), (Jvm.Cond.code ({ cls := "PadConsole$Processor", name := "near", desc := "(I)I" } : Jvm.MethodName) prog_7_method_36_code (4 : Nat) (Option.some Jvm.ClassFile.FieldType.int)), (Jvm.Cond.methodLink "PadConsole$Processor" (175 : Nat) ({ cls := "PadConsole$Processor", name := "changeWithOther", desc := "(I)V" } : Jvm.MethodName)), (Jvm.Cond.privateMethod ({ cls := "PadConsole$Processor", name := "changeWithOther", desc := "(I)V" } : Jvm.MethodName)), (Jvm.Cond.instanceMethod ({ cls := "PadConsole$Processor", name := "changeWithOther", desc := "(I)V" } : Jvm.MethodName)), (Jvm.Cond.code ({ cls := "PadConsole$Processor", name := "changeWithOther", desc := "(I)V" } : Jvm.MethodName) prog_7_method_34_code (3 : Nat) (Option.none : Option Jvm.ClassFile.FieldType))]
noncomputable def tb7_3 : List Jvm.Cond := [(Jvm.Cond.methodLink "PadConsole$Processor" (178 : Nat) ({ cls := "PadConsole$Processor", name := "holds", desc := "(I)Z" } : Jvm.MethodName)), (Jvm.Cond.privateMethod ({ cls := "PadConsole$Processor", name := "holds", desc := "(I)Z" } : Jvm.MethodName)), (Jvm.Cond.instanceMethod ({ cls := "PadConsole$Processor", name := "holds", desc := "(I)Z" } : Jvm.MethodName)), (Jvm.Cond.code ({ cls := "PadConsole$Processor", name := "holds", desc := "(I)Z" } : Jvm.MethodName) prog_7_method_31_code (2 : Nat) (Option.some Jvm.ClassFile.FieldType.boolean)), (Jvm.Cond.fieldLink "PadConsole$Processor" (134 : Nat) "PadConsole$Processor" "CONDITIONS" "[I"), (Jvm.Cond.laysStatic "PadConsole$Processor" "CONDITIONS" "[I"), (Jvm.Cond.methodLink "PadConsole$Processor" (145 : Nat) ({ cls := "PadConsole$Processor", name := "loadPair", desc := "(I)I" } : Jvm.MethodName)), (Jvm.Cond.privateMethod ({ cls := "PadConsole$Processor", name := "loadPair", desc := "(I)I" } : Jvm.MethodName)), (Jvm.Cond.instanceMethod ({ cls := "PadConsole$Processor", name := "loadPair", desc := "(I)I" } : Jvm.MethodName)), (Jvm.Cond.code ({ cls := "PadConsole$Processor", name := "loadPair", desc := "(I)I" } : Jvm.MethodName) prog_7_method_37_code (2 : Nat) (Option.some Jvm.ClassFile.FieldType.int)), (Jvm.Cond.methodLink "PadConsole$Processor" (148 : Nat) ({ cls := "PadConsole$Processor", name := "addPair", desc := "(I)I" } : Jvm.MethodName)), (Jvm.Cond.privateMethod ({ cls := "PadConsole$Processor", name := "addPair", desc := "(I)I" } : Jvm.MethodName)), (Jvm.Cond.instanceMethod ({ cls := "PadConsole$Processor", name := "addPair", desc := "(I)I" } : Jvm.MethodName)), (Jvm.Cond.code ({ cls := "PadConsole$Processor", name := "addPair", desc := "(I)I" } : Jvm.MethodName) prog_7_method_38_code (5 : Nat) (Option.some Jvm.ClassFile.FieldType.int)), (Jvm.Cond.methodLink "PadConsole$Processor" (151 : Nat) ({ cls := "PadConsole$Processor", name := "far", desc := "(I)I" } : Jvm.MethodName)), (Jvm.Cond.privateMethod ({ cls := "PadConsole$Processor", name := "far", desc := "(I)I" } : Jvm.MethodName))]
noncomputable def tb7_4 : List Jvm.Cond := [(Jvm.Cond.instanceMethod ({ cls := "PadConsole$Processor", name := "far", desc := "(I)I" } : Jvm.MethodName)), (Jvm.Cond.code ({ cls := "PadConsole$Processor", name := "far", desc := "(I)I" } : Jvm.MethodName) prog_7_method_39_code (4 : Nat) (Option.some Jvm.ClassFile.FieldType.int)), (Jvm.Cond.methodLink "PadConsole$Processor" (163 : Nat) ({ cls := "PadConsole$Processor", name := "oneMore", desc := "(I)I" } : Jvm.MethodName)), (Jvm.Cond.privateMethod ({ cls := "PadConsole$Processor", name := "oneMore", desc := "(I)I" } : Jvm.MethodName)), (Jvm.Cond.instanceMethod ({ cls := "PadConsole$Processor", name := "oneMore", desc := "(I)I" } : Jvm.MethodName)), (Jvm.Cond.code ({ cls := "PadConsole$Processor", name := "oneMore", desc := "(I)I" } : Jvm.MethodName) prog_7_method_40_code (3 : Nat) (Option.some Jvm.ClassFile.FieldType.int)), (Jvm.Cond.methodLink "PadConsole$Processor" (169 : Nat) ({ cls := "PadConsole$Processor", name := "oneLess", desc := "(I)I" } : Jvm.MethodName)), (Jvm.Cond.privateMethod ({ cls := "PadConsole$Processor", name := "oneLess", desc := "(I)I" } : Jvm.MethodName)), (Jvm.Cond.instanceMethod ({ cls := "PadConsole$Processor", name := "oneLess", desc := "(I)I" } : Jvm.MethodName)), (Jvm.Cond.code ({ cls := "PadConsole$Processor", name := "oneLess", desc := "(I)I" } : Jvm.MethodName) prog_7_method_41_code (3 : Nat) (Option.some Jvm.ClassFile.FieldType.int)), (Jvm.Cond.methodLink "PadConsole$Processor" (172 : Nat) ({ cls := "PadConsole$Processor", name := "changeA", desc := "(I)V" } : Jvm.MethodName)), (Jvm.Cond.privateMethod ({ cls := "PadConsole$Processor", name := "changeA", desc := "(I)V" } : Jvm.MethodName)), (Jvm.Cond.instanceMethod ({ cls := "PadConsole$Processor", name := "changeA", desc := "(I)V" } : Jvm.MethodName)), (Jvm.Cond.code ({ cls := "PadConsole$Processor", name := "changeA", desc := "(I)V" } : Jvm.MethodName) prog_7_method_42_code (4 : Nat) (Option.none : Option Jvm.ClassFile.FieldType)), (Jvm.Cond.methodLink "PadConsole$Processor" (190 : Nat) ({ cls := "PadConsole$Processor", name := "adjustA", desc := "()V" } : Jvm.MethodName)), (Jvm.Cond.privateMethod ({ cls := "PadConsole$Processor", name := "adjustA", desc := "()V" } : Jvm.MethodName))]
noncomputable def tb7_5 : List Jvm.Cond := [(Jvm.Cond.instanceMethod ({ cls := "PadConsole$Processor", name := "adjustA", desc := "()V" } : Jvm.MethodName)), (Jvm.Cond.code ({ cls := "PadConsole$Processor", name := "adjustA", desc := "()V" } : Jvm.MethodName) prog_7_method_43_code (8 : Nat) (Option.none : Option Jvm.ClassFile.FieldType)), (Jvm.Cond.methodLink "PadConsole$Processor" (98 : Nat) ({ cls := "PadConsole$Processor", name := "move", desc := "(I)I" } : Jvm.MethodName)), (Jvm.Cond.privateMethod ({ cls := "PadConsole$Processor", name := "move", desc := "(I)I" } : Jvm.MethodName)), (Jvm.Cond.instanceMethod ({ cls := "PadConsole$Processor", name := "move", desc := "(I)I" } : Jvm.MethodName)), (Jvm.Cond.code ({ cls := "PadConsole$Processor", name := "move", desc := "(I)I" } : Jvm.MethodName) prog_7_method_45_code (4 : Nat) (Option.some Jvm.ClassFile.FieldType.int)), (Jvm.Cond.methodLink "PadConsole$Processor" (101 : Nat) ({ cls := "PadConsole$Processor", name := "doWithRegister", desc := "(I)I" } : Jvm.MethodName)), (Jvm.Cond.privateMethod ({ cls := "PadConsole$Processor", name := "doWithRegister", desc := "(I)I" } : Jvm.MethodName)), (Jvm.Cond.instanceMethod ({ cls := "PadConsole$Processor", name := "doWithRegister", desc := "(I)I" } : Jvm.MethodName)), (Jvm.Cond.code ({ cls := "PadConsole$Processor", name := "doWithRegister", desc := "(I)I" } : Jvm.MethodName) prog_7_method_46_code (2 : Nat) (Option.some Jvm.ClassFile.FieldType.int)), (Jvm.Cond.methodLink "PadConsole$Processor" (199 : Nat) ({ cls := "PadConsole$Processor", name := "doWith", desc := "(II)V" } : Jvm.MethodName)), (Jvm.Cond.privateMethod ({ cls := "PadConsole$Processor", name := "doWith", desc := "(II)V" } : Jvm.MethodName)), (Jvm.Cond.instanceMethod ({ cls := "PadConsole$Processor", name := "doWith", desc := "(II)V" } : Jvm.MethodName)), (Jvm.Cond.code ({ cls := "PadConsole$Processor", name := "doWith", desc := "(II)V" } : Jvm.MethodName) prog_7_method_47_code (3 : Nat) (Option.none : Option Jvm.ClassFile.FieldType)), (Jvm.Cond.methodLink "PadConsole$Processor" (202 : Nat) ({ cls := "PadConsole$Processor", name := "sum", desc := "(III)I" } : Jvm.MethodName)), (Jvm.Cond.privateMethod ({ cls := "PadConsole$Processor", name := "sum", desc := "(III)I" } : Jvm.MethodName))]
noncomputable def tb7_6 : List Jvm.Cond := [(Jvm.Cond.instanceMethod ({ cls := "PadConsole$Processor", name := "sum", desc := "(III)I" } : Jvm.MethodName)), (Jvm.Cond.code ({ cls := "PadConsole$Processor", name := "sum", desc := "(III)I" } : Jvm.MethodName) prog_7_method_48_code (7 : Nat) (Option.some Jvm.ClassFile.FieldType.int)), (Jvm.Cond.methodLink "PadConsole$Processor" (104 : Nat) ({ cls := "PadConsole$Processor", name := "exchange", desc := "(I)I" } : Jvm.MethodName)), (Jvm.Cond.privateMethod ({ cls := "PadConsole$Processor", name := "exchange", desc := "(I)I" } : Jvm.MethodName)), (Jvm.Cond.instanceMethod ({ cls := "PadConsole$Processor", name := "exchange", desc := "(I)I" } : Jvm.MethodName)), (Jvm.Cond.code ({ cls := "PadConsole$Processor", name := "exchange", desc := "(I)I" } : Jvm.MethodName) prog_7_method_54_code (3 : Nat) (Option.some Jvm.ClassFile.FieldType.int)), (Jvm.Cond.methodLink "PadConsole$Processor" (107 : Nat) ({ cls := "PadConsole$Processor", name := "lastQuarter", desc := "(I)I" } : Jvm.MethodName)), (Jvm.Cond.privateMethod ({ cls := "PadConsole$Processor", name := "lastQuarter", desc := "(I)I" } : Jvm.MethodName)), (Jvm.Cond.instanceMethod ({ cls := "PadConsole$Processor", name := "lastQuarter", desc := "(I)I" } : Jvm.MethodName)), (Jvm.Cond.code ({ cls := "PadConsole$Processor", name := "lastQuarter", desc := "(I)I" } : Jvm.MethodName) prog_7_method_50_code (3 : Nat) (Option.some Jvm.ClassFile.FieldType.int)), (Jvm.Cond.methodLink "PadConsole$Processor" (212 : Nat) ({ cls := "PadConsole$Processor", name := "popPair", desc := "(I)I" } : Jvm.MethodName)), (Jvm.Cond.privateMethod ({ cls := "PadConsole$Processor", name := "popPair", desc := "(I)I" } : Jvm.MethodName)), (Jvm.Cond.instanceMethod ({ cls := "PadConsole$Processor", name := "popPair", desc := "(I)I" } : Jvm.MethodName)), (Jvm.Cond.code ({ cls := "PadConsole$Processor", name := "popPair", desc := "(I)I" } : Jvm.MethodName) prog_7_method_51_code (3 : Nat) (Option.some Jvm.ClassFile.FieldType.int)), (Jvm.Cond.methodLink "PadConsole$Processor" (215 : Nat) ({ cls := "PadConsole$Processor", name := "leave", desc := "(I)I" } : Jvm.MethodName)), (Jvm.Cond.privateMethod ({ cls := "PadConsole$Processor", name := "leave", desc := "(I)I" } : Jvm.MethodName))]
noncomputable def tb7_7 : List Jvm.Cond := [(Jvm.Cond.instanceMethod ({ cls := "PadConsole$Processor", name := "leave", desc := "(I)I" } : Jvm.MethodName)), (Jvm.Cond.code ({ cls := "PadConsole$Processor", name := "leave", desc := "(I)I" } : Jvm.MethodName) prog_7_method_52_code (3 : Nat) (Option.some Jvm.ClassFile.FieldType.int)), (Jvm.Cond.methodLink "PadConsole$Processor" (218 : Nat) ({ cls := "PadConsole$Processor", name := "callIf", desc := "(Z)I" } : Jvm.MethodName)), (Jvm.Cond.privateMethod ({ cls := "PadConsole$Processor", name := "callIf", desc := "(Z)I" } : Jvm.MethodName)), (Jvm.Cond.instanceMethod ({ cls := "PadConsole$Processor", name := "callIf", desc := "(Z)I" } : Jvm.MethodName)), (Jvm.Cond.code ({ cls := "PadConsole$Processor", name := "callIf", desc := "(Z)I" } : Jvm.MethodName) prog_7_method_53_code (3 : Nat) (Option.some Jvm.ClassFile.FieldType.int)), (Jvm.Cond.methodLink "PadConsole" (365 : Nat) ({ cls := "PadConsole$Video", name := "passes", desc := "(I)Z" } : Jvm.MethodName)), (Jvm.Cond.instanceMethod ({ cls := "PadConsole$Video", name := "passes", desc := "(I)Z" } : Jvm.MethodName)), (Jvm.Cond.selects "PadConsole$Video" ({ cls := "PadConsole$Video", name := "passes", desc := "(I)Z" } : Jvm.MethodName) ({ cls := "PadConsole$Video", name := "passes", desc := "(I)Z" } : Jvm.MethodName)), (Jvm.Cond.code ({ cls := "PadConsole$Video", name := "passes", desc := "(I)Z" } : Jvm.MethodName) prog_11_method_23_code (2 : Nat) (Option.some Jvm.ClassFile.FieldType.boolean)), (Jvm.Cond.methodLink "PadConsole" (368 : Nat) ({ cls := "PadConsole", name := "endLine", desc := "()V" } : Jvm.MethodName)), (Jvm.Cond.privateMethod ({ cls := "PadConsole", name := "endLine", desc := "()V" } : Jvm.MethodName)), (Jvm.Cond.instanceMethod ({ cls := "PadConsole", name := "endLine", desc := "()V" } : Jvm.MethodName)), (Jvm.Cond.code ({ cls := "PadConsole", name := "endLine", desc := "()V" } : Jvm.MethodName) prog_1_method_40_code (1 : Nat) (Option.none : Option Jvm.ClassFile.FieldType)), (Jvm.Cond.methodLink "PadConsole" (374 : Nat) ({ cls := "PadConsole$Video", name := "held", desc := "(I)I" } : Jvm.MethodName)), (Jvm.Cond.instanceMethod ({ cls := "PadConsole$Video", name := "held", desc := "(I)I" } : Jvm.MethodName))]
noncomputable def tb7_8 : List Jvm.Cond := [(Jvm.Cond.selects "PadConsole$Video" ({ cls := "PadConsole$Video", name := "held", desc := "(I)I" } : Jvm.MethodName) ({ cls := "PadConsole$Video", name := "held", desc := "(I)I" } : Jvm.MethodName)), (Jvm.Cond.code ({ cls := "PadConsole$Video", name := "held", desc := "(I)I" } : Jvm.MethodName) prog_11_method_7_code (2 : Nat) (Option.some Jvm.ClassFile.FieldType.int)), (Jvm.Cond.methodLink "PadConsole" (377 : Nat) ({ cls := "PadConsole$Video", name := "height", desc := "()I" } : Jvm.MethodName)), (Jvm.Cond.methodLink "PadConsole" (378 : Nat) ({ cls := "PadConsole$Painter", name := "draw", desc := "()V" } : Jvm.MethodName)), (Jvm.Cond.instanceMethod ({ cls := "PadConsole$Painter", name := "draw", desc := "()V" } : Jvm.MethodName)), (Jvm.Cond.selects "PadConsole$Painter" ({ cls := "PadConsole$Painter", name := "draw", desc := "()V" } : Jvm.MethodName) ({ cls := "PadConsole$Painter", name := "draw", desc := "()V" } : Jvm.MethodName)), (Jvm.Cond.code ({ cls := "PadConsole$Painter", name := "draw", desc := "()V" } : Jvm.MethodName) prog_5_method_9_code (5 : Nat) (Option.none : Option Jvm.ClassFile.FieldType)), (Jvm.Cond.methodLink "PadConsole$Painter" (62 : Nat) ({ cls := "PadConsole$Video", name := "held", desc := "(I)I" } : Jvm.MethodName)), (Jvm.Cond.methodLink "PadConsole$Painter" (65 : Nat) ({ cls := "PadConsole$Video", name := "mode", desc := "()I" } : Jvm.MethodName)), (Jvm.Cond.instanceMethod ({ cls := "PadConsole$Video", name := "mode", desc := "()I" } : Jvm.MethodName)), (Jvm.Cond.selects "PadConsole$Video" ({ cls := "PadConsole$Video", name := "mode", desc := "()I" } : Jvm.MethodName) ({ cls := "PadConsole$Video", name := "mode", desc := "()I" } : Jvm.MethodName)), (Jvm.Cond.code ({ cls := "PadConsole$Video", name := "mode", desc := "()I" } : Jvm.MethodName) prog_11_method_19_code (1 : Nat) (Option.some Jvm.ClassFile.FieldType.int)), (Jvm.Cond.methodLink "PadConsole$Painter" (68 : Nat) ({ cls := "java/util/Arrays", name := "fill", desc := "([II)V" } : Jvm.MethodName)), (Jvm.Cond.methodLink "PadConsole$Painter" (74 : Nat) ({ cls := "PadConsole$Painter", name := "drawTiles", desc := "(I)V" } : Jvm.MethodName)), (Jvm.Cond.privateMethod ({ cls := "PadConsole$Painter", name := "drawTiles", desc := "(I)V" } : Jvm.MethodName)), (Jvm.Cond.instanceMethod ({ cls := "PadConsole$Painter", name := "drawTiles", desc := "(I)V" } : Jvm.MethodName))]
noncomputable def tb7_9 : List Jvm.Cond := [(Jvm.Cond.code ({ cls := "PadConsole$Painter", name := "drawTiles", desc := "(I)V" } : Jvm.MethodName) prog_5_method_12_code (14 : Nat) (Option.none : Option Jvm.ClassFile.FieldType)), (Jvm.Cond.methodLink "PadConsole$Painter" (40 : Nat) ({ cls := "PadConsole$Video", name := "height", desc := "()I" } : Jvm.MethodName)), (Jvm.Cond.methodLink "PadConsole$Painter" (100 : Nat) ({ cls := "PadConsole$Painter", name := "takeTile", desc := "(II)V" } : Jvm.MethodName)), (Jvm.Cond.privateMethod ({ cls := "PadConsole$Painter", name := "takeTile", desc := "(II)V" } : Jvm.MethodName)), (Jvm.Cond.instanceMethod ({ cls := "PadConsole$Painter", name := "takeTile", desc := "(II)V" } : Jvm.MethodName)), (Jvm.Cond.code ({ cls := "PadConsole$Painter", name := "takeTile", desc := "(II)V" } : Jvm.MethodName) prog_5_method_13_code (5 : Nat) (Option.none : Option Jvm.ClassFile.FieldType)), (Jvm.Cond.methodLink "PadConsole$Painter" (113 : Nat) ({ cls := "PadConsole$Video", name := "vramByte", desc := "(I)I" } : Jvm.MethodName)), (Jvm.Cond.instanceMethod ({ cls := "PadConsole$Video", name := "vramByte", desc := "(I)I" } : Jvm.MethodName)), (Jvm.Cond.selects "PadConsole$Video" ({ cls := "PadConsole$Video", name := "vramByte", desc := "(I)I" } : Jvm.MethodName) ({ cls := "PadConsole$Video", name := "vramByte", desc := "(I)I" } : Jvm.MethodName)), (Jvm.Cond.code ({ cls := "PadConsole$Video", name := "vramByte", desc := "(I)I" } : Jvm.MethodName) prog_11_method_8_code (2 : Nat) (Option.some Jvm.ClassFile.FieldType.int)), (Jvm.Cond.methodLink "PadConsole$Painter" (116 : Nat) ({ cls := "PadConsole$Painter", name := "takePlanes", desc := "(I)V" } : Jvm.MethodName)), (Jvm.Cond.privateMethod ({ cls := "PadConsole$Painter", name := "takePlanes", desc := "(I)V" } : Jvm.MethodName)), (Jvm.Cond.instanceMethod ({ cls := "PadConsole$Painter", name := "takePlanes", desc := "(I)V" } : Jvm.MethodName)), (Jvm.Cond.code ({ cls := "PadConsole$Painter", name := "takePlanes", desc := "(I)V" } : Jvm.MethodName) prog_5_method_14_code (2 : Nat) (Option.none : Option Jvm.ClassFile.FieldType)), (Jvm.Cond.methodLink "PadConsole$Painter" (110 : Nat) ({ cls := "PadConsole$Painter", name := "numberIn", desc := "(II)I" } : Jvm.MethodName)), (Jvm.Cond.static ({ cls := "PadConsole$Painter", name := "numberIn", desc := "(II)I" } : Jvm.MethodName))]
noncomputable def tb7_10 : List Jvm.Cond := [(Jvm.Cond.code ({ cls := "PadConsole$Painter", name := "numberIn", desc := "(II)I" } : Jvm.MethodName) prog_5_method_15_code (3 : Nat) (Option.some Jvm.ClassFile.FieldType.int)), (Jvm.Cond.constant "PadConsole$Painter" (119 : Nat) (16843009 : Int32)), (Jvm.Cond.methodLink "PadConsole$Painter" (78 : Nat) ({ cls := "PadConsole$Painter", name := "drawSprites", desc := "(I)V" } : Jvm.MethodName)), (Jvm.Cond.privateMethod ({ cls := "PadConsole$Painter", name := "drawSprites", desc := "(I)V" } : Jvm.MethodName)), (Jvm.Cond.instanceMethod ({ cls := "PadConsole$Painter", name := "drawSprites", desc := "(I)V" } : Jvm.MethodName)), (Jvm.Cond.code ({ cls := "PadConsole$Painter", name := "drawSprites", desc := "(I)V" } : Jvm.MethodName) prog_5_method_16_code (8 : Nat) (Option.none : Option Jvm.ClassFile.FieldType)), (Jvm.Cond.methodLink "PadConsole$Painter" (120 : Nat) ({ cls := "PadConsole$Painter", name := "rowOfSprite", desc := "(II)I" } : Jvm.MethodName)), (Jvm.Cond.privateMethod ({ cls := "PadConsole$Painter", name := "rowOfSprite", desc := "(II)I" } : Jvm.MethodName)), (Jvm.Cond.instanceMethod ({ cls := "PadConsole$Painter", name := "rowOfSprite", desc := "(II)I" } : Jvm.MethodName)), (Jvm.Cond.code ({ cls := "PadConsole$Painter", name := "rowOfSprite", desc := "(II)I" } : Jvm.MethodName) prog_5_method_17_code (5 : Nat) (Option.some Jvm.ClassFile.FieldType.int)), (Jvm.Cond.methodLink "PadConsole$Painter" (123 : Nat) ({ cls := "PadConsole$Video", name := "mark", desc := "(I)V" } : Jvm.MethodName)), (Jvm.Cond.instanceMethod ({ cls := "PadConsole$Video", name := "mark", desc := "(I)V" } : Jvm.MethodName)), (Jvm.Cond.selects "PadConsole$Video" ({ cls := "PadConsole$Video", name := "mark", desc := "(I)V" } : Jvm.MethodName) ({ cls := "PadConsole$Video", name := "mark", desc := "(I)V" } : Jvm.MethodName)), (Jvm.Cond.code ({ cls := "PadConsole$Video", name := "mark", desc := "(I)V" } : Jvm.MethodName) prog_11_method_10_code (2 : Nat) (Option.none : Option Jvm.ClassFile.FieldType)), (Jvm.Cond.methodLink "PadConsole$Painter" (126 : Nat) ({ cls := "PadConsole$Painter", name := "drawSprite", desc := "(II)V" } : Jvm.MethodName)), (Jvm.Cond.privateMethod ({ cls := "PadConsole$Painter", name := "drawSprite", desc := "(II)V" } : Jvm.MethodName))]
noncomputable def tb7_11 : List Jvm.Cond := [(Jvm.Cond.instanceMethod ({ cls := "PadConsole$Painter", name := "drawSprite", desc := "(II)V" } : Jvm.MethodName)), (Jvm.Cond.code ({ cls := "PadConsole$Painter", name := "drawSprite", desc := "(II)V" } : Jvm.MethodName) prog_5_method_18_code (10 : Nat) (Option.none : Option Jvm.ClassFile.FieldType)), (Jvm.Cond.methodLink "PadConsole$Painter" (81 : Nat) ({ cls := "java/util/Arrays", name := "fill", desc := "([IIII)V" } : Jvm.MethodName)), (Jvm.Cond.methodLink "PadConsole$Painter" (84 : Nat) ({ cls := "PadConsole$Painter", name := "drawOld", desc := "(II)V" } : Jvm.MethodName)), (Jvm.Cond.privateMethod ({ cls := "PadConsole$Painter", name := "drawOld", desc := "(II)V" } : Jvm.MethodName)), (Jvm.Cond.instanceMethod ({ cls := "PadConsole$Painter", name := "drawOld", desc := "(II)V" } : Jvm.MethodName)), (Jvm.Cond.code ({ cls := "PadConsole$Painter", name := "drawOld", desc := "(II)V" } : Jvm.MethodName) prog_5_method_19_code (6 : Nat) (Option.none : Option Jvm.ClassFile.FieldType)), (Jvm.Cond.methodLink "PadConsole$Painter" (129 : Nat) ({ cls := "PadConsole$Painter", name := "drawText", desc := "(II)V" } : Jvm.MethodName)), (Jvm.Cond.privateMethod ({ cls := "PadConsole$Painter", name := "drawText", desc := "(II)V" } : Jvm.MethodName)), (Jvm.Cond.instanceMethod ({ cls := "PadConsole$Painter", name := "drawText", desc := "(II)V" } : Jvm.MethodName)), (Jvm.Cond.code ({ cls := "PadConsole$Painter", name := "drawText", desc := "(II)V" } : Jvm.MethodName) prog_5_method_21_code (7 : Nat) (Option.none : Option Jvm.ClassFile.FieldType)), (Jvm.Cond.methodLink "PadConsole$Painter" (132 : Nat) ({ cls := "PadConsole$Painter", name := "patternAt", desc := "(II)I" } : Jvm.MethodName)), (Jvm.Cond.privateMethod ({ cls := "PadConsole$Painter", name := "patternAt", desc := "(II)I" } : Jvm.MethodName)), (Jvm.Cond.instanceMethod ({ cls := "PadConsole$Painter", name := "patternAt", desc := "(II)I" } : Jvm.MethodName)), (Jvm.Cond.code ({ cls := "PadConsole$Painter", name := "patternAt", desc := "(II)I" } : Jvm.MethodName) prog_5_method_20_code (3 : Nat) (Option.some Jvm.ClassFile.FieldType.int)), (Jvm.Cond.methodLink "PadConsole$Painter" (135 : Nat) ({ cls := "PadConsole$Painter", name := "drawPattern", desc := "(III)V" } : Jvm.MethodName))]
noncomputable def tb7_12 : List Jvm.Cond := [(Jvm.Cond.privateMethod ({ cls := "PadConsole$Painter", name := "drawPattern", desc := "(III)V" } : Jvm.MethodName)), (Jvm.Cond.instanceMethod ({ cls := "PadConsole$Painter", name := "drawPattern", desc := "(III)V" } : Jvm.MethodName)), (Jvm.Cond.code ({ cls := "PadConsole$Painter", name := "drawPattern", desc := "(III)V" } : Jvm.MethodName) prog_5_method_22_code (5 : Nat) (Option.none : Option Jvm.ClassFile.FieldType)), (Jvm.Cond.methodLink "PadConsole$Painter" (139 : Nat) ({ cls := "PadConsole$Painter", name := "drawThird", desc := "(III)V" } : Jvm.MethodName)), (Jvm.Cond.privateMethod ({ cls := "PadConsole$Painter", name := "drawThird", desc := "(III)V" } : Jvm.MethodName)), (Jvm.Cond.instanceMethod ({ cls := "PadConsole$Painter", name := "drawThird", desc := "(III)V" } : Jvm.MethodName)), (Jvm.Cond.code ({ cls := "PadConsole$Painter", name := "drawThird", desc := "(III)V" } : Jvm.MethodName) prog_5_method_23_code (9 : Nat) (Option.none : Option Jvm.ClassFile.FieldType)), (Jvm.Cond.methodLink "PadConsole$Painter" (142 : Nat) ({ cls := "PadConsole$Painter", name := "drawBlocks", desc := "(III)V" } : Jvm.MethodName)), (Jvm.Cond.privateMethod ({ cls := "PadConsole$Painter", name := "drawBlocks", desc := "(III)V" } : Jvm.MethodName)), (Jvm.Cond.instanceMethod ({ cls := "PadConsole$Painter", name := "drawBlocks", desc := "(III)V" } : Jvm.MethodName)), (Jvm.Cond.code ({ cls := "PadConsole$Painter", name := "drawBlocks", desc := "(III)V" } : Jvm.MethodName) prog_5_method_24_code (5 : Nat) (Option.none : Option Jvm.ClassFile.FieldType)), (Jvm.Cond.methodLink "PadConsole$Painter" (88 : Nat) ({ cls := "PadConsole$Painter", name := "drawOldSprites", desc := "(I)V" } : Jvm.MethodName)), (Jvm.Cond.privateMethod ({ cls := "PadConsole$Painter", name := "drawOldSprites", desc := "(I)V" } : Jvm.MethodName)), (Jvm.Cond.instanceMethod ({ cls := "PadConsole$Painter", name := "drawOldSprites", desc := "(I)V" } : Jvm.MethodName)), (Jvm.Cond.code ({ cls := "PadConsole$Painter", name := "drawOldSprites", desc := "(I)V" } : Jvm.MethodName) prog_5_method_25_code (8 : Nat) (Option.none : Option Jvm.ClassFile.FieldType)), (Jvm.Cond.methodLink "PadConsole$Painter" (145 : Nat) ({ cls := "PadConsole$Video", name := "markFifth", desc := "(I)V" } : Jvm.MethodName))]
noncomputable def tb7_13 : List Jvm.Cond := [(Jvm.Cond.instanceMethod ({ cls := "PadConsole$Video", name := "markFifth", desc := "(I)V" } : Jvm.MethodName)), (Jvm.Cond.selects "PadConsole$Video" ({ cls := "PadConsole$Video", name := "markFifth", desc := "(I)V" } : Jvm.MethodName) ({ cls := "PadConsole$Video", name := "markFifth", desc := "(I)V" } : Jvm.MethodName)), (Jvm.Cond.code ({ cls := "PadConsole$Video", name := "markFifth", desc := "(I)V" } : Jvm.MethodName) prog_11_method_11_code (2 : Nat) (Option.none : Option Jvm.ClassFile.FieldType)), (Jvm.Cond.methodLink "PadConsole$Painter" (148 : Nat) ({ cls := "PadConsole$Painter", name := "drawOldSprite", desc := "(II)V" } : Jvm.MethodName)), (Jvm.Cond.privateMethod ({ cls := "PadConsole$Painter", name := "drawOldSprite", desc := "(II)V" } : Jvm.MethodName)), (Jvm.Cond.instanceMethod ({ cls := "PadConsole$Painter", name := "drawOldSprite", desc := "(II)V" } : Jvm.MethodName)), (Jvm.Cond.code ({ cls := "PadConsole$Painter", name := "drawOldSprite", desc := "(II)V" } : Jvm.MethodName) prog_5_method_26_code (13 : Nat) (Option.none : Option Jvm.ClassFile.FieldType)), (Jvm.Cond.methodLink "PadConsole$Painter" (151 : Nat) ({ cls := "PadConsole$Painter", name := "takeDot", desc := "(II)V" } : Jvm.MethodName)), (Jvm.Cond.privateMethod ({ cls := "PadConsole$Painter", name := "takeDot", desc := "(II)V" } : Jvm.MethodName)), (Jvm.Cond.instanceMethod ({ cls := "PadConsole$Painter", name := "takeDot", desc := "(II)V" } : Jvm.MethodName)), (Jvm.Cond.code ({ cls := "PadConsole$Painter", name := "takeDot", desc := "(II)V" } : Jvm.MethodName) prog_5_method_27_code (3 : Nat) (Option.none : Option Jvm.ClassFile.FieldType)), (Jvm.Cond.methodLink "PadConsole$Painter" (91 : Nat) ({ cls := "PadConsole$Painter", name := "fillBack", desc := "(I)V" } : Jvm.MethodName)), (Jvm.Cond.privateMethod ({ cls := "PadConsole$Painter", name := "fillBack", desc := "(I)V" } : Jvm.MethodName)), (Jvm.Cond.instanceMethod ({ cls := "PadConsole$Painter", name := "fillBack", desc := "(I)V" } : Jvm.MethodName)), (Jvm.Cond.code ({ cls := "PadConsole$Painter", name := "fillBack", desc := "(I)V" } : Jvm.MethodName) prog_5_method_11_code (3 : Nat) (Option.none : Option Jvm.ClassFile.FieldType)), (Jvm.Cond.methodLink "PadConsole$Painter" (94 : Nat) ({ cls := "PadConsole$Painter", name := "mixColours", desc := "(I)V" } : Jvm.MethodName))]
noncomputable def tb7_14 : List Jvm.Cond := [(Jvm.Cond.privateMethod ({ cls := "PadConsole$Painter", name := "mixColours", desc := "(I)V" } : Jvm.MethodName)), (Jvm.Cond.instanceMethod ({ cls := "PadConsole$Painter", name := "mixColours", desc := "(I)V" } : Jvm.MethodName)), (Jvm.Cond.code ({ cls := "PadConsole$Painter", name := "mixColours", desc := "(I)V" } : Jvm.MethodName) prog_5_method_10_code (4 : Nat) (Option.none : Option Jvm.ClassFile.FieldType)), (Jvm.Cond.fieldLink "PadConsole$Painter" (97 : Nat) "PadConsole$Painter" "FIXED_COLOURS" "[I"), (Jvm.Cond.laysStatic "PadConsole$Painter" "FIXED_COLOURS" "[I"), (Jvm.Cond.methodLink "PadConsole" (381 : Nat) ({ cls := "PadConsole$Video", name := "goesToNextLine", desc := "()Z" } : Jvm.MethodName)), (Jvm.Cond.instanceMethod ({ cls := "PadConsole$Video", name := "goesToNextLine", desc := "()Z" } : Jvm.MethodName)), (Jvm.Cond.selects "PadConsole$Video" ({ cls := "PadConsole$Video", name := "goesToNextLine", desc := "()Z" } : Jvm.MethodName) ({ cls := "PadConsole$Video", name := "goesToNextLine", desc := "()Z" } : Jvm.MethodName)), (Jvm.Cond.code ({ cls := "PadConsole$Video", name := "goesToNextLine", desc := "()Z" } : Jvm.MethodName) prog_11_method_24_code (3 : Nat) (Option.some Jvm.ClassFile.FieldType.boolean)), (Jvm.Cond.methodLink "PadConsole" (384 : Nat) ({ cls := "PadConsole$Clock", name := "countPicture", desc := "()V" } : Jvm.MethodName)), (Jvm.Cond.instanceMethod ({ cls := "PadConsole$Clock", name := "countPicture", desc := "()V" } : Jvm.MethodName)), (Jvm.Cond.selects "PadConsole$Clock" ({ cls := "PadConsole$Clock", name := "countPicture", desc := "()V" } : Jvm.MethodName) ({ cls := "PadConsole$Clock", name := "countPicture", desc := "()V" } : Jvm.MethodName)), (Jvm.Cond.code ({ cls := "PadConsole$Clock", name := "countPicture", desc := "()V" } : Jvm.MethodName) prog_2_method_5_code (1 : Nat) (Option.none : Option Jvm.ClassFile.FieldType)), (Jvm.Cond.methodLink "PadConsole" (387 : Nat) ({ cls := "PadConsole$Desk", name := "carryOutPlans", desc := "(JLPadConsole$Ports;)V" } : Jvm.MethodName)), (Jvm.Cond.instanceMethod ({ cls := "PadConsole$Desk", name := "carryOutPlans", desc := "(JLPadConsole$Ports;)V" } : Jvm.MethodName)), (Jvm.Cond.selects "PadConsole$Desk" ({ cls := "PadConsole$Desk", name := "carryOutPlans", desc := "(JLPadConsole$Ports;)V" } : Jvm.MethodName) ({ cls := "PadConsole$Desk", name := "carryOutPlans", desc := "(JLPadConsole$Ports;)V" } : Jvm.MethodName))]
set_option maxRecDepth 100000 in
theorem tbe7 : tables_1_7 = (tb7_0 ++ (tb7_1 ++ (tb7_2 ++ (tb7_3 ++ (tb7_4 ++ (tb7_5 ++ (tb7_6 ++ (tb7_7 ++ (tb7_8 ++ (tb7_9 ++ (tb7_10 ++ (tb7_11 ++ (tb7_12 ++ (tb7_13 ++ tb7_14)))))))))))))) := rfl
theorem tm7_0 {w : Jvm.Cond} (h : w ∈ tb7_0) : w ∈ tables_1_7 := by
  rw [tbe7]
  exact (List.mem_append_left _ h)
theorem tm7_1 {w : Jvm.Cond} (h : w ∈ tb7_1) : w ∈ tables_1_7 := by
  rw [tbe7]
  exact (List.mem_append_right _ (List.mem_append_left _ h))
theorem tm7_2 {w : Jvm.Cond} (h : w ∈ tb7_2) : w ∈ tables_1_7 := by
  rw [tbe7]
  exact (List.mem_append_right _ (List.mem_append_right _ (List.mem_append_left _ h)))
theorem tm7_3 {w : Jvm.Cond} (h : w ∈ tb7_3) : w ∈ tables_1_7 := by
  rw [tbe7]
  exact (List.mem_append_right _ (List.mem_append_right _ (List.mem_append_right _ (List.mem_append_left _ h))))
theorem tm7_4 {w : Jvm.Cond} (h : w ∈ tb7_4) : w ∈ tables_1_7 := by
  rw [tbe7]
  exact (List.mem_append_right _ (List.mem_append_right _ (List.mem_append_right _ (List.mem_append_right _ (List.mem_append_left _ h)))))
theorem tm7_5 {w : Jvm.Cond} (h : w ∈ tb7_5) : w ∈ tables_1_7 := by
  rw [tbe7]
  exact (List.mem_append_right _ (List.mem_append_right _ (List.mem_append_right _ (List.mem_append_right _ (List.mem_append_right _ (List.mem_append_left _ h))))))
theorem tm7_6 {w : Jvm.Cond} (h : w ∈ tb7_6) : w ∈ tables_1_7 := by
  rw [tbe7]
  exact (List.mem_append_right _ (List.mem_append_right _ (List.mem_append_right _ (List.mem_append_right _ (List.mem_append_right _ (List.mem_append_right _ (List.mem_append_left _ h)))))))
theorem tm7_7 {w : Jvm.Cond} (h : w ∈ tb7_7) : w ∈ tables_1_7 := by
  rw [tbe7]
  exact (List.mem_append_right _ (List.mem_append_right _ (List.mem_append_right _ (List.mem_append_right _ (List.mem_append_right _ (List.mem_append_right _ (List.mem_append_right _ (List.mem_append_left _ h))))))))
theorem tm7_8 {w : Jvm.Cond} (h : w ∈ tb7_8) : w ∈ tables_1_7 := by
  rw [tbe7]
  exact (List.mem_append_right _ (List.mem_append_right _ (List.mem_append_right _ (List.mem_append_right _ (List.mem_append_right _ (List.mem_append_right _ (List.mem_append_right _ (List.mem_append_right _ (List.mem_append_left _ h)))))))))
theorem tm7_9 {w : Jvm.Cond} (h : w ∈ tb7_9) : w ∈ tables_1_7 := by
  rw [tbe7]
  exact (List.mem_append_right _ (List.mem_append_right _ (List.mem_append_right _ (List.mem_append_right _ (List.mem_append_right _ (List.mem_append_right _ (List.mem_append_right _ (List.mem_append_right _ (List.mem_append_right _ (List.mem_append_left _ h))))))))))
theorem tm7_10 {w : Jvm.Cond} (h : w ∈ tb7_10) : w ∈ tables_1_7 := by
  rw [tbe7]
  exact (List.mem_append_right _ (List.mem_append_right _ (List.mem_append_right _ (List.mem_append_right _ (List.mem_append_right _ (List.mem_append_right _ (List.mem_append_right _ (List.mem_append_right _ (List.mem_append_right _ (List.mem_append_right _ (List.mem_append_left _ h)))))))))))
theorem tm7_11 {w : Jvm.Cond} (h : w ∈ tb7_11) : w ∈ tables_1_7 := by
  rw [tbe7]
  exact (List.mem_append_right _ (List.mem_append_right _ (List.mem_append_right _ (List.mem_append_right _ (List.mem_append_right _ (List.mem_append_right _ (List.mem_append_right _ (List.mem_append_right _ (List.mem_append_right _ (List.mem_append_right _ (List.mem_append_right _ (List.mem_append_left _ h))))))))))))
theorem tm7_12 {w : Jvm.Cond} (h : w ∈ tb7_12) : w ∈ tables_1_7 := by
  rw [tbe7]
  exact (List.mem_append_right _ (List.mem_append_right _ (List.mem_append_right _ (List.mem_append_right _ (List.mem_append_right _ (List.mem_append_right _ (List.mem_append_right _ (List.mem_append_right _ (List.mem_append_right _ (List.mem_append_right _ (List.mem_append_right _ (List.mem_append_right _ (List.mem_append_left _ h)))))))))))))
theorem tm7_13 {w : Jvm.Cond} (h : w ∈ tb7_13) : w ∈ tables_1_7 := by
  rw [tbe7]
  exact (List.mem_append_right _ (List.mem_append_right _ (List.mem_append_right _ (List.mem_append_right _ (List.mem_append_right _ (List.mem_append_right _ (List.mem_append_right _ (List.mem_append_right _ (List.mem_append_right _ (List.mem_append_right _ (List.mem_append_right _ (List.mem_append_right _ (List.mem_append_right _ (List.mem_append_left _ h))))))))))))))
theorem tm7_14 {w : Jvm.Cond} (h : w ∈ tb7_14) : w ∈ tables_1_7 := by
  rw [tbe7]
  exact (List.mem_append_right _ (List.mem_append_right _ (List.mem_append_right _ (List.mem_append_right _ (List.mem_append_right _ (List.mem_append_right _ (List.mem_append_right _ (List.mem_append_right _ (List.mem_append_right _ (List.mem_append_right _ (List.mem_append_right _ (List.mem_append_right _ (List.mem_append_right _ (List.mem_append_right _ h))))))))))))))
noncomputable def tb8_0 : List Jvm.Cond := [(Jvm.Cond.code ({ cls := "PadConsole$Desk", name := "carryOutPlans", desc := "(JLPadConsole$Ports;)V" } : Jvm.MethodName) prog_3_method_15_code (6 : Nat) (Option.none : Option Jvm.ClassFile.FieldType)), (Jvm.Cond.methodLink "PadConsole$Desk" (49 : Nat) ({ cls := "PadConsole$Desk", name := "placeOfPlan", desc := "(I)I" } : Jvm.MethodName)), (Jvm.Cond.privateMethod ({ cls := "PadConsole$Desk", name := "placeOfPlan", desc := "(I)I" } : Jvm.MethodName)), (Jvm.Cond.instanceMethod ({ cls := "PadConsole$Desk", name := "placeOfPlan", desc := "(I)I" } : Jvm.MethodName)), (Jvm.Cond.code ({ cls := "PadConsole$Desk", name := "placeOfPlan", desc := "(I)I" } : Jvm.MethodName) prog_3_method_12_code (2 : Nat) (Option.some Jvm.ClassFile.FieldType.int)), (Jvm.Cond.methodLink "PadConsole$Desk" (52 : Nat) ({ cls := "PadConsole$Ports", name := "holdButtons", desc := "(II)V" } : Jvm.MethodName)), (Jvm.Cond.instanceMethod ({ cls := "PadConsole$Ports", name := "holdButtons", desc := "(II)V" } : Jvm.MethodName)), (Jvm.Cond.selects "PadConsole$Ports" ({ cls := "PadConsole$Ports", name := "holdButtons", desc := "(II)V" } : Jvm.MethodName) ({ cls := "PadConsole$Ports", name := "holdButtons", desc := "(II)V" } : Jvm.MethodName)), (Jvm.Cond.code ({ cls := "PadConsole$Ports", name := "holdButtons", desc := "(II)V" } : Jvm.MethodName) prog_6_method_7_code (3 : Nat) (Option.none : Option Jvm.ClassFile.FieldType)), (Jvm.Cond.methodLink "PadConsole" (371 : Nat) ({ cls := "PadConsole$Clock", name := "pass", desc := "(I)V" } : Jvm.MethodName)), (Jvm.Cond.instanceMethod ({ cls := "PadConsole$Clock", name := "pass", desc := "(I)V" } : Jvm.MethodName)), (Jvm.Cond.selects "PadConsole$Clock" ({ cls := "PadConsole$Clock", name := "pass", desc := "(I)V" } : Jvm.MethodName) ({ cls := "PadConsole$Clock", name := "pass", desc := "(I)V" } : Jvm.MethodName)), (Jvm.Cond.code ({ cls := "PadConsole$Clock", name := "pass", desc := "(I)V" } : Jvm.MethodName) prog_2_method_6_code (8 : Nat) (Option.none : Option Jvm.ClassFile.FieldType)), (Jvm.Cond.constantLong "PadConsole$Clock" (46 : Nat) (16 : Int64)), (Jvm.Cond.methodLink "PadConsole$Clock" (48 : Nat) ({ cls := "PadConsole$Clock", name := "addSample", desc := "()V" } : Jvm.MethodName)), (Jvm.Cond.privateMethod ({ cls := "PadConsole$Clock", name := "addSample", desc := "()V" } : Jvm.MethodName))]
noncomputable def tb8_1 : List Jvm.Cond := [(Jvm.Cond.instanceMethod ({ cls := "PadConsole$Clock", name := "addSample", desc := "()V" } : Jvm.MethodName)), (Jvm.Cond.code ({ cls := "PadConsole$Clock", name := "addSample", desc := "()V" } : Jvm.MethodName) prog_2_method_7_code (2 : Nat) (Option.none : Option Jvm.ClassFile.FieldType)), (Jvm.Cond.methodLink "PadConsole$Clock" (63 : Nat) ({ cls := "PadConsole$Sound", name := "nextSample", desc := "()I" } : Jvm.MethodName)), (Jvm.Cond.instanceMethod ({ cls := "PadConsole$Sound", name := "nextSample", desc := "()I" } : Jvm.MethodName)), (Jvm.Cond.selects "PadConsole$Sound" ({ cls := "PadConsole$Sound", name := "nextSample", desc := "()I" } : Jvm.MethodName) ({ cls := "PadConsole$Sound", name := "nextSample", desc := "()I" } : Jvm.MethodName)), (Jvm.Cond.code ({ cls := "PadConsole$Sound", name := "nextSample", desc := "()I" } : Jvm.MethodName) prog_9_method_8_code (6 : Nat) (Option.some Jvm.ClassFile.FieldType.int)), (Jvm.Cond.methodLink "PadConsole$Sound" (35 : Nat) ({ cls := "PadConsole$Sound", name := "moveTone", desc := "(I)V" } : Jvm.MethodName)), (Jvm.Cond.privateMethod ({ cls := "PadConsole$Sound", name := "moveTone", desc := "(I)V" } : Jvm.MethodName)), (Jvm.Cond.instanceMethod ({ cls := "PadConsole$Sound", name := "moveTone", desc := "(I)V" } : Jvm.MethodName)), (Jvm.Cond.code ({ cls := "PadConsole$Sound", name := "moveTone", desc := "(I)V" } : Jvm.MethodName) prog_9_method_9_code (3 : Nat) (Option.none : Option Jvm.ClassFile.FieldType)), (Jvm.Cond.methodLink "PadConsole$Sound" (45 : Nat) ({ cls := "java/lang/Math", name := "max", desc := "(II)I" } : Jvm.MethodName)), (Jvm.Cond.methodLink "PadConsole$Sound" (39 : Nat) ({ cls := "PadConsole$Sound", name := "moveNoise", desc := "()V" } : Jvm.MethodName)), (Jvm.Cond.privateMethod ({ cls := "PadConsole$Sound", name := "moveNoise", desc := "()V" } : Jvm.MethodName)), (Jvm.Cond.instanceMethod ({ cls := "PadConsole$Sound", name := "moveNoise", desc := "()V" } : Jvm.MethodName)), (Jvm.Cond.code ({ cls := "PadConsole$Sound", name := "moveNoise", desc := "()V" } : Jvm.MethodName) prog_9_method_10_code (4 : Nat) (Option.none : Option Jvm.ClassFile.FieldType)), (Jvm.Cond.fieldLink "PadConsole$Sound" (42 : Nat) "PadConsole$Sound" "LOUD" "[I")]
noncomputable def tb8_2 : List Jvm.Cond := [(Jvm.Cond.laysStatic "PadConsole$Sound" "LOUD" "[I"), (Jvm.Cond.methodLink "PadConsole$Clock" (69 : Nat) ({ cls := "PadConsole$Ring", name := "add", desc := "(J)V" } : Jvm.MethodName)), (Jvm.Cond.instanceMethod ({ cls := "PadConsole$Ring", name := "add", desc := "(J)V" } : Jvm.MethodName)), (Jvm.Cond.selects "PadConsole$Ring" ({ cls := "PadConsole$Ring", name := "add", desc := "(J)V" } : Jvm.MethodName) ({ cls := "PadConsole$Ring", name := "add", desc := "(J)V" } : Jvm.MethodName)), (Jvm.Cond.code ({ cls := "PadConsole$Ring", name := "add", desc := "(J)V" } : Jvm.MethodName) prog_8_method_2_code (3 : Nat) (Option.none : Option Jvm.ClassFile.FieldType)), (Jvm.Cond.constant "PadConsole$Clock" (73 : Nat) (65535 : Int32)), (Jvm.Cond.constantLong "PadConsole$Clock" (51 : Nat) (72 : Int64)), (Jvm.Cond.methodLink "PadConsole$Clock" (53 : Nat) ({ cls := "PadConsole$Waves", name := "makeNext", desc := "()V" } : Jvm.MethodName)), (Jvm.Cond.instanceMethod ({ cls := "PadConsole$Waves", name := "makeNext", desc := "()V" } : Jvm.MethodName)), (Jvm.Cond.selects "PadConsole$Waves" ({ cls := "PadConsole$Waves", name := "makeNext", desc := "()V" } : Jvm.MethodName) ({ cls := "PadConsole$Waves", name := "makeNext", desc := "()V" } : Jvm.MethodName)), (Jvm.Cond.code ({ cls := "PadConsole$Waves", name := "makeNext", desc := "()V" } : Jvm.MethodName) prog_12_method_9_code (5 : Nat) (Option.none : Option Jvm.ClassFile.FieldType)), (Jvm.Cond.methodLink "PadConsole$Waves" (36 : Nat) ({ cls := "PadConsole$Waves", name := "takeOwnPatch", desc := "()V" } : Jvm.MethodName)), (Jvm.Cond.privateMethod ({ cls := "PadConsole$Waves", name := "takeOwnPatch", desc := "()V" } : Jvm.MethodName)), (Jvm.Cond.instanceMethod ({ cls := "PadConsole$Waves", name := "takeOwnPatch", desc := "()V" } : Jvm.MethodName)), (Jvm.Cond.code ({ cls := "PadConsole$Waves", name := "takeOwnPatch", desc := "()V" } : Jvm.MethodName) prog_12_method_11_code (2 : Nat) (Option.none : Option Jvm.ClassFile.FieldType)), (Jvm.Cond.methodLink "PadConsole$Waves" (39 : Nat) ({ cls := "PadConsole$Waves", name := "takeChannel", desc := "(I)V" } : Jvm.MethodName))]
noncomputable def tb8_3 : List Jvm.Cond := [(Jvm.Cond.privateMethod ({ cls := "PadConsole$Waves", name := "takeChannel", desc := "(I)V" } : Jvm.MethodName)), (Jvm.Cond.instanceMethod ({ cls := "PadConsole$Waves", name := "takeChannel", desc := "(I)V" } : Jvm.MethodName)), (Jvm.Cond.code ({ cls := "PadConsole$Waves", name := "takeChannel", desc := "(I)V" } : Jvm.MethodName) prog_12_method_10_code (3 : Nat) (Option.none : Option Jvm.ClassFile.FieldType)), (Jvm.Cond.fieldLink "PadConsole$Waves" (58 : Nat) "PadConsole$Waves" "PATCHES" "[J"), (Jvm.Cond.laysStatic "PadConsole$Waves" "PATCHES" "[J"), (Jvm.Cond.methodLink "PadConsole$Waves" (43 : Nat) ({ cls := "PadConsole$Waves", name := "moveOperator", desc := "(II)V" } : Jvm.MethodName)), (Jvm.Cond.privateMethod ({ cls := "PadConsole$Waves", name := "moveOperator", desc := "(II)V" } : Jvm.MethodName)), (Jvm.Cond.instanceMethod ({ cls := "PadConsole$Waves", name := "moveOperator", desc := "(II)V" } : Jvm.MethodName)), (Jvm.Cond.code ({ cls := "PadConsole$Waves", name := "moveOperator", desc := "(II)V" } : Jvm.MethodName) prog_12_method_13_code (4 : Nat) (Option.none : Option Jvm.ClassFile.FieldType)), (Jvm.Cond.methodLink "PadConsole$Waves" (69 : Nat) ({ cls := "PadConsole$Waves", name := "isOn", desc := "(I)Z" } : Jvm.MethodName)), (Jvm.Cond.privateMethod ({ cls := "PadConsole$Waves", name := "isOn", desc := "(I)Z" } : Jvm.MethodName)), (Jvm.Cond.instanceMethod ({ cls := "PadConsole$Waves", name := "isOn", desc := "(I)Z" } : Jvm.MethodName)), (Jvm.Cond.code ({ cls := "PadConsole$Waves", name := "isOn", desc := "(I)Z" } : Jvm.MethodName) prog_12_method_15_code (2 : Nat) (Option.some Jvm.ClassFile.FieldType.boolean)), (Jvm.Cond.methodLink "PadConsole$Waves" (73 : Nat) ({ cls := "PadConsole$Waves", name := "moveLevel", desc := "(II)V" } : Jvm.MethodName)), (Jvm.Cond.privateMethod ({ cls := "PadConsole$Waves", name := "moveLevel", desc := "(II)V" } : Jvm.MethodName)), (Jvm.Cond.instanceMethod ({ cls := "PadConsole$Waves", name := "moveLevel", desc := "(II)V" } : Jvm.MethodName))]
noncomputable def tb8_4 : List Jvm.Cond := [(Jvm.Cond.code ({ cls := "PadConsole$Waves", name := "moveLevel", desc := "(II)V" } : Jvm.MethodName) prog_12_method_17_code (7 : Nat) (Option.none : Option Jvm.ClassFile.FieldType)), (Jvm.Cond.methodLink "PadConsole$Waves" (100 : Nat) ({ cls := "PadConsole$Waves", name := "rateIn", desc := "(II)I" } : Jvm.MethodName)), (Jvm.Cond.privateMethod ({ cls := "PadConsole$Waves", name := "rateIn", desc := "(II)I" } : Jvm.MethodName)), (Jvm.Cond.instanceMethod ({ cls := "PadConsole$Waves", name := "rateIn", desc := "(II)I" } : Jvm.MethodName)), (Jvm.Cond.code ({ cls := "PadConsole$Waves", name := "rateIn", desc := "(II)I" } : Jvm.MethodName) prog_12_method_16_code (5 : Nat) (Option.some Jvm.ClassFile.FieldType.int)), (Jvm.Cond.methodLink "PadConsole$Waves" (76 : Nat) ({ cls := "PadConsole$Waves", name := "part", desc := "(I)I" } : Jvm.MethodName)), (Jvm.Cond.privateMethod ({ cls := "PadConsole$Waves", name := "part", desc := "(I)I" } : Jvm.MethodName)), (Jvm.Cond.instanceMethod ({ cls := "PadConsole$Waves", name := "part", desc := "(I)I" } : Jvm.MethodName)), (Jvm.Cond.code ({ cls := "PadConsole$Waves", name := "part", desc := "(I)I" } : Jvm.MethodName) prog_12_method_12_code (2 : Nat) (Option.some Jvm.ClassFile.FieldType.int)), (Jvm.Cond.methodLink "PadConsole$Waves" (103 : Nat) ({ cls := "java/lang/Math", name := "min", desc := "(II)I" } : Jvm.MethodName)), (Jvm.Cond.fieldLink "PadConsole$Waves" (108 : Nat) "PadConsole$Waves" "TICKS" "[I"), (Jvm.Cond.laysStatic "PadConsole$Waves" "TICKS" "[I"), (Jvm.Cond.methodLink "PadConsole$Waves" (111 : Nat) ({ cls := "PadConsole$Waves", name := "louder", desc := "(III)I" } : Jvm.MethodName)), (Jvm.Cond.privateMethod ({ cls := "PadConsole$Waves", name := "louder", desc := "(III)I" } : Jvm.MethodName)), (Jvm.Cond.instanceMethod ({ cls := "PadConsole$Waves", name := "louder", desc := "(III)I" } : Jvm.MethodName)), (Jvm.Cond.code ({ cls := "PadConsole$Waves", name := "louder", desc := "(III)I" } : Jvm.MethodName) prog_12_method_18_code (4 : Nat) (Option.some Jvm.ClassFile.FieldType.int))]
noncomputable def tb8_5 : List Jvm.Cond := [(Jvm.Cond.methodLink "PadConsole$Waves" (121 : Nat) ({ cls := "PadConsole$Waves", name := "slowTick", desc := "()I" } : Jvm.MethodName)), (Jvm.Cond.privateMethod ({ cls := "PadConsole$Waves", name := "slowTick", desc := "()I" } : Jvm.MethodName)), (Jvm.Cond.instanceMethod ({ cls := "PadConsole$Waves", name := "slowTick", desc := "()I" } : Jvm.MethodName)), (Jvm.Cond.code ({ cls := "PadConsole$Waves", name := "slowTick", desc := "()I" } : Jvm.MethodName) prog_12_method_20_code (1 : Nat) (Option.some Jvm.ClassFile.FieldType.int)), (Jvm.Cond.methodLink "PadConsole$Waves" (125 : Nat) ({ cls := "PadConsole$Waves", name := "tickAt", desc := "(II)I" } : Jvm.MethodName)), (Jvm.Cond.privateMethod ({ cls := "PadConsole$Waves", name := "tickAt", desc := "(II)I" } : Jvm.MethodName)), (Jvm.Cond.instanceMethod ({ cls := "PadConsole$Waves", name := "tickAt", desc := "(II)I" } : Jvm.MethodName)), (Jvm.Cond.code ({ cls := "PadConsole$Waves", name := "tickAt", desc := "(II)I" } : Jvm.MethodName) prog_12_method_21_code (5 : Nat) (Option.some Jvm.ClassFile.FieldType.int)), (Jvm.Cond.methodLink "PadConsole$Waves" (115 : Nat) ({ cls := "java/lang/Math", name := "max", desc := "(II)I" } : Jvm.MethodName)), (Jvm.Cond.methodLink "PadConsole$Waves" (118 : Nat) ({ cls := "PadConsole$Waves", name := "softer", desc := "(II)I" } : Jvm.MethodName)), (Jvm.Cond.privateMethod ({ cls := "PadConsole$Waves", name := "softer", desc := "(II)I" } : Jvm.MethodName)), (Jvm.Cond.instanceMethod ({ cls := "PadConsole$Waves", name := "softer", desc := "(II)I" } : Jvm.MethodName)), (Jvm.Cond.code ({ cls := "PadConsole$Waves", name := "softer", desc := "(II)I" } : Jvm.MethodName) prog_12_method_19_code (3 : Nat) (Option.some Jvm.ClassFile.FieldType.int)), (Jvm.Cond.methodLink "PadConsole$Waves" (80 : Nat) ({ cls := "PadConsole$Waves", name := "moveState", desc := "(II)V" } : Jvm.MethodName)), (Jvm.Cond.privateMethod ({ cls := "PadConsole$Waves", name := "moveState", desc := "(II)V" } : Jvm.MethodName)), (Jvm.Cond.instanceMethod ({ cls := "PadConsole$Waves", name := "moveState", desc := "(II)V" } : Jvm.MethodName))]
noncomputable def tb8_6 : List Jvm.Cond := [(Jvm.Cond.code ({ cls := "PadConsole$Waves", name := "moveState", desc := "(II)V" } : Jvm.MethodName) prog_12_method_22_code (5 : Nat) (Option.none : Option Jvm.ClassFile.FieldType)), (Jvm.Cond.methodLink "PadConsole$Waves" (83 : Nat) ({ cls := "PadConsole$Waves", name := "movePhase", desc := "(II)V" } : Jvm.MethodName)), (Jvm.Cond.privateMethod ({ cls := "PadConsole$Waves", name := "movePhase", desc := "(II)V" } : Jvm.MethodName)), (Jvm.Cond.instanceMethod ({ cls := "PadConsole$Waves", name := "movePhase", desc := "(II)V" } : Jvm.MethodName)), (Jvm.Cond.code ({ cls := "PadConsole$Waves", name := "movePhase", desc := "(II)V" } : Jvm.MethodName) prog_12_method_23_code (5 : Nat) (Option.none : Option Jvm.ClassFile.FieldType)), (Jvm.Cond.methodLink "PadConsole$Waves" (128 : Nat) ({ cls := "PadConsole$Waves", name := "sway", desc := "(I)I" } : Jvm.MethodName)), (Jvm.Cond.privateMethod ({ cls := "PadConsole$Waves", name := "sway", desc := "(I)I" } : Jvm.MethodName)), (Jvm.Cond.instanceMethod ({ cls := "PadConsole$Waves", name := "sway", desc := "(I)I" } : Jvm.MethodName)), (Jvm.Cond.code ({ cls := "PadConsole$Waves", name := "sway", desc := "(I)I" } : Jvm.MethodName) prog_12_method_24_code (2 : Nat) (Option.some Jvm.ClassFile.FieldType.int)), (Jvm.Cond.fieldLink "PadConsole$Waves" (131 : Nat) "PadConsole$Waves" "MULTIPLES" "[I"), (Jvm.Cond.laysStatic "PadConsole$Waves" "MULTIPLES" "[I"), (Jvm.Cond.constant "PadConsole$Waves" (134 : Nat) (524287 : Int32)), (Jvm.Cond.methodLink "PadConsole$Waves" (86 : Nat) ({ cls := "PadConsole$Waves", name := "moveOut", desc := "(II)V" } : Jvm.MethodName)), (Jvm.Cond.privateMethod ({ cls := "PadConsole$Waves", name := "moveOut", desc := "(II)V" } : Jvm.MethodName)), (Jvm.Cond.instanceMethod ({ cls := "PadConsole$Waves", name := "moveOut", desc := "(II)V" } : Jvm.MethodName)), (Jvm.Cond.code ({ cls := "PadConsole$Waves", name := "moveOut", desc := "(II)V" } : Jvm.MethodName) prog_12_method_14_code (4 : Nat) (Option.none : Option Jvm.ClassFile.FieldType))]
noncomputable def tb8_7 : List Jvm.Cond := [(Jvm.Cond.methodLink "PadConsole$Waves" (89 : Nat) ({ cls := "PadConsole$Waves", name := "turnedPhase", desc := "(II)I" } : Jvm.MethodName)), (Jvm.Cond.privateMethod ({ cls := "PadConsole$Waves", name := "turnedPhase", desc := "(II)I" } : Jvm.MethodName)), (Jvm.Cond.instanceMethod ({ cls := "PadConsole$Waves", name := "turnedPhase", desc := "(II)I" } : Jvm.MethodName)), (Jvm.Cond.code ({ cls := "PadConsole$Waves", name := "turnedPhase", desc := "(II)I" } : Jvm.MethodName) prog_12_method_25_code (5 : Nat) (Option.some Jvm.ClassFile.FieldType.int)), (Jvm.Cond.methodLink "PadConsole$Waves" (135 : Nat) ({ cls := "PadConsole$Waves", name := "drumPhase", desc := "(II)I" } : Jvm.MethodName)), (Jvm.Cond.privateMethod ({ cls := "PadConsole$Waves", name := "drumPhase", desc := "(II)I" } : Jvm.MethodName)), (Jvm.Cond.instanceMethod ({ cls := "PadConsole$Waves", name := "drumPhase", desc := "(II)I" } : Jvm.MethodName)), (Jvm.Cond.code ({ cls := "PadConsole$Waves", name := "drumPhase", desc := "(II)I" } : Jvm.MethodName) prog_12_method_26_code (7 : Nat) (Option.some Jvm.ClassFile.FieldType.int)), (Jvm.Cond.methodLink "PadConsole$Waves" (93 : Nat) ({ cls := "PadConsole$Waves", name := "softness", desc := "(II)I" } : Jvm.MethodName)), (Jvm.Cond.privateMethod ({ cls := "PadConsole$Waves", name := "softness", desc := "(II)I" } : Jvm.MethodName)), (Jvm.Cond.instanceMethod ({ cls := "PadConsole$Waves", name := "softness", desc := "(II)I" } : Jvm.MethodName)), (Jvm.Cond.code ({ cls := "PadConsole$Waves", name := "softness", desc := "(II)I" } : Jvm.MethodName) prog_12_method_28_code (5 : Nat) (Option.some Jvm.ClassFile.FieldType.int)), (Jvm.Cond.methodLink "PadConsole$Waves" (144 : Nat) ({ cls := "PadConsole$Waves", name := "scaled", desc := "(I)I" } : Jvm.MethodName)), (Jvm.Cond.privateMethod ({ cls := "PadConsole$Waves", name := "scaled", desc := "(I)I" } : Jvm.MethodName)), (Jvm.Cond.instanceMethod ({ cls := "PadConsole$Waves", name := "scaled", desc := "(I)I" } : Jvm.MethodName)), (Jvm.Cond.code ({ cls := "PadConsole$Waves", name := "scaled", desc := "(I)I" } : Jvm.MethodName) prog_12_method_30_code (3 : Nat) (Option.some Jvm.ClassFile.FieldType.int))]
noncomputable def tb8_8 : List Jvm.Cond := [(Jvm.Cond.fieldLink "PadConsole$Waves" (150 : Nat) "PadConsole$Waves" "SCALES" "[I"), (Jvm.Cond.laysStatic "PadConsole$Waves" "SCALES" "[I"), (Jvm.Cond.methodLink "PadConsole$Waves" (147 : Nat) ({ cls := "PadConsole$Waves", name := "tremble", desc := "()I" } : Jvm.MethodName)), (Jvm.Cond.privateMethod ({ cls := "PadConsole$Waves", name := "tremble", desc := "()I" } : Jvm.MethodName)), (Jvm.Cond.instanceMethod ({ cls := "PadConsole$Waves", name := "tremble", desc := "()I" } : Jvm.MethodName)), (Jvm.Cond.code ({ cls := "PadConsole$Waves", name := "tremble", desc := "()I" } : Jvm.MethodName) prog_12_method_29_code (2 : Nat) (Option.some Jvm.ClassFile.FieldType.int)), (Jvm.Cond.methodLink "PadConsole$Waves" (96 : Nat) ({ cls := "PadConsole$Waves", name := "waveAt", desc := "(IIZ)I" } : Jvm.MethodName)), (Jvm.Cond.static ({ cls := "PadConsole$Waves", name := "waveAt", desc := "(IIZ)I" } : Jvm.MethodName)), (Jvm.Cond.code ({ cls := "PadConsole$Waves", name := "waveAt", desc := "(IIZ)I" } : Jvm.MethodName) prog_12_method_27_code (7 : Nat) (Option.some Jvm.ClassFile.FieldType.int)), (Jvm.Cond.fieldLink "PadConsole$Waves" (138 : Nat) "PadConsole$Waves" "LOGS" "[I"), (Jvm.Cond.laysStatic "PadConsole$Waves" "LOGS" "[I"), (Jvm.Cond.fieldLink "PadConsole$Waves" (141 : Nat) "PadConsole$Waves" "POWERS" "[I"), (Jvm.Cond.laysStatic "PadConsole$Waves" "POWERS" "[I"), (Jvm.Cond.constant "PadConsole$Waves" (47 : Nat) (8389120 : Int32)), (Jvm.Cond.constantLong "PadConsole$Clock" (58 : Nat) (81 : Int64)), (Jvm.Cond.methodLink "PadConsole$Clock" (60 : Nat) ({ cls := "PadConsole$Clock", name := "addMix", desc := "()V" } : Jvm.MethodName))]
noncomputable def tb8_9 : List Jvm.Cond := [(Jvm.Cond.privateMethod ({ cls := "PadConsole$Clock", name := "addMix", desc := "()V" } : Jvm.MethodName)), (Jvm.Cond.instanceMethod ({ cls := "PadConsole$Clock", name := "addMix", desc := "()V" } : Jvm.MethodName)), (Jvm.Cond.code ({ cls := "PadConsole$Clock", name := "addMix", desc := "()V" } : Jvm.MethodName) prog_2_method_8_code (7 : Nat) (Option.none : Option Jvm.ClassFile.FieldType)), (Jvm.Cond.methodLink "PadConsole$Clock" (74 : Nat) ({ cls := "java/lang/Math", name := "max", desc := "(JJ)J" } : Jvm.MethodName)), (Jvm.Cond.static ({ cls := "java/lang/Math", name := "max", desc := "(JJ)J" } : Jvm.MethodName)), (Jvm.Cond.code ({ cls := "java/lang/Math", name := "max", desc := "(JJ)J" } : Jvm.MethodName) prog_21_method_66_code (4 : Nat) (Option.some Jvm.ClassFile.FieldType.long)), (Jvm.Cond.methodLink "PadConsole$Clock" (80 : Nat) ({ cls := "PadConsole$Waves", name := "heard", desc := "()I" } : Jvm.MethodName)), (Jvm.Cond.instanceMethod ({ cls := "PadConsole$Waves", name := "heard", desc := "()I" } : Jvm.MethodName)), (Jvm.Cond.selects "PadConsole$Waves" ({ cls := "PadConsole$Waves", name := "heard", desc := "()I" } : Jvm.MethodName) ({ cls := "PadConsole$Waves", name := "heard", desc := "()I" } : Jvm.MethodName)), (Jvm.Cond.code ({ cls := "PadConsole$Waves", name := "heard", desc := "()I" } : Jvm.MethodName) prog_12_method_7_code (1 : Nat) (Option.some Jvm.ClassFile.FieldType.int)), (Jvm.Cond.constantLong "PadConsole$Clock" (83 : Nat) (65536 : Int64)), (Jvm.Cond.methodLink "PadConsoleLaw" (131 : Nat) ({ cls := "PadConsoleLaw", name := "picture", desc := "(LPadConsole;I[J)I" } : Jvm.MethodName)), (Jvm.Cond.static ({ cls := "PadConsoleLaw", name := "picture", desc := "(LPadConsole;I[J)I" } : Jvm.MethodName)), (Jvm.Cond.codeWith ({ cls := "PadConsoleLaw", name := "picture", desc := "(LPadConsole;I[J)I" } : Jvm.MethodName) method_8_code (4 : Nat) (Option.some Jvm.ClassFile.FieldType.int) [((0 : Nat), (9 : Nat), (12 : Nat), (13 : Nat))]), (Jvm.Cond.methodLink "PadConsoleLaw" (31 : Nat) ({ cls := "PadConsole", name := "picture", desc := "(I)I" } : Jvm.MethodName)), (Jvm.Cond.instanceMethod ({ cls := "PadConsole", name := "picture", desc := "(I)I" } : Jvm.MethodName))]
noncomputable def tb8_10 : List Jvm.Cond := [(Jvm.Cond.selects "PadConsole" ({ cls := "PadConsole", name := "picture", desc := "(I)I" } : Jvm.MethodName) ({ cls := "PadConsole", name := "picture", desc := "(I)I" } : Jvm.MethodName)), (Jvm.Cond.code ({ cls := "PadConsole", name := "picture", desc := "(I)I" } : Jvm.MethodName) prog_1_method_8_code (2 : Nat) (Option.some Jvm.ClassFile.FieldType.int)), (Jvm.Cond.stringRef "PadConsole" (154 : Nat) "a call makes 1 to 3 pictures"), (Jvm.Cond.constant "PadConsole" (156 : Nat) (1000000 : Int32)), (Jvm.Cond.methodLink "PadConsoleLaw" (143 : Nat) ({ cls := "PadConsoleLaw", name := "press", desc := "(LPadConsole;II)I" } : Jvm.MethodName)), (Jvm.Cond.static ({ cls := "PadConsoleLaw", name := "press", desc := "(LPadConsole;II)I" } : Jvm.MethodName)), (Jvm.Cond.codeWith ({ cls := "PadConsoleLaw", name := "press", desc := "(LPadConsole;II)I" } : Jvm.MethodName) method_9_code (4 : Nat) (Option.some Jvm.ClassFile.FieldType.int) [((0 : Nat), (6 : Nat), (9 : Nat), (13 : Nat))]), (Jvm.Cond.methodLink "PadConsoleLaw" (34 : Nat) ({ cls := "PadConsole", name := "press", desc := "(II)V" } : Jvm.MethodName)), (Jvm.Cond.instanceMethod ({ cls := "PadConsole", name := "press", desc := "(II)V" } : Jvm.MethodName)), (Jvm.Cond.selects "PadConsole" ({ cls := "PadConsole", name := "press", desc := "(II)V" } : Jvm.MethodName) ({ cls := "PadConsole", name := "press", desc := "(II)V" } : Jvm.MethodName)), (Jvm.Cond.code ({ cls := "PadConsole", name := "press", desc := "(II)V" } : Jvm.MethodName) prog_1_method_11_code (3 : Nat) (Option.none : Option Jvm.ClassFile.FieldType)), (Jvm.Cond.methodLink "PadConsole" (160 : Nat) ({ cls := "PadConsole$Ports", name := "canPress", desc := "(II)Z" } : Jvm.MethodName)), (Jvm.Cond.static ({ cls := "PadConsole$Ports", name := "canPress", desc := "(II)Z" } : Jvm.MethodName)), (Jvm.Cond.code ({ cls := "PadConsole$Ports", name := "canPress", desc := "(II)Z" } : Jvm.MethodName) prog_6_method_6_code (2 : Nat) (Option.some Jvm.ClassFile.FieldType.boolean)), (Jvm.Cond.stringRef "PadConsole" (164 : Nat) "no such pad or buttons"), (Jvm.Cond.methodLink "PadConsole" (166 : Nat) ({ cls := "PadConsole$Ports", name := "holdButtons", desc := "(II)V" } : Jvm.MethodName))]
noncomputable def tb8_11 : List Jvm.Cond := [(Jvm.Cond.methodLink "PadConsoleLaw" (152 : Nat) ({ cls := "PadConsoleLaw", name := "line", desc := "(LPadConsole;IZ)I" } : Jvm.MethodName)), (Jvm.Cond.static ({ cls := "PadConsoleLaw", name := "line", desc := "(LPadConsole;IZ)I" } : Jvm.MethodName)), (Jvm.Cond.codeWith ({ cls := "PadConsoleLaw", name := "line", desc := "(LPadConsole;IZ)I" } : Jvm.MethodName) method_10_code (4 : Nat) (Option.some Jvm.ClassFile.FieldType.int) [((0 : Nat), (6 : Nat), (9 : Nat), (13 : Nat))]), (Jvm.Cond.methodLink "PadConsoleLaw" (38 : Nat) ({ cls := "PadConsole", name := "line", desc := "(IZ)V" } : Jvm.MethodName)), (Jvm.Cond.instanceMethod ({ cls := "PadConsole", name := "line", desc := "(IZ)V" } : Jvm.MethodName)), (Jvm.Cond.selects "PadConsole" ({ cls := "PadConsole", name := "line", desc := "(IZ)V" } : Jvm.MethodName) ({ cls := "PadConsole", name := "line", desc := "(IZ)V" } : Jvm.MethodName)), (Jvm.Cond.code ({ cls := "PadConsole", name := "line", desc := "(IZ)V" } : Jvm.MethodName) prog_1_method_13_code (3 : Nat) (Option.none : Option Jvm.ClassFile.FieldType)), (Jvm.Cond.stringRef "PadConsole" (174 : Nat) "there are the lines 0 and 1"), (Jvm.Cond.methodLink "PadConsole" (176 : Nat) ({ cls := "PadConsole$Ports", name := "moveLine", desc := "(IZ)V" } : Jvm.MethodName)), (Jvm.Cond.instanceMethod ({ cls := "PadConsole$Ports", name := "moveLine", desc := "(IZ)V" } : Jvm.MethodName)), (Jvm.Cond.selects "PadConsole$Ports" ({ cls := "PadConsole$Ports", name := "moveLine", desc := "(IZ)V" } : Jvm.MethodName) ({ cls := "PadConsole$Ports", name := "moveLine", desc := "(IZ)V" } : Jvm.MethodName)), (Jvm.Cond.code ({ cls := "PadConsole$Ports", name := "moveLine", desc := "(IZ)V" } : Jvm.MethodName) prog_6_method_9_code (3 : Nat) (Option.none : Option Jvm.ClassFile.FieldType)), (Jvm.Cond.methodLink "PadConsoleLaw" (156 : Nat) ({ cls := "PadConsoleLaw", name := "plan", desc := "(LPadConsole;III[J)I" } : Jvm.MethodName)), (Jvm.Cond.static ({ cls := "PadConsoleLaw", name := "plan", desc := "(LPadConsole;III[J)I" } : Jvm.MethodName)), (Jvm.Cond.codeWith ({ cls := "PadConsoleLaw", name := "plan", desc := "(LPadConsole;III[J)I" } : Jvm.MethodName) method_11_code (6 : Nat) (Option.some Jvm.ClassFile.FieldType.int) [((0 : Nat), (12 : Nat), (15 : Nat), (13 : Nat)), ((0 : Nat), (12 : Nat), (19 : Nat), (15 : Nat))]), (Jvm.Cond.methodLink "PadConsoleLaw" (42 : Nat) ({ cls := "PadConsole", name := "plan", desc := "(III)I" } : Jvm.MethodName))]
noncomputable def tb8_12 : List Jvm.Cond := [(Jvm.Cond.instanceMethod ({ cls := "PadConsole", name := "plan", desc := "(III)I" } : Jvm.MethodName)), (Jvm.Cond.selects "PadConsole" ({ cls := "PadConsole", name := "plan", desc := "(III)I" } : Jvm.MethodName) ({ cls := "PadConsole", name := "plan", desc := "(III)I" } : Jvm.MethodName)), (Jvm.Cond.code ({ cls := "PadConsole", name := "plan", desc := "(III)I" } : Jvm.MethodName) prog_1_method_14_code (4 : Nat) (Option.some Jvm.ClassFile.FieldType.int)), (Jvm.Cond.methodLink "PadConsole" (180 : Nat) ({ cls := "PadConsole$Desk", name := "leastPlan", desc := "()I" } : Jvm.MethodName)), (Jvm.Cond.instanceMethod ({ cls := "PadConsole$Desk", name := "leastPlan", desc := "()I" } : Jvm.MethodName)), (Jvm.Cond.selects "PadConsole$Desk" ({ cls := "PadConsole$Desk", name := "leastPlan", desc := "()I" } : Jvm.MethodName) ({ cls := "PadConsole$Desk", name := "leastPlan", desc := "()I" } : Jvm.MethodName)), (Jvm.Cond.code ({ cls := "PadConsole$Desk", name := "leastPlan", desc := "()I" } : Jvm.MethodName) prog_3_method_13_code (1 : Nat) (Option.some Jvm.ClassFile.FieldType.int)), (Jvm.Cond.stringRef "PadConsole" (183 : Nat) "plans go on in order, with a pad and its buttons"), (Jvm.Cond.methodLink "PadConsole" (185 : Nat) ({ cls := "PadConsole$Desk", name := "plansWaiting", desc := "()I" } : Jvm.MethodName)), (Jvm.Cond.instanceMethod ({ cls := "PadConsole$Desk", name := "plansWaiting", desc := "()I" } : Jvm.MethodName)), (Jvm.Cond.selects "PadConsole$Desk" ({ cls := "PadConsole$Desk", name := "plansWaiting", desc := "()I" } : Jvm.MethodName) ({ cls := "PadConsole$Desk", name := "plansWaiting", desc := "()I" } : Jvm.MethodName)), (Jvm.Cond.code ({ cls := "PadConsole$Desk", name := "plansWaiting", desc := "()I" } : Jvm.MethodName) prog_3_method_11_code (1 : Nat) (Option.some Jvm.ClassFile.FieldType.int)), (Jvm.Cond.stringRef "PadConsole" (188 : Nat) "256 plans wait"), (Jvm.Cond.methodLink "PadConsole" (190 : Nat) ({ cls := "PadConsole$Desk", name := "addPlan", desc := "(III)I" } : Jvm.MethodName)), (Jvm.Cond.instanceMethod ({ cls := "PadConsole$Desk", name := "addPlan", desc := "(III)I" } : Jvm.MethodName)), (Jvm.Cond.selects "PadConsole$Desk" ({ cls := "PadConsole$Desk", name := "addPlan", desc := "(III)I" } : Jvm.MethodName) ({ cls := "PadConsole$Desk", name := "addPlan", desc := "(III)I" } : Jvm.MethodName))]
noncomputable def tb8_13 : List Jvm.Cond := [(Jvm.Cond.code ({ cls := "PadConsole$Desk", name := "addPlan", desc := "(III)I" } : Jvm.MethodName) prog_3_method_14_code (5 : Nat) (Option.some Jvm.ClassFile.FieldType.int)), (Jvm.Cond.methodLink "PadConsoleLaw" (164 : Nat) ({ cls := "PadConsoleLaw", name := "text", desc := "(LPadConsole;I[J)I" } : Jvm.MethodName)), (Jvm.Cond.static ({ cls := "PadConsoleLaw", name := "text", desc := "(LPadConsole;I[J)I" } : Jvm.MethodName)), (Jvm.Cond.codeWith ({ cls := "PadConsoleLaw", name := "text", desc := "(LPadConsole;I[J)I" } : Jvm.MethodName) method_12_code (4 : Nat) (Option.some Jvm.ClassFile.FieldType.int) [((0 : Nat), (8 : Nat), (11 : Nat), (50 : Nat))]), (Jvm.Cond.classLink "PadConsoleLaw" (50 : Nat) "java/util/NoSuchElementException"), (Jvm.Cond.methodLink "PadConsoleLaw" (46 : Nat) ({ cls := "PadConsole", name := "text", desc := "(I)J" } : Jvm.MethodName)), (Jvm.Cond.instanceMethod ({ cls := "PadConsole", name := "text", desc := "(I)J" } : Jvm.MethodName)), (Jvm.Cond.selects "PadConsole" ({ cls := "PadConsole", name := "text", desc := "(I)J" } : Jvm.MethodName) ({ cls := "PadConsole", name := "text", desc := "(I)J" } : Jvm.MethodName)), (Jvm.Cond.code ({ cls := "PadConsole", name := "text", desc := "(I)J" } : Jvm.MethodName) prog_1_method_16_code (2 : Nat) (Option.some Jvm.ClassFile.FieldType.long)), (Jvm.Cond.classLink "PadConsole" (200 : Nat) "java/util/NoSuchElementException"), (Jvm.Cond.instantiable "java/util/NoSuchElementException" (6 : Nat)), (Jvm.Cond.castable "java/util/NoSuchElementException" "java/util/NoSuchElementException"), (Jvm.Cond.selects "java/util/NoSuchElementException" ({ cls := "java/lang/Throwable", name := "fillInStackTrace", desc := "(I)Ljava/lang/Throwable;" } : Jvm.MethodName) ({ cls := "java/lang/Throwable", name := "fillInStackTrace", desc := "(I)Ljava/lang/Throwable;" } : Jvm.MethodName)), (Jvm.Cond.lays "java/util/NoSuchElementException" "java/lang/Throwable" "cause" "Ljava/lang/Throwable;"), (Jvm.Cond.lays "java/util/NoSuchElementException" "java/lang/Throwable" "stackTrace" "[Ljava/lang/StackTraceElement;"), (Jvm.Cond.lays "java/util/NoSuchElementException" "java/lang/Throwable" "suppressedExceptions" "Ljava/util/List;")]
noncomputable def tb8_14 : List Jvm.Cond := [(Jvm.Cond.lays "java/util/NoSuchElementException" "java/lang/Throwable" "detailMessage" "Ljava/lang/String;"), (Jvm.Cond.lays "java/util/NoSuchElementException" "java/lang/Throwable" "backtrace" "Ljava/lang/Object;"), (Jvm.Cond.stringRef "PadConsole" (202 : Nat) "the text has no such sign"), (Jvm.Cond.methodLink "PadConsole" (204 : Nat) ({ cls := "java/util/NoSuchElementException", name := "<init>", desc := "(Ljava/lang/String;)V" } : Jvm.MethodName)), (Jvm.Cond.instanceMethod ({ cls := "java/util/NoSuchElementException", name := "<init>", desc := "(Ljava/lang/String;)V" } : Jvm.MethodName)), (Jvm.Cond.code ({ cls := "java/util/NoSuchElementException", name := "<init>", desc := "(Ljava/lang/String;)V" } : Jvm.MethodName) prog_30_method_4_code (2 : Nat) (Option.none : Option Jvm.ClassFile.FieldType)), (Jvm.Cond.methodLink "java/util/NoSuchElementException" (13 : Nat) ({ cls := "java/lang/RuntimeException", name := "<init>", desc := "(Ljava/lang/String;)V" } : Jvm.MethodName)), (Jvm.Cond.lays "java/util/NoSuchElementException" "java/lang/Throwable" "depth" "I"), (Jvm.Cond.superclass "java/util/NoSuchElementException" "java/lang/RuntimeException"), (Jvm.Cond.methodLink "PadConsole" (205 : Nat) ({ cls := "PadConsole$Teller", name := "eightFrom", desc := "(I)J" } : Jvm.MethodName)), (Jvm.Cond.instanceMethod ({ cls := "PadConsole$Teller", name := "eightFrom", desc := "(I)J" } : Jvm.MethodName)), (Jvm.Cond.selects "PadConsole$Teller" ({ cls := "PadConsole$Teller", name := "eightFrom", desc := "(I)J" } : Jvm.MethodName) ({ cls := "PadConsole$Teller", name := "eightFrom", desc := "(I)J" } : Jvm.MethodName)), (Jvm.Cond.code ({ cls := "PadConsole$Teller", name := "eightFrom", desc := "(I)J" } : Jvm.MethodName) prog_10_method_5_code (6 : Nat) (Option.some Jvm.ClassFile.FieldType.long)), (Jvm.Cond.methodLink "PadConsoleLaw" (167 : Nat) ({ cls := "PadConsoleLaw", name := "stop", desc := "(LPadConsole;IZ[J)I" } : Jvm.MethodName)), (Jvm.Cond.static ({ cls := "PadConsoleLaw", name := "stop", desc := "(LPadConsole;IZ[J)I" } : Jvm.MethodName)), (Jvm.Cond.codeWith ({ cls := "PadConsoleLaw", name := "stop", desc := "(LPadConsole;IZ[J)I" } : Jvm.MethodName) method_13_code (5 : Nat) (Option.some Jvm.ClassFile.FieldType.int) [((0 : Nat), (10 : Nat), (13 : Nat), (13 : Nat)), ((0 : Nat), (10 : Nat), (17 : Nat), (15 : Nat))])]
set_option maxRecDepth 100000 in
theorem tbe8 : tables_1_8 = (tb8_0 ++ (tb8_1 ++ (tb8_2 ++ (tb8_3 ++ (tb8_4 ++ (tb8_5 ++ (tb8_6 ++ (tb8_7 ++ (tb8_8 ++ (tb8_9 ++ (tb8_10 ++ (tb8_11 ++ (tb8_12 ++ (tb8_13 ++ tb8_14)))))))))))))) := rfl
theorem tm8_0 {w : Jvm.Cond} (h : w ∈ tb8_0) : w ∈ tables_1_8 := by
  rw [tbe8]
  exact (List.mem_append_left _ h)
theorem tm8_1 {w : Jvm.Cond} (h : w ∈ tb8_1) : w ∈ tables_1_8 := by
  rw [tbe8]
  exact (List.mem_append_right _ (List.mem_append_left _ h))
theorem tm8_2 {w : Jvm.Cond} (h : w ∈ tb8_2) : w ∈ tables_1_8 := by
  rw [tbe8]
  exact (List.mem_append_right _ (List.mem_append_right _ (List.mem_append_left _ h)))
theorem tm8_3 {w : Jvm.Cond} (h : w ∈ tb8_3) : w ∈ tables_1_8 := by
  rw [tbe8]
  exact (List.mem_append_right _ (List.mem_append_right _ (List.mem_append_right _ (List.mem_append_left _ h))))
theorem tm8_4 {w : Jvm.Cond} (h : w ∈ tb8_4) : w ∈ tables_1_8 := by
  rw [tbe8]
  exact (List.mem_append_right _ (List.mem_append_right _ (List.mem_append_right _ (List.mem_append_right _ (List.mem_append_left _ h)))))
theorem tm8_5 {w : Jvm.Cond} (h : w ∈ tb8_5) : w ∈ tables_1_8 := by
  rw [tbe8]
  exact (List.mem_append_right _ (List.mem_append_right _ (List.mem_append_right _ (List.mem_append_right _ (List.mem_append_right _ (List.mem_append_left _ h))))))
theorem tm8_6 {w : Jvm.Cond} (h : w ∈ tb8_6) : w ∈ tables_1_8 := by
  rw [tbe8]
  exact (List.mem_append_right _ (List.mem_append_right _ (List.mem_append_right _ (List.mem_append_right _ (List.mem_append_right _ (List.mem_append_right _ (List.mem_append_left _ h)))))))
theorem tm8_7 {w : Jvm.Cond} (h : w ∈ tb8_7) : w ∈ tables_1_8 := by
  rw [tbe8]
  exact (List.mem_append_right _ (List.mem_append_right _ (List.mem_append_right _ (List.mem_append_right _ (List.mem_append_right _ (List.mem_append_right _ (List.mem_append_right _ (List.mem_append_left _ h))))))))
theorem tm8_8 {w : Jvm.Cond} (h : w ∈ tb8_8) : w ∈ tables_1_8 := by
  rw [tbe8]
  exact (List.mem_append_right _ (List.mem_append_right _ (List.mem_append_right _ (List.mem_append_right _ (List.mem_append_right _ (List.mem_append_right _ (List.mem_append_right _ (List.mem_append_right _ (List.mem_append_left _ h)))))))))
theorem tm8_9 {w : Jvm.Cond} (h : w ∈ tb8_9) : w ∈ tables_1_8 := by
  rw [tbe8]
  exact (List.mem_append_right _ (List.mem_append_right _ (List.mem_append_right _ (List.mem_append_right _ (List.mem_append_right _ (List.mem_append_right _ (List.mem_append_right _ (List.mem_append_right _ (List.mem_append_right _ (List.mem_append_left _ h))))))))))
theorem tm8_10 {w : Jvm.Cond} (h : w ∈ tb8_10) : w ∈ tables_1_8 := by
  rw [tbe8]
  exact (List.mem_append_right _ (List.mem_append_right _ (List.mem_append_right _ (List.mem_append_right _ (List.mem_append_right _ (List.mem_append_right _ (List.mem_append_right _ (List.mem_append_right _ (List.mem_append_right _ (List.mem_append_right _ (List.mem_append_left _ h)))))))))))
theorem tm8_11 {w : Jvm.Cond} (h : w ∈ tb8_11) : w ∈ tables_1_8 := by
  rw [tbe8]
  exact (List.mem_append_right _ (List.mem_append_right _ (List.mem_append_right _ (List.mem_append_right _ (List.mem_append_right _ (List.mem_append_right _ (List.mem_append_right _ (List.mem_append_right _ (List.mem_append_right _ (List.mem_append_right _ (List.mem_append_right _ (List.mem_append_left _ h))))))))))))
theorem tm8_12 {w : Jvm.Cond} (h : w ∈ tb8_12) : w ∈ tables_1_8 := by
  rw [tbe8]
  exact (List.mem_append_right _ (List.mem_append_right _ (List.mem_append_right _ (List.mem_append_right _ (List.mem_append_right _ (List.mem_append_right _ (List.mem_append_right _ (List.mem_append_right _ (List.mem_append_right _ (List.mem_append_right _ (List.mem_append_right _ (List.mem_append_right _ (List.mem_append_left _ h)))))))))))))
theorem tm8_13 {w : Jvm.Cond} (h : w ∈ tb8_13) : w ∈ tables_1_8 := by
  rw [tbe8]
  exact (List.mem_append_right _ (List.mem_append_right _ (List.mem_append_right _ (List.mem_append_right _ (List.mem_append_right _ (List.mem_append_right _ (List.mem_append_right _ (List.mem_append_right _ (List.mem_append_right _ (List.mem_append_right _ (List.mem_append_right _ (List.mem_append_right _ (List.mem_append_right _ (List.mem_append_left _ h))))))))))))))
theorem tm8_14 {w : Jvm.Cond} (h : w ∈ tb8_14) : w ∈ tables_1_8 := by
  rw [tbe8]
  exact (List.mem_append_right _ (List.mem_append_right _ (List.mem_append_right _ (List.mem_append_right _ (List.mem_append_right _ (List.mem_append_right _ (List.mem_append_right _ (List.mem_append_right _ (List.mem_append_right _ (List.mem_append_right _ (List.mem_append_right _ (List.mem_append_right _ (List.mem_append_right _ (List.mem_append_right _ h))))))))))))))
noncomputable def tb9_0 : List Jvm.Cond := [(Jvm.Cond.methodLink "PadConsoleLaw" (52 : Nat) ({ cls := "PadConsole", name := "stop", desc := "(IZ)I" } : Jvm.MethodName)), (Jvm.Cond.instanceMethod ({ cls := "PadConsole", name := "stop", desc := "(IZ)I" } : Jvm.MethodName)), (Jvm.Cond.selects "PadConsole" ({ cls := "PadConsole", name := "stop", desc := "(IZ)I" } : Jvm.MethodName) ({ cls := "PadConsole", name := "stop", desc := "(IZ)I" } : Jvm.MethodName)), (Jvm.Cond.code ({ cls := "PadConsole", name := "stop", desc := "(IZ)I" } : Jvm.MethodName) prog_1_method_17_code (3 : Nat) (Option.some Jvm.ClassFile.FieldType.int)), (Jvm.Cond.stringRef "PadConsole" (210 : Nat) "an address is a word"), (Jvm.Cond.methodLink "PadConsole" (212 : Nat) ({ cls := "PadConsole$Desk", name := "stopsBeside", desc := "(I)I" } : Jvm.MethodName)), (Jvm.Cond.instanceMethod ({ cls := "PadConsole$Desk", name := "stopsBeside", desc := "(I)I" } : Jvm.MethodName)), (Jvm.Cond.selects "PadConsole$Desk" ({ cls := "PadConsole$Desk", name := "stopsBeside", desc := "(I)I" } : Jvm.MethodName) ({ cls := "PadConsole$Desk", name := "stopsBeside", desc := "(I)I" } : Jvm.MethodName)), (Jvm.Cond.code ({ cls := "PadConsole$Desk", name := "stopsBeside", desc := "(I)I" } : Jvm.MethodName) prog_3_method_9_code (2 : Nat) (Option.some Jvm.ClassFile.FieldType.int)), (Jvm.Cond.methodLink "PadConsole$Desk" (45 : Nat) ({ cls := "PadConsole$Desk", name := "isStop", desc := "(I)Z" } : Jvm.MethodName)), (Jvm.Cond.stringRef "PadConsole" (215 : Nat) "there are 8 other break points"), (Jvm.Cond.methodLink "PadConsole" (217 : Nat) ({ cls := "PadConsole$Desk", name := "changeStop", desc := "(IZ)I" } : Jvm.MethodName)), (Jvm.Cond.instanceMethod ({ cls := "PadConsole$Desk", name := "changeStop", desc := "(IZ)I" } : Jvm.MethodName)), (Jvm.Cond.selects "PadConsole$Desk" ({ cls := "PadConsole$Desk", name := "changeStop", desc := "(IZ)I" } : Jvm.MethodName) ({ cls := "PadConsole$Desk", name := "changeStop", desc := "(IZ)I" } : Jvm.MethodName)), (Jvm.Cond.code ({ cls := "PadConsole$Desk", name := "changeStop", desc := "(IZ)I" } : Jvm.MethodName) prog_3_method_10_code (5 : Nat) (Option.some Jvm.ClassFile.FieldType.int)), (Jvm.Cond.methodLink "PadConsoleLaw" (175 : Nat) ({ cls := "PadConsoleLaw", name := "restore", desc := "(LPadConsole;)I" } : Jvm.MethodName))]
noncomputable def tb9_1 : List Jvm.Cond := [(Jvm.Cond.static ({ cls := "PadConsoleLaw", name := "restore", desc := "(LPadConsole;)I" } : Jvm.MethodName)), (Jvm.Cond.codeWith ({ cls := "PadConsoleLaw", name := "restore", desc := "(LPadConsole;)I" } : Jvm.MethodName) method_14_code (2 : Nat) (Option.some Jvm.ClassFile.FieldType.int) [((0 : Nat), (4 : Nat), (7 : Nat), (15 : Nat))]), (Jvm.Cond.methodLink "PadConsoleLaw" (56 : Nat) ({ cls := "PadConsole", name := "restore", desc := "()V" } : Jvm.MethodName)), (Jvm.Cond.instanceMethod ({ cls := "PadConsole", name := "restore", desc := "()V" } : Jvm.MethodName)), (Jvm.Cond.selects "PadConsole" ({ cls := "PadConsole", name := "restore", desc := "()V" } : Jvm.MethodName) ({ cls := "PadConsole", name := "restore", desc := "()V" } : Jvm.MethodName)), (Jvm.Cond.code ({ cls := "PadConsole", name := "restore", desc := "()V" } : Jvm.MethodName) prog_1_method_19_code (1 : Nat) (Option.none : Option Jvm.ClassFile.FieldType)), (Jvm.Cond.stringRef "PadConsole" (232 : Nat) "nothing is saved"), (Jvm.Cond.methodLink "PadConsole" (234 : Nat) ({ cls := "PadConsole$Memory", name := "bringBack", desc := "()V" } : Jvm.MethodName)), (Jvm.Cond.instanceMethod ({ cls := "PadConsole$Memory", name := "bringBack", desc := "()V" } : Jvm.MethodName)), (Jvm.Cond.selects "PadConsole$Memory" ({ cls := "PadConsole$Memory", name := "bringBack", desc := "()V" } : Jvm.MethodName) ({ cls := "PadConsole$Memory", name := "bringBack", desc := "()V" } : Jvm.MethodName)), (Jvm.Cond.code ({ cls := "PadConsole$Memory", name := "bringBack", desc := "()V" } : Jvm.MethodName) prog_4_method_24_code (1 : Nat) (Option.none : Option Jvm.ClassFile.FieldType)), (Jvm.Cond.methodLink "PadConsole" (237 : Nat) ({ cls := "PadConsole$Video", name := "bringBack", desc := "()V" } : Jvm.MethodName)), (Jvm.Cond.instanceMethod ({ cls := "PadConsole$Video", name := "bringBack", desc := "()V" } : Jvm.MethodName)), (Jvm.Cond.selects "PadConsole$Video" ({ cls := "PadConsole$Video", name := "bringBack", desc := "()V" } : Jvm.MethodName) ({ cls := "PadConsole$Video", name := "bringBack", desc := "()V" } : Jvm.MethodName)), (Jvm.Cond.code ({ cls := "PadConsole$Video", name := "bringBack", desc := "()V" } : Jvm.MethodName) prog_11_method_4_code (1 : Nat) (Option.none : Option Jvm.ClassFile.FieldType)), (Jvm.Cond.methodLink "PadConsole" (238 : Nat) ({ cls := "PadConsole$Painter", name := "bringBack", desc := "()V" } : Jvm.MethodName))]
noncomputable def tb9_2 : List Jvm.Cond := [(Jvm.Cond.instanceMethod ({ cls := "PadConsole$Painter", name := "bringBack", desc := "()V" } : Jvm.MethodName)), (Jvm.Cond.selects "PadConsole$Painter" ({ cls := "PadConsole$Painter", name := "bringBack", desc := "()V" } : Jvm.MethodName) ({ cls := "PadConsole$Painter", name := "bringBack", desc := "()V" } : Jvm.MethodName)), (Jvm.Cond.code ({ cls := "PadConsole$Painter", name := "bringBack", desc := "()V" } : Jvm.MethodName) prog_5_method_3_code (1 : Nat) (Option.none : Option Jvm.ClassFile.FieldType)), (Jvm.Cond.methodLink "PadConsole" (239 : Nat) ({ cls := "PadConsole$Sound", name := "bringBack", desc := "()V" } : Jvm.MethodName)), (Jvm.Cond.instanceMethod ({ cls := "PadConsole$Sound", name := "bringBack", desc := "()V" } : Jvm.MethodName)), (Jvm.Cond.selects "PadConsole$Sound" ({ cls := "PadConsole$Sound", name := "bringBack", desc := "()V" } : Jvm.MethodName) ({ cls := "PadConsole$Sound", name := "bringBack", desc := "()V" } : Jvm.MethodName)), (Jvm.Cond.code ({ cls := "PadConsole$Sound", name := "bringBack", desc := "()V" } : Jvm.MethodName) prog_9_method_4_code (1 : Nat) (Option.none : Option Jvm.ClassFile.FieldType)), (Jvm.Cond.methodLink "PadConsole" (240 : Nat) ({ cls := "PadConsole$Waves", name := "bringBack", desc := "()V" } : Jvm.MethodName)), (Jvm.Cond.instanceMethod ({ cls := "PadConsole$Waves", name := "bringBack", desc := "()V" } : Jvm.MethodName)), (Jvm.Cond.selects "PadConsole$Waves" ({ cls := "PadConsole$Waves", name := "bringBack", desc := "()V" } : Jvm.MethodName) ({ cls := "PadConsole$Waves", name := "bringBack", desc := "()V" } : Jvm.MethodName)), (Jvm.Cond.code ({ cls := "PadConsole$Waves", name := "bringBack", desc := "()V" } : Jvm.MethodName) prog_12_method_4_code (1 : Nat) (Option.none : Option Jvm.ClassFile.FieldType)), (Jvm.Cond.methodLink "PadConsole" (241 : Nat) ({ cls := "PadConsole$Ports", name := "bringBack", desc := "()V" } : Jvm.MethodName)), (Jvm.Cond.instanceMethod ({ cls := "PadConsole$Ports", name := "bringBack", desc := "()V" } : Jvm.MethodName)), (Jvm.Cond.selects "PadConsole$Ports" ({ cls := "PadConsole$Ports", name := "bringBack", desc := "()V" } : Jvm.MethodName) ({ cls := "PadConsole$Ports", name := "bringBack", desc := "()V" } : Jvm.MethodName)), (Jvm.Cond.code ({ cls := "PadConsole$Ports", name := "bringBack", desc := "()V" } : Jvm.MethodName) prog_6_method_4_code (1 : Nat) (Option.none : Option Jvm.ClassFile.FieldType)), (Jvm.Cond.methodLink "PadConsole" (242 : Nat) ({ cls := "PadConsole$Processor", name := "bringBack", desc := "()V" } : Jvm.MethodName))]
noncomputable def tb9_3 : List Jvm.Cond := [(Jvm.Cond.instanceMethod ({ cls := "PadConsole$Processor", name := "bringBack", desc := "()V" } : Jvm.MethodName)), (Jvm.Cond.selects "PadConsole$Processor" ({ cls := "PadConsole$Processor", name := "bringBack", desc := "()V" } : Jvm.MethodName) ({ cls := "PadConsole$Processor", name := "bringBack", desc := "()V" } : Jvm.MethodName)), (Jvm.Cond.code ({ cls := "PadConsole$Processor", name := "bringBack", desc := "()V" } : Jvm.MethodName) prog_7_method_4_code (1 : Nat) (Option.none : Option Jvm.ClassFile.FieldType)), (Jvm.Cond.methodLink "PadConsole" (243 : Nat) ({ cls := "PadConsole$Clock", name := "bringBack", desc := "()V" } : Jvm.MethodName)), (Jvm.Cond.instanceMethod ({ cls := "PadConsole$Clock", name := "bringBack", desc := "()V" } : Jvm.MethodName)), (Jvm.Cond.selects "PadConsole$Clock" ({ cls := "PadConsole$Clock", name := "bringBack", desc := "()V" } : Jvm.MethodName) ({ cls := "PadConsole$Clock", name := "bringBack", desc := "()V" } : Jvm.MethodName)), (Jvm.Cond.code ({ cls := "PadConsole$Clock", name := "bringBack", desc := "()V" } : Jvm.MethodName) prog_2_method_3_code (1 : Nat) (Option.none : Option Jvm.ClassFile.FieldType)), (Jvm.Cond.methodLink "PadConsole$Clock" (43 : Nat) ({ cls := "PadConsole$Ring", name := "bringBack", desc := "()V" } : Jvm.MethodName)), (Jvm.Cond.instanceMethod ({ cls := "PadConsole$Ring", name := "bringBack", desc := "()V" } : Jvm.MethodName)), (Jvm.Cond.selects "PadConsole$Ring" ({ cls := "PadConsole$Ring", name := "bringBack", desc := "()V" } : Jvm.MethodName) ({ cls := "PadConsole$Ring", name := "bringBack", desc := "()V" } : Jvm.MethodName)), (Jvm.Cond.code ({ cls := "PadConsole$Ring", name := "bringBack", desc := "()V" } : Jvm.MethodName) prog_8_method_6_code (1 : Nat) (Option.none : Option Jvm.ClassFile.FieldType)), (Jvm.Cond.methodLink "PadConsole" (244 : Nat) ({ cls := "PadConsole$Desk", name := "bringBack", desc := "()V" } : Jvm.MethodName)), (Jvm.Cond.instanceMethod ({ cls := "PadConsole$Desk", name := "bringBack", desc := "()V" } : Jvm.MethodName)), (Jvm.Cond.selects "PadConsole$Desk" ({ cls := "PadConsole$Desk", name := "bringBack", desc := "()V" } : Jvm.MethodName) ({ cls := "PadConsole$Desk", name := "bringBack", desc := "()V" } : Jvm.MethodName)), (Jvm.Cond.code ({ cls := "PadConsole$Desk", name := "bringBack", desc := "()V" } : Jvm.MethodName) prog_3_method_3_code (1 : Nat) (Option.none : Option Jvm.ClassFile.FieldType)), (Jvm.Cond.methodLink "PadConsoleLaw" (179 : Nat) ({ cls := "PadConsoleLaw", name := "register", desc := "(LPadConsole;I[J)I" } : Jvm.MethodName))]
noncomputable def tb9_4 : List Jvm.Cond := [(Jvm.Cond.static ({ cls := "PadConsoleLaw", name := "register", desc := "(LPadConsole;I[J)I" } : Jvm.MethodName)), (Jvm.Cond.codeWith ({ cls := "PadConsoleLaw", name := "register", desc := "(LPadConsole;I[J)I" } : Jvm.MethodName) method_15_code (4 : Nat) (Option.some Jvm.ClassFile.FieldType.int) [((0 : Nat), (9 : Nat), (12 : Nat), (13 : Nat))]), (Jvm.Cond.methodLink "PadConsoleLaw" (59 : Nat) ({ cls := "PadConsole", name := "register", desc := "(I)I" } : Jvm.MethodName)), (Jvm.Cond.instanceMethod ({ cls := "PadConsole", name := "register", desc := "(I)I" } : Jvm.MethodName)), (Jvm.Cond.selects "PadConsole" ({ cls := "PadConsole", name := "register", desc := "(I)I" } : Jvm.MethodName) ({ cls := "PadConsole", name := "register", desc := "(I)I" } : Jvm.MethodName)), (Jvm.Cond.code ({ cls := "PadConsole", name := "register", desc := "(I)I" } : Jvm.MethodName) prog_1_method_20_code (2 : Nat) (Option.some Jvm.ClassFile.FieldType.int)), (Jvm.Cond.stringRef "PadConsole" (245 : Nat) "there is no such register"), (Jvm.Cond.methodLink "PadConsoleLaw" (182 : Nat) ({ cls := "PadConsoleLaw", name := "set", desc := "(LPadConsole;II)I" } : Jvm.MethodName)), (Jvm.Cond.static ({ cls := "PadConsoleLaw", name := "set", desc := "(LPadConsole;II)I" } : Jvm.MethodName)), (Jvm.Cond.codeWith ({ cls := "PadConsoleLaw", name := "set", desc := "(LPadConsole;II)I" } : Jvm.MethodName) method_16_code (4 : Nat) (Option.some Jvm.ClassFile.FieldType.int) [((0 : Nat), (6 : Nat), (9 : Nat), (13 : Nat))]), (Jvm.Cond.methodLink "PadConsoleLaw" (62 : Nat) ({ cls := "PadConsole", name := "set", desc := "(II)V" } : Jvm.MethodName)), (Jvm.Cond.instanceMethod ({ cls := "PadConsole", name := "set", desc := "(II)V" } : Jvm.MethodName)), (Jvm.Cond.selects "PadConsole" ({ cls := "PadConsole", name := "set", desc := "(II)V" } : Jvm.MethodName) ({ cls := "PadConsole", name := "set", desc := "(II)V" } : Jvm.MethodName)), (Jvm.Cond.code ({ cls := "PadConsole", name := "set", desc := "(II)V" } : Jvm.MethodName) prog_1_method_21_code (3 : Nat) (Option.none : Option Jvm.ClassFile.FieldType)), (Jvm.Cond.methodLink "PadConsole" (250 : Nat) ({ cls := "PadConsole$Processor", name := "change", desc := "(II)V" } : Jvm.MethodName)), (Jvm.Cond.instanceMethod ({ cls := "PadConsole$Processor", name := "change", desc := "(II)V" } : Jvm.MethodName))]
noncomputable def tb9_5 : List Jvm.Cond := [(Jvm.Cond.selects "PadConsole$Processor" ({ cls := "PadConsole$Processor", name := "change", desc := "(II)V" } : Jvm.MethodName) ({ cls := "PadConsole$Processor", name := "change", desc := "(II)V" } : Jvm.MethodName)), (Jvm.Cond.code ({ cls := "PadConsole$Processor", name := "change", desc := "(II)V" } : Jvm.MethodName) prog_7_method_6_code (3 : Nat) (Option.none : Option Jvm.ClassFile.FieldType)), (Jvm.Cond.methodLink "PadConsole$Processor" (41 : Nat) ({ cls := "java/lang/Math", name := "min", desc := "(II)I" } : Jvm.MethodName)), (Jvm.Cond.methodLink "PadConsoleLaw" (201 : Nat) ({ cls := "PadConsoleLaw", name := "battery", desc := "(LPadConsole;I[J)I" } : Jvm.MethodName)), (Jvm.Cond.static ({ cls := "PadConsoleLaw", name := "battery", desc := "(LPadConsole;I[J)I" } : Jvm.MethodName)), (Jvm.Cond.codeWith ({ cls := "PadConsoleLaw", name := "battery", desc := "(LPadConsole;I[J)I" } : Jvm.MethodName) method_17_code (4 : Nat) (Option.some Jvm.ClassFile.FieldType.int) [((0 : Nat), (9 : Nat), (12 : Nat), (50 : Nat))]), (Jvm.Cond.methodLink "PadConsoleLaw" (65 : Nat) ({ cls := "PadConsole", name := "battery", desc := "(I)I" } : Jvm.MethodName)), (Jvm.Cond.instanceMethod ({ cls := "PadConsole", name := "battery", desc := "(I)I" } : Jvm.MethodName)), (Jvm.Cond.selects "PadConsole" ({ cls := "PadConsole", name := "battery", desc := "(I)I" } : Jvm.MethodName) ({ cls := "PadConsole", name := "battery", desc := "(I)I" } : Jvm.MethodName)), (Jvm.Cond.code ({ cls := "PadConsole", name := "battery", desc := "(I)I" } : Jvm.MethodName) prog_1_method_26_code (2 : Nat) (Option.some Jvm.ClassFile.FieldType.int)), (Jvm.Cond.constant "PadConsole" (260 : Nat) (32768 : Int32)), (Jvm.Cond.stringRef "PadConsole" (261 : Nat) "the battery has no such byte"), (Jvm.Cond.methodLink "PadConsole" (263 : Nat) ({ cls := "PadConsole$Memory", name := "batteryByte", desc := "(I)I" } : Jvm.MethodName)), (Jvm.Cond.instanceMethod ({ cls := "PadConsole$Memory", name := "batteryByte", desc := "(I)I" } : Jvm.MethodName)), (Jvm.Cond.selects "PadConsole$Memory" ({ cls := "PadConsole$Memory", name := "batteryByte", desc := "(I)I" } : Jvm.MethodName) ({ cls := "PadConsole$Memory", name := "batteryByte", desc := "(I)I" } : Jvm.MethodName)), (Jvm.Cond.code ({ cls := "PadConsole$Memory", name := "batteryByte", desc := "(I)I" } : Jvm.MethodName) prog_4_method_19_code (2 : Nat) (Option.some Jvm.ClassFile.FieldType.int))]
noncomputable def tb9_6 : List Jvm.Cond := [(Jvm.Cond.methodLink "PadConsoleLaw" (212 : Nat) ({ cls := "PadConsoleLaw", name := "chip", desc := "(LPadConsole;I[J)I" } : Jvm.MethodName)), (Jvm.Cond.static ({ cls := "PadConsoleLaw", name := "chip", desc := "(LPadConsole;I[J)I" } : Jvm.MethodName)), (Jvm.Cond.codeWith ({ cls := "PadConsoleLaw", name := "chip", desc := "(LPadConsole;I[J)I" } : Jvm.MethodName) method_18_code (4 : Nat) (Option.some Jvm.ClassFile.FieldType.int) [((0 : Nat), (9 : Nat), (12 : Nat), (13 : Nat))]), (Jvm.Cond.methodLink "PadConsoleLaw" (68 : Nat) ({ cls := "PadConsole", name := "chip", desc := "(I)I" } : Jvm.MethodName)), (Jvm.Cond.instanceMethod ({ cls := "PadConsole", name := "chip", desc := "(I)I" } : Jvm.MethodName)), (Jvm.Cond.selects "PadConsole" ({ cls := "PadConsole", name := "chip", desc := "(I)I" } : Jvm.MethodName) ({ cls := "PadConsole", name := "chip", desc := "(I)I" } : Jvm.MethodName)), (Jvm.Cond.code ({ cls := "PadConsole", name := "chip", desc := "(I)I" } : Jvm.MethodName) prog_1_method_29_code (2 : Nat) (Option.some Jvm.ClassFile.FieldType.int)), (Jvm.Cond.methodLink "PadConsole" (270 : Nat) ({ cls := "PadConsole$Video", name := "has", desc := "(I)Z" } : Jvm.MethodName)), (Jvm.Cond.static ({ cls := "PadConsole$Video", name := "has", desc := "(I)Z" } : Jvm.MethodName)), (Jvm.Cond.code ({ cls := "PadConsole$Video", name := "has", desc := "(I)Z" } : Jvm.MethodName) prog_11_method_5_code (1 : Nat) (Option.some Jvm.ClassFile.FieldType.boolean)), (Jvm.Cond.stringRef "PadConsole" (274 : Nat) "the video chip has no such number"), (Jvm.Cond.methodLink "PadConsole" (276 : Nat) ({ cls := "PadConsole$Video", name := "value", desc := "(I)I" } : Jvm.MethodName)), (Jvm.Cond.instanceMethod ({ cls := "PadConsole$Video", name := "value", desc := "(I)I" } : Jvm.MethodName)), (Jvm.Cond.selects "PadConsole$Video" ({ cls := "PadConsole$Video", name := "value", desc := "(I)I" } : Jvm.MethodName) ({ cls := "PadConsole$Video", name := "value", desc := "(I)I" } : Jvm.MethodName)), (Jvm.Cond.code ({ cls := "PadConsole$Video", name := "value", desc := "(I)I" } : Jvm.MethodName) prog_11_method_6_code (2 : Nat) (Option.some Jvm.ClassFile.FieldType.int)), (Jvm.Cond.methodLink "PadConsole$Video" (42 : Nat) ({ cls := "PadConsole$Video", name := "asks", desc := "()Z" } : Jvm.MethodName))]
noncomputable def tb9_7 : List Jvm.Cond := [(Jvm.Cond.methodLink "PadConsole$Video" (46 : Nat) ({ cls := "PadConsole$Video", name := "mode", desc := "()I" } : Jvm.MethodName)), (Jvm.Cond.methodLink "PadConsole$Video" (53 : Nat) ({ cls := "PadConsole$Video", name := "hCount", desc := "()I" } : Jvm.MethodName)), (Jvm.Cond.methodLink "PadConsole$Video" (56 : Nat) ({ cls := "PadConsole$Video", name := "vCount", desc := "()I" } : Jvm.MethodName)), (Jvm.Cond.methodLink "PadConsole$Video" (59 : Nat) ({ cls := "PadConsole$Video", name := "held", desc := "(I)I" } : Jvm.MethodName)), (Jvm.Cond.methodLink "PadConsoleLaw" (215 : Nat) ({ cls := "PadConsoleLaw", name := "dot", desc := "(LPadConsole;II[J)I" } : Jvm.MethodName)), (Jvm.Cond.static ({ cls := "PadConsoleLaw", name := "dot", desc := "(LPadConsole;II[J)I" } : Jvm.MethodName)), (Jvm.Cond.codeWith ({ cls := "PadConsoleLaw", name := "dot", desc := "(LPadConsole;II[J)I" } : Jvm.MethodName) method_19_code (5 : Nat) (Option.some Jvm.ClassFile.FieldType.int) [((0 : Nat), (10 : Nat), (13 : Nat), (50 : Nat))]), (Jvm.Cond.methodLink "PadConsoleLaw" (71 : Nat) ({ cls := "PadConsole", name := "dot", desc := "(II)I" } : Jvm.MethodName)), (Jvm.Cond.instanceMethod ({ cls := "PadConsole", name := "dot", desc := "(II)I" } : Jvm.MethodName)), (Jvm.Cond.selects "PadConsole" ({ cls := "PadConsole", name := "dot", desc := "(II)I" } : Jvm.MethodName) ({ cls := "PadConsole", name := "dot", desc := "(II)I" } : Jvm.MethodName)), (Jvm.Cond.code ({ cls := "PadConsole", name := "dot", desc := "(II)I" } : Jvm.MethodName) prog_1_method_30_code (3 : Nat) (Option.some Jvm.ClassFile.FieldType.int)), (Jvm.Cond.methodLink "PadConsole" (277 : Nat) ({ cls := "PadConsole$Painter", name := "width", desc := "()I" } : Jvm.MethodName)), (Jvm.Cond.instanceMethod ({ cls := "PadConsole$Painter", name := "width", desc := "()I" } : Jvm.MethodName)), (Jvm.Cond.selects "PadConsole$Painter" ({ cls := "PadConsole$Painter", name := "width", desc := "()I" } : Jvm.MethodName) ({ cls := "PadConsole$Painter", name := "width", desc := "()I" } : Jvm.MethodName)), (Jvm.Cond.code ({ cls := "PadConsole$Painter", name := "width", desc := "()I" } : Jvm.MethodName) prog_5_method_4_code (1 : Nat) (Option.some Jvm.ClassFile.FieldType.int)), (Jvm.Cond.methodLink "PadConsole" (280 : Nat) ({ cls := "PadConsole$Painter", name := "height", desc := "()I" } : Jvm.MethodName))]
noncomputable def tb9_8 : List Jvm.Cond := [(Jvm.Cond.instanceMethod ({ cls := "PadConsole$Painter", name := "height", desc := "()I" } : Jvm.MethodName)), (Jvm.Cond.selects "PadConsole$Painter" ({ cls := "PadConsole$Painter", name := "height", desc := "()I" } : Jvm.MethodName) ({ cls := "PadConsole$Painter", name := "height", desc := "()I" } : Jvm.MethodName)), (Jvm.Cond.code ({ cls := "PadConsole$Painter", name := "height", desc := "()I" } : Jvm.MethodName) prog_5_method_5_code (1 : Nat) (Option.some Jvm.ClassFile.FieldType.int)), (Jvm.Cond.stringRef "PadConsole" (283 : Nat) "the picture has no such dot"), (Jvm.Cond.methodLink "PadConsole" (285 : Nat) ({ cls := "PadConsole$Painter", name := "dotAt", desc := "(II)I" } : Jvm.MethodName)), (Jvm.Cond.instanceMethod ({ cls := "PadConsole$Painter", name := "dotAt", desc := "(II)I" } : Jvm.MethodName)), (Jvm.Cond.selects "PadConsole$Painter" ({ cls := "PadConsole$Painter", name := "dotAt", desc := "(II)I" } : Jvm.MethodName) ({ cls := "PadConsole$Painter", name := "dotAt", desc := "(II)I" } : Jvm.MethodName)), (Jvm.Cond.code ({ cls := "PadConsole$Painter", name := "dotAt", desc := "(II)I" } : Jvm.MethodName) prog_5_method_6_code (4 : Nat) (Option.some Jvm.ClassFile.FieldType.int)), (Jvm.Cond.methodLink "PadConsole$Painter" (46 : Nat) ({ cls := "PadConsole$Painter", name := "placeOf", desc := "(I)I" } : Jvm.MethodName)), (Jvm.Cond.privateMethod ({ cls := "PadConsole$Painter", name := "placeOf", desc := "(I)I" } : Jvm.MethodName)), (Jvm.Cond.instanceMethod ({ cls := "PadConsole$Painter", name := "placeOf", desc := "(I)I" } : Jvm.MethodName)), (Jvm.Cond.code ({ cls := "PadConsole$Painter", name := "placeOf", desc := "(I)I" } : Jvm.MethodName) prog_5_method_7_code (2 : Nat) (Option.some Jvm.ClassFile.FieldType.int)), (Jvm.Cond.methodLink "PadConsoleLaw" (219 : Nat) ({ cls := "PadConsoleLaw", name := "row", desc := "(LPadConsole;I[J)I" } : Jvm.MethodName)), (Jvm.Cond.static ({ cls := "PadConsoleLaw", name := "row", desc := "(LPadConsole;I[J)I" } : Jvm.MethodName)), (Jvm.Cond.codeWith ({ cls := "PadConsoleLaw", name := "row", desc := "(LPadConsole;I[J)I" } : Jvm.MethodName) method_20_code (4 : Nat) (Option.some Jvm.ClassFile.FieldType.int) [((0 : Nat), (9 : Nat), (12 : Nat), (50 : Nat))]), (Jvm.Cond.methodLink "PadConsoleLaw" (75 : Nat) ({ cls := "PadConsole", name := "row", desc := "(I)I" } : Jvm.MethodName))]
noncomputable def tb9_9 : List Jvm.Cond := [(Jvm.Cond.instanceMethod ({ cls := "PadConsole", name := "row", desc := "(I)I" } : Jvm.MethodName)), (Jvm.Cond.selects "PadConsole" ({ cls := "PadConsole", name := "row", desc := "(I)I" } : Jvm.MethodName) ({ cls := "PadConsole", name := "row", desc := "(I)I" } : Jvm.MethodName)), (Jvm.Cond.code ({ cls := "PadConsole", name := "row", desc := "(I)I" } : Jvm.MethodName) prog_1_method_31_code (2 : Nat) (Option.some Jvm.ClassFile.FieldType.int)), (Jvm.Cond.stringRef "PadConsole" (288 : Nat) "the picture has no such line"), (Jvm.Cond.methodLink "PadConsole" (290 : Nat) ({ cls := "PadConsole$Painter", name := "sumOfLine", desc := "(I)I" } : Jvm.MethodName)), (Jvm.Cond.instanceMethod ({ cls := "PadConsole$Painter", name := "sumOfLine", desc := "(I)I" } : Jvm.MethodName)), (Jvm.Cond.selects "PadConsole$Painter" ({ cls := "PadConsole$Painter", name := "sumOfLine", desc := "(I)I" } : Jvm.MethodName) ({ cls := "PadConsole$Painter", name := "sumOfLine", desc := "(I)I" } : Jvm.MethodName)), (Jvm.Cond.code ({ cls := "PadConsole$Painter", name := "sumOfLine", desc := "(I)I" } : Jvm.MethodName) prog_5_method_8_code (6 : Nat) (Option.some Jvm.ClassFile.FieldType.int)), (Jvm.Cond.methodLink "PadConsole$Painter" (50 : Nat) ({ cls := "PadConsole$Painter", name := "width", desc := "()I" } : Jvm.MethodName)), (Jvm.Cond.methodLink "PadConsole$Painter" (53 : Nat) ({ cls := "java/lang/Math", name := "min", desc := "(II)I" } : Jvm.MethodName)), (Jvm.Cond.methodLink "PadConsole$Painter" (59 : Nat) ({ cls := "java/lang/Math", name := "max", desc := "(II)I" } : Jvm.MethodName)), (Jvm.Cond.methodLink "PadConsoleLaw" (222 : Nat) ({ cls := "PadConsoleLaw", name := "hear", desc := "(LPadConsole;[J)I" } : Jvm.MethodName)), (Jvm.Cond.static ({ cls := "PadConsoleLaw", name := "hear", desc := "(LPadConsole;[J)I" } : Jvm.MethodName)), (Jvm.Cond.codeWith ({ cls := "PadConsoleLaw", name := "hear", desc := "(LPadConsole;[J)I" } : Jvm.MethodName) method_21_code (3 : Nat) (Option.some Jvm.ClassFile.FieldType.int) [((0 : Nat), (7 : Nat), (10 : Nat), (50 : Nat))]), (Jvm.Cond.methodLink "PadConsoleLaw" (78 : Nat) ({ cls := "PadConsole", name := "hear", desc := "()J" } : Jvm.MethodName)), (Jvm.Cond.instanceMethod ({ cls := "PadConsole", name := "hear", desc := "()J" } : Jvm.MethodName))]
noncomputable def tb9_10 : List Jvm.Cond := [(Jvm.Cond.selects "PadConsole" ({ cls := "PadConsole", name := "hear", desc := "()J" } : Jvm.MethodName) ({ cls := "PadConsole", name := "hear", desc := "()J" } : Jvm.MethodName)), (Jvm.Cond.code ({ cls := "PadConsole", name := "hear", desc := "()J" } : Jvm.MethodName) prog_1_method_32_code (1 : Nat) (Option.some Jvm.ClassFile.FieldType.long)), (Jvm.Cond.methodLink "PadConsole" (297 : Nat) ({ cls := "PadConsole$Ring", name := "size", desc := "()I" } : Jvm.MethodName)), (Jvm.Cond.instanceMethod ({ cls := "PadConsole$Ring", name := "size", desc := "()I" } : Jvm.MethodName)), (Jvm.Cond.selects "PadConsole$Ring" ({ cls := "PadConsole$Ring", name := "size", desc := "()I" } : Jvm.MethodName) ({ cls := "PadConsole$Ring", name := "size", desc := "()I" } : Jvm.MethodName)), (Jvm.Cond.code ({ cls := "PadConsole$Ring", name := "size", desc := "()I" } : Jvm.MethodName) prog_8_method_3_code (1 : Nat) (Option.some Jvm.ClassFile.FieldType.int)), (Jvm.Cond.stringRef "PadConsole" (302 : Nat) "no sample waits"), (Jvm.Cond.methodLink "PadConsole" (304 : Nat) ({ cls := "PadConsole$Ring", name := "takeFirst", desc := "()J" } : Jvm.MethodName)), (Jvm.Cond.instanceMethod ({ cls := "PadConsole$Ring", name := "takeFirst", desc := "()J" } : Jvm.MethodName)), (Jvm.Cond.selects "PadConsole$Ring" ({ cls := "PadConsole$Ring", name := "takeFirst", desc := "()J" } : Jvm.MethodName) ({ cls := "PadConsole$Ring", name := "takeFirst", desc := "()J" } : Jvm.MethodName)), (Jvm.Cond.code ({ cls := "PadConsole$Ring", name := "takeFirst", desc := "()J" } : Jvm.MethodName) prog_8_method_4_code (3 : Nat) (Option.some Jvm.ClassFile.FieldType.long)), (Jvm.Cond.methodLink "PadConsoleLaw" (226 : Nat) ({ cls := "PadConsoleLaw", name := "mix", desc := "(LPadConsole;[J)I" } : Jvm.MethodName)), (Jvm.Cond.static ({ cls := "PadConsoleLaw", name := "mix", desc := "(LPadConsole;[J)I" } : Jvm.MethodName)), (Jvm.Cond.codeWith ({ cls := "PadConsoleLaw", name := "mix", desc := "(LPadConsole;[J)I" } : Jvm.MethodName) method_22_code (3 : Nat) (Option.some Jvm.ClassFile.FieldType.int) [((0 : Nat), (7 : Nat), (10 : Nat), (50 : Nat))]), (Jvm.Cond.methodLink "PadConsoleLaw" (82 : Nat) ({ cls := "PadConsole", name := "mix", desc := "()J" } : Jvm.MethodName)), (Jvm.Cond.instanceMethod ({ cls := "PadConsole", name := "mix", desc := "()J" } : Jvm.MethodName))]
noncomputable def tb9_11 : List Jvm.Cond := [(Jvm.Cond.selects "PadConsole" ({ cls := "PadConsole", name := "mix", desc := "()J" } : Jvm.MethodName) ({ cls := "PadConsole", name := "mix", desc := "()J" } : Jvm.MethodName)), (Jvm.Cond.code ({ cls := "PadConsole", name := "mix", desc := "()J" } : Jvm.MethodName) prog_1_method_33_code (1 : Nat) (Option.some Jvm.ClassFile.FieldType.long)), (Jvm.Cond.stringRef "PadConsole" (311 : Nat) "no mix waits"), (Jvm.Cond.methodLink "PadConsoleLaw" (229 : Nat) ({ cls := "PadConsoleLaw", name := "wave", desc := "(LPadConsole;I[J)I" } : Jvm.MethodName)), (Jvm.Cond.static ({ cls := "PadConsoleLaw", name := "wave", desc := "(LPadConsole;I[J)I" } : Jvm.MethodName)), (Jvm.Cond.codeWith ({ cls := "PadConsoleLaw", name := "wave", desc := "(LPadConsole;I[J)I" } : Jvm.MethodName) method_23_code (4 : Nat) (Option.some Jvm.ClassFile.FieldType.int) [((0 : Nat), (9 : Nat), (12 : Nat), (13 : Nat))]), (Jvm.Cond.methodLink "PadConsoleLaw" (85 : Nat) ({ cls := "PadConsole", name := "wave", desc := "(I)I" } : Jvm.MethodName)), (Jvm.Cond.instanceMethod ({ cls := "PadConsole", name := "wave", desc := "(I)I" } : Jvm.MethodName)), (Jvm.Cond.selects "PadConsole" ({ cls := "PadConsole", name := "wave", desc := "(I)I" } : Jvm.MethodName) ({ cls := "PadConsole", name := "wave", desc := "(I)I" } : Jvm.MethodName)), (Jvm.Cond.code ({ cls := "PadConsole", name := "wave", desc := "(I)I" } : Jvm.MethodName) prog_1_method_34_code (2 : Nat) (Option.some Jvm.ClassFile.FieldType.int)), (Jvm.Cond.methodLink "PadConsole" (313 : Nat) ({ cls := "PadConsole$Waves", name := "has", desc := "(I)Z" } : Jvm.MethodName)), (Jvm.Cond.static ({ cls := "PadConsole$Waves", name := "has", desc := "(I)Z" } : Jvm.MethodName)), (Jvm.Cond.code ({ cls := "PadConsole$Waves", name := "has", desc := "(I)Z" } : Jvm.MethodName) prog_12_method_5_code (1 : Nat) (Option.some Jvm.ClassFile.FieldType.boolean)), (Jvm.Cond.stringRef "PadConsole" (314 : Nat) "the waves have no such number"), (Jvm.Cond.methodLink "PadConsole" (316 : Nat) ({ cls := "PadConsole$Waves", name := "value", desc := "(I)I" } : Jvm.MethodName)), (Jvm.Cond.methodLink "PadConsoleLaw" (232 : Nat) ({ cls := "PadConsoleLaw", name := "sound", desc := "(LPadConsole;I[J)I" } : Jvm.MethodName))]
noncomputable def tb9_12 : List Jvm.Cond := [(Jvm.Cond.static ({ cls := "PadConsoleLaw", name := "sound", desc := "(LPadConsole;I[J)I" } : Jvm.MethodName)), (Jvm.Cond.codeWith ({ cls := "PadConsoleLaw", name := "sound", desc := "(LPadConsole;I[J)I" } : Jvm.MethodName) method_24_code (4 : Nat) (Option.some Jvm.ClassFile.FieldType.int) [((0 : Nat), (9 : Nat), (12 : Nat), (13 : Nat))]), (Jvm.Cond.methodLink "PadConsoleLaw" (88 : Nat) ({ cls := "PadConsole", name := "sound", desc := "(I)I" } : Jvm.MethodName)), (Jvm.Cond.instanceMethod ({ cls := "PadConsole", name := "sound", desc := "(I)I" } : Jvm.MethodName)), (Jvm.Cond.selects "PadConsole" ({ cls := "PadConsole", name := "sound", desc := "(I)I" } : Jvm.MethodName) ({ cls := "PadConsole", name := "sound", desc := "(I)I" } : Jvm.MethodName)), (Jvm.Cond.code ({ cls := "PadConsole", name := "sound", desc := "(I)I" } : Jvm.MethodName) prog_1_method_35_code (2 : Nat) (Option.some Jvm.ClassFile.FieldType.int)), (Jvm.Cond.stringRef "PadConsole" (317 : Nat) "the sound chip has no such number"), (Jvm.Cond.methodLink "PadConsole" (319 : Nat) ({ cls := "PadConsole$Sound", name := "value", desc := "(I)I" } : Jvm.MethodName)), (Jvm.Cond.instanceMethod ({ cls := "PadConsole$Sound", name := "value", desc := "(I)I" } : Jvm.MethodName)), (Jvm.Cond.selects "PadConsole$Sound" ({ cls := "PadConsole$Sound", name := "value", desc := "(I)I" } : Jvm.MethodName) ({ cls := "PadConsole$Sound", name := "value", desc := "(I)I" } : Jvm.MethodName)), (Jvm.Cond.code ({ cls := "PadConsole$Sound", name := "value", desc := "(I)I" } : Jvm.MethodName) prog_9_method_5_code (2 : Nat) (Option.some Jvm.ClassFile.FieldType.int)), (Jvm.Cond.methodLink "PadConsoleLaw" (239 : Nat) ({ cls := "PadConsoleLaw", name := "look", desc := "(LPadConsole;I[J)I" } : Jvm.MethodName)), (Jvm.Cond.static ({ cls := "PadConsoleLaw", name := "look", desc := "(LPadConsole;I[J)I" } : Jvm.MethodName)), (Jvm.Cond.codeWith ({ cls := "PadConsoleLaw", name := "look", desc := "(LPadConsole;I[J)I" } : Jvm.MethodName) method_25_code (4 : Nat) (Option.some Jvm.ClassFile.FieldType.int) [((0 : Nat), (8 : Nat), (11 : Nat), (13 : Nat))]), (Jvm.Cond.methodLink "PadConsoleLaw" (91 : Nat) ({ cls := "PadConsole", name := "look", desc := "(I)J" } : Jvm.MethodName)), (Jvm.Cond.instanceMethod ({ cls := "PadConsole", name := "look", desc := "(I)J" } : Jvm.MethodName))]
noncomputable def tb9_13 : List Jvm.Cond := [(Jvm.Cond.selects "PadConsole" ({ cls := "PadConsole", name := "look", desc := "(I)J" } : Jvm.MethodName) ({ cls := "PadConsole", name := "look", desc := "(I)J" } : Jvm.MethodName)), (Jvm.Cond.code ({ cls := "PadConsole", name := "look", desc := "(I)J" } : Jvm.MethodName) prog_1_method_37_code (2 : Nat) (Option.some Jvm.ClassFile.FieldType.long)), (Jvm.Cond.stringRef "PadConsole" (323 : Nat) "there is nothing to look at"), (Jvm.Cond.methodLink "PadConsole" (328 : Nat) ({ cls := "PadConsole$Desk", name := "stopCount", desc := "()I" } : Jvm.MethodName)), (Jvm.Cond.instanceMethod ({ cls := "PadConsole$Desk", name := "stopCount", desc := "()I" } : Jvm.MethodName)), (Jvm.Cond.selects "PadConsole$Desk" ({ cls := "PadConsole$Desk", name := "stopCount", desc := "()I" } : Jvm.MethodName) ({ cls := "PadConsole$Desk", name := "stopCount", desc := "()I" } : Jvm.MethodName)), (Jvm.Cond.code ({ cls := "PadConsole$Desk", name := "stopCount", desc := "()I" } : Jvm.MethodName) prog_3_method_6_code (1 : Nat) (Option.some Jvm.ClassFile.FieldType.int)), (Jvm.Cond.methodLink "PadConsole" (331 : Nat) ({ cls := "PadConsole$Memory", name := "cardSize", desc := "()I" } : Jvm.MethodName)), (Jvm.Cond.instanceMethod ({ cls := "PadConsole$Memory", name := "cardSize", desc := "()I" } : Jvm.MethodName)), (Jvm.Cond.selects "PadConsole$Memory" ({ cls := "PadConsole$Memory", name := "cardSize", desc := "()I" } : Jvm.MethodName) ({ cls := "PadConsole$Memory", name := "cardSize", desc := "()I" } : Jvm.MethodName)), (Jvm.Cond.code ({ cls := "PadConsole$Memory", name := "cardSize", desc := "()I" } : Jvm.MethodName) prog_4_method_13_code (1 : Nat) (Option.some Jvm.ClassFile.FieldType.int)), (Jvm.Cond.methodLink "PadConsole" (334 : Nat) ({ cls := "PadConsole$Memory", name := "page", desc := "(I)I" } : Jvm.MethodName)), (Jvm.Cond.instanceMethod ({ cls := "PadConsole$Memory", name := "page", desc := "(I)I" } : Jvm.MethodName)), (Jvm.Cond.selects "PadConsole$Memory" ({ cls := "PadConsole$Memory", name := "page", desc := "(I)I" } : Jvm.MethodName) ({ cls := "PadConsole$Memory", name := "page", desc := "(I)I" } : Jvm.MethodName)), (Jvm.Cond.code ({ cls := "PadConsole$Memory", name := "page", desc := "(I)I" } : Jvm.MethodName) prog_4_method_14_code (2 : Nat) (Option.some Jvm.ClassFile.FieldType.int)), (Jvm.Cond.methodLink "PadConsole" (337 : Nat) ({ cls := "PadConsole$Ports", name := "value", desc := "(I)I" } : Jvm.MethodName))]
noncomputable def tb9_14 : List Jvm.Cond := [(Jvm.Cond.instanceMethod ({ cls := "PadConsole$Ports", name := "value", desc := "(I)I" } : Jvm.MethodName)), (Jvm.Cond.selects "PadConsole$Ports" ({ cls := "PadConsole$Ports", name := "value", desc := "(I)I" } : Jvm.MethodName) ({ cls := "PadConsole$Ports", name := "value", desc := "(I)I" } : Jvm.MethodName)), (Jvm.Cond.code ({ cls := "PadConsole$Ports", name := "value", desc := "(I)I" } : Jvm.MethodName) prog_6_method_5_code (2 : Nat) (Option.some Jvm.ClassFile.FieldType.int)), (Jvm.Cond.classLink "PadConsoleLaw" (103 : Nat) "PadConsoleModel"), (Jvm.Cond.instantiable "PadConsoleModel" (44 : Nat)), (Jvm.Cond.methodLink "PadConsoleLaw" (105 : Nat) ({ cls := "PadConsoleModel", name := "<init>", desc := "(I)V" } : Jvm.MethodName)), (Jvm.Cond.instanceMethod ({ cls := "PadConsoleModel", name := "<init>", desc := "(I)V" } : Jvm.MethodName)), (Jvm.Cond.code ({ cls := "PadConsoleModel", name := "<init>", desc := "(I)V" } : Jvm.MethodName) prog_14_method_1_code (2 : Nat) (Option.none : Option Jvm.ClassFile.FieldType)), (Jvm.Cond.methodLink "PadConsoleModel" (1 : Nat) ({ cls := "java/lang/Object", name := "<init>", desc := "()V" } : Jvm.MethodName)), (Jvm.Cond.constant "PadConsoleModel" (9 : Nat) (262656 : Int32)), (Jvm.Cond.constant "PadConsoleModel" (14 : Nat) (262144 : Int32)), (Jvm.Cond.constant "PadConsoleModel" (33 : Nat) (32768 : Int32)), (Jvm.Cond.constant "PadConsoleModel" (43 : Nat) (61440 : Int32)), (Jvm.Cond.methodLink "PadConsoleModel" (102 : Nat) ({ cls := "PadConsoleModel", name := "anew", desc := "()V" } : Jvm.MethodName)), (Jvm.Cond.privateMethod ({ cls := "PadConsoleModel", name := "anew", desc := "()V" } : Jvm.MethodName)), (Jvm.Cond.instanceMethod ({ cls := "PadConsoleModel", name := "anew", desc := "()V" } : Jvm.MethodName))]
set_option maxRecDepth 100000 in
theorem tbe9 : tables_1_9 = (tb9_0 ++ (tb9_1 ++ (tb9_2 ++ (tb9_3 ++ (tb9_4 ++ (tb9_5 ++ (tb9_6 ++ (tb9_7 ++ (tb9_8 ++ (tb9_9 ++ (tb9_10 ++ (tb9_11 ++ (tb9_12 ++ (tb9_13 ++ tb9_14)))))))))))))) := rfl
theorem tm9_0 {w : Jvm.Cond} (h : w ∈ tb9_0) : w ∈ tables_1_9 := by
  rw [tbe9]
  exact (List.mem_append_left _ h)
theorem tm9_1 {w : Jvm.Cond} (h : w ∈ tb9_1) : w ∈ tables_1_9 := by
  rw [tbe9]
  exact (List.mem_append_right _ (List.mem_append_left _ h))
theorem tm9_2 {w : Jvm.Cond} (h : w ∈ tb9_2) : w ∈ tables_1_9 := by
  rw [tbe9]
  exact (List.mem_append_right _ (List.mem_append_right _ (List.mem_append_left _ h)))
theorem tm9_3 {w : Jvm.Cond} (h : w ∈ tb9_3) : w ∈ tables_1_9 := by
  rw [tbe9]
  exact (List.mem_append_right _ (List.mem_append_right _ (List.mem_append_right _ (List.mem_append_left _ h))))
theorem tm9_4 {w : Jvm.Cond} (h : w ∈ tb9_4) : w ∈ tables_1_9 := by
  rw [tbe9]
  exact (List.mem_append_right _ (List.mem_append_right _ (List.mem_append_right _ (List.mem_append_right _ (List.mem_append_left _ h)))))
theorem tm9_5 {w : Jvm.Cond} (h : w ∈ tb9_5) : w ∈ tables_1_9 := by
  rw [tbe9]
  exact (List.mem_append_right _ (List.mem_append_right _ (List.mem_append_right _ (List.mem_append_right _ (List.mem_append_right _ (List.mem_append_left _ h))))))
theorem tm9_6 {w : Jvm.Cond} (h : w ∈ tb9_6) : w ∈ tables_1_9 := by
  rw [tbe9]
  exact (List.mem_append_right _ (List.mem_append_right _ (List.mem_append_right _ (List.mem_append_right _ (List.mem_append_right _ (List.mem_append_right _ (List.mem_append_left _ h)))))))
theorem tm9_7 {w : Jvm.Cond} (h : w ∈ tb9_7) : w ∈ tables_1_9 := by
  rw [tbe9]
  exact (List.mem_append_right _ (List.mem_append_right _ (List.mem_append_right _ (List.mem_append_right _ (List.mem_append_right _ (List.mem_append_right _ (List.mem_append_right _ (List.mem_append_left _ h))))))))
theorem tm9_8 {w : Jvm.Cond} (h : w ∈ tb9_8) : w ∈ tables_1_9 := by
  rw [tbe9]
  exact (List.mem_append_right _ (List.mem_append_right _ (List.mem_append_right _ (List.mem_append_right _ (List.mem_append_right _ (List.mem_append_right _ (List.mem_append_right _ (List.mem_append_right _ (List.mem_append_left _ h)))))))))
theorem tm9_9 {w : Jvm.Cond} (h : w ∈ tb9_9) : w ∈ tables_1_9 := by
  rw [tbe9]
  exact (List.mem_append_right _ (List.mem_append_right _ (List.mem_append_right _ (List.mem_append_right _ (List.mem_append_right _ (List.mem_append_right _ (List.mem_append_right _ (List.mem_append_right _ (List.mem_append_right _ (List.mem_append_left _ h))))))))))
theorem tm9_10 {w : Jvm.Cond} (h : w ∈ tb9_10) : w ∈ tables_1_9 := by
  rw [tbe9]
  exact (List.mem_append_right _ (List.mem_append_right _ (List.mem_append_right _ (List.mem_append_right _ (List.mem_append_right _ (List.mem_append_right _ (List.mem_append_right _ (List.mem_append_right _ (List.mem_append_right _ (List.mem_append_right _ (List.mem_append_left _ h)))))))))))
theorem tm9_11 {w : Jvm.Cond} (h : w ∈ tb9_11) : w ∈ tables_1_9 := by
  rw [tbe9]
  exact (List.mem_append_right _ (List.mem_append_right _ (List.mem_append_right _ (List.mem_append_right _ (List.mem_append_right _ (List.mem_append_right _ (List.mem_append_right _ (List.mem_append_right _ (List.mem_append_right _ (List.mem_append_right _ (List.mem_append_right _ (List.mem_append_left _ h))))))))))))
theorem tm9_12 {w : Jvm.Cond} (h : w ∈ tb9_12) : w ∈ tables_1_9 := by
  rw [tbe9]
  exact (List.mem_append_right _ (List.mem_append_right _ (List.mem_append_right _ (List.mem_append_right _ (List.mem_append_right _ (List.mem_append_right _ (List.mem_append_right _ (List.mem_append_right _ (List.mem_append_right _ (List.mem_append_right _ (List.mem_append_right _ (List.mem_append_right _ (List.mem_append_left _ h)))))))))))))
theorem tm9_13 {w : Jvm.Cond} (h : w ∈ tb9_13) : w ∈ tables_1_9 := by
  rw [tbe9]
  exact (List.mem_append_right _ (List.mem_append_right _ (List.mem_append_right _ (List.mem_append_right _ (List.mem_append_right _ (List.mem_append_right _ (List.mem_append_right _ (List.mem_append_right _ (List.mem_append_right _ (List.mem_append_right _ (List.mem_append_right _ (List.mem_append_right _ (List.mem_append_right _ (List.mem_append_left _ h))))))))))))))
theorem tm9_14 {w : Jvm.Cond} (h : w ∈ tb9_14) : w ∈ tables_1_9 := by
  rw [tbe9]
  exact (List.mem_append_right _ (List.mem_append_right _ (List.mem_append_right _ (List.mem_append_right _ (List.mem_append_right _ (List.mem_append_right _ (List.mem_append_right _ (List.mem_append_right _ (List.mem_append_right _ (List.mem_append_right _ (List.mem_append_right _ (List.mem_append_right _ (List.mem_append_right _ (List.mem_append_right _ h))))))))))))))
noncomputable def tb10_0 : List Jvm.Cond := [(Jvm.Cond.code ({ cls := "PadConsoleModel", name := "anew", desc := "()V" } : Jvm.MethodName) prog_14_method_20_code (2 : Nat) (Option.none : Option Jvm.ClassFile.FieldType)), (Jvm.Cond.constant "PadConsoleModel" (173 : Nat) (57328 : Int32)), (Jvm.Cond.fieldLink "PadConsoleModel" (105 : Nat) "PadConsoleModel" "thrown" "I"), (Jvm.Cond.fieldLink "PadConsoleModel" (10 : Nat) "PadConsoleModel" "tape" "[B"), (Jvm.Cond.fieldLink "PadConsoleModel" (118 : Nat) "PadConsoleModel" "taped" "I"), (Jvm.Cond.fieldLink "PadConsoleModel" (99 : Nat) "PadConsoleModel" "kind" "I"), (Jvm.Cond.fieldLink "PadConsoleModel" (15 : Nat) "PadConsoleModel" "cartridge" "[B"), (Jvm.Cond.fieldLink "PadConsoleModel" (121 : Nat) "PadConsoleModel" "size" "I"), (Jvm.Cond.fieldLink "PadConsoleModel" (124 : Nat) "PadConsoleModel" "banks" "I"), (Jvm.Cond.fieldLink "PadConsoleModel" (137 : Nat) "PadConsoleModel" "paging" "I"), (Jvm.Cond.fieldLink "PadConsoleModel" (18 : Nat) "PadConsoleModel" "header" "I"), (Jvm.Cond.fieldLink "PadConsoleModel" (140 : Nat) "PadConsoleModel" "sum" "I"), (Jvm.Cond.fieldLink "PadConsoleModel" (22 : Nat) "PadConsoleModel" "n" "[I"), (Jvm.Cond.fieldLink "PadConsoleModel" (26 : Nat) "PadConsoleModel" "all" "[J"), (Jvm.Cond.fieldLink "PadConsoleModel" (30 : Nat) "PadConsoleModel" "ram" "[B"), (Jvm.Cond.fieldLink "PadConsoleModel" (34 : Nat) "PadConsoleModel" "battery" "[B")]
noncomputable def tb10_1 : List Jvm.Cond := [(Jvm.Cond.fieldLink "PadConsoleModel" (37 : Nat) "PadConsoleModel" "vram" "[B"), (Jvm.Cond.fieldLink "PadConsoleModel" (40 : Nat) "PadConsoleModel" "cram" "[B"), (Jvm.Cond.fieldLink "PadConsoleModel" (44 : Nat) "PadConsoleModel" "dots" "[I"), (Jvm.Cond.fieldLink "PadConsoleModel" (47 : Nat) "PadConsoleModel" "samples" "[J"), (Jvm.Cond.fieldLink "PadConsoleModel" (50 : Nat) "PadConsoleModel" "mixes" "[J"), (Jvm.Cond.fieldLink "PadConsoleModel" (144 : Nat) "PadConsoleModel" "saved" "Z"), (Jvm.Cond.fieldLink "PadConsoleModel" (53 : Nat) "PadConsoleModel" "savedN" "[I"), (Jvm.Cond.fieldLink "PadConsoleModel" (56 : Nat) "PadConsoleModel" "savedAll" "[J"), (Jvm.Cond.fieldLink "PadConsoleModel" (59 : Nat) "PadConsoleModel" "savedRam" "[B"), (Jvm.Cond.fieldLink "PadConsoleModel" (62 : Nat) "PadConsoleModel" "savedBattery" "[B"), (Jvm.Cond.fieldLink "PadConsoleModel" (65 : Nat) "PadConsoleModel" "savedVram" "[B"), (Jvm.Cond.fieldLink "PadConsoleModel" (68 : Nat) "PadConsoleModel" "savedCram" "[B"), (Jvm.Cond.fieldLink "PadConsoleModel" (71 : Nat) "PadConsoleModel" "savedDots" "[I"), (Jvm.Cond.fieldLink "PadConsoleModel" (74 : Nat) "PadConsoleModel" "savedSamples" "[J"), (Jvm.Cond.fieldLink "PadConsoleModel" (77 : Nat) "PadConsoleModel" "savedMixes" "[J"), (Jvm.Cond.fieldLink "PadConsoleModel" (80 : Nat) "PadConsoleModel" "trace" "[I")]
noncomputable def tb10_2 : List Jvm.Cond := [(Jvm.Cond.fieldLink "PadConsoleModel" (351 : Nat) "PadConsoleModel" "traced" "J"), (Jvm.Cond.fieldLink "PadConsoleModel" (174 : Nat) "PadConsoleModel" "instead" "I"), (Jvm.Cond.fieldLink "PadConsoleModel" (191 : Nat) "PadConsoleModel" "far" "Z"), (Jvm.Cond.fieldLink "PadConsoleModel" (311 : Nat) "PadConsoleModel" "came" "I"), (Jvm.Cond.fieldLink "PadConsoleModel" (83 : Nat) "PadConsoleModel" "line" "[I"), (Jvm.Cond.fieldLink "PadConsoleModel" (86 : Nat) "PadConsoleModel" "ahead" "[Z"), (Jvm.Cond.fieldLink "PadConsoleModel" (90 : Nat) "PadConsoleModel" "over" "[I"), (Jvm.Cond.fieldLink "PadConsoleModel" (93 : Nat) "PadConsoleModel" "one" "[Z"), (Jvm.Cond.fieldLink "PadConsoleModel" (96 : Nat) "PadConsoleModel" "text" "[I"), (Jvm.Cond.fieldLink "PadConsoleModel" (458 : Nat) "PadConsoleModel" "signs" "I"), (Jvm.Cond.fieldLink "PadConsoleModel" (545 : Nat) "PadConsoleModel" "from" "I"), (Jvm.Cond.fieldLink "PadConsoleModel" (551 : Nat) "PadConsoleModel" "index" "I"), (Jvm.Cond.fieldLink "PadConsoleModel" (563 : Nat) "PadConsoleModel" "placed" "Z"), (Jvm.Cond.fieldLink "PadConsoleModel" (572 : Nat) "PadConsoleModel" "distance" "I"), (Jvm.Cond.lays "PadConsoleModel" "PadConsoleModel" "thrown" "I"), (Jvm.Cond.soleField "PadConsoleModel" "thrown")]
noncomputable def tb10_3 : List Jvm.Cond := [(Jvm.Cond.laysFinal "PadConsoleModel" "PadConsoleModel" "tape" "[B"), (Jvm.Cond.soleField "PadConsoleModel" "tape"), (Jvm.Cond.lays "PadConsoleModel" "PadConsoleModel" "taped" "I"), (Jvm.Cond.soleField "PadConsoleModel" "taped"), (Jvm.Cond.laysFinal "PadConsoleModel" "PadConsoleModel" "kind" "I"), (Jvm.Cond.soleField "PadConsoleModel" "kind"), (Jvm.Cond.laysFinal "PadConsoleModel" "PadConsoleModel" "cartridge" "[B"), (Jvm.Cond.soleField "PadConsoleModel" "cartridge"), (Jvm.Cond.lays "PadConsoleModel" "PadConsoleModel" "size" "I"), (Jvm.Cond.soleField "PadConsoleModel" "size"), (Jvm.Cond.lays "PadConsoleModel" "PadConsoleModel" "banks" "I"), (Jvm.Cond.soleField "PadConsoleModel" "banks"), (Jvm.Cond.lays "PadConsoleModel" "PadConsoleModel" "paging" "I"), (Jvm.Cond.soleField "PadConsoleModel" "paging"), (Jvm.Cond.lays "PadConsoleModel" "PadConsoleModel" "header" "I"), (Jvm.Cond.soleField "PadConsoleModel" "header")]
noncomputable def tb10_4 : List Jvm.Cond := [(Jvm.Cond.lays "PadConsoleModel" "PadConsoleModel" "sum" "I"), (Jvm.Cond.soleField "PadConsoleModel" "sum"), (Jvm.Cond.laysFinal "PadConsoleModel" "PadConsoleModel" "n" "[I"), (Jvm.Cond.soleField "PadConsoleModel" "n"), (Jvm.Cond.laysFinal "PadConsoleModel" "PadConsoleModel" "all" "[J"), (Jvm.Cond.soleField "PadConsoleModel" "all"), (Jvm.Cond.laysFinal "PadConsoleModel" "PadConsoleModel" "ram" "[B"), (Jvm.Cond.soleField "PadConsoleModel" "ram"), (Jvm.Cond.laysFinal "PadConsoleModel" "PadConsoleModel" "battery" "[B"), (Jvm.Cond.soleField "PadConsoleModel" "battery"), (Jvm.Cond.laysFinal "PadConsoleModel" "PadConsoleModel" "vram" "[B"), (Jvm.Cond.soleField "PadConsoleModel" "vram"), (Jvm.Cond.laysFinal "PadConsoleModel" "PadConsoleModel" "cram" "[B"), (Jvm.Cond.soleField "PadConsoleModel" "cram"), (Jvm.Cond.laysFinal "PadConsoleModel" "PadConsoleModel" "dots" "[I"), (Jvm.Cond.soleField "PadConsoleModel" "dots")]
noncomputable def tb10_5 : List Jvm.Cond := [(Jvm.Cond.laysFinal "PadConsoleModel" "PadConsoleModel" "samples" "[J"), (Jvm.Cond.soleField "PadConsoleModel" "samples"), (Jvm.Cond.laysFinal "PadConsoleModel" "PadConsoleModel" "mixes" "[J"), (Jvm.Cond.soleField "PadConsoleModel" "mixes"), (Jvm.Cond.lays "PadConsoleModel" "PadConsoleModel" "saved" "Z"), (Jvm.Cond.soleField "PadConsoleModel" "saved"), (Jvm.Cond.laysFinal "PadConsoleModel" "PadConsoleModel" "savedN" "[I"), (Jvm.Cond.soleField "PadConsoleModel" "savedN"), (Jvm.Cond.laysFinal "PadConsoleModel" "PadConsoleModel" "savedAll" "[J"), (Jvm.Cond.soleField "PadConsoleModel" "savedAll"), (Jvm.Cond.laysFinal "PadConsoleModel" "PadConsoleModel" "savedRam" "[B"), (Jvm.Cond.soleField "PadConsoleModel" "savedRam"), (Jvm.Cond.laysFinal "PadConsoleModel" "PadConsoleModel" "savedBattery" "[B"), (Jvm.Cond.soleField "PadConsoleModel" "savedBattery"), (Jvm.Cond.laysFinal "PadConsoleModel" "PadConsoleModel" "savedVram" "[B"), (Jvm.Cond.soleField "PadConsoleModel" "savedVram")]
noncomputable def tb10_6 : List Jvm.Cond := [(Jvm.Cond.laysFinal "PadConsoleModel" "PadConsoleModel" "savedCram" "[B"), (Jvm.Cond.soleField "PadConsoleModel" "savedCram"), (Jvm.Cond.laysFinal "PadConsoleModel" "PadConsoleModel" "savedDots" "[I"), (Jvm.Cond.soleField "PadConsoleModel" "savedDots"), (Jvm.Cond.laysFinal "PadConsoleModel" "PadConsoleModel" "savedSamples" "[J"), (Jvm.Cond.soleField "PadConsoleModel" "savedSamples"), (Jvm.Cond.laysFinal "PadConsoleModel" "PadConsoleModel" "savedMixes" "[J"), (Jvm.Cond.soleField "PadConsoleModel" "savedMixes"), (Jvm.Cond.laysFinal "PadConsoleModel" "PadConsoleModel" "trace" "[I"), (Jvm.Cond.soleField "PadConsoleModel" "trace"), (Jvm.Cond.lays "PadConsoleModel" "PadConsoleModel" "traced" "J"), (Jvm.Cond.soleField "PadConsoleModel" "traced"), (Jvm.Cond.lays "PadConsoleModel" "PadConsoleModel" "instead" "I"), (Jvm.Cond.soleField "PadConsoleModel" "instead"), (Jvm.Cond.lays "PadConsoleModel" "PadConsoleModel" "far" "Z"), (Jvm.Cond.soleField "PadConsoleModel" "far")]
noncomputable def tb10_7 : List Jvm.Cond := [(Jvm.Cond.lays "PadConsoleModel" "PadConsoleModel" "came" "I"), (Jvm.Cond.soleField "PadConsoleModel" "came"), (Jvm.Cond.laysFinal "PadConsoleModel" "PadConsoleModel" "line" "[I"), (Jvm.Cond.soleField "PadConsoleModel" "line"), (Jvm.Cond.laysFinal "PadConsoleModel" "PadConsoleModel" "ahead" "[Z"), (Jvm.Cond.soleField "PadConsoleModel" "ahead"), (Jvm.Cond.laysFinal "PadConsoleModel" "PadConsoleModel" "over" "[I"), (Jvm.Cond.soleField "PadConsoleModel" "over"), (Jvm.Cond.laysFinal "PadConsoleModel" "PadConsoleModel" "one" "[Z"), (Jvm.Cond.soleField "PadConsoleModel" "one"), (Jvm.Cond.laysFinal "PadConsoleModel" "PadConsoleModel" "text" "[I"), (Jvm.Cond.soleField "PadConsoleModel" "text"), (Jvm.Cond.lays "PadConsoleModel" "PadConsoleModel" "signs" "I"), (Jvm.Cond.soleField "PadConsoleModel" "signs"), (Jvm.Cond.lays "PadConsoleModel" "PadConsoleModel" "from" "I"), (Jvm.Cond.soleField "PadConsoleModel" "from")]
noncomputable def tb10_8 : List Jvm.Cond := [(Jvm.Cond.lays "PadConsoleModel" "PadConsoleModel" "index" "I"), (Jvm.Cond.soleField "PadConsoleModel" "index"), (Jvm.Cond.lays "PadConsoleModel" "PadConsoleModel" "placed" "Z"), (Jvm.Cond.soleField "PadConsoleModel" "placed"), (Jvm.Cond.lays "PadConsoleModel" "PadConsoleModel" "distance" "I"), (Jvm.Cond.soleField "PadConsoleModel" "distance"), (Jvm.Cond.superclass "PadConsoleModel" "java/lang/Object"), (Jvm.Cond.arrayClass Jvm.ClassFile.FieldType.boolean), (Jvm.Cond.methodLink "PadConsoleLaw" (242 : Nat) ({ cls := "PadConsoleModel", name := "thrown", desc := "()I" } : Jvm.MethodName)), (Jvm.Cond.instanceMethod ({ cls := "PadConsoleModel", name := "thrown", desc := "()I" } : Jvm.MethodName)), (Jvm.Cond.selects "PadConsoleModel" ({ cls := "PadConsoleModel", name := "thrown", desc := "()I" } : Jvm.MethodName) ({ cls := "PadConsoleModel", name := "thrown", desc := "()I" } : Jvm.MethodName)), (Jvm.Cond.code ({ cls := "PadConsoleModel", name := "thrown", desc := "()I" } : Jvm.MethodName) prog_14_method_2_code (1 : Nat) (Option.some Jvm.ClassFile.FieldType.int)), (Jvm.Cond.methodLink "PadConsoleLaw" (111 : Nat) ({ cls := "PadConsoleModel", name := "feed", desc := "(IJJJ)I" } : Jvm.MethodName)), (Jvm.Cond.instanceMethod ({ cls := "PadConsoleModel", name := "feed", desc := "(IJJJ)I" } : Jvm.MethodName)), (Jvm.Cond.selects "PadConsoleModel" ({ cls := "PadConsoleModel", name := "feed", desc := "(IJJJ)I" } : Jvm.MethodName) ({ cls := "PadConsoleModel", name := "feed", desc := "(IJJJ)I" } : Jvm.MethodName)), (Jvm.Cond.code ({ cls := "PadConsoleModel", name := "feed", desc := "(IJJJ)I" } : Jvm.MethodName) prog_14_method_5_code (9 : Nat) (Option.some Jvm.ClassFile.FieldType.int))]
noncomputable def tb10_9 : List Jvm.Cond := [(Jvm.Cond.constantLong "PadConsoleModel" (108 : Nat) (24 : Int64)), (Jvm.Cond.methodLink "PadConsoleModel" (110 : Nat) ({ cls := "PadConsoleModel", name := "within", desc := "(JJJ)Z" } : Jvm.MethodName)), (Jvm.Cond.static ({ cls := "PadConsoleModel", name := "within", desc := "(JJJ)Z" } : Jvm.MethodName)), (Jvm.Cond.code ({ cls := "PadConsoleModel", name := "within", desc := "(JJJ)Z" } : Jvm.MethodName) prog_14_method_4_code (6 : Nat) (Option.some Jvm.ClassFile.FieldType.boolean)), (Jvm.Cond.methodLink "PadConsoleModel" (114 : Nat) ({ cls := "PadConsoleModel", name := "fails", desc := "(ZI)Z" } : Jvm.MethodName)), (Jvm.Cond.privateMethod ({ cls := "PadConsoleModel", name := "fails", desc := "(ZI)Z" } : Jvm.MethodName)), (Jvm.Cond.instanceMethod ({ cls := "PadConsoleModel", name := "fails", desc := "(ZI)Z" } : Jvm.MethodName)), (Jvm.Cond.code ({ cls := "PadConsoleModel", name := "fails", desc := "(ZI)Z" } : Jvm.MethodName) prog_14_method_3_code (3 : Nat) (Option.some Jvm.ClassFile.FieldType.boolean)), (Jvm.Cond.methodLink "PadConsoleLaw" (115 : Nat) ({ cls := "PadConsoleModel", name := "grow", desc := "(I)I" } : Jvm.MethodName)), (Jvm.Cond.instanceMethod ({ cls := "PadConsoleModel", name := "grow", desc := "(I)I" } : Jvm.MethodName)), (Jvm.Cond.selects "PadConsoleModel" ({ cls := "PadConsoleModel", name := "grow", desc := "(I)I" } : Jvm.MethodName) ({ cls := "PadConsoleModel", name := "grow", desc := "(I)I" } : Jvm.MethodName)), (Jvm.Cond.code ({ cls := "PadConsoleModel", name := "grow", desc := "(I)I" } : Jvm.MethodName) prog_14_method_6_code (3 : Nat) (Option.some Jvm.ClassFile.FieldType.int)), (Jvm.Cond.methodLink "PadConsoleLaw" (119 : Nat) ({ cls := "PadConsoleModel", name := "patch", desc := "(IJ)V" } : Jvm.MethodName)), (Jvm.Cond.instanceMethod ({ cls := "PadConsoleModel", name := "patch", desc := "(IJ)V" } : Jvm.MethodName)), (Jvm.Cond.selects "PadConsoleModel" ({ cls := "PadConsoleModel", name := "patch", desc := "(IJ)V" } : Jvm.MethodName) ({ cls := "PadConsoleModel", name := "patch", desc := "(IJ)V" } : Jvm.MethodName)), (Jvm.Cond.code ({ cls := "PadConsoleModel", name := "patch", desc := "(IJ)V" } : Jvm.MethodName) prog_14_method_7_code (5 : Nat) (Option.none : Option Jvm.ClassFile.FieldType))]
noncomputable def tb10_10 : List Jvm.Cond := [(Jvm.Cond.methodLink "PadConsoleLaw" (124 : Nat) ({ cls := "PadConsoleModel", name := "load", desc := "()I" } : Jvm.MethodName)), (Jvm.Cond.instanceMethod ({ cls := "PadConsoleModel", name := "load", desc := "()I" } : Jvm.MethodName)), (Jvm.Cond.selects "PadConsoleModel" ({ cls := "PadConsoleModel", name := "load", desc := "()I" } : Jvm.MethodName) ({ cls := "PadConsoleModel", name := "load", desc := "()I" } : Jvm.MethodName)), (Jvm.Cond.code ({ cls := "PadConsoleModel", name := "load", desc := "()I" } : Jvm.MethodName) prog_14_method_9_code (7 : Nat) (Option.some Jvm.ClassFile.FieldType.int)), (Jvm.Cond.methodLink "PadConsoleModel" (127 : Nat) ({ cls := "PadConsoleModel", name := "isHeader", desc := "(I)Z" } : Jvm.MethodName)), (Jvm.Cond.privateMethod ({ cls := "PadConsoleModel", name := "isHeader", desc := "(I)Z" } : Jvm.MethodName)), (Jvm.Cond.instanceMethod ({ cls := "PadConsoleModel", name := "isHeader", desc := "(I)Z" } : Jvm.MethodName)), (Jvm.Cond.code ({ cls := "PadConsoleModel", name := "isHeader", desc := "(I)Z" } : Jvm.MethodName) prog_14_method_10_code (3 : Nat) (Option.some Jvm.ClassFile.FieldType.boolean)), (Jvm.Cond.constant "PadConsoleModel" (131 : Nat) (49152 : Int32)), (Jvm.Cond.methodLink "PadConsoleModel" (132 : Nat) ({ cls := "PadConsoleModel", name := "bytesAt", desc := "(II)I" } : Jvm.MethodName)), (Jvm.Cond.privateMethod ({ cls := "PadConsoleModel", name := "bytesAt", desc := "(II)I" } : Jvm.MethodName)), (Jvm.Cond.instanceMethod ({ cls := "PadConsoleModel", name := "bytesAt", desc := "(II)I" } : Jvm.MethodName)), (Jvm.Cond.code ({ cls := "PadConsoleModel", name := "bytesAt", desc := "(II)I" } : Jvm.MethodName) prog_14_method_8_code (5 : Nat) (Option.some Jvm.ClassFile.FieldType.int)), (Jvm.Cond.constant "PadConsoleModel" (136 : Nat) (65536 : Int32)), (Jvm.Cond.constant "PadConsoleModel" (143 : Nat) (65535 : Int32)), (Jvm.Cond.methodLink "PadConsoleLaw" (127 : Nat) ({ cls := "PadConsoleModel", name := "card", desc := "(I)I" } : Jvm.MethodName))]
noncomputable def tb10_11 : List Jvm.Cond := [(Jvm.Cond.instanceMethod ({ cls := "PadConsoleModel", name := "card", desc := "(I)I" } : Jvm.MethodName)), (Jvm.Cond.selects "PadConsoleModel" ({ cls := "PadConsoleModel", name := "card", desc := "(I)I" } : Jvm.MethodName) ({ cls := "PadConsoleModel", name := "card", desc := "(I)I" } : Jvm.MethodName)), (Jvm.Cond.code ({ cls := "PadConsoleModel", name := "card", desc := "(I)I" } : Jvm.MethodName) prog_14_method_12_code (2 : Nat) (Option.some Jvm.ClassFile.FieldType.int)), (Jvm.Cond.constantLong "PadConsoleModel" (148 : Nat) (7 : Int64)), (Jvm.Cond.methodLink "PadConsoleModel" (150 : Nat) ({ cls := "PadConsoleModel", name := "tens", desc := "(I)I" } : Jvm.MethodName)), (Jvm.Cond.privateMethod ({ cls := "PadConsoleModel", name := "tens", desc := "(I)I" } : Jvm.MethodName)), (Jvm.Cond.instanceMethod ({ cls := "PadConsoleModel", name := "tens", desc := "(I)I" } : Jvm.MethodName)), (Jvm.Cond.code ({ cls := "PadConsoleModel", name := "tens", desc := "(I)I" } : Jvm.MethodName) prog_14_method_11_code (2 : Nat) (Option.some Jvm.ClassFile.FieldType.int)), (Jvm.Cond.methodLink "PadConsoleLaw" (130 : Nat) ({ cls := "PadConsoleModel", name := "step", desc := "(I)I" } : Jvm.MethodName)), (Jvm.Cond.instanceMethod ({ cls := "PadConsoleModel", name := "step", desc := "(I)I" } : Jvm.MethodName)), (Jvm.Cond.selects "PadConsoleModel" ({ cls := "PadConsoleModel", name := "step", desc := "(I)I" } : Jvm.MethodName) ({ cls := "PadConsoleModel", name := "step", desc := "(I)I" } : Jvm.MethodName)), (Jvm.Cond.code ({ cls := "PadConsoleModel", name := "step", desc := "(I)I" } : Jvm.MethodName) prog_14_method_70_code (3 : Nat) (Option.some Jvm.ClassFile.FieldType.int)), (Jvm.Cond.constantLong "PadConsoleModel" (385 : Nat) (20000 : Int64)), (Jvm.Cond.methodLink "PadConsoleModel" (387 : Nat) ({ cls := "PadConsoleModel", name := "isStop", desc := "(I)Z" } : Jvm.MethodName)), (Jvm.Cond.privateMethod ({ cls := "PadConsoleModel", name := "isStop", desc := "(I)Z" } : Jvm.MethodName)), (Jvm.Cond.instanceMethod ({ cls := "PadConsoleModel", name := "isStop", desc := "(I)Z" } : Jvm.MethodName))]
noncomputable def tb10_12 : List Jvm.Cond := [(Jvm.Cond.code ({ cls := "PadConsoleModel", name := "isStop", desc := "(I)Z" } : Jvm.MethodName) prog_14_method_69_code (3 : Nat) (Option.some Jvm.ClassFile.FieldType.boolean)), (Jvm.Cond.methodLink "PadConsoleModel" (390 : Nat) ({ cls := "PadConsoleModel", name := "once", desc := "()V" } : Jvm.MethodName)), (Jvm.Cond.privateMethod ({ cls := "PadConsoleModel", name := "once", desc := "()V" } : Jvm.MethodName)), (Jvm.Cond.instanceMethod ({ cls := "PadConsoleModel", name := "once", desc := "()V" } : Jvm.MethodName)), (Jvm.Cond.code ({ cls := "PadConsoleModel", name := "once", desc := "()V" } : Jvm.MethodName) prog_14_method_67_code (7 : Nat) (Option.none : Option Jvm.ClassFile.FieldType)), (Jvm.Cond.constantLong "PadConsoleModel" (355 : Nat) (32 : Int64)), (Jvm.Cond.methodLink "PadConsoleModel" (357 : Nat) ({ cls := "PadConsoleModel", name := "answers", desc := "()V" } : Jvm.MethodName)), (Jvm.Cond.privateMethod ({ cls := "PadConsoleModel", name := "answers", desc := "()V" } : Jvm.MethodName)), (Jvm.Cond.instanceMethod ({ cls := "PadConsoleModel", name := "answers", desc := "()V" } : Jvm.MethodName)), (Jvm.Cond.code ({ cls := "PadConsoleModel", name := "answers", desc := "()V" } : Jvm.MethodName) prog_14_method_68_code (1 : Nat) (Option.none : Option Jvm.ClassFile.FieldType)), (Jvm.Cond.methodLink "PadConsoleModel" (211 : Nat) ({ cls := "PadConsoleModel", name := "grows", desc := "()V" } : Jvm.MethodName)), (Jvm.Cond.privateMethod ({ cls := "PadConsoleModel", name := "grows", desc := "()V" } : Jvm.MethodName)), (Jvm.Cond.instanceMethod ({ cls := "PadConsoleModel", name := "grows", desc := "()V" } : Jvm.MethodName)), (Jvm.Cond.code ({ cls := "PadConsoleModel", name := "grows", desc := "()V" } : Jvm.MethodName) prog_14_method_38_code (1 : Nat) (Option.none : Option Jvm.ClassFile.FieldType)), (Jvm.Cond.methodLink "PadConsoleModel" (299 : Nat) ({ cls := "PadConsoleModel", name := "call", desc := "(I)V" } : Jvm.MethodName)), (Jvm.Cond.privateMethod ({ cls := "PadConsoleModel", name := "call", desc := "(I)V" } : Jvm.MethodName))]
noncomputable def tb10_13 : List Jvm.Cond := [(Jvm.Cond.instanceMethod ({ cls := "PadConsoleModel", name := "call", desc := "(I)V" } : Jvm.MethodName)), (Jvm.Cond.code ({ cls := "PadConsoleModel", name := "call", desc := "(I)V" } : Jvm.MethodName) prog_14_method_43_code (2 : Nat) (Option.none : Option Jvm.ClassFile.FieldType)), (Jvm.Cond.methodLink "PadConsoleModel" (214 : Nat) ({ cls := "PadConsoleModel", name := "push", desc := "(I)V" } : Jvm.MethodName)), (Jvm.Cond.privateMethod ({ cls := "PadConsoleModel", name := "push", desc := "(I)V" } : Jvm.MethodName)), (Jvm.Cond.instanceMethod ({ cls := "PadConsoleModel", name := "push", desc := "(I)V" } : Jvm.MethodName)), (Jvm.Cond.code ({ cls := "PadConsoleModel", name := "push", desc := "(I)V" } : Jvm.MethodName) prog_14_method_36_code (2 : Nat) (Option.none : Option Jvm.ClassFile.FieldType)), (Jvm.Cond.methodLink "PadConsoleModel" (169 : Nat) ({ cls := "PadConsoleModel", name := "write", desc := "(II)V" } : Jvm.MethodName)), (Jvm.Cond.privateMethod ({ cls := "PadConsoleModel", name := "write", desc := "(II)V" } : Jvm.MethodName)), (Jvm.Cond.instanceMethod ({ cls := "PadConsoleModel", name := "write", desc := "(II)V" } : Jvm.MethodName)), (Jvm.Cond.code ({ cls := "PadConsoleModel", name := "write", desc := "(II)V" } : Jvm.MethodName) prog_14_method_17_code (5 : Nat) (Option.none : Option Jvm.ClassFile.FieldType)), (Jvm.Cond.methodLink "PadConsoleModel" (154 : Nat) ({ cls := "PadConsoleModel", name := "isBattery", desc := "(I)Z" } : Jvm.MethodName)), (Jvm.Cond.privateMethod ({ cls := "PadConsoleModel", name := "isBattery", desc := "(I)Z" } : Jvm.MethodName)), (Jvm.Cond.instanceMethod ({ cls := "PadConsoleModel", name := "isBattery", desc := "(I)Z" } : Jvm.MethodName)), (Jvm.Cond.code ({ cls := "PadConsoleModel", name := "isBattery", desc := "(I)Z" } : Jvm.MethodName) prog_14_method_14_code (2 : Nat) (Option.some Jvm.ClassFile.FieldType.boolean)), (Jvm.Cond.methodLink "PadConsoleModel" (157 : Nat) ({ cls := "PadConsoleModel", name := "batteryAt", desc := "(I)I" } : Jvm.MethodName)), (Jvm.Cond.privateMethod ({ cls := "PadConsoleModel", name := "batteryAt", desc := "(I)I" } : Jvm.MethodName))]
noncomputable def tb10_14 : List Jvm.Cond := [(Jvm.Cond.instanceMethod ({ cls := "PadConsoleModel", name := "batteryAt", desc := "(I)I" } : Jvm.MethodName)), (Jvm.Cond.code ({ cls := "PadConsoleModel", name := "batteryAt", desc := "(I)I" } : Jvm.MethodName) prog_14_method_15_code (2 : Nat) (Option.some Jvm.ClassFile.FieldType.int)), (Jvm.Cond.constant "PadConsoleModel" (163 : Nat) (65532 : Int32)), (Jvm.Cond.constant "PadConsoleModel" (164 : Nat) (65533 : Int32)), (Jvm.Cond.constant "PadConsoleModel" (165 : Nat) (40960 : Int32)), (Jvm.Cond.methodLink "PadConsoleModel" (360 : Nat) ({ cls := "PadConsoleModel", name := "asks", desc := "()Z" } : Jvm.MethodName)), (Jvm.Cond.privateMethod ({ cls := "PadConsoleModel", name := "asks", desc := "()Z" } : Jvm.MethodName)), (Jvm.Cond.instanceMethod ({ cls := "PadConsoleModel", name := "asks", desc := "()Z" } : Jvm.MethodName)), (Jvm.Cond.code ({ cls := "PadConsoleModel", name := "asks", desc := "()Z" } : Jvm.MethodName) prog_14_method_74_code (1 : Nat) (Option.some Jvm.ClassFile.FieldType.boolean)), (Jvm.Cond.methodLink "PadConsoleModel" (395 : Nat) ({ cls := "PadConsoleModel", name := "bit", desc := "(II)I" } : Jvm.MethodName)), (Jvm.Cond.privateMethod ({ cls := "PadConsoleModel", name := "bit", desc := "(II)I" } : Jvm.MethodName)), (Jvm.Cond.instanceMethod ({ cls := "PadConsoleModel", name := "bit", desc := "(II)I" } : Jvm.MethodName)), (Jvm.Cond.code ({ cls := "PadConsoleModel", name := "bit", desc := "(II)I" } : Jvm.MethodName) prog_14_method_73_code (3 : Nat) (Option.some Jvm.ClassFile.FieldType.int)), (Jvm.Cond.methodLink "PadConsoleModel" (269 : Nat) ({ cls := "PadConsoleModel", name := "word", desc := "(I)I" } : Jvm.MethodName)), (Jvm.Cond.privateMethod ({ cls := "PadConsoleModel", name := "word", desc := "(I)I" } : Jvm.MethodName)), (Jvm.Cond.instanceMethod ({ cls := "PadConsoleModel", name := "word", desc := "(I)I" } : Jvm.MethodName))]
set_option maxRecDepth 100000 in
theorem tbe10 : tables_1_10 = (tb10_0 ++ (tb10_1 ++ (tb10_2 ++ (tb10_3 ++ (tb10_4 ++ (tb10_5 ++ (tb10_6 ++ (tb10_7 ++ (tb10_8 ++ (tb10_9 ++ (tb10_10 ++ (tb10_11 ++ (tb10_12 ++ (tb10_13 ++ tb10_14)))))))))))))) := rfl
theorem tm10_0 {w : Jvm.Cond} (h : w ∈ tb10_0) : w ∈ tables_1_10 := by
  rw [tbe10]
  exact (List.mem_append_left _ h)
theorem tm10_1 {w : Jvm.Cond} (h : w ∈ tb10_1) : w ∈ tables_1_10 := by
  rw [tbe10]
  exact (List.mem_append_right _ (List.mem_append_left _ h))
theorem tm10_2 {w : Jvm.Cond} (h : w ∈ tb10_2) : w ∈ tables_1_10 := by
  rw [tbe10]
  exact (List.mem_append_right _ (List.mem_append_right _ (List.mem_append_left _ h)))
theorem tm10_3 {w : Jvm.Cond} (h : w ∈ tb10_3) : w ∈ tables_1_10 := by
  rw [tbe10]
  exact (List.mem_append_right _ (List.mem_append_right _ (List.mem_append_right _ (List.mem_append_left _ h))))
theorem tm10_4 {w : Jvm.Cond} (h : w ∈ tb10_4) : w ∈ tables_1_10 := by
  rw [tbe10]
  exact (List.mem_append_right _ (List.mem_append_right _ (List.mem_append_right _ (List.mem_append_right _ (List.mem_append_left _ h)))))
theorem tm10_5 {w : Jvm.Cond} (h : w ∈ tb10_5) : w ∈ tables_1_10 := by
  rw [tbe10]
  exact (List.mem_append_right _ (List.mem_append_right _ (List.mem_append_right _ (List.mem_append_right _ (List.mem_append_right _ (List.mem_append_left _ h))))))
theorem tm10_6 {w : Jvm.Cond} (h : w ∈ tb10_6) : w ∈ tables_1_10 := by
  rw [tbe10]
  exact (List.mem_append_right _ (List.mem_append_right _ (List.mem_append_right _ (List.mem_append_right _ (List.mem_append_right _ (List.mem_append_right _ (List.mem_append_left _ h)))))))
theorem tm10_7 {w : Jvm.Cond} (h : w ∈ tb10_7) : w ∈ tables_1_10 := by
  rw [tbe10]
  exact (List.mem_append_right _ (List.mem_append_right _ (List.mem_append_right _ (List.mem_append_right _ (List.mem_append_right _ (List.mem_append_right _ (List.mem_append_right _ (List.mem_append_left _ h))))))))
theorem tm10_8 {w : Jvm.Cond} (h : w ∈ tb10_8) : w ∈ tables_1_10 := by
  rw [tbe10]
  exact (List.mem_append_right _ (List.mem_append_right _ (List.mem_append_right _ (List.mem_append_right _ (List.mem_append_right _ (List.mem_append_right _ (List.mem_append_right _ (List.mem_append_right _ (List.mem_append_left _ h)))))))))
theorem tm10_9 {w : Jvm.Cond} (h : w ∈ tb10_9) : w ∈ tables_1_10 := by
  rw [tbe10]
  exact (List.mem_append_right _ (List.mem_append_right _ (List.mem_append_right _ (List.mem_append_right _ (List.mem_append_right _ (List.mem_append_right _ (List.mem_append_right _ (List.mem_append_right _ (List.mem_append_right _ (List.mem_append_left _ h))))))))))
theorem tm10_10 {w : Jvm.Cond} (h : w ∈ tb10_10) : w ∈ tables_1_10 := by
  rw [tbe10]
  exact (List.mem_append_right _ (List.mem_append_right _ (List.mem_append_right _ (List.mem_append_right _ (List.mem_append_right _ (List.mem_append_right _ (List.mem_append_right _ (List.mem_append_right _ (List.mem_append_right _ (List.mem_append_right _ (List.mem_append_left _ h)))))))))))
theorem tm10_11 {w : Jvm.Cond} (h : w ∈ tb10_11) : w ∈ tables_1_10 := by
  rw [tbe10]
  exact (List.mem_append_right _ (List.mem_append_right _ (List.mem_append_right _ (List.mem_append_right _ (List.mem_append_right _ (List.mem_append_right _ (List.mem_append_right _ (List.mem_append_right _ (List.mem_append_right _ (List.mem_append_right _ (List.mem_append_right _ (List.mem_append_left _ h))))))))))))
theorem tm10_12 {w : Jvm.Cond} (h : w ∈ tb10_12) : w ∈ tables_1_10 := by
  rw [tbe10]
  exact (List.mem_append_right _ (List.mem_append_right _ (List.mem_append_right _ (List.mem_append_right _ (List.mem_append_right _ (List.mem_append_right _ (List.mem_append_right _ (List.mem_append_right _ (List.mem_append_right _ (List.mem_append_right _ (List.mem_append_right _ (List.mem_append_right _ (List.mem_append_left _ h)))))))))))))
theorem tm10_13 {w : Jvm.Cond} (h : w ∈ tb10_13) : w ∈ tables_1_10 := by
  rw [tbe10]
  exact (List.mem_append_right _ (List.mem_append_right _ (List.mem_append_right _ (List.mem_append_right _ (List.mem_append_right _ (List.mem_append_right _ (List.mem_append_right _ (List.mem_append_right _ (List.mem_append_right _ (List.mem_append_right _ (List.mem_append_right _ (List.mem_append_right _ (List.mem_append_right _ (List.mem_append_left _ h))))))))))))))
theorem tm10_14 {w : Jvm.Cond} (h : w ∈ tb10_14) : w ∈ tables_1_10 := by
  rw [tbe10]
  exact (List.mem_append_right _ (List.mem_append_right _ (List.mem_append_right _ (List.mem_append_right _ (List.mem_append_right _ (List.mem_append_right _ (List.mem_append_right _ (List.mem_append_right _ (List.mem_append_right _ (List.mem_append_right _ (List.mem_append_right _ (List.mem_append_right _ (List.mem_append_right _ (List.mem_append_right _ h))))))))))))))
noncomputable def tb11_0 : List Jvm.Cond := [(Jvm.Cond.code ({ cls := "PadConsoleModel", name := "word", desc := "(I)I" } : Jvm.MethodName) prog_14_method_18_code (2 : Nat) (Option.some Jvm.ClassFile.FieldType.int)), (Jvm.Cond.methodLink "PadConsoleModel" (166 : Nat) ({ cls := "PadConsoleModel", name := "read", desc := "(I)I" } : Jvm.MethodName)), (Jvm.Cond.privateMethod ({ cls := "PadConsoleModel", name := "read", desc := "(I)I" } : Jvm.MethodName)), (Jvm.Cond.instanceMethod ({ cls := "PadConsoleModel", name := "read", desc := "(I)I" } : Jvm.MethodName)), (Jvm.Cond.code ({ cls := "PadConsoleModel", name := "read", desc := "(I)I" } : Jvm.MethodName) prog_14_method_16_code (3 : Nat) (Option.some Jvm.ClassFile.FieldType.int)), (Jvm.Cond.methodLink "PadConsoleModel" (160 : Nat) ({ cls := "PadConsoleModel", name := "ofBank", desc := "(II)I" } : Jvm.MethodName)), (Jvm.Cond.privateMethod ({ cls := "PadConsoleModel", name := "ofBank", desc := "(II)I" } : Jvm.MethodName)), (Jvm.Cond.instanceMethod ({ cls := "PadConsoleModel", name := "ofBank", desc := "(II)I" } : Jvm.MethodName)), (Jvm.Cond.code ({ cls := "PadConsoleModel", name := "ofBank", desc := "(II)I" } : Jvm.MethodName) prog_14_method_13_code (3 : Nat) (Option.some Jvm.ClassFile.FieldType.int)), (Jvm.Cond.methodLink "PadConsoleModel" (364 : Nat) ({ cls := "PadConsoleModel", name := "instruction", desc := "()I" } : Jvm.MethodName)), (Jvm.Cond.privateMethod ({ cls := "PadConsoleModel", name := "instruction", desc := "()I" } : Jvm.MethodName)), (Jvm.Cond.instanceMethod ({ cls := "PadConsoleModel", name := "instruction", desc := "()I" } : Jvm.MethodName)), (Jvm.Cond.code ({ cls := "PadConsoleModel", name := "instruction", desc := "()I" } : Jvm.MethodName) prog_14_method_44_code (1 : Nat) (Option.some Jvm.ClassFile.FieldType.int)), (Jvm.Cond.methodLink "PadConsoleModel" (217 : Nat) ({ cls := "PadConsoleModel", name := "fetch", desc := "()I" } : Jvm.MethodName)), (Jvm.Cond.privateMethod ({ cls := "PadConsoleModel", name := "fetch", desc := "()I" } : Jvm.MethodName)), (Jvm.Cond.instanceMethod ({ cls := "PadConsoleModel", name := "fetch", desc := "()I" } : Jvm.MethodName))]
noncomputable def tb11_1 : List Jvm.Cond := [(Jvm.Cond.code ({ cls := "PadConsoleModel", name := "fetch", desc := "()I" } : Jvm.MethodName) prog_14_method_40_code (2 : Nat) (Option.some Jvm.ClassFile.FieldType.int)), (Jvm.Cond.methodLink "PadConsoleModel" (208 : Nat) ({ cls := "PadConsoleModel", name := "next", desc := "()I" } : Jvm.MethodName)), (Jvm.Cond.privateMethod ({ cls := "PadConsoleModel", name := "next", desc := "()I" } : Jvm.MethodName)), (Jvm.Cond.instanceMethod ({ cls := "PadConsoleModel", name := "next", desc := "()I" } : Jvm.MethodName)), (Jvm.Cond.code ({ cls := "PadConsoleModel", name := "next", desc := "()I" } : Jvm.MethodName) prog_14_method_39_code (2 : Nat) (Option.some Jvm.ClassFile.FieldType.int)), (Jvm.Cond.methodLink "PadConsoleModel" (220 : Nat) ({ cls := "PadConsoleModel", name := "plain", desc := "(I)I" } : Jvm.MethodName)), (Jvm.Cond.privateMethod ({ cls := "PadConsoleModel", name := "plain", desc := "(I)I" } : Jvm.MethodName)), (Jvm.Cond.instanceMethod ({ cls := "PadConsoleModel", name := "plain", desc := "(I)I" } : Jvm.MethodName)), (Jvm.Cond.code ({ cls := "PadConsoleModel", name := "plain", desc := "(I)I" } : Jvm.MethodName) prog_14_method_45_code (4 : Nat) (Option.some Jvm.ClassFile.FieldType.int)), (Jvm.Cond.methodLink "PadConsoleModel" (223 : Nat) ({ cls := "PadConsoleModel", name := "zero", desc := "(II)I" } : Jvm.MethodName)), (Jvm.Cond.privateMethod ({ cls := "PadConsoleModel", name := "zero", desc := "(II)I" } : Jvm.MethodName)), (Jvm.Cond.instanceMethod ({ cls := "PadConsoleModel", name := "zero", desc := "(II)I" } : Jvm.MethodName)), (Jvm.Cond.code ({ cls := "PadConsoleModel", name := "zero", desc := "(II)I" } : Jvm.MethodName) prog_14_method_48_code (7 : Nat) (Option.some Jvm.ClassFile.FieldType.int)), (Jvm.Cond.methodLink "PadConsoleModel" (244 : Nat) ({ cls := "PadConsoleModel", name := "change", desc := "(II)V" } : Jvm.MethodName)), (Jvm.Cond.privateMethod ({ cls := "PadConsoleModel", name := "change", desc := "(II)V" } : Jvm.MethodName)), (Jvm.Cond.instanceMethod ({ cls := "PadConsoleModel", name := "change", desc := "(II)V" } : Jvm.MethodName))]
noncomputable def tb11_2 : List Jvm.Cond := [(Jvm.Cond.code ({ cls := "PadConsoleModel", name := "change", desc := "(II)V" } : Jvm.MethodName) prog_14_method_47_code (4 : Nat) (Option.none : Option Jvm.ClassFile.FieldType)), (Jvm.Cond.methodLink "PadConsoleModel" (247 : Nat) ({ cls := "PadConsoleModel", name := "signed", desc := "(I)I" } : Jvm.MethodName)), (Jvm.Cond.static ({ cls := "PadConsoleModel", name := "signed", desc := "(I)I" } : Jvm.MethodName)), (Jvm.Cond.code ({ cls := "PadConsoleModel", name := "signed", desc := "(I)I" } : Jvm.MethodName) prog_14_method_42_code (1 : Nat) (Option.some Jvm.ClassFile.FieldType.int)), (Jvm.Cond.methodLink "PadConsoleModel" (250 : Nat) ({ cls := "PadConsoleModel", name := "cc", desc := "(I)Z" } : Jvm.MethodName)), (Jvm.Cond.privateMethod ({ cls := "PadConsoleModel", name := "cc", desc := "(I)Z" } : Jvm.MethodName)), (Jvm.Cond.instanceMethod ({ cls := "PadConsoleModel", name := "cc", desc := "(I)Z" } : Jvm.MethodName)), (Jvm.Cond.code ({ cls := "PadConsoleModel", name := "cc", desc := "(I)Z" } : Jvm.MethodName) prog_14_method_35_code (2 : Nat) (Option.some Jvm.ClassFile.FieldType.boolean)), (Jvm.Cond.methodLink "PadConsoleModel" (205 : Nat) ({ cls := "PadConsoleModel", name := "flag", desc := "(I)I" } : Jvm.MethodName)), (Jvm.Cond.privateMethod ({ cls := "PadConsoleModel", name := "flag", desc := "(I)I" } : Jvm.MethodName)), (Jvm.Cond.instanceMethod ({ cls := "PadConsoleModel", name := "flag", desc := "(I)I" } : Jvm.MethodName)), (Jvm.Cond.code ({ cls := "PadConsoleModel", name := "flag", desc := "(I)I" } : Jvm.MethodName) prog_14_method_31_code (2 : Nat) (Option.some Jvm.ClassFile.FieldType.int)), (Jvm.Cond.methodLink "PadConsoleModel" (253 : Nat) ({ cls := "PadConsoleModel", name := "jump", desc := "(I)V" } : Jvm.MethodName)), (Jvm.Cond.privateMethod ({ cls := "PadConsoleModel", name := "jump", desc := "(I)V" } : Jvm.MethodName)), (Jvm.Cond.instanceMethod ({ cls := "PadConsoleModel", name := "jump", desc := "(I)V" } : Jvm.MethodName)), (Jvm.Cond.code ({ cls := "PadConsoleModel", name := "jump", desc := "(I)V" } : Jvm.MethodName) prog_14_method_46_code (2 : Nat) (Option.none : Option Jvm.ClassFile.FieldType))]
noncomputable def tb11_3 : List Jvm.Cond := [(Jvm.Cond.methodLink "PadConsoleModel" (256 : Nat) ({ cls := "PadConsoleModel", name := "nextWord", desc := "()I" } : Jvm.MethodName)), (Jvm.Cond.privateMethod ({ cls := "PadConsoleModel", name := "nextWord", desc := "()I" } : Jvm.MethodName)), (Jvm.Cond.instanceMethod ({ cls := "PadConsoleModel", name := "nextWord", desc := "()I" } : Jvm.MethodName)), (Jvm.Cond.code ({ cls := "PadConsoleModel", name := "nextWord", desc := "()I" } : Jvm.MethodName) prog_14_method_41_code (2 : Nat) (Option.some Jvm.ClassFile.FieldType.int)), (Jvm.Cond.methodLink "PadConsoleModel" (259 : Nat) ({ cls := "PadConsoleModel", name := "rpTo", desc := "(II)V" } : Jvm.MethodName)), (Jvm.Cond.privateMethod ({ cls := "PadConsoleModel", name := "rpTo", desc := "(II)V" } : Jvm.MethodName)), (Jvm.Cond.instanceMethod ({ cls := "PadConsoleModel", name := "rpTo", desc := "(II)V" } : Jvm.MethodName)), (Jvm.Cond.code ({ cls := "PadConsoleModel", name := "rpTo", desc := "(II)V" } : Jvm.MethodName) prog_14_method_26_code (3 : Nat) (Option.none : Option Jvm.ClassFile.FieldType)), (Jvm.Cond.methodLink "PadConsoleModel" (180 : Nat) ({ cls := "PadConsoleModel", name := "pairTo", desc := "(II)V" } : Jvm.MethodName)), (Jvm.Cond.privateMethod ({ cls := "PadConsoleModel", name := "pairTo", desc := "(II)V" } : Jvm.MethodName)), (Jvm.Cond.instanceMethod ({ cls := "PadConsoleModel", name := "pairTo", desc := "(II)V" } : Jvm.MethodName)), (Jvm.Cond.code ({ cls := "PadConsoleModel", name := "pairTo", desc := "(II)V" } : Jvm.MethodName) prog_14_method_22_code (3 : Nat) (Option.none : Option Jvm.ClassFile.FieldType)), (Jvm.Cond.methodLink "PadConsoleModel" (187 : Nat) ({ cls := "PadConsoleModel", name := "hlTo", desc := "(I)V" } : Jvm.MethodName)), (Jvm.Cond.privateMethod ({ cls := "PadConsoleModel", name := "hlTo", desc := "(I)V" } : Jvm.MethodName)), (Jvm.Cond.instanceMethod ({ cls := "PadConsoleModel", name := "hlTo", desc := "(I)V" } : Jvm.MethodName)), (Jvm.Cond.code ({ cls := "PadConsoleModel", name := "hlTo", desc := "(I)V" } : Jvm.MethodName) prog_14_method_24_code (2 : Nat) (Option.none : Option Jvm.ClassFile.FieldType))]
noncomputable def tb11_4 : List Jvm.Cond := [(Jvm.Cond.methodLink "PadConsoleModel" (183 : Nat) ({ cls := "PadConsoleModel", name := "hl", desc := "()I" } : Jvm.MethodName)), (Jvm.Cond.privateMethod ({ cls := "PadConsoleModel", name := "hl", desc := "()I" } : Jvm.MethodName)), (Jvm.Cond.instanceMethod ({ cls := "PadConsoleModel", name := "hl", desc := "()I" } : Jvm.MethodName)), (Jvm.Cond.code ({ cls := "PadConsoleModel", name := "hl", desc := "()I" } : Jvm.MethodName) prog_14_method_23_code (1 : Nat) (Option.some Jvm.ClassFile.FieldType.int)), (Jvm.Cond.methodLink "PadConsoleModel" (177 : Nat) ({ cls := "PadConsoleModel", name := "pair", desc := "(I)I" } : Jvm.MethodName)), (Jvm.Cond.privateMethod ({ cls := "PadConsoleModel", name := "pair", desc := "(I)I" } : Jvm.MethodName)), (Jvm.Cond.instanceMethod ({ cls := "PadConsoleModel", name := "pair", desc := "(I)I" } : Jvm.MethodName)), (Jvm.Cond.code ({ cls := "PadConsoleModel", name := "pair", desc := "(I)I" } : Jvm.MethodName) prog_14_method_21_code (2 : Nat) (Option.some Jvm.ClassFile.FieldType.int)), (Jvm.Cond.methodLink "PadConsoleModel" (262 : Nat) ({ cls := "PadConsoleModel", name := "rp", desc := "(I)I" } : Jvm.MethodName)), (Jvm.Cond.privateMethod ({ cls := "PadConsoleModel", name := "rp", desc := "(I)I" } : Jvm.MethodName)), (Jvm.Cond.instanceMethod ({ cls := "PadConsoleModel", name := "rp", desc := "(I)I" } : Jvm.MethodName)), (Jvm.Cond.code ({ cls := "PadConsoleModel", name := "rp", desc := "(I)I" } : Jvm.MethodName) prog_14_method_25_code (2 : Nat) (Option.some Jvm.ClassFile.FieldType.int)), (Jvm.Cond.methodLink "PadConsoleModel" (198 : Nat) ({ cls := "PadConsoleModel", name := "put", desc := "(IZ)V" } : Jvm.MethodName)), (Jvm.Cond.privateMethod ({ cls := "PadConsoleModel", name := "put", desc := "(IZ)V" } : Jvm.MethodName)), (Jvm.Cond.instanceMethod ({ cls := "PadConsoleModel", name := "put", desc := "(IZ)V" } : Jvm.MethodName)), (Jvm.Cond.code ({ cls := "PadConsoleModel", name := "put", desc := "(IZ)V" } : Jvm.MethodName) prog_14_method_30_code (3 : Nat) (Option.none : Option Jvm.ClassFile.FieldType))]
noncomputable def tb11_5 : List Jvm.Cond := [(Jvm.Cond.methodLink "PadConsoleModel" (202 : Nat) ({ cls := "PadConsoleModel", name := "xy", desc := "(I)V" } : Jvm.MethodName)), (Jvm.Cond.privateMethod ({ cls := "PadConsoleModel", name := "xy", desc := "(I)V" } : Jvm.MethodName)), (Jvm.Cond.instanceMethod ({ cls := "PadConsoleModel", name := "xy", desc := "(I)V" } : Jvm.MethodName)), (Jvm.Cond.code ({ cls := "PadConsoleModel", name := "xy", desc := "(I)V" } : Jvm.MethodName) prog_14_method_32_code (2 : Nat) (Option.none : Option Jvm.ClassFile.FieldType)), (Jvm.Cond.methodLink "PadConsoleModel" (265 : Nat) ({ cls := "PadConsoleModel", name := "moves", desc := "(IZ)I" } : Jvm.MethodName)), (Jvm.Cond.privateMethod ({ cls := "PadConsoleModel", name := "moves", desc := "(IZ)I" } : Jvm.MethodName)), (Jvm.Cond.instanceMethod ({ cls := "PadConsoleModel", name := "moves", desc := "(IZ)I" } : Jvm.MethodName)), (Jvm.Cond.code ({ cls := "PadConsoleModel", name := "moves", desc := "(IZ)I" } : Jvm.MethodName) prog_14_method_49_code (4 : Nat) (Option.some Jvm.ClassFile.FieldType.int)), (Jvm.Cond.methodLink "PadConsoleModel" (272 : Nat) ({ cls := "PadConsoleModel", name := "wordTo", desc := "(II)V" } : Jvm.MethodName)), (Jvm.Cond.privateMethod ({ cls := "PadConsoleModel", name := "wordTo", desc := "(II)V" } : Jvm.MethodName)), (Jvm.Cond.instanceMethod ({ cls := "PadConsoleModel", name := "wordTo", desc := "(II)V" } : Jvm.MethodName)), (Jvm.Cond.code ({ cls := "PadConsoleModel", name := "wordTo", desc := "(II)V" } : Jvm.MethodName) prog_14_method_19_code (3 : Nat) (Option.none : Option Jvm.ClassFile.FieldType)), (Jvm.Cond.methodLink "PadConsoleModel" (226 : Nat) ({ cls := "PadConsoleModel", name := "singles", desc := "(II)I" } : Jvm.MethodName)), (Jvm.Cond.privateMethod ({ cls := "PadConsoleModel", name := "singles", desc := "(II)I" } : Jvm.MethodName)), (Jvm.Cond.instanceMethod ({ cls := "PadConsoleModel", name := "singles", desc := "(II)I" } : Jvm.MethodName)), (Jvm.Cond.code ({ cls := "PadConsoleModel", name := "singles", desc := "(II)I" } : Jvm.MethodName) prog_14_method_50_code (4 : Nat) (Option.some Jvm.ClassFile.FieldType.int))]
noncomputable def tb11_6 : List Jvm.Cond := [(Jvm.Cond.methodLink "PadConsoleModel" (232 : Nat) ({ cls := "PadConsoleModel", name := "rTo", desc := "(II)V" } : Jvm.MethodName)), (Jvm.Cond.privateMethod ({ cls := "PadConsoleModel", name := "rTo", desc := "(II)V" } : Jvm.MethodName)), (Jvm.Cond.instanceMethod ({ cls := "PadConsoleModel", name := "rTo", desc := "(II)V" } : Jvm.MethodName)), (Jvm.Cond.code ({ cls := "PadConsoleModel", name := "rTo", desc := "(II)V" } : Jvm.MethodName) prog_14_method_29_code (4 : Nat) (Option.none : Option Jvm.ClassFile.FieldType)), (Jvm.Cond.methodLink "PadConsoleModel" (194 : Nat) ({ cls := "PadConsoleModel", name := "m", desc := "()I" } : Jvm.MethodName)), (Jvm.Cond.privateMethod ({ cls := "PadConsoleModel", name := "m", desc := "()I" } : Jvm.MethodName)), (Jvm.Cond.instanceMethod ({ cls := "PadConsoleModel", name := "m", desc := "()I" } : Jvm.MethodName)), (Jvm.Cond.code ({ cls := "PadConsoleModel", name := "m", desc := "()I" } : Jvm.MethodName) prog_14_method_27_code (1 : Nat) (Option.some Jvm.ClassFile.FieldType.int)), (Jvm.Cond.constant "PadConsoleModel" (197 : Nat) (65280 : Int32)), (Jvm.Cond.methodLink "PadConsoleModel" (229 : Nat) ({ cls := "PadConsoleModel", name := "\x72", desc := "(I)I" } : Jvm.MethodName)), (Jvm.Cond.privateMethod ({ cls := "PadConsoleModel", name := "\x72", desc := "(I)I" } : Jvm.MethodName)), (Jvm.Cond.instanceMethod ({ cls := "PadConsoleModel", name := "\x72", desc := "(I)I" } : Jvm.MethodName)), (Jvm.Cond.code ({ cls := "PadConsoleModel", name := "\x72", desc := "(I)I" } : Jvm.MethodName) prog_14_method_28_code (2 : Nat) (Option.some Jvm.ClassFile.FieldType.int)), (Jvm.Cond.methodLink "PadConsoleModel" (275 : Nat) ({ cls := "PadConsoleModel", name := "by", desc := "(I)V" } : Jvm.MethodName)), (Jvm.Cond.privateMethod ({ cls := "PadConsoleModel", name := "by", desc := "(I)V" } : Jvm.MethodName)), (Jvm.Cond.instanceMethod ({ cls := "PadConsoleModel", name := "by", desc := "(I)V" } : Jvm.MethodName))]
noncomputable def tb11_7 : List Jvm.Cond := [(Jvm.Cond.code ({ cls := "PadConsoleModel", name := "by", desc := "(I)V" } : Jvm.MethodName) prog_14_method_33_code (2 : Nat) (Option.none : Option Jvm.ClassFile.FieldType)), (Jvm.Cond.methodLink "PadConsoleModel" (278 : Nat) ({ cls := "PadConsoleModel", name := "turned", desc := "(II)I" } : Jvm.MethodName)), (Jvm.Cond.privateMethod ({ cls := "PadConsoleModel", name := "turned", desc := "(II)I" } : Jvm.MethodName)), (Jvm.Cond.instanceMethod ({ cls := "PadConsoleModel", name := "turned", desc := "(II)I" } : Jvm.MethodName)), (Jvm.Cond.code ({ cls := "PadConsoleModel", name := "turned", desc := "(II)I" } : Jvm.MethodName) prog_14_method_52_code (6 : Nat) (Option.some Jvm.ClassFile.FieldType.int)), (Jvm.Cond.methodLink "PadConsoleModel" (281 : Nat) ({ cls := "PadConsoleModel", name := "adjusts", desc := "()V" } : Jvm.MethodName)), (Jvm.Cond.privateMethod ({ cls := "PadConsoleModel", name := "adjusts", desc := "()V" } : Jvm.MethodName)), (Jvm.Cond.instanceMethod ({ cls := "PadConsoleModel", name := "adjusts", desc := "()V" } : Jvm.MethodName)), (Jvm.Cond.code ({ cls := "PadConsoleModel", name := "adjusts", desc := "()V" } : Jvm.MethodName) prog_14_method_51_code (3 : Nat) (Option.none : Option Jvm.ClassFile.FieldType)), (Jvm.Cond.methodLink "PadConsoleModel" (284 : Nat) ({ cls := "PadConsoleModel", name := "isEven", desc := "(I)Z" } : Jvm.MethodName)), (Jvm.Cond.static ({ cls := "PadConsoleModel", name := "isEven", desc := "(I)Z" } : Jvm.MethodName)), (Jvm.Cond.code ({ cls := "PadConsoleModel", name := "isEven", desc := "(I)Z" } : Jvm.MethodName) prog_14_method_34_code (3 : Nat) (Option.some Jvm.ClassFile.FieldType.boolean)), (Jvm.Cond.methodLink "PadConsoleModel" (235 : Nat) ({ cls := "PadConsoleModel", name := "does", desc := "(II)V" } : Jvm.MethodName)), (Jvm.Cond.privateMethod ({ cls := "PadConsoleModel", name := "does", desc := "(II)V" } : Jvm.MethodName)), (Jvm.Cond.instanceMethod ({ cls := "PadConsoleModel", name := "does", desc := "(II)V" } : Jvm.MethodName)), (Jvm.Cond.code ({ cls := "PadConsoleModel", name := "does", desc := "(II)V" } : Jvm.MethodName) prog_14_method_53_code (8 : Nat) (Option.none : Option Jvm.ClassFile.FieldType))]
noncomputable def tb11_8 : List Jvm.Cond := [(Jvm.Cond.methodLink "PadConsoleModel" (238 : Nat) ({ cls := "PadConsoleModel", name := "three", desc := "(II)I" } : Jvm.MethodName)), (Jvm.Cond.privateMethod ({ cls := "PadConsoleModel", name := "three", desc := "(II)I" } : Jvm.MethodName)), (Jvm.Cond.instanceMethod ({ cls := "PadConsoleModel", name := "three", desc := "(II)I" } : Jvm.MethodName)), (Jvm.Cond.code ({ cls := "PadConsoleModel", name := "three", desc := "(II)I" } : Jvm.MethodName) prog_14_method_54_code (7 : Nat) (Option.some Jvm.ClassFile.FieldType.int)), (Jvm.Cond.methodLink "PadConsoleModel" (287 : Nat) ({ cls := "PadConsoleModel", name := "pop", desc := "()I" } : Jvm.MethodName)), (Jvm.Cond.privateMethod ({ cls := "PadConsoleModel", name := "pop", desc := "()I" } : Jvm.MethodName)), (Jvm.Cond.instanceMethod ({ cls := "PadConsoleModel", name := "pop", desc := "()I" } : Jvm.MethodName)), (Jvm.Cond.code ({ cls := "PadConsoleModel", name := "pop", desc := "()I" } : Jvm.MethodName) prog_14_method_37_code (2 : Nat) (Option.some Jvm.ClassFile.FieldType.int)), (Jvm.Cond.methodLink "PadConsoleModel" (290 : Nat) ({ cls := "PadConsoleModel", name := "turns", desc := "()I" } : Jvm.MethodName)), (Jvm.Cond.privateMethod ({ cls := "PadConsoleModel", name := "turns", desc := "()I" } : Jvm.MethodName)), (Jvm.Cond.instanceMethod ({ cls := "PadConsoleModel", name := "turns", desc := "()I" } : Jvm.MethodName)), (Jvm.Cond.code ({ cls := "PadConsoleModel", name := "turns", desc := "()I" } : Jvm.MethodName) prog_14_method_57_code (1 : Nat) (Option.some Jvm.ClassFile.FieldType.int)), (Jvm.Cond.methodLink "PadConsoleModel" (308 : Nat) ({ cls := "PadConsoleModel", name := "turn", desc := "(I)I" } : Jvm.MethodName)), (Jvm.Cond.privateMethod ({ cls := "PadConsoleModel", name := "turn", desc := "(I)I" } : Jvm.MethodName)), (Jvm.Cond.instanceMethod ({ cls := "PadConsoleModel", name := "turn", desc := "(I)I" } : Jvm.MethodName)), (Jvm.Cond.code ({ cls := "PadConsoleModel", name := "turn", desc := "(I)I" } : Jvm.MethodName) prog_14_method_58_code (7 : Nat) (Option.some Jvm.ClassFile.FieldType.int))]
noncomputable def tb11_9 : List Jvm.Cond := [(Jvm.Cond.methodLink "PadConsoleModel" (293 : Nat) ({ cls := "PadConsoleModel", name := "portTo", desc := "(II)V" } : Jvm.MethodName)), (Jvm.Cond.privateMethod ({ cls := "PadConsoleModel", name := "portTo", desc := "(II)V" } : Jvm.MethodName)), (Jvm.Cond.instanceMethod ({ cls := "PadConsoleModel", name := "portTo", desc := "(II)V" } : Jvm.MethodName)), (Jvm.Cond.code ({ cls := "PadConsoleModel", name := "portTo", desc := "(II)V" } : Jvm.MethodName) prog_14_method_66_code (6 : Nat) (Option.none : Option Jvm.ClassFile.FieldType)), (Jvm.Cond.methodLink "PadConsoleModel" (332 : Nat) ({ cls := "PadConsoleModel", name := "lineAt", desc := "(I)I" } : Jvm.MethodName)), (Jvm.Cond.privateMethod ({ cls := "PadConsoleModel", name := "lineAt", desc := "(I)I" } : Jvm.MethodName)), (Jvm.Cond.instanceMethod ({ cls := "PadConsoleModel", name := "lineAt", desc := "(I)I" } : Jvm.MethodName)), (Jvm.Cond.code ({ cls := "PadConsoleModel", name := "lineAt", desc := "(I)I" } : Jvm.MethodName) prog_14_method_63_code (2 : Nat) (Option.some Jvm.ClassFile.FieldType.int)), (Jvm.Cond.methodLink "PadConsoleModel" (339 : Nat) ({ cls := "PadConsoleModel", name := "hCount", desc := "()I" } : Jvm.MethodName)), (Jvm.Cond.privateMethod ({ cls := "PadConsoleModel", name := "hCount", desc := "()I" } : Jvm.MethodName)), (Jvm.Cond.instanceMethod ({ cls := "PadConsoleModel", name := "hCount", desc := "()I" } : Jvm.MethodName)), (Jvm.Cond.code ({ cls := "PadConsoleModel", name := "hCount", desc := "()I" } : Jvm.MethodName) prog_14_method_83_code (2 : Nat) (Option.some Jvm.ClassFile.FieldType.int)), (Jvm.Cond.methodLink "PadConsoleModel" (342 : Nat) ({ cls := "PadConsoleModel", name := "noise", desc := "(I)V" } : Jvm.MethodName)), (Jvm.Cond.privateMethod ({ cls := "PadConsoleModel", name := "noise", desc := "(I)V" } : Jvm.MethodName)), (Jvm.Cond.instanceMethod ({ cls := "PadConsoleModel", name := "noise", desc := "(I)V" } : Jvm.MethodName)), (Jvm.Cond.code ({ cls := "PadConsoleModel", name := "noise", desc := "(I)V" } : Jvm.MethodName) prog_14_method_95_code (3 : Nat) (Option.none : Option Jvm.ClassFile.FieldType))]
noncomputable def tb11_10 : List Jvm.Cond := [(Jvm.Cond.methodLink "PadConsoleModel" (345 : Nat) ({ cls := "PadConsoleModel", name := "control", desc := "(I)V" } : Jvm.MethodName)), (Jvm.Cond.privateMethod ({ cls := "PadConsoleModel", name := "control", desc := "(I)V" } : Jvm.MethodName)), (Jvm.Cond.instanceMethod ({ cls := "PadConsoleModel", name := "control", desc := "(I)V" } : Jvm.MethodName)), (Jvm.Cond.code ({ cls := "PadConsoleModel", name := "control", desc := "(I)V" } : Jvm.MethodName) prog_14_method_79_code (2 : Nat) (Option.none : Option Jvm.ClassFile.FieldType)), (Jvm.Cond.methodLink "PadConsoleModel" (401 : Nat) ({ cls := "PadConsoleModel", name := "video8", desc := "(I)I" } : Jvm.MethodName)), (Jvm.Cond.privateMethod ({ cls := "PadConsoleModel", name := "video8", desc := "(I)I" } : Jvm.MethodName)), (Jvm.Cond.instanceMethod ({ cls := "PadConsoleModel", name := "video8", desc := "(I)I" } : Jvm.MethodName)), (Jvm.Cond.code ({ cls := "PadConsoleModel", name := "video8", desc := "(I)I" } : Jvm.MethodName) prog_14_method_77_code (2 : Nat) (Option.some Jvm.ClassFile.FieldType.int)), (Jvm.Cond.methodLink "PadConsoleModel" (404 : Nat) ({ cls := "PadConsoleModel", name := "further", desc := "()V" } : Jvm.MethodName)), (Jvm.Cond.privateMethod ({ cls := "PadConsoleModel", name := "further", desc := "()V" } : Jvm.MethodName)), (Jvm.Cond.instanceMethod ({ cls := "PadConsoleModel", name := "further", desc := "()V" } : Jvm.MethodName)), (Jvm.Cond.code ({ cls := "PadConsoleModel", name := "further", desc := "()V" } : Jvm.MethodName) prog_14_method_78_code (1 : Nat) (Option.none : Option Jvm.ClassFile.FieldType)), (Jvm.Cond.methodLink "PadConsoleModel" (348 : Nat) ({ cls := "PadConsoleModel", name := "dataTo", desc := "(I)V" } : Jvm.MethodName)), (Jvm.Cond.privateMethod ({ cls := "PadConsoleModel", name := "dataTo", desc := "(I)V" } : Jvm.MethodName)), (Jvm.Cond.instanceMethod ({ cls := "PadConsoleModel", name := "dataTo", desc := "(I)V" } : Jvm.MethodName)), (Jvm.Cond.code ({ cls := "PadConsoleModel", name := "dataTo", desc := "(I)V" } : Jvm.MethodName) prog_14_method_82_code (3 : Nat) (Option.none : Option Jvm.ClassFile.FieldType))]
noncomputable def tb11_11 : List Jvm.Cond := [(Jvm.Cond.methodLink "PadConsoleModel" (296 : Nat) ({ cls := "PadConsoleModel", name := "port", desc := "(I)I" } : Jvm.MethodName)), (Jvm.Cond.privateMethod ({ cls := "PadConsoleModel", name := "port", desc := "(I)I" } : Jvm.MethodName)), (Jvm.Cond.instanceMethod ({ cls := "PadConsoleModel", name := "port", desc := "(I)I" } : Jvm.MethodName)), (Jvm.Cond.code ({ cls := "PadConsoleModel", name := "port", desc := "(I)I" } : Jvm.MethodName) prog_14_method_65_code (4 : Nat) (Option.some Jvm.ClassFile.FieldType.int)), (Jvm.Cond.methodLink "PadConsoleModel" (323 : Nat) ({ cls := "PadConsoleModel", name := "vCount", desc := "()I" } : Jvm.MethodName)), (Jvm.Cond.privateMethod ({ cls := "PadConsoleModel", name := "vCount", desc := "()I" } : Jvm.MethodName)), (Jvm.Cond.instanceMethod ({ cls := "PadConsoleModel", name := "vCount", desc := "()I" } : Jvm.MethodName)), (Jvm.Cond.code ({ cls := "PadConsoleModel", name := "vCount", desc := "()I" } : Jvm.MethodName) prog_14_method_84_code (4 : Nat) (Option.some Jvm.ClassFile.FieldType.int)), (Jvm.Cond.methodLink "PadConsoleModel" (407 : Nat) ({ cls := "PadConsoleModel", name := "height", desc := "()I" } : Jvm.MethodName)), (Jvm.Cond.privateMethod ({ cls := "PadConsoleModel", name := "height", desc := "()I" } : Jvm.MethodName)), (Jvm.Cond.instanceMethod ({ cls := "PadConsoleModel", name := "height", desc := "()I" } : Jvm.MethodName)), (Jvm.Cond.code ({ cls := "PadConsoleModel", name := "height", desc := "()I" } : Jvm.MethodName) prog_14_method_76_code (1 : Nat) (Option.some Jvm.ClassFile.FieldType.int)), (Jvm.Cond.methodLink "PadConsoleModel" (398 : Nat) ({ cls := "PadConsoleModel", name := "mode", desc := "()I" } : Jvm.MethodName)), (Jvm.Cond.privateMethod ({ cls := "PadConsoleModel", name := "mode", desc := "()I" } : Jvm.MethodName)), (Jvm.Cond.instanceMethod ({ cls := "PadConsoleModel", name := "mode", desc := "()I" } : Jvm.MethodName)), (Jvm.Cond.code ({ cls := "PadConsoleModel", name := "mode", desc := "()I" } : Jvm.MethodName) prog_14_method_75_code (1 : Nat) (Option.some Jvm.ClassFile.FieldType.int))]
noncomputable def tb11_12 : List Jvm.Cond := [(Jvm.Cond.methodLink "PadConsoleModel" (326 : Nat) ({ cls := "PadConsoleModel", name := "status", desc := "()I" } : Jvm.MethodName)), (Jvm.Cond.privateMethod ({ cls := "PadConsoleModel", name := "status", desc := "()I" } : Jvm.MethodName)), (Jvm.Cond.instanceMethod ({ cls := "PadConsoleModel", name := "status", desc := "()I" } : Jvm.MethodName)), (Jvm.Cond.code ({ cls := "PadConsoleModel", name := "status", desc := "()I" } : Jvm.MethodName) prog_14_method_80_code (2 : Nat) (Option.some Jvm.ClassFile.FieldType.int)), (Jvm.Cond.methodLink "PadConsoleModel" (329 : Nat) ({ cls := "PadConsoleModel", name := "data", desc := "()I" } : Jvm.MethodName)), (Jvm.Cond.privateMethod ({ cls := "PadConsoleModel", name := "data", desc := "()I" } : Jvm.MethodName)), (Jvm.Cond.instanceMethod ({ cls := "PadConsoleModel", name := "data", desc := "()I" } : Jvm.MethodName)), (Jvm.Cond.code ({ cls := "PadConsoleModel", name := "data", desc := "()I" } : Jvm.MethodName) prog_14_method_81_code (2 : Nat) (Option.some Jvm.ClassFile.FieldType.int)), (Jvm.Cond.methodLink "PadConsoleModel" (335 : Nat) ({ cls := "PadConsoleModel", name := "without", desc := "(III)I" } : Jvm.MethodName)), (Jvm.Cond.privateMethod ({ cls := "PadConsoleModel", name := "without", desc := "(III)I" } : Jvm.MethodName)), (Jvm.Cond.instanceMethod ({ cls := "PadConsoleModel", name := "without", desc := "(III)I" } : Jvm.MethodName)), (Jvm.Cond.code ({ cls := "PadConsoleModel", name := "without", desc := "(III)I" } : Jvm.MethodName) prog_14_method_64_code (4 : Nat) (Option.some Jvm.ClassFile.FieldType.int)), (Jvm.Cond.methodLink "PadConsoleModel" (241 : Nat) ({ cls := "PadConsoleModel", name := "more3", desc := "(II)I" } : Jvm.MethodName)), (Jvm.Cond.privateMethod ({ cls := "PadConsoleModel", name := "more3", desc := "(II)I" } : Jvm.MethodName)), (Jvm.Cond.instanceMethod ({ cls := "PadConsoleModel", name := "more3", desc := "(II)I" } : Jvm.MethodName)), (Jvm.Cond.code ({ cls := "PadConsoleModel", name := "more3", desc := "(II)I" } : Jvm.MethodName) prog_14_method_55_code (4 : Nat) (Option.some Jvm.ClassFile.FieldType.int))]
noncomputable def tb11_13 : List Jvm.Cond := [(Jvm.Cond.methodLink "PadConsoleModel" (302 : Nat) ({ cls := "PadConsoleModel", name := "more", desc := "(I)I" } : Jvm.MethodName)), (Jvm.Cond.privateMethod ({ cls := "PadConsoleModel", name := "more", desc := "(I)I" } : Jvm.MethodName)), (Jvm.Cond.instanceMethod ({ cls := "PadConsoleModel", name := "more", desc := "(I)I" } : Jvm.MethodName)), (Jvm.Cond.code ({ cls := "PadConsoleModel", name := "more", desc := "(I)I" } : Jvm.MethodName) prog_14_method_59_code (9 : Nat) (Option.some Jvm.ClassFile.FieldType.int)), (Jvm.Cond.methodLink "PadConsoleModel" (314 : Nat) ({ cls := "PadConsoleModel", name := "blocks", desc := "(II)I" } : Jvm.MethodName)), (Jvm.Cond.privateMethod ({ cls := "PadConsoleModel", name := "blocks", desc := "(II)I" } : Jvm.MethodName)), (Jvm.Cond.instanceMethod ({ cls := "PadConsoleModel", name := "blocks", desc := "(II)I" } : Jvm.MethodName)), (Jvm.Cond.code ({ cls := "PadConsoleModel", name := "blocks", desc := "(II)I" } : Jvm.MethodName) prog_14_method_62_code (8 : Nat) (Option.some Jvm.ClassFile.FieldType.int)), (Jvm.Cond.methodLink "PadConsoleModel" (317 : Nat) ({ cls := "PadConsoleModel", name := "words", desc := "(IZ)V" } : Jvm.MethodName)), (Jvm.Cond.privateMethod ({ cls := "PadConsoleModel", name := "words", desc := "(IZ)V" } : Jvm.MethodName)), (Jvm.Cond.instanceMethod ({ cls := "PadConsoleModel", name := "words", desc := "(IZ)V" } : Jvm.MethodName)), (Jvm.Cond.code ({ cls := "PadConsoleModel", name := "words", desc := "(IZ)V" } : Jvm.MethodName) prog_14_method_60_code (8 : Nat) (Option.none : Option Jvm.ClassFile.FieldType)), (Jvm.Cond.methodLink "PadConsoleModel" (320 : Nat) ({ cls := "PadConsoleModel", name := "specials", desc := "(I)I" } : Jvm.MethodName)), (Jvm.Cond.privateMethod ({ cls := "PadConsoleModel", name := "specials", desc := "(I)I" } : Jvm.MethodName)), (Jvm.Cond.instanceMethod ({ cls := "PadConsoleModel", name := "specials", desc := "(I)I" } : Jvm.MethodName)), (Jvm.Cond.code ({ cls := "PadConsoleModel", name := "specials", desc := "(I)I" } : Jvm.MethodName) prog_14_method_61_code (5 : Nat) (Option.some Jvm.ClassFile.FieldType.int))]
noncomputable def tb11_14 : List Jvm.Cond := [(Jvm.Cond.methodLink "PadConsoleModel" (305 : Nat) ({ cls := "PadConsoleModel", name := "prefixed", desc := "(I)I" } : Jvm.MethodName)), (Jvm.Cond.privateMethod ({ cls := "PadConsoleModel", name := "prefixed", desc := "(I)I" } : Jvm.MethodName)), (Jvm.Cond.instanceMethod ({ cls := "PadConsoleModel", name := "prefixed", desc := "(I)I" } : Jvm.MethodName)), (Jvm.Cond.code ({ cls := "PadConsoleModel", name := "prefixed", desc := "(I)I" } : Jvm.MethodName) prog_14_method_56_code (8 : Nat) (Option.some Jvm.ClassFile.FieldType.int)), (Jvm.Cond.methodLink "PadConsoleModel" (367 : Nat) ({ cls := "PadConsoleModel", name := "ends", desc := "()V" } : Jvm.MethodName)), (Jvm.Cond.privateMethod ({ cls := "PadConsoleModel", name := "ends", desc := "()V" } : Jvm.MethodName)), (Jvm.Cond.instanceMethod ({ cls := "PadConsoleModel", name := "ends", desc := "()V" } : Jvm.MethodName)), (Jvm.Cond.code ({ cls := "PadConsoleModel", name := "ends", desc := "()V" } : Jvm.MethodName) prog_14_method_85_code (2 : Nat) (Option.none : Option Jvm.ClassFile.FieldType)), (Jvm.Cond.methodLink "PadConsoleModel" (410 : Nat) ({ cls := "PadConsoleModel", name := "draws", desc := "(I)V" } : Jvm.MethodName)), (Jvm.Cond.privateMethod ({ cls := "PadConsoleModel", name := "draws", desc := "(I)V" } : Jvm.MethodName)), (Jvm.Cond.instanceMethod ({ cls := "PadConsoleModel", name := "draws", desc := "(I)V" } : Jvm.MethodName)), (Jvm.Cond.code ({ cls := "PadConsoleModel", name := "draws", desc := "(I)V" } : Jvm.MethodName) prog_14_method_86_code (5 : Nat) (Option.none : Option Jvm.ClassFile.FieldType)), (Jvm.Cond.methodLink "PadConsoleModel" (413 : Nat) ({ cls := "PadConsoleModel", name := "reg", desc := "(I)I" } : Jvm.MethodName)), (Jvm.Cond.privateMethod ({ cls := "PadConsoleModel", name := "reg", desc := "(I)I" } : Jvm.MethodName)), (Jvm.Cond.instanceMethod ({ cls := "PadConsoleModel", name := "reg", desc := "(I)I" } : Jvm.MethodName)), (Jvm.Cond.code ({ cls := "PadConsoleModel", name := "reg", desc := "(I)I" } : Jvm.MethodName) prog_14_method_72_code (2 : Nat) (Option.some Jvm.ClassFile.FieldType.int))]
set_option maxRecDepth 100000 in
theorem tbe11 : tables_1_11 = (tb11_0 ++ (tb11_1 ++ (tb11_2 ++ (tb11_3 ++ (tb11_4 ++ (tb11_5 ++ (tb11_6 ++ (tb11_7 ++ (tb11_8 ++ (tb11_9 ++ (tb11_10 ++ (tb11_11 ++ (tb11_12 ++ (tb11_13 ++ tb11_14)))))))))))))) := rfl
theorem tm11_0 {w : Jvm.Cond} (h : w ∈ tb11_0) : w ∈ tables_1_11 := by
  rw [tbe11]
  exact (List.mem_append_left _ h)
theorem tm11_1 {w : Jvm.Cond} (h : w ∈ tb11_1) : w ∈ tables_1_11 := by
  rw [tbe11]
  exact (List.mem_append_right _ (List.mem_append_left _ h))
theorem tm11_2 {w : Jvm.Cond} (h : w ∈ tb11_2) : w ∈ tables_1_11 := by
  rw [tbe11]
  exact (List.mem_append_right _ (List.mem_append_right _ (List.mem_append_left _ h)))
theorem tm11_3 {w : Jvm.Cond} (h : w ∈ tb11_3) : w ∈ tables_1_11 := by
  rw [tbe11]
  exact (List.mem_append_right _ (List.mem_append_right _ (List.mem_append_right _ (List.mem_append_left _ h))))
theorem tm11_4 {w : Jvm.Cond} (h : w ∈ tb11_4) : w ∈ tables_1_11 := by
  rw [tbe11]
  exact (List.mem_append_right _ (List.mem_append_right _ (List.mem_append_right _ (List.mem_append_right _ (List.mem_append_left _ h)))))
theorem tm11_5 {w : Jvm.Cond} (h : w ∈ tb11_5) : w ∈ tables_1_11 := by
  rw [tbe11]
  exact (List.mem_append_right _ (List.mem_append_right _ (List.mem_append_right _ (List.mem_append_right _ (List.mem_append_right _ (List.mem_append_left _ h))))))
theorem tm11_6 {w : Jvm.Cond} (h : w ∈ tb11_6) : w ∈ tables_1_11 := by
  rw [tbe11]
  exact (List.mem_append_right _ (List.mem_append_right _ (List.mem_append_right _ (List.mem_append_right _ (List.mem_append_right _ (List.mem_append_right _ (List.mem_append_left _ h)))))))
theorem tm11_7 {w : Jvm.Cond} (h : w ∈ tb11_7) : w ∈ tables_1_11 := by
  rw [tbe11]
  exact (List.mem_append_right _ (List.mem_append_right _ (List.mem_append_right _ (List.mem_append_right _ (List.mem_append_right _ (List.mem_append_right _ (List.mem_append_right _ (List.mem_append_left _ h))))))))
theorem tm11_8 {w : Jvm.Cond} (h : w ∈ tb11_8) : w ∈ tables_1_11 := by
  rw [tbe11]
  exact (List.mem_append_right _ (List.mem_append_right _ (List.mem_append_right _ (List.mem_append_right _ (List.mem_append_right _ (List.mem_append_right _ (List.mem_append_right _ (List.mem_append_right _ (List.mem_append_left _ h)))))))))
theorem tm11_9 {w : Jvm.Cond} (h : w ∈ tb11_9) : w ∈ tables_1_11 := by
  rw [tbe11]
  exact (List.mem_append_right _ (List.mem_append_right _ (List.mem_append_right _ (List.mem_append_right _ (List.mem_append_right _ (List.mem_append_right _ (List.mem_append_right _ (List.mem_append_right _ (List.mem_append_right _ (List.mem_append_left _ h))))))))))
theorem tm11_10 {w : Jvm.Cond} (h : w ∈ tb11_10) : w ∈ tables_1_11 := by
  rw [tbe11]
  exact (List.mem_append_right _ (List.mem_append_right _ (List.mem_append_right _ (List.mem_append_right _ (List.mem_append_right _ (List.mem_append_right _ (List.mem_append_right _ (List.mem_append_right _ (List.mem_append_right _ (List.mem_append_right _ (List.mem_append_left _ h)))))))))))
theorem tm11_11 {w : Jvm.Cond} (h : w ∈ tb11_11) : w ∈ tables_1_11 := by
  rw [tbe11]
  exact (List.mem_append_right _ (List.mem_append_right _ (List.mem_append_right _ (List.mem_append_right _ (List.mem_append_right _ (List.mem_append_right _ (List.mem_append_right _ (List.mem_append_right _ (List.mem_append_right _ (List.mem_append_right _ (List.mem_append_right _ (List.mem_append_left _ h))))))))))))
theorem tm11_12 {w : Jvm.Cond} (h : w ∈ tb11_12) : w ∈ tables_1_11 := by
  rw [tbe11]
  exact (List.mem_append_right _ (List.mem_append_right _ (List.mem_append_right _ (List.mem_append_right _ (List.mem_append_right _ (List.mem_append_right _ (List.mem_append_right _ (List.mem_append_right _ (List.mem_append_right _ (List.mem_append_right _ (List.mem_append_right _ (List.mem_append_right _ (List.mem_append_left _ h)))))))))))))
theorem tm11_13 {w : Jvm.Cond} (h : w ∈ tb11_13) : w ∈ tables_1_11 := by
  rw [tbe11]
  exact (List.mem_append_right _ (List.mem_append_right _ (List.mem_append_right _ (List.mem_append_right _ (List.mem_append_right _ (List.mem_append_right _ (List.mem_append_right _ (List.mem_append_right _ (List.mem_append_right _ (List.mem_append_right _ (List.mem_append_right _ (List.mem_append_right _ (List.mem_append_right _ (List.mem_append_left _ h))))))))))))))
theorem tm11_14 {w : Jvm.Cond} (h : w ∈ tb11_14) : w ∈ tables_1_11 := by
  rw [tbe11]
  exact (List.mem_append_right _ (List.mem_append_right _ (List.mem_append_right _ (List.mem_append_right _ (List.mem_append_right _ (List.mem_append_right _ (List.mem_append_right _ (List.mem_append_right _ (List.mem_append_right _ (List.mem_append_right _ (List.mem_append_right _ (List.mem_append_right _ (List.mem_append_right _ (List.mem_append_right _ h))))))))))))))
noncomputable def tb12_0 : List Jvm.Cond := [(Jvm.Cond.methodLink "PadConsoleModel" (419 : Nat) ({ cls := "PadConsoleModel", name := "tile", desc := "(II)V" } : Jvm.MethodName)), (Jvm.Cond.privateMethod ({ cls := "PadConsoleModel", name := "tile", desc := "(II)V" } : Jvm.MethodName)), (Jvm.Cond.instanceMethod ({ cls := "PadConsoleModel", name := "tile", desc := "(II)V" } : Jvm.MethodName)), (Jvm.Cond.code ({ cls := "PadConsoleModel", name := "tile", desc := "(II)V" } : Jvm.MethodName) prog_14_method_88_code (13 : Nat) (Option.none : Option Jvm.ClassFile.FieldType)), (Jvm.Cond.methodLink "PadConsoleModel" (434 : Nat) ({ cls := "PadConsoleModel", name := "tileDot", desc := "(III)I" } : Jvm.MethodName)), (Jvm.Cond.privateMethod ({ cls := "PadConsoleModel", name := "tileDot", desc := "(III)I" } : Jvm.MethodName)), (Jvm.Cond.instanceMethod ({ cls := "PadConsoleModel", name := "tileDot", desc := "(III)I" } : Jvm.MethodName)), (Jvm.Cond.code ({ cls := "PadConsoleModel", name := "tileDot", desc := "(III)I" } : Jvm.MethodName) prog_14_method_87_code (6 : Nat) (Option.some Jvm.ClassFile.FieldType.int)), (Jvm.Cond.methodLink "PadConsoleModel" (422 : Nat) ({ cls := "PadConsoleModel", name := "sprites", desc := "(I)V" } : Jvm.MethodName)), (Jvm.Cond.privateMethod ({ cls := "PadConsoleModel", name := "sprites", desc := "(I)V" } : Jvm.MethodName)), (Jvm.Cond.instanceMethod ({ cls := "PadConsoleModel", name := "sprites", desc := "(I)V" } : Jvm.MethodName)), (Jvm.Cond.code ({ cls := "PadConsoleModel", name := "sprites", desc := "(I)V" } : Jvm.MethodName) prog_14_method_89_code (15 : Nat) (Option.none : Option Jvm.ClassFile.FieldType)), (Jvm.Cond.methodLink "PadConsoleModel" (425 : Nat) ({ cls := "PadConsoleModel", name := "old", desc := "(II)I" } : Jvm.MethodName)), (Jvm.Cond.privateMethod ({ cls := "PadConsoleModel", name := "old", desc := "(II)I" } : Jvm.MethodName)), (Jvm.Cond.instanceMethod ({ cls := "PadConsoleModel", name := "old", desc := "(II)I" } : Jvm.MethodName)), (Jvm.Cond.code ({ cls := "PadConsoleModel", name := "old", desc := "(II)I" } : Jvm.MethodName) prog_14_method_90_code (10 : Nat) (Option.some Jvm.ClassFile.FieldType.int))]
noncomputable def tb12_1 : List Jvm.Cond := [(Jvm.Cond.methodLink "PadConsoleModel" (428 : Nat) ({ cls := "PadConsoleModel", name := "oldSprites", desc := "(I)V" } : Jvm.MethodName)), (Jvm.Cond.privateMethod ({ cls := "PadConsoleModel", name := "oldSprites", desc := "(I)V" } : Jvm.MethodName)), (Jvm.Cond.instanceMethod ({ cls := "PadConsoleModel", name := "oldSprites", desc := "(I)V" } : Jvm.MethodName)), (Jvm.Cond.code ({ cls := "PadConsoleModel", name := "oldSprites", desc := "(I)V" } : Jvm.MethodName) prog_14_method_91_code (16 : Nat) (Option.none : Option Jvm.ClassFile.FieldType)), (Jvm.Cond.methodLink "PadConsoleModel" (431 : Nat) ({ cls := "PadConsoleModel", name := "colour", desc := "(I)I" } : Jvm.MethodName)), (Jvm.Cond.privateMethod ({ cls := "PadConsoleModel", name := "colour", desc := "(I)I" } : Jvm.MethodName)), (Jvm.Cond.instanceMethod ({ cls := "PadConsoleModel", name := "colour", desc := "(I)I" } : Jvm.MethodName)), (Jvm.Cond.code ({ cls := "PadConsoleModel", name := "colour", desc := "(I)I" } : Jvm.MethodName) prog_14_method_92_code (3 : Nat) (Option.some Jvm.ClassFile.FieldType.int)), (Jvm.Cond.methodLink "PadConsoleModel" (416 : Nat) ({ cls := "PadConsoleModel", name := "planned", desc := "()V" } : Jvm.MethodName)), (Jvm.Cond.privateMethod ({ cls := "PadConsoleModel", name := "planned", desc := "()V" } : Jvm.MethodName)), (Jvm.Cond.instanceMethod ({ cls := "PadConsoleModel", name := "planned", desc := "()V" } : Jvm.MethodName)), (Jvm.Cond.code ({ cls := "PadConsoleModel", name := "planned", desc := "()V" } : Jvm.MethodName) prog_14_method_140_code (2 : Nat) (Option.none : Option Jvm.ClassFile.FieldType)), (Jvm.Cond.constantLong "PadConsoleModel" (370 : Nat) (16 : Int64)), (Jvm.Cond.methodLink "PadConsoleModel" (372 : Nat) ({ cls := "PadConsoleModel", name := "sample", desc := "()V" } : Jvm.MethodName)), (Jvm.Cond.privateMethod ({ cls := "PadConsoleModel", name := "sample", desc := "()V" } : Jvm.MethodName)), (Jvm.Cond.instanceMethod ({ cls := "PadConsoleModel", name := "sample", desc := "()V" } : Jvm.MethodName))]
noncomputable def tb12_2 : List Jvm.Cond := [(Jvm.Cond.code ({ cls := "PadConsoleModel", name := "sample", desc := "()V" } : Jvm.MethodName) prog_14_method_97_code (7 : Nat) (Option.none : Option Jvm.ClassFile.FieldType)), (Jvm.Cond.methodLink "PadConsoleModel" (437 : Nat) ({ cls := "PadConsoleModel", name := "loudness", desc := "(I)I" } : Jvm.MethodName)), (Jvm.Cond.static ({ cls := "PadConsoleModel", name := "loudness", desc := "(I)I" } : Jvm.MethodName)), (Jvm.Cond.code ({ cls := "PadConsoleModel", name := "loudness", desc := "(I)I" } : Jvm.MethodName) prog_14_method_96_code (1 : Nat) (Option.some Jvm.ClassFile.FieldType.int)), (Jvm.Cond.constantLong "PadConsoleModel" (440 : Nat) (65536 : Int64)), (Jvm.Cond.constantLong "PadConsoleModel" (375 : Nat) (72 : Int64)), (Jvm.Cond.methodLink "PadConsoleModel" (377 : Nat) ({ cls := "PadConsoleModel", name := "waves", desc := "()V" } : Jvm.MethodName)), (Jvm.Cond.privateMethod ({ cls := "PadConsoleModel", name := "waves", desc := "()V" } : Jvm.MethodName)), (Jvm.Cond.instanceMethod ({ cls := "PadConsoleModel", name := "waves", desc := "()V" } : Jvm.MethodName)), (Jvm.Cond.code ({ cls := "PadConsoleModel", name := "waves", desc := "()V" } : Jvm.MethodName) prog_14_method_125_code (5 : Nat) (Option.none : Option Jvm.ClassFile.FieldType)), (Jvm.Cond.methodLink "PadConsoleModel" (478 : Nat) ({ cls := "PadConsoleModel", name := "operator", desc := "(II)V" } : Jvm.MethodName)), (Jvm.Cond.privateMethod ({ cls := "PadConsoleModel", name := "operator", desc := "(II)V" } : Jvm.MethodName)), (Jvm.Cond.instanceMethod ({ cls := "PadConsoleModel", name := "operator", desc := "(II)V" } : Jvm.MethodName)), (Jvm.Cond.code ({ cls := "PadConsoleModel", name := "operator", desc := "(II)V" } : Jvm.MethodName) prog_14_method_126_code (9 : Nat) (Option.none : Option Jvm.ClassFile.FieldType)), (Jvm.Cond.methodLink "PadConsoleModel" (482 : Nat) ({ cls := "PadConsoleModel", name := "isOn", desc := "(II)I" } : Jvm.MethodName)), (Jvm.Cond.privateMethod ({ cls := "PadConsoleModel", name := "isOn", desc := "(II)I" } : Jvm.MethodName))]
noncomputable def tb12_3 : List Jvm.Cond := [(Jvm.Cond.instanceMethod ({ cls := "PadConsoleModel", name := "isOn", desc := "(II)I" } : Jvm.MethodName)), (Jvm.Cond.code ({ cls := "PadConsoleModel", name := "isOn", desc := "(II)I" } : Jvm.MethodName) prog_14_method_124_code (5 : Nat) (Option.some Jvm.ClassFile.FieldType.int)), (Jvm.Cond.methodLink "PadConsoleModel" (461 : Nat) ({ cls := "PadConsoleModel", name := "wreg", desc := "(I)I" } : Jvm.MethodName)), (Jvm.Cond.privateMethod ({ cls := "PadConsoleModel", name := "wreg", desc := "(I)I" } : Jvm.MethodName)), (Jvm.Cond.instanceMethod ({ cls := "PadConsoleModel", name := "wreg", desc := "(I)I" } : Jvm.MethodName)), (Jvm.Cond.code ({ cls := "PadConsoleModel", name := "wreg", desc := "(I)I" } : Jvm.MethodName) prog_14_method_120_code (2 : Nat) (Option.some Jvm.ClassFile.FieldType.int)), (Jvm.Cond.methodLink "PadConsoleModel" (464 : Nat) ({ cls := "PadConsoleModel", name := "isRhythm", desc := "(I)Z" } : Jvm.MethodName)), (Jvm.Cond.privateMethod ({ cls := "PadConsoleModel", name := "isRhythm", desc := "(I)Z" } : Jvm.MethodName)), (Jvm.Cond.instanceMethod ({ cls := "PadConsoleModel", name := "isRhythm", desc := "(I)Z" } : Jvm.MethodName)), (Jvm.Cond.code ({ cls := "PadConsoleModel", name := "isRhythm", desc := "(I)Z" } : Jvm.MethodName) prog_14_method_121_code (2 : Nat) (Option.some Jvm.ClassFile.FieldType.boolean)), (Jvm.Cond.methodLink "PadConsoleModel" (485 : Nat) ({ cls := "PadConsoleModel", name := "envelope", desc := "(III)V" } : Jvm.MethodName)), (Jvm.Cond.privateMethod ({ cls := "PadConsoleModel", name := "envelope", desc := "(III)V" } : Jvm.MethodName)), (Jvm.Cond.instanceMethod ({ cls := "PadConsoleModel", name := "envelope", desc := "(III)V" } : Jvm.MethodName)), (Jvm.Cond.code ({ cls := "PadConsoleModel", name := "envelope", desc := "(III)V" } : Jvm.MethodName) prog_14_method_131_code (16 : Nat) (Option.none : Option Jvm.ClassFile.FieldType)), (Jvm.Cond.methodLink "PadConsoleModel" (502 : Nat) ({ cls := "PadConsoleModel", name := "rate", desc := "(III)I" } : Jvm.MethodName)), (Jvm.Cond.privateMethod ({ cls := "PadConsoleModel", name := "rate", desc := "(III)I" } : Jvm.MethodName))]
noncomputable def tb12_4 : List Jvm.Cond := [(Jvm.Cond.instanceMethod ({ cls := "PadConsoleModel", name := "rate", desc := "(III)I" } : Jvm.MethodName)), (Jvm.Cond.code ({ cls := "PadConsoleModel", name := "rate", desc := "(III)I" } : Jvm.MethodName) prog_14_method_128_code (5 : Nat) (Option.some Jvm.ClassFile.FieldType.int)), (Jvm.Cond.methodLink "PadConsoleModel" (489 : Nat) ({ cls := "PadConsoleModel", name := "patchByte", desc := "(II)I" } : Jvm.MethodName)), (Jvm.Cond.privateMethod ({ cls := "PadConsoleModel", name := "patchByte", desc := "(II)I" } : Jvm.MethodName)), (Jvm.Cond.instanceMethod ({ cls := "PadConsoleModel", name := "patchByte", desc := "(II)I" } : Jvm.MethodName)), (Jvm.Cond.code ({ cls := "PadConsoleModel", name := "patchByte", desc := "(II)I" } : Jvm.MethodName) prog_14_method_123_code (5 : Nat) (Option.some Jvm.ClassFile.FieldType.int)), (Jvm.Cond.stringRef "PadConsoleModel" (467 : Nat) "71611e17d078001713411a0dd8f7231313019900f2c4112331610e07a864702732211e06e076002831221605e071001821611d078281100723212d14a272000761611b066465101741610b1885f7710713018311fae4100417c12407f8f8221261500c05c2f5204201015503c995030261418903f1e440130101180fdff86a6d01010000c8d8a74805010000f8aa5955"), (Jvm.Cond.methodLink "PadConsoleModel" (469 : Nat) ({ cls := "java/lang/String", name := "charAt", desc := "(I)C" } : Jvm.MethodName)), (Jvm.Cond.methodLink "PadConsoleModel" (475 : Nat) ({ cls := "PadConsoleModel", name := "digit", desc := "(I)I" } : Jvm.MethodName)), (Jvm.Cond.static ({ cls := "PadConsoleModel", name := "digit", desc := "(I)I" } : Jvm.MethodName)), (Jvm.Cond.code ({ cls := "PadConsoleModel", name := "digit", desc := "(I)I" } : Jvm.MethodName) prog_14_method_122_code (1 : Nat) (Option.some Jvm.ClassFile.FieldType.int)), (Jvm.Cond.methodLink "PadConsoleModel" (505 : Nat) ({ cls := "PadConsoleModel", name := "block", desc := "(I)I" } : Jvm.MethodName)), (Jvm.Cond.privateMethod ({ cls := "PadConsoleModel", name := "block", desc := "(I)I" } : Jvm.MethodName)), (Jvm.Cond.instanceMethod ({ cls := "PadConsoleModel", name := "block", desc := "(I)I" } : Jvm.MethodName)), (Jvm.Cond.code ({ cls := "PadConsoleModel", name := "block", desc := "(I)I" } : Jvm.MethodName) prog_14_method_130_code (2 : Nat) (Option.some Jvm.ClassFile.FieldType.int)), (Jvm.Cond.methodLink "PadConsoleModel" (508 : Nat) ({ cls := "PadConsoleModel", name := "f", desc := "(I)I" } : Jvm.MethodName))]
noncomputable def tb12_5 : List Jvm.Cond := [(Jvm.Cond.privateMethod ({ cls := "PadConsoleModel", name := "f", desc := "(I)I" } : Jvm.MethodName)), (Jvm.Cond.instanceMethod ({ cls := "PadConsoleModel", name := "f", desc := "(I)I" } : Jvm.MethodName)), (Jvm.Cond.code ({ cls := "PadConsoleModel", name := "f", desc := "(I)I" } : Jvm.MethodName) prog_14_method_129_code (2 : Nat) (Option.some Jvm.ClassFile.FieldType.int)), (Jvm.Cond.constantLong "PadConsoleModel" (511 : Nat) (8 : Int64)), (Jvm.Cond.methodLink "PadConsoleModel" (513 : Nat) ({ cls := "PadConsoleModel", name := "t", desc := "(II)I" } : Jvm.MethodName)), (Jvm.Cond.static ({ cls := "PadConsoleModel", name := "t", desc := "(II)I" } : Jvm.MethodName)), (Jvm.Cond.code ({ cls := "PadConsoleModel", name := "t", desc := "(II)I" } : Jvm.MethodName) prog_14_method_127_code (2 : Nat) (Option.some Jvm.ClassFile.FieldType.int)), (Jvm.Cond.constantLong "PadConsoleModel" (516 : Nat) (2 : Int64)), (Jvm.Cond.constantLong "PadConsoleModel" (518 : Nat) (4 : Int64)), (Jvm.Cond.methodLink "PadConsoleModel" (492 : Nat) ({ cls := "PadConsoleModel", name := "phase", desc := "(III)V" } : Jvm.MethodName)), (Jvm.Cond.privateMethod ({ cls := "PadConsoleModel", name := "phase", desc := "(III)V" } : Jvm.MethodName)), (Jvm.Cond.instanceMethod ({ cls := "PadConsoleModel", name := "phase", desc := "(III)V" } : Jvm.MethodName)), (Jvm.Cond.code ({ cls := "PadConsoleModel", name := "phase", desc := "(III)V" } : Jvm.MethodName) prog_14_method_132_code (10 : Nat) (Option.none : Option Jvm.ClassFile.FieldType)), (Jvm.Cond.constantLong "PadConsoleModel" (520 : Nat) (1024 : Int64)), (Jvm.Cond.constant "PadConsoleModel" (522 : Nat) (524287 : Int32)), (Jvm.Cond.methodLink "PadConsoleModel" (495 : Nat) ({ cls := "PadConsoleModel", name := "drum", desc := "(III)I" } : Jvm.MethodName))]
noncomputable def tb12_6 : List Jvm.Cond := [(Jvm.Cond.privateMethod ({ cls := "PadConsoleModel", name := "drum", desc := "(III)I" } : Jvm.MethodName)), (Jvm.Cond.instanceMethod ({ cls := "PadConsoleModel", name := "drum", desc := "(III)I" } : Jvm.MethodName)), (Jvm.Cond.code ({ cls := "PadConsoleModel", name := "drum", desc := "(III)I" } : Jvm.MethodName) prog_14_method_133_code (8 : Nat) (Option.some Jvm.ClassFile.FieldType.int)), (Jvm.Cond.methodLink "PadConsoleModel" (498 : Nat) ({ cls := "PadConsoleModel", name := "waveAt", desc := "(IIII)I" } : Jvm.MethodName)), (Jvm.Cond.privateMethod ({ cls := "PadConsoleModel", name := "waveAt", desc := "(IIII)I" } : Jvm.MethodName)), (Jvm.Cond.instanceMethod ({ cls := "PadConsoleModel", name := "waveAt", desc := "(IIII)I" } : Jvm.MethodName)), (Jvm.Cond.code ({ cls := "PadConsoleModel", name := "waveAt", desc := "(IIII)I" } : Jvm.MethodName) prog_14_method_135_code (17 : Nat) (Option.some Jvm.ClassFile.FieldType.int)), (Jvm.Cond.methodLink "PadConsoleModel" (523 : Nat) ({ cls := "PadConsoleModel", name := "kept", desc := "(I)I" } : Jvm.MethodName)), (Jvm.Cond.static ({ cls := "PadConsoleModel", name := "kept", desc := "(I)I" } : Jvm.MethodName)), (Jvm.Cond.code ({ cls := "PadConsoleModel", name := "kept", desc := "(I)I" } : Jvm.MethodName) prog_14_method_134_code (1 : Nat) (Option.some Jvm.ClassFile.FieldType.int)), (Jvm.Cond.constantLong "PadConsoleModel" (526 : Nat) (64 : Int64)), (Jvm.Cond.constantLong "PadConsoleModel" (528 : Nat) (210 : Int64)), (Jvm.Cond.fieldLink "PadConsoleModel" (530 : Nat) "PadConsoleModel" "SINE" "[I"), (Jvm.Cond.laysStatic "PadConsoleModel" "SINE" "[I"), (Jvm.Cond.fieldLink "PadConsoleModel" (533 : Nat) "PadConsoleModel" "POWER" "[I"), (Jvm.Cond.laysStatic "PadConsoleModel" "POWER" "[I")]
noncomputable def tb12_7 : List Jvm.Cond := [(Jvm.Cond.constant "PadConsoleModel" (481 : Nat) (8389120 : Int32)), (Jvm.Cond.constantLong "PadConsoleModel" (380 : Nat) (81 : Int64)), (Jvm.Cond.methodLink "PadConsoleModel" (382 : Nat) ({ cls := "PadConsoleModel", name := "mixed", desc := "()V" } : Jvm.MethodName)), (Jvm.Cond.privateMethod ({ cls := "PadConsoleModel", name := "mixed", desc := "()V" } : Jvm.MethodName)), (Jvm.Cond.instanceMethod ({ cls := "PadConsoleModel", name := "mixed", desc := "()V" } : Jvm.MethodName)), (Jvm.Cond.code ({ cls := "PadConsoleModel", name := "mixed", desc := "()V" } : Jvm.MethodName) prog_14_method_136_code (5 : Nat) (Option.none : Option Jvm.ClassFile.FieldType)), (Jvm.Cond.methodLink "PadConsoleLaw" (133 : Nat) ({ cls := "PadConsoleModel", name := "picture", desc := "(I)I" } : Jvm.MethodName)), (Jvm.Cond.instanceMethod ({ cls := "PadConsoleModel", name := "picture", desc := "(I)I" } : Jvm.MethodName)), (Jvm.Cond.selects "PadConsoleModel" ({ cls := "PadConsoleModel", name := "picture", desc := "(I)I" } : Jvm.MethodName) ({ cls := "PadConsoleModel", name := "picture", desc := "(I)I" } : Jvm.MethodName)), (Jvm.Cond.code ({ cls := "PadConsoleModel", name := "picture", desc := "(I)I" } : Jvm.MethodName) prog_14_method_71_code (5 : Nat) (Option.some Jvm.ClassFile.FieldType.int)), (Jvm.Cond.constantLong "PadConsoleModel" (393 : Nat) (3 : Int64)), (Jvm.Cond.methodLink "PadConsoleLaw" (218 : Nat) ({ cls := "PadConsoleModel", name := "dot", desc := "(II)I" } : Jvm.MethodName)), (Jvm.Cond.instanceMethod ({ cls := "PadConsoleModel", name := "dot", desc := "(II)I" } : Jvm.MethodName)), (Jvm.Cond.selects "PadConsoleModel" ({ cls := "PadConsoleModel", name := "dot", desc := "(II)I" } : Jvm.MethodName) ({ cls := "PadConsoleModel", name := "dot", desc := "(II)I" } : Jvm.MethodName)), (Jvm.Cond.code ({ cls := "PadConsoleModel", name := "dot", desc := "(II)I" } : Jvm.MethodName) prog_14_method_93_code (4 : Nat) (Option.some Jvm.ClassFile.FieldType.int)), (Jvm.Cond.methodLink "PadConsoleLaw" (221 : Nat) ({ cls := "PadConsoleModel", name := "row", desc := "(I)I" } : Jvm.MethodName))]
noncomputable def tb12_8 : List Jvm.Cond := [(Jvm.Cond.instanceMethod ({ cls := "PadConsoleModel", name := "row", desc := "(I)I" } : Jvm.MethodName)), (Jvm.Cond.selects "PadConsoleModel" ({ cls := "PadConsoleModel", name := "row", desc := "(I)I" } : Jvm.MethodName) ({ cls := "PadConsoleModel", name := "row", desc := "(I)I" } : Jvm.MethodName)), (Jvm.Cond.code ({ cls := "PadConsoleModel", name := "row", desc := "(I)I" } : Jvm.MethodName) prog_14_method_94_code (5 : Nat) (Option.some Jvm.ClassFile.FieldType.int)), (Jvm.Cond.methodLink "PadConsoleLaw" (225 : Nat) ({ cls := "PadConsoleModel", name := "hear", desc := "()J" } : Jvm.MethodName)), (Jvm.Cond.instanceMethod ({ cls := "PadConsoleModel", name := "hear", desc := "()J" } : Jvm.MethodName)), (Jvm.Cond.selects "PadConsoleModel" ({ cls := "PadConsoleModel", name := "hear", desc := "()J" } : Jvm.MethodName) ({ cls := "PadConsoleModel", name := "hear", desc := "()J" } : Jvm.MethodName)), (Jvm.Cond.code ({ cls := "PadConsoleModel", name := "hear", desc := "()J" } : Jvm.MethodName) prog_14_method_98_code (3 : Nat) (Option.some Jvm.ClassFile.FieldType.long)), (Jvm.Cond.methodLink "PadConsoleLaw" (234 : Nat) ({ cls := "PadConsoleModel", name := "sound", desc := "(I)I" } : Jvm.MethodName)), (Jvm.Cond.instanceMethod ({ cls := "PadConsoleModel", name := "sound", desc := "(I)I" } : Jvm.MethodName)), (Jvm.Cond.selects "PadConsoleModel" ({ cls := "PadConsoleModel", name := "sound", desc := "(I)I" } : Jvm.MethodName) ({ cls := "PadConsoleModel", name := "sound", desc := "(I)I" } : Jvm.MethodName)), (Jvm.Cond.code ({ cls := "PadConsoleModel", name := "sound", desc := "(I)I" } : Jvm.MethodName) prog_14_method_99_code (2 : Nat) (Option.some Jvm.ClassFile.FieldType.int)), (Jvm.Cond.constantLong "PadConsoleModel" (442 : Nat) (18 : Int64)), (Jvm.Cond.methodLink "PadConsoleLaw" (137 : Nat) ({ cls := "PadConsoleModel", name := "reset", desc := "()V" } : Jvm.MethodName)), (Jvm.Cond.instanceMethod ({ cls := "PadConsoleModel", name := "reset", desc := "()V" } : Jvm.MethodName)), (Jvm.Cond.selects "PadConsoleModel" ({ cls := "PadConsoleModel", name := "reset", desc := "()V" } : Jvm.MethodName) ({ cls := "PadConsoleModel", name := "reset", desc := "()V" } : Jvm.MethodName)), (Jvm.Cond.code ({ cls := "PadConsoleModel", name := "reset", desc := "()V" } : Jvm.MethodName) prog_14_method_100_code (1 : Nat) (Option.none : Option Jvm.ClassFile.FieldType))]
noncomputable def tb12_9 : List Jvm.Cond := [(Jvm.Cond.methodLink "PadConsoleLaw" (142 : Nat) ({ cls := "PadConsoleModel", name := "pause", desc := "()Z" } : Jvm.MethodName)), (Jvm.Cond.instanceMethod ({ cls := "PadConsoleModel", name := "pause", desc := "()Z" } : Jvm.MethodName)), (Jvm.Cond.selects "PadConsoleModel" ({ cls := "PadConsoleModel", name := "pause", desc := "()Z" } : Jvm.MethodName) ({ cls := "PadConsoleModel", name := "pause", desc := "()Z" } : Jvm.MethodName)), (Jvm.Cond.code ({ cls := "PadConsoleModel", name := "pause", desc := "()Z" } : Jvm.MethodName) prog_14_method_101_code (1 : Nat) (Option.some Jvm.ClassFile.FieldType.boolean)), (Jvm.Cond.methodLink "PadConsoleLaw" (146 : Nat) ({ cls := "PadConsoleModel", name := "press", desc := "(II)V" } : Jvm.MethodName)), (Jvm.Cond.instanceMethod ({ cls := "PadConsoleModel", name := "press", desc := "(II)V" } : Jvm.MethodName)), (Jvm.Cond.selects "PadConsoleModel" ({ cls := "PadConsoleModel", name := "press", desc := "(II)V" } : Jvm.MethodName) ({ cls := "PadConsoleModel", name := "press", desc := "(II)V" } : Jvm.MethodName)), (Jvm.Cond.code ({ cls := "PadConsoleModel", name := "press", desc := "(II)V" } : Jvm.MethodName) prog_14_method_102_code (3 : Nat) (Option.none : Option Jvm.ClassFile.FieldType)), (Jvm.Cond.constantLong "PadConsoleModel" (444 : Nat) (63 : Int64)), (Jvm.Cond.methodLink "PadConsoleLaw" (151 : Nat) ({ cls := "PadConsoleModel", name := "start", desc := "(Z)V" } : Jvm.MethodName)), (Jvm.Cond.instanceMethod ({ cls := "PadConsoleModel", name := "start", desc := "(Z)V" } : Jvm.MethodName)), (Jvm.Cond.selects "PadConsoleModel" ({ cls := "PadConsoleModel", name := "start", desc := "(Z)V" } : Jvm.MethodName) ({ cls := "PadConsoleModel", name := "start", desc := "(Z)V" } : Jvm.MethodName)), (Jvm.Cond.code ({ cls := "PadConsoleModel", name := "start", desc := "(Z)V" } : Jvm.MethodName) prog_14_method_103_code (2 : Nat) (Option.none : Option Jvm.ClassFile.FieldType)), (Jvm.Cond.methodLink "PadConsoleLaw" (155 : Nat) ({ cls := "PadConsoleModel", name := "line", desc := "(IZ)V" } : Jvm.MethodName)), (Jvm.Cond.instanceMethod ({ cls := "PadConsoleModel", name := "line", desc := "(IZ)V" } : Jvm.MethodName)), (Jvm.Cond.selects "PadConsoleModel" ({ cls := "PadConsoleModel", name := "line", desc := "(IZ)V" } : Jvm.MethodName) ({ cls := "PadConsoleModel", name := "line", desc := "(IZ)V" } : Jvm.MethodName))]
noncomputable def tb12_10 : List Jvm.Cond := [(Jvm.Cond.code ({ cls := "PadConsoleModel", name := "line", desc := "(IZ)V" } : Jvm.MethodName) prog_14_method_104_code (4 : Nat) (Option.none : Option Jvm.ClassFile.FieldType)), (Jvm.Cond.methodLink "PadConsoleLaw" (170 : Nat) ({ cls := "PadConsoleModel", name := "stop", desc := "(IZ)I" } : Jvm.MethodName)), (Jvm.Cond.instanceMethod ({ cls := "PadConsoleModel", name := "stop", desc := "(IZ)I" } : Jvm.MethodName)), (Jvm.Cond.selects "PadConsoleModel" ({ cls := "PadConsoleModel", name := "stop", desc := "(IZ)I" } : Jvm.MethodName) ({ cls := "PadConsoleModel", name := "stop", desc := "(IZ)I" } : Jvm.MethodName)), (Jvm.Cond.code ({ cls := "PadConsoleModel", name := "stop", desc := "(IZ)I" } : Jvm.MethodName) prog_14_method_105_code (5 : Nat) (Option.some Jvm.ClassFile.FieldType.int)), (Jvm.Cond.constantLong "PadConsoleModel" (446 : Nat) (65535 : Int64)), (Jvm.Cond.methodLink "PadConsoleLaw" (174 : Nat) ({ cls := "PadConsoleModel", name := "save", desc := "()V" } : Jvm.MethodName)), (Jvm.Cond.instanceMethod ({ cls := "PadConsoleModel", name := "save", desc := "()V" } : Jvm.MethodName)), (Jvm.Cond.selects "PadConsoleModel" ({ cls := "PadConsoleModel", name := "save", desc := "()V" } : Jvm.MethodName) ({ cls := "PadConsoleModel", name := "save", desc := "()V" } : Jvm.MethodName)), (Jvm.Cond.code ({ cls := "PadConsoleModel", name := "save", desc := "()V" } : Jvm.MethodName) prog_14_method_106_code (2 : Nat) (Option.none : Option Jvm.ClassFile.FieldType)), (Jvm.Cond.methodLink "PadConsoleLaw" (178 : Nat) ({ cls := "PadConsoleModel", name := "restore", desc := "()V" } : Jvm.MethodName)), (Jvm.Cond.instanceMethod ({ cls := "PadConsoleModel", name := "restore", desc := "()V" } : Jvm.MethodName)), (Jvm.Cond.selects "PadConsoleModel" ({ cls := "PadConsoleModel", name := "restore", desc := "()V" } : Jvm.MethodName) ({ cls := "PadConsoleModel", name := "restore", desc := "()V" } : Jvm.MethodName)), (Jvm.Cond.code ({ cls := "PadConsoleModel", name := "restore", desc := "()V" } : Jvm.MethodName) prog_14_method_107_code (2 : Nat) (Option.none : Option Jvm.ClassFile.FieldType)), (Jvm.Cond.methodLink "PadConsoleLaw" (181 : Nat) ({ cls := "PadConsoleModel", name := "register", desc := "(I)I" } : Jvm.MethodName)), (Jvm.Cond.instanceMethod ({ cls := "PadConsoleModel", name := "register", desc := "(I)I" } : Jvm.MethodName))]
noncomputable def tb12_11 : List Jvm.Cond := [(Jvm.Cond.selects "PadConsoleModel" ({ cls := "PadConsoleModel", name := "register", desc := "(I)I" } : Jvm.MethodName) ({ cls := "PadConsoleModel", name := "register", desc := "(I)I" } : Jvm.MethodName)), (Jvm.Cond.code ({ cls := "PadConsoleModel", name := "register", desc := "(I)I" } : Jvm.MethodName) prog_14_method_108_code (2 : Nat) (Option.some Jvm.ClassFile.FieldType.int)), (Jvm.Cond.constantLong "PadConsoleModel" (448 : Nat) (26 : Int64)), (Jvm.Cond.methodLink "PadConsoleLaw" (184 : Nat) ({ cls := "PadConsoleModel", name := "set", desc := "(II)V" } : Jvm.MethodName)), (Jvm.Cond.instanceMethod ({ cls := "PadConsoleModel", name := "set", desc := "(II)V" } : Jvm.MethodName)), (Jvm.Cond.selects "PadConsoleModel" ({ cls := "PadConsoleModel", name := "set", desc := "(II)V" } : Jvm.MethodName) ({ cls := "PadConsoleModel", name := "set", desc := "(II)V" } : Jvm.MethodName)), (Jvm.Cond.code ({ cls := "PadConsoleModel", name := "set", desc := "(II)V" } : Jvm.MethodName) prog_14_method_109_code (3 : Nat) (Option.none : Option Jvm.ClassFile.FieldType)), (Jvm.Cond.constantLong "PadConsoleModel" (450 : Nat) (25 : Int64)), (Jvm.Cond.methodLink "PadConsoleLaw" (188 : Nat) ({ cls := "PadConsoleModel", name := "peek", desc := "(I)I" } : Jvm.MethodName)), (Jvm.Cond.instanceMethod ({ cls := "PadConsoleModel", name := "peek", desc := "(I)I" } : Jvm.MethodName)), (Jvm.Cond.selects "PadConsoleModel" ({ cls := "PadConsoleModel", name := "peek", desc := "(I)I" } : Jvm.MethodName) ({ cls := "PadConsoleModel", name := "peek", desc := "(I)I" } : Jvm.MethodName)), (Jvm.Cond.code ({ cls := "PadConsoleModel", name := "peek", desc := "(I)I" } : Jvm.MethodName) prog_14_method_110_code (2 : Nat) (Option.some Jvm.ClassFile.FieldType.int)), (Jvm.Cond.methodLink "PadConsoleLaw" (192 : Nat) ({ cls := "PadConsoleModel", name := "poke", desc := "(II)V" } : Jvm.MethodName)), (Jvm.Cond.instanceMethod ({ cls := "PadConsoleModel", name := "poke", desc := "(II)V" } : Jvm.MethodName)), (Jvm.Cond.selects "PadConsoleModel" ({ cls := "PadConsoleModel", name := "poke", desc := "(II)V" } : Jvm.MethodName) ({ cls := "PadConsoleModel", name := "poke", desc := "(II)V" } : Jvm.MethodName)), (Jvm.Cond.code ({ cls := "PadConsoleModel", name := "poke", desc := "(II)V" } : Jvm.MethodName) prog_14_method_111_code (3 : Nat) (Option.none : Option Jvm.ClassFile.FieldType))]
noncomputable def tb12_12 : List Jvm.Cond := [(Jvm.Cond.methodLink "PadConsoleLaw" (196 : Nat) ({ cls := "PadConsoleModel", name := "in", desc := "(I)I" } : Jvm.MethodName)), (Jvm.Cond.instanceMethod ({ cls := "PadConsoleModel", name := "in", desc := "(I)I" } : Jvm.MethodName)), (Jvm.Cond.selects "PadConsoleModel" ({ cls := "PadConsoleModel", name := "in", desc := "(I)I" } : Jvm.MethodName) ({ cls := "PadConsoleModel", name := "in", desc := "(I)I" } : Jvm.MethodName)), (Jvm.Cond.code ({ cls := "PadConsoleModel", name := "in", desc := "(I)I" } : Jvm.MethodName) prog_14_method_112_code (2 : Nat) (Option.some Jvm.ClassFile.FieldType.int)), (Jvm.Cond.methodLink "PadConsoleLaw" (200 : Nat) ({ cls := "PadConsoleModel", name := "out", desc := "(II)V" } : Jvm.MethodName)), (Jvm.Cond.instanceMethod ({ cls := "PadConsoleModel", name := "out", desc := "(II)V" } : Jvm.MethodName)), (Jvm.Cond.selects "PadConsoleModel" ({ cls := "PadConsoleModel", name := "out", desc := "(II)V" } : Jvm.MethodName) ({ cls := "PadConsoleModel", name := "out", desc := "(II)V" } : Jvm.MethodName)), (Jvm.Cond.code ({ cls := "PadConsoleModel", name := "out", desc := "(II)V" } : Jvm.MethodName) prog_14_method_113_code (3 : Nat) (Option.none : Option Jvm.ClassFile.FieldType)), (Jvm.Cond.methodLink "PadConsoleLaw" (203 : Nat) ({ cls := "PadConsoleModel", name := "battery", desc := "(I)I" } : Jvm.MethodName)), (Jvm.Cond.instanceMethod ({ cls := "PadConsoleModel", name := "battery", desc := "(I)I" } : Jvm.MethodName)), (Jvm.Cond.selects "PadConsoleModel" ({ cls := "PadConsoleModel", name := "battery", desc := "(I)I" } : Jvm.MethodName) ({ cls := "PadConsoleModel", name := "battery", desc := "(I)I" } : Jvm.MethodName)), (Jvm.Cond.code ({ cls := "PadConsoleModel", name := "battery", desc := "(I)I" } : Jvm.MethodName) prog_14_method_114_code (2 : Nat) (Option.some Jvm.ClassFile.FieldType.int)), (Jvm.Cond.constantLong "PadConsoleModel" (452 : Nat) (32767 : Int64)), (Jvm.Cond.methodLink "PadConsoleLaw" (207 : Nat) ({ cls := "PadConsoleModel", name := "wipe", desc := "()V" } : Jvm.MethodName)), (Jvm.Cond.instanceMethod ({ cls := "PadConsoleModel", name := "wipe", desc := "()V" } : Jvm.MethodName)), (Jvm.Cond.selects "PadConsoleModel" ({ cls := "PadConsoleModel", name := "wipe", desc := "()V" } : Jvm.MethodName) ({ cls := "PadConsoleModel", name := "wipe", desc := "()V" } : Jvm.MethodName))]
noncomputable def tb12_13 : List Jvm.Cond := [(Jvm.Cond.code ({ cls := "PadConsoleModel", name := "wipe", desc := "()V" } : Jvm.MethodName) prog_14_method_115_code (2 : Nat) (Option.none : Option Jvm.ClassFile.FieldType)), (Jvm.Cond.methodLink "PadConsoleLaw" (211 : Nat) ({ cls := "PadConsoleModel", name := "video", desc := "(I)J" } : Jvm.MethodName)), (Jvm.Cond.instanceMethod ({ cls := "PadConsoleModel", name := "video", desc := "(I)J" } : Jvm.MethodName)), (Jvm.Cond.selects "PadConsoleModel" ({ cls := "PadConsoleModel", name := "video", desc := "(I)J" } : Jvm.MethodName) ({ cls := "PadConsoleModel", name := "video", desc := "(I)J" } : Jvm.MethodName)), (Jvm.Cond.code ({ cls := "PadConsoleModel", name := "video", desc := "(I)J" } : Jvm.MethodName) prog_14_method_116_code (5 : Nat) (Option.some Jvm.ClassFile.FieldType.long)), (Jvm.Cond.methodLink "PadConsoleLaw" (214 : Nat) ({ cls := "PadConsoleModel", name := "chip", desc := "(I)I" } : Jvm.MethodName)), (Jvm.Cond.instanceMethod ({ cls := "PadConsoleModel", name := "chip", desc := "(I)I" } : Jvm.MethodName)), (Jvm.Cond.selects "PadConsoleModel" ({ cls := "PadConsoleModel", name := "chip", desc := "(I)I" } : Jvm.MethodName) ({ cls := "PadConsoleModel", name := "chip", desc := "(I)I" } : Jvm.MethodName)), (Jvm.Cond.code ({ cls := "PadConsoleModel", name := "chip", desc := "(I)I" } : Jvm.MethodName) prog_14_method_117_code (2 : Nat) (Option.some Jvm.ClassFile.FieldType.int)), (Jvm.Cond.constantLong "PadConsoleModel" (454 : Nat) (95 : Int64)), (Jvm.Cond.methodLink "PadConsoleLaw" (238 : Nat) ({ cls := "PadConsoleModel", name := "trace", desc := "(I)I" } : Jvm.MethodName)), (Jvm.Cond.instanceMethod ({ cls := "PadConsoleModel", name := "trace", desc := "(I)I" } : Jvm.MethodName)), (Jvm.Cond.selects "PadConsoleModel" ({ cls := "PadConsoleModel", name := "trace", desc := "(I)I" } : Jvm.MethodName) ({ cls := "PadConsoleModel", name := "trace", desc := "(I)I" } : Jvm.MethodName)), (Jvm.Cond.code ({ cls := "PadConsoleModel", name := "trace", desc := "(I)I" } : Jvm.MethodName) prog_14_method_118_code (2 : Nat) (Option.some Jvm.ClassFile.FieldType.int)), (Jvm.Cond.constantLong "PadConsoleModel" (456 : Nat) (31 : Int64)), (Jvm.Cond.methodLink "PadConsoleLaw" (241 : Nat) ({ cls := "PadConsoleModel", name := "look", desc := "(I)J" } : Jvm.MethodName))]
noncomputable def tb12_14 : List Jvm.Cond := [(Jvm.Cond.instanceMethod ({ cls := "PadConsoleModel", name := "look", desc := "(I)J" } : Jvm.MethodName)), (Jvm.Cond.selects "PadConsoleModel" ({ cls := "PadConsoleModel", name := "look", desc := "(I)J" } : Jvm.MethodName) ({ cls := "PadConsoleModel", name := "look", desc := "(I)J" } : Jvm.MethodName)), (Jvm.Cond.code ({ cls := "PadConsoleModel", name := "look", desc := "(I)J" } : Jvm.MethodName) prog_14_method_119_code (2 : Nat) (Option.some Jvm.ClassFile.FieldType.long)), (Jvm.Cond.methodLink "PadConsoleLaw" (228 : Nat) ({ cls := "PadConsoleModel", name := "mix", desc := "()J" } : Jvm.MethodName)), (Jvm.Cond.instanceMethod ({ cls := "PadConsoleModel", name := "mix", desc := "()J" } : Jvm.MethodName)), (Jvm.Cond.selects "PadConsoleModel" ({ cls := "PadConsoleModel", name := "mix", desc := "()J" } : Jvm.MethodName) ({ cls := "PadConsoleModel", name := "mix", desc := "()J" } : Jvm.MethodName)), (Jvm.Cond.code ({ cls := "PadConsoleModel", name := "mix", desc := "()J" } : Jvm.MethodName) prog_14_method_137_code (3 : Nat) (Option.some Jvm.ClassFile.FieldType.long)), (Jvm.Cond.methodLink "PadConsoleLaw" (231 : Nat) ({ cls := "PadConsoleModel", name := "wave", desc := "(I)I" } : Jvm.MethodName)), (Jvm.Cond.instanceMethod ({ cls := "PadConsoleModel", name := "wave", desc := "(I)I" } : Jvm.MethodName)), (Jvm.Cond.selects "PadConsoleModel" ({ cls := "PadConsoleModel", name := "wave", desc := "(I)I" } : Jvm.MethodName) ({ cls := "PadConsoleModel", name := "wave", desc := "(I)I" } : Jvm.MethodName)), (Jvm.Cond.code ({ cls := "PadConsoleModel", name := "wave", desc := "(I)I" } : Jvm.MethodName) prog_14_method_138_code (2 : Nat) (Option.some Jvm.ClassFile.FieldType.int)), (Jvm.Cond.constantLong "PadConsoleModel" (536 : Nat) (67 : Int64)), (Jvm.Cond.constantLong "PadConsoleModel" (538 : Nat) (128 : Int64)), (Jvm.Cond.constantLong "PadConsoleModel" (540 : Nat) (271 : Int64)), (Jvm.Cond.methodLink "PadConsoleLaw" (159 : Nat) ({ cls := "PadConsoleModel", name := "plan", desc := "(III)I" } : Jvm.MethodName)), (Jvm.Cond.instanceMethod ({ cls := "PadConsoleModel", name := "plan", desc := "(III)I" } : Jvm.MethodName))]
set_option maxRecDepth 100000 in
theorem tbe12 : tables_1_12 = (tb12_0 ++ (tb12_1 ++ (tb12_2 ++ (tb12_3 ++ (tb12_4 ++ (tb12_5 ++ (tb12_6 ++ (tb12_7 ++ (tb12_8 ++ (tb12_9 ++ (tb12_10 ++ (tb12_11 ++ (tb12_12 ++ (tb12_13 ++ tb12_14)))))))))))))) := rfl
theorem tm12_0 {w : Jvm.Cond} (h : w ∈ tb12_0) : w ∈ tables_1_12 := by
  rw [tbe12]
  exact (List.mem_append_left _ h)
theorem tm12_1 {w : Jvm.Cond} (h : w ∈ tb12_1) : w ∈ tables_1_12 := by
  rw [tbe12]
  exact (List.mem_append_right _ (List.mem_append_left _ h))
theorem tm12_2 {w : Jvm.Cond} (h : w ∈ tb12_2) : w ∈ tables_1_12 := by
  rw [tbe12]
  exact (List.mem_append_right _ (List.mem_append_right _ (List.mem_append_left _ h)))
theorem tm12_3 {w : Jvm.Cond} (h : w ∈ tb12_3) : w ∈ tables_1_12 := by
  rw [tbe12]
  exact (List.mem_append_right _ (List.mem_append_right _ (List.mem_append_right _ (List.mem_append_left _ h))))
theorem tm12_4 {w : Jvm.Cond} (h : w ∈ tb12_4) : w ∈ tables_1_12 := by
  rw [tbe12]
  exact (List.mem_append_right _ (List.mem_append_right _ (List.mem_append_right _ (List.mem_append_right _ (List.mem_append_left _ h)))))
theorem tm12_5 {w : Jvm.Cond} (h : w ∈ tb12_5) : w ∈ tables_1_12 := by
  rw [tbe12]
  exact (List.mem_append_right _ (List.mem_append_right _ (List.mem_append_right _ (List.mem_append_right _ (List.mem_append_right _ (List.mem_append_left _ h))))))
theorem tm12_6 {w : Jvm.Cond} (h : w ∈ tb12_6) : w ∈ tables_1_12 := by
  rw [tbe12]
  exact (List.mem_append_right _ (List.mem_append_right _ (List.mem_append_right _ (List.mem_append_right _ (List.mem_append_right _ (List.mem_append_right _ (List.mem_append_left _ h)))))))
theorem tm12_7 {w : Jvm.Cond} (h : w ∈ tb12_7) : w ∈ tables_1_12 := by
  rw [tbe12]
  exact (List.mem_append_right _ (List.mem_append_right _ (List.mem_append_right _ (List.mem_append_right _ (List.mem_append_right _ (List.mem_append_right _ (List.mem_append_right _ (List.mem_append_left _ h))))))))
theorem tm12_8 {w : Jvm.Cond} (h : w ∈ tb12_8) : w ∈ tables_1_12 := by
  rw [tbe12]
  exact (List.mem_append_right _ (List.mem_append_right _ (List.mem_append_right _ (List.mem_append_right _ (List.mem_append_right _ (List.mem_append_right _ (List.mem_append_right _ (List.mem_append_right _ (List.mem_append_left _ h)))))))))
theorem tm12_9 {w : Jvm.Cond} (h : w ∈ tb12_9) : w ∈ tables_1_12 := by
  rw [tbe12]
  exact (List.mem_append_right _ (List.mem_append_right _ (List.mem_append_right _ (List.mem_append_right _ (List.mem_append_right _ (List.mem_append_right _ (List.mem_append_right _ (List.mem_append_right _ (List.mem_append_right _ (List.mem_append_left _ h))))))))))
theorem tm12_10 {w : Jvm.Cond} (h : w ∈ tb12_10) : w ∈ tables_1_12 := by
  rw [tbe12]
  exact (List.mem_append_right _ (List.mem_append_right _ (List.mem_append_right _ (List.mem_append_right _ (List.mem_append_right _ (List.mem_append_right _ (List.mem_append_right _ (List.mem_append_right _ (List.mem_append_right _ (List.mem_append_right _ (List.mem_append_left _ h)))))))))))
theorem tm12_11 {w : Jvm.Cond} (h : w ∈ tb12_11) : w ∈ tables_1_12 := by
  rw [tbe12]
  exact (List.mem_append_right _ (List.mem_append_right _ (List.mem_append_right _ (List.mem_append_right _ (List.mem_append_right _ (List.mem_append_right _ (List.mem_append_right _ (List.mem_append_right _ (List.mem_append_right _ (List.mem_append_right _ (List.mem_append_right _ (List.mem_append_left _ h))))))))))))
theorem tm12_12 {w : Jvm.Cond} (h : w ∈ tb12_12) : w ∈ tables_1_12 := by
  rw [tbe12]
  exact (List.mem_append_right _ (List.mem_append_right _ (List.mem_append_right _ (List.mem_append_right _ (List.mem_append_right _ (List.mem_append_right _ (List.mem_append_right _ (List.mem_append_right _ (List.mem_append_right _ (List.mem_append_right _ (List.mem_append_right _ (List.mem_append_right _ (List.mem_append_left _ h)))))))))))))
theorem tm12_13 {w : Jvm.Cond} (h : w ∈ tb12_13) : w ∈ tables_1_12 := by
  rw [tbe12]
  exact (List.mem_append_right _ (List.mem_append_right _ (List.mem_append_right _ (List.mem_append_right _ (List.mem_append_right _ (List.mem_append_right _ (List.mem_append_right _ (List.mem_append_right _ (List.mem_append_right _ (List.mem_append_right _ (List.mem_append_right _ (List.mem_append_right _ (List.mem_append_right _ (List.mem_append_left _ h))))))))))))))
theorem tm12_14 {w : Jvm.Cond} (h : w ∈ tb12_14) : w ∈ tables_1_12 := by
  rw [tbe12]
  exact (List.mem_append_right _ (List.mem_append_right _ (List.mem_append_right _ (List.mem_append_right _ (List.mem_append_right _ (List.mem_append_right _ (List.mem_append_right _ (List.mem_append_right _ (List.mem_append_right _ (List.mem_append_right _ (List.mem_append_right _ (List.mem_append_right _ (List.mem_append_right _ (List.mem_append_right _ h))))))))))))))
noncomputable def tb13_0 : List Jvm.Cond := [(Jvm.Cond.selects "PadConsoleModel" ({ cls := "PadConsoleModel", name := "plan", desc := "(III)I" } : Jvm.MethodName) ({ cls := "PadConsoleModel", name := "plan", desc := "(III)I" } : Jvm.MethodName)), (Jvm.Cond.code ({ cls := "PadConsoleModel", name := "plan", desc := "(III)I" } : Jvm.MethodName) prog_14_method_139_code (6 : Nat) (Option.some Jvm.ClassFile.FieldType.int)), (Jvm.Cond.methodLink "PadConsoleLaw" (163 : Nat) ({ cls := "PadConsoleModel", name := "tell", desc := "(I)I" } : Jvm.MethodName)), (Jvm.Cond.instanceMethod ({ cls := "PadConsoleModel", name := "tell", desc := "(I)I" } : Jvm.MethodName)), (Jvm.Cond.selects "PadConsoleModel" ({ cls := "PadConsoleModel", name := "tell", desc := "(I)I" } : Jvm.MethodName) ({ cls := "PadConsoleModel", name := "tell", desc := "(I)I" } : Jvm.MethodName)), (Jvm.Cond.code ({ cls := "PadConsoleModel", name := "tell", desc := "(I)I" } : Jvm.MethodName) prog_14_method_153_code (4 : Nat) (Option.some Jvm.ClassFile.FieldType.int)), (Jvm.Cond.methodLink "PadConsoleModel" (548 : Nat) ({ cls := "PadConsoleModel", name := "taken", desc := "()I" } : Jvm.MethodName)), (Jvm.Cond.privateMethod ({ cls := "PadConsoleModel", name := "taken", desc := "()I" } : Jvm.MethodName)), (Jvm.Cond.instanceMethod ({ cls := "PadConsoleModel", name := "taken", desc := "()I" } : Jvm.MethodName)), (Jvm.Cond.code ({ cls := "PadConsoleModel", name := "taken", desc := "()I" } : Jvm.MethodName) prog_14_method_143_code (2 : Nat) (Option.some Jvm.ClassFile.FieldType.int)), (Jvm.Cond.methodLink "PadConsoleModel" (643 : Nat) ({ cls := "PadConsoleModel", name := "sayPrefixed", desc := "(I)V" } : Jvm.MethodName)), (Jvm.Cond.privateMethod ({ cls := "PadConsoleModel", name := "sayPrefixed", desc := "(I)V" } : Jvm.MethodName)), (Jvm.Cond.instanceMethod ({ cls := "PadConsoleModel", name := "sayPrefixed", desc := "(I)V" } : Jvm.MethodName)), (Jvm.Cond.code ({ cls := "PadConsoleModel", name := "sayPrefixed", desc := "(I)V" } : Jvm.MethodName) prog_14_method_154_code (7 : Nat) (Option.none : Option Jvm.ClassFile.FieldType)), (Jvm.Cond.stringRef "PadConsoleModel" (655 : Nat) "nop"), (Jvm.Cond.methodLink "PadConsoleModel" (559 : Nat) ({ cls := "PadConsoleModel", name := "say", desc := "(Ljava/lang/String;)V" } : Jvm.MethodName))]
noncomputable def tb13_1 : List Jvm.Cond := [(Jvm.Cond.privateMethod ({ cls := "PadConsoleModel", name := "say", desc := "(Ljava/lang/String;)V" } : Jvm.MethodName)), (Jvm.Cond.instanceMethod ({ cls := "PadConsoleModel", name := "say", desc := "(Ljava/lang/String;)V" } : Jvm.MethodName)), (Jvm.Cond.code ({ cls := "PadConsoleModel", name := "say", desc := "(Ljava/lang/String;)V" } : Jvm.MethodName) prog_14_method_141_code (3 : Nat) (Option.none : Option Jvm.ClassFile.FieldType)), (Jvm.Cond.methodLink "PadConsoleModel" (542 : Nat) ({ cls := "java/lang/String", name := "length", desc := "()I" } : Jvm.MethodName)), (Jvm.Cond.methodLink "PadConsoleModel" (646 : Nat) ({ cls := "PadConsoleModel", name := "sayTurn", desc := "(I)V" } : Jvm.MethodName)), (Jvm.Cond.privateMethod ({ cls := "PadConsoleModel", name := "sayTurn", desc := "(I)V" } : Jvm.MethodName)), (Jvm.Cond.instanceMethod ({ cls := "PadConsoleModel", name := "sayTurn", desc := "(I)V" } : Jvm.MethodName)), (Jvm.Cond.code ({ cls := "PadConsoleModel", name := "sayTurn", desc := "(I)V" } : Jvm.MethodName) prog_14_method_155_code (3 : Nat) (Option.none : Option Jvm.ClassFile.FieldType)), (Jvm.Cond.stringRef "PadConsoleModel" (662 : Nat) "rlc "), (Jvm.Cond.stringRef "PadConsoleModel" (664 : Nat) "rrc "), (Jvm.Cond.stringRef "PadConsoleModel" (666 : Nat) "rl "), (Jvm.Cond.stringRef "PadConsoleModel" (668 : Nat) "rr "), (Jvm.Cond.stringRef "PadConsoleModel" (670 : Nat) "sla "), (Jvm.Cond.stringRef "PadConsoleModel" (672 : Nat) "sra "), (Jvm.Cond.stringRef "PadConsoleModel" (674 : Nat) "sll "), (Jvm.Cond.stringRef "PadConsoleModel" (676 : Nat) "srl ")]
noncomputable def tb13_2 : List Jvm.Cond := [(Jvm.Cond.stringRef "PadConsoleModel" (678 : Nat) "bit "), (Jvm.Cond.stringRef "PadConsoleModel" (680 : Nat) "res "), (Jvm.Cond.stringRef "PadConsoleModel" (682 : Nat) "set "), (Jvm.Cond.methodLink "PadConsoleModel" (579 : Nat) ({ cls := "PadConsoleModel", name := "hex", desc := "(II)V" } : Jvm.MethodName)), (Jvm.Cond.privateMethod ({ cls := "PadConsoleModel", name := "hex", desc := "(II)V" } : Jvm.MethodName)), (Jvm.Cond.instanceMethod ({ cls := "PadConsoleModel", name := "hex", desc := "(II)V" } : Jvm.MethodName)), (Jvm.Cond.code ({ cls := "PadConsoleModel", name := "hex", desc := "(II)V" } : Jvm.MethodName) prog_14_method_142_code (5 : Nat) (Option.none : Option Jvm.ClassFile.FieldType)), (Jvm.Cond.stringRef "PadConsoleModel" (657 : Nat) ","), (Jvm.Cond.methodLink "PadConsoleModel" (659 : Nat) ({ cls := "PadConsoleModel", name := "sayR", desc := "(I)V" } : Jvm.MethodName)), (Jvm.Cond.privateMethod ({ cls := "PadConsoleModel", name := "sayR", desc := "(I)V" } : Jvm.MethodName)), (Jvm.Cond.instanceMethod ({ cls := "PadConsoleModel", name := "sayR", desc := "(I)V" } : Jvm.MethodName)), (Jvm.Cond.code ({ cls := "PadConsoleModel", name := "sayR", desc := "(I)V" } : Jvm.MethodName) prog_14_method_147_code (2 : Nat) (Option.none : Option Jvm.ClassFile.FieldType)), (Jvm.Cond.methodLink "PadConsoleModel" (584 : Nat) ({ cls := "PadConsoleModel", name := "sayPlace", desc := "()V" } : Jvm.MethodName)), (Jvm.Cond.privateMethod ({ cls := "PadConsoleModel", name := "sayPlace", desc := "()V" } : Jvm.MethodName)), (Jvm.Cond.instanceMethod ({ cls := "PadConsoleModel", name := "sayPlace", desc := "()V" } : Jvm.MethodName)), (Jvm.Cond.code ({ cls := "PadConsoleModel", name := "sayPlace", desc := "()V" } : Jvm.MethodName) prog_14_method_146_code (1 : Nat) (Option.none : Option Jvm.ClassFile.FieldType))]
noncomputable def tb13_3 : List Jvm.Cond := [(Jvm.Cond.stringRef "PadConsoleModel" (566 : Nat) "(hl)"), (Jvm.Cond.stringRef "PadConsoleModel" (568 : Nat) "(ix"), (Jvm.Cond.stringRef "PadConsoleModel" (570 : Nat) "(iy"), (Jvm.Cond.stringRef "PadConsoleModel" (575 : Nat) "-"), (Jvm.Cond.stringRef "PadConsoleModel" (577 : Nat) "+"), (Jvm.Cond.stringRef "PadConsoleModel" (582 : Nat) ")"), (Jvm.Cond.methodLink "PadConsoleModel" (587 : Nat) ({ cls := "PadConsoleModel", name := "sayHl", desc := "()V" } : Jvm.MethodName)), (Jvm.Cond.privateMethod ({ cls := "PadConsoleModel", name := "sayHl", desc := "()V" } : Jvm.MethodName)), (Jvm.Cond.instanceMethod ({ cls := "PadConsoleModel", name := "sayHl", desc := "()V" } : Jvm.MethodName)), (Jvm.Cond.code ({ cls := "PadConsoleModel", name := "sayHl", desc := "()V" } : Jvm.MethodName) prog_14_method_145_code (1 : Nat) (Option.none : Option Jvm.ClassFile.FieldType)), (Jvm.Cond.stringRef "PadConsoleModel" (554 : Nat) "hl"), (Jvm.Cond.stringRef "PadConsoleModel" (555 : Nat) "ix"), (Jvm.Cond.stringRef "PadConsoleModel" (557 : Nat) "iy"), (Jvm.Cond.stringRef "PadConsoleModel" (590 : Nat) "b"), (Jvm.Cond.stringRef "PadConsoleModel" (592 : Nat) "c"), (Jvm.Cond.stringRef "PadConsoleModel" (594 : Nat) "d")]
noncomputable def tb13_4 : List Jvm.Cond := [(Jvm.Cond.stringRef "PadConsoleModel" (596 : Nat) "e"), (Jvm.Cond.stringRef "PadConsoleModel" (598 : Nat) "h"), (Jvm.Cond.stringRef "PadConsoleModel" (600 : Nat) "l"), (Jvm.Cond.stringRef "PadConsoleModel" (602 : Nat) "a"), (Jvm.Cond.methodLink "PadConsoleModel" (652 : Nat) ({ cls := "PadConsoleModel", name := "sayPlain", desc := "(I)V" } : Jvm.MethodName)), (Jvm.Cond.privateMethod ({ cls := "PadConsoleModel", name := "sayPlain", desc := "(I)V" } : Jvm.MethodName)), (Jvm.Cond.instanceMethod ({ cls := "PadConsoleModel", name := "sayPlain", desc := "(I)V" } : Jvm.MethodName)), (Jvm.Cond.code ({ cls := "PadConsoleModel", name := "sayPlain", desc := "(I)V" } : Jvm.MethodName) prog_14_method_156_code (4 : Nat) (Option.none : Option Jvm.ClassFile.FieldType)), (Jvm.Cond.methodLink "PadConsoleModel" (684 : Nat) ({ cls := "PadConsoleModel", name := "sayZero", desc := "(II)V" } : Jvm.MethodName)), (Jvm.Cond.privateMethod ({ cls := "PadConsoleModel", name := "sayZero", desc := "(II)V" } : Jvm.MethodName)), (Jvm.Cond.instanceMethod ({ cls := "PadConsoleModel", name := "sayZero", desc := "(II)V" } : Jvm.MethodName)), (Jvm.Cond.code ({ cls := "PadConsoleModel", name := "sayZero", desc := "(II)V" } : Jvm.MethodName) prog_14_method_157_code (5 : Nat) (Option.none : Option Jvm.ClassFile.FieldType)), (Jvm.Cond.stringRef "PadConsoleModel" (703 : Nat) "ex af,af2"), (Jvm.Cond.stringRef "PadConsoleModel" (705 : Nat) "djnz "), (Jvm.Cond.stringRef "PadConsoleModel" (707 : Nat) "jr "), (Jvm.Cond.methodLink "PadConsoleModel" (709 : Nat) ({ cls := "PadConsoleModel", name := "sayCc", desc := "(I)V" } : Jvm.MethodName))]
noncomputable def tb13_5 : List Jvm.Cond := [(Jvm.Cond.privateMethod ({ cls := "PadConsoleModel", name := "sayCc", desc := "(I)V" } : Jvm.MethodName)), (Jvm.Cond.instanceMethod ({ cls := "PadConsoleModel", name := "sayCc", desc := "(I)V" } : Jvm.MethodName)), (Jvm.Cond.code ({ cls := "PadConsoleModel", name := "sayCc", desc := "(I)V" } : Jvm.MethodName) prog_14_method_149_code (2 : Nat) (Option.none : Option Jvm.ClassFile.FieldType)), (Jvm.Cond.stringRef "PadConsoleModel" (612 : Nat) "nz"), (Jvm.Cond.stringRef "PadConsoleModel" (614 : Nat) "z"), (Jvm.Cond.stringRef "PadConsoleModel" (616 : Nat) "nc"), (Jvm.Cond.stringRef "PadConsoleModel" (618 : Nat) "po"), (Jvm.Cond.stringRef "PadConsoleModel" (620 : Nat) "pe"), (Jvm.Cond.stringRef "PadConsoleModel" (622 : Nat) "p"), (Jvm.Cond.stringRef "PadConsoleModel" (624 : Nat) "m"), (Jvm.Cond.methodLink "PadConsoleModel" (712 : Nat) ({ cls := "PadConsoleModel", name := "sayJump", desc := "()V" } : Jvm.MethodName)), (Jvm.Cond.privateMethod ({ cls := "PadConsoleModel", name := "sayJump", desc := "()V" } : Jvm.MethodName)), (Jvm.Cond.instanceMethod ({ cls := "PadConsoleModel", name := "sayJump", desc := "()V" } : Jvm.MethodName)), (Jvm.Cond.code ({ cls := "PadConsoleModel", name := "sayJump", desc := "()V" } : Jvm.MethodName) prog_14_method_151_code (2 : Nat) (Option.none : Option Jvm.ClassFile.FieldType)), (Jvm.Cond.stringRef "PadConsoleModel" (627 : Nat) "add "), (Jvm.Cond.stringRef "PadConsoleModel" (692 : Nat) "ld ")]
noncomputable def tb13_6 : List Jvm.Cond := [(Jvm.Cond.methodLink "PadConsoleModel" (715 : Nat) ({ cls := "PadConsoleModel", name := "sayRp", desc := "(IZ)V" } : Jvm.MethodName)), (Jvm.Cond.privateMethod ({ cls := "PadConsoleModel", name := "sayRp", desc := "(IZ)V" } : Jvm.MethodName)), (Jvm.Cond.instanceMethod ({ cls := "PadConsoleModel", name := "sayRp", desc := "(IZ)V" } : Jvm.MethodName)), (Jvm.Cond.code ({ cls := "PadConsoleModel", name := "sayRp", desc := "(IZ)V" } : Jvm.MethodName) prog_14_method_148_code (3 : Nat) (Option.none : Option Jvm.ClassFile.FieldType)), (Jvm.Cond.stringRef "PadConsoleModel" (604 : Nat) "bc"), (Jvm.Cond.stringRef "PadConsoleModel" (606 : Nat) "de"), (Jvm.Cond.stringRef "PadConsoleModel" (608 : Nat) "af"), (Jvm.Cond.stringRef "PadConsoleModel" (610 : Nat) "sp"), (Jvm.Cond.methodLink "PadConsoleModel" (718 : Nat) ({ cls := "PadConsoleModel", name := "takenWord", desc := "()I" } : Jvm.MethodName)), (Jvm.Cond.privateMethod ({ cls := "PadConsoleModel", name := "takenWord", desc := "()I" } : Jvm.MethodName)), (Jvm.Cond.instanceMethod ({ cls := "PadConsoleModel", name := "takenWord", desc := "()I" } : Jvm.MethodName)), (Jvm.Cond.code ({ cls := "PadConsoleModel", name := "takenWord", desc := "()I" } : Jvm.MethodName) prog_14_method_144_code (2 : Nat) (Option.some Jvm.ClassFile.FieldType.int)), (Jvm.Cond.stringRef "PadConsoleModel" (721 : Nat) "dec "), (Jvm.Cond.stringRef "PadConsoleModel" (723 : Nat) "inc "), (Jvm.Cond.stringRef "PadConsoleModel" (725 : Nat) "(bc)"), (Jvm.Cond.stringRef "PadConsoleModel" (727 : Nat) "(de)")]
noncomputable def tb13_7 : List Jvm.Cond := [(Jvm.Cond.methodLink "PadConsoleModel" (729 : Nat) ({ cls := "PadConsoleModel", name := "sayPlaced", desc := "(I)V" } : Jvm.MethodName)), (Jvm.Cond.privateMethod ({ cls := "PadConsoleModel", name := "sayPlaced", desc := "(I)V" } : Jvm.MethodName)), (Jvm.Cond.instanceMethod ({ cls := "PadConsoleModel", name := "sayPlaced", desc := "(I)V" } : Jvm.MethodName)), (Jvm.Cond.code ({ cls := "PadConsoleModel", name := "sayPlaced", desc := "(I)V" } : Jvm.MethodName) prog_14_method_150_code (2 : Nat) (Option.none : Option Jvm.ClassFile.FieldType)), (Jvm.Cond.stringRef "PadConsoleModel" (625 : Nat) "("), (Jvm.Cond.methodLink "PadConsoleModel" (687 : Nat) ({ cls := "PadConsoleModel", name := "saySingle", desc := "(II)V" } : Jvm.MethodName)), (Jvm.Cond.privateMethod ({ cls := "PadConsoleModel", name := "saySingle", desc := "(II)V" } : Jvm.MethodName)), (Jvm.Cond.instanceMethod ({ cls := "PadConsoleModel", name := "saySingle", desc := "(II)V" } : Jvm.MethodName)), (Jvm.Cond.code ({ cls := "PadConsoleModel", name := "saySingle", desc := "(II)V" } : Jvm.MethodName) prog_14_method_158_code (3 : Nat) (Option.none : Option Jvm.ClassFile.FieldType)), (Jvm.Cond.stringRef "PadConsoleModel" (732 : Nat) "rlca"), (Jvm.Cond.stringRef "PadConsoleModel" (734 : Nat) "rrca"), (Jvm.Cond.stringRef "PadConsoleModel" (736 : Nat) "rla"), (Jvm.Cond.stringRef "PadConsoleModel" (738 : Nat) "rra"), (Jvm.Cond.stringRef "PadConsoleModel" (740 : Nat) "daa"), (Jvm.Cond.stringRef "PadConsoleModel" (742 : Nat) "cpl"), (Jvm.Cond.stringRef "PadConsoleModel" (744 : Nat) "scf")]
noncomputable def tb13_8 : List Jvm.Cond := [(Jvm.Cond.stringRef "PadConsoleModel" (746 : Nat) "ccf"), (Jvm.Cond.stringRef "PadConsoleModel" (690 : Nat) "halt"), (Jvm.Cond.methodLink "PadConsoleModel" (694 : Nat) ({ cls := "PadConsoleModel", name := "sayDo", desc := "(I)V" } : Jvm.MethodName)), (Jvm.Cond.privateMethod ({ cls := "PadConsoleModel", name := "sayDo", desc := "(I)V" } : Jvm.MethodName)), (Jvm.Cond.instanceMethod ({ cls := "PadConsoleModel", name := "sayDo", desc := "(I)V" } : Jvm.MethodName)), (Jvm.Cond.code ({ cls := "PadConsoleModel", name := "sayDo", desc := "(I)V" } : Jvm.MethodName) prog_14_method_152_code (2 : Nat) (Option.none : Option Jvm.ClassFile.FieldType)), (Jvm.Cond.stringRef "PadConsoleModel" (629 : Nat) "adc "), (Jvm.Cond.stringRef "PadConsoleModel" (631 : Nat) "sub "), (Jvm.Cond.stringRef "PadConsoleModel" (633 : Nat) "sbc "), (Jvm.Cond.stringRef "PadConsoleModel" (635 : Nat) "and "), (Jvm.Cond.stringRef "PadConsoleModel" (637 : Nat) "xor "), (Jvm.Cond.stringRef "PadConsoleModel" (639 : Nat) "or "), (Jvm.Cond.stringRef "PadConsoleModel" (641 : Nat) "cp "), (Jvm.Cond.methodLink "PadConsoleModel" (697 : Nat) ({ cls := "PadConsoleModel", name := "sayThree", desc := "(II)V" } : Jvm.MethodName)), (Jvm.Cond.privateMethod ({ cls := "PadConsoleModel", name := "sayThree", desc := "(II)V" } : Jvm.MethodName)), (Jvm.Cond.instanceMethod ({ cls := "PadConsoleModel", name := "sayThree", desc := "(II)V" } : Jvm.MethodName))]
noncomputable def tb13_9 : List Jvm.Cond := [(Jvm.Cond.code ({ cls := "PadConsoleModel", name := "sayThree", desc := "(II)V" } : Jvm.MethodName) prog_14_method_159_code (4 : Nat) (Option.none : Option Jvm.ClassFile.FieldType)), (Jvm.Cond.stringRef "PadConsoleModel" (748 : Nat) "ret "), (Jvm.Cond.stringRef "PadConsoleModel" (750 : Nat) "pop "), (Jvm.Cond.stringRef "PadConsoleModel" (752 : Nat) "ret"), (Jvm.Cond.stringRef "PadConsoleModel" (754 : Nat) "exx"), (Jvm.Cond.stringRef "PadConsoleModel" (756 : Nat) "jp ("), (Jvm.Cond.stringRef "PadConsoleModel" (758 : Nat) "ld sp,"), (Jvm.Cond.stringRef "PadConsoleModel" (760 : Nat) "jp "), (Jvm.Cond.stringRef "PadConsoleModel" (762 : Nat) "out ("), (Jvm.Cond.stringRef "PadConsoleModel" (764 : Nat) "in a,("), (Jvm.Cond.stringRef "PadConsoleModel" (766 : Nat) "),a"), (Jvm.Cond.stringRef "PadConsoleModel" (768 : Nat) "ex (sp),"), (Jvm.Cond.stringRef "PadConsoleModel" (770 : Nat) "ex de,hl"), (Jvm.Cond.stringRef "PadConsoleModel" (772 : Nat) "di"), (Jvm.Cond.stringRef "PadConsoleModel" (774 : Nat) "ei"), (Jvm.Cond.methodLink "PadConsoleModel" (700 : Nat) ({ cls := "PadConsoleModel", name := "sayLast", desc := "(II)V" } : Jvm.MethodName))]
noncomputable def tb13_10 : List Jvm.Cond := [(Jvm.Cond.privateMethod ({ cls := "PadConsoleModel", name := "sayLast", desc := "(II)V" } : Jvm.MethodName)), (Jvm.Cond.instanceMethod ({ cls := "PadConsoleModel", name := "sayLast", desc := "(II)V" } : Jvm.MethodName)), (Jvm.Cond.code ({ cls := "PadConsoleModel", name := "sayLast", desc := "(II)V" } : Jvm.MethodName) prog_14_method_160_code (4 : Nat) (Option.none : Option Jvm.ClassFile.FieldType)), (Jvm.Cond.stringRef "PadConsoleModel" (776 : Nat) "call "), (Jvm.Cond.stringRef "PadConsoleModel" (778 : Nat) "push "), (Jvm.Cond.stringRef "PadConsoleModel" (780 : Nat) "rst "), (Jvm.Cond.methodLink "PadConsoleModel" (649 : Nat) ({ cls := "PadConsoleModel", name := "sayMore", desc := "(I)V" } : Jvm.MethodName)), (Jvm.Cond.privateMethod ({ cls := "PadConsoleModel", name := "sayMore", desc := "(I)V" } : Jvm.MethodName)), (Jvm.Cond.instanceMethod ({ cls := "PadConsoleModel", name := "sayMore", desc := "(I)V" } : Jvm.MethodName)), (Jvm.Cond.code ({ cls := "PadConsoleModel", name := "sayMore", desc := "(I)V" } : Jvm.MethodName) prog_14_method_161_code (6 : Nat) (Option.none : Option Jvm.ClassFile.FieldType)), (Jvm.Cond.stringRef "PadConsoleModel" (782 : Nat) "ld"), (Jvm.Cond.stringRef "PadConsoleModel" (784 : Nat) "cp"), (Jvm.Cond.stringRef "PadConsoleModel" (786 : Nat) "in"), (Jvm.Cond.stringRef "PadConsoleModel" (788 : Nat) "out"), (Jvm.Cond.stringRef "PadConsoleModel" (790 : Nat) "ot"), (Jvm.Cond.stringRef "PadConsoleModel" (792 : Nat) "i")]
noncomputable def tb13_11 : List Jvm.Cond := [(Jvm.Cond.stringRef "PadConsoleModel" (794 : Nat) "\x72"), (Jvm.Cond.stringRef "PadConsoleModel" (795 : Nat) "in "), (Jvm.Cond.stringRef "PadConsoleModel" (797 : Nat) "(c)"), (Jvm.Cond.stringRef "PadConsoleModel" (799 : Nat) "out (c),"), (Jvm.Cond.stringRef "PadConsoleModel" (801 : Nat) "0"), (Jvm.Cond.stringRef "PadConsoleModel" (803 : Nat) "sbc hl,"), (Jvm.Cond.stringRef "PadConsoleModel" (805 : Nat) "adc hl,"), (Jvm.Cond.methodLink "PadConsoleModel" (807 : Nat) ({ cls := "PadConsoleModel", name := "sayOdd", desc := "(II)V" } : Jvm.MethodName)), (Jvm.Cond.privateMethod ({ cls := "PadConsoleModel", name := "sayOdd", desc := "(II)V" } : Jvm.MethodName)), (Jvm.Cond.instanceMethod ({ cls := "PadConsoleModel", name := "sayOdd", desc := "(II)V" } : Jvm.MethodName)), (Jvm.Cond.code ({ cls := "PadConsoleModel", name := "sayOdd", desc := "(II)V" } : Jvm.MethodName) prog_14_method_162_code (3 : Nat) (Option.none : Option Jvm.ClassFile.FieldType)), (Jvm.Cond.stringRef "PadConsoleModel" (810 : Nat) "neg"), (Jvm.Cond.stringRef "PadConsoleModel" (812 : Nat) "reti"), (Jvm.Cond.stringRef "PadConsoleModel" (814 : Nat) "retn"), (Jvm.Cond.stringRef "PadConsoleModel" (816 : Nat) "im 0"), (Jvm.Cond.stringRef "PadConsoleModel" (818 : Nat) "im 1")]
noncomputable def tb13_12 : List Jvm.Cond := [(Jvm.Cond.stringRef "PadConsoleModel" (820 : Nat) "im 2"), (Jvm.Cond.stringRef "PadConsoleModel" (822 : Nat) "ld i,a"), (Jvm.Cond.stringRef "PadConsoleModel" (824 : Nat) "ld r,a"), (Jvm.Cond.stringRef "PadConsoleModel" (826 : Nat) "ld a,i"), (Jvm.Cond.stringRef "PadConsoleModel" (828 : Nat) "ld a,\x72"), (Jvm.Cond.stringRef "PadConsoleModel" (830 : Nat) "rrd"), (Jvm.Cond.stringRef "PadConsoleModel" (832 : Nat) "rld"), (Jvm.Cond.methodLink "PadConsoleLaw" (166 : Nat) ({ cls := "PadConsoleModel", name := "text", desc := "(I)J" } : Jvm.MethodName)), (Jvm.Cond.instanceMethod ({ cls := "PadConsoleModel", name := "text", desc := "(I)J" } : Jvm.MethodName)), (Jvm.Cond.selects "PadConsoleModel" ({ cls := "PadConsoleModel", name := "text", desc := "(I)J" } : Jvm.MethodName) ({ cls := "PadConsoleModel", name := "text", desc := "(I)J" } : Jvm.MethodName)), (Jvm.Cond.code ({ cls := "PadConsoleModel", name := "text", desc := "(I)J" } : Jvm.MethodName) prog_14_method_163_code (5 : Nat) (Option.some Jvm.ClassFile.FieldType.long)), (Jvm.Cond.constantLong "PadConsoleLaw" (106 : Nat) (4294967295 : Int64)), (Jvm.Cond.sameMethod "java/lang/Throwable" "java/lang/Throwable" "fillInStackTrace" "(I)Ljava/lang/Throwable;"), (Jvm.Cond.sameMethod "java/lang/AbstractStringBuilder" "java/lang/AbstractStringBuilder" "append" "(Ljava/lang/String;)Ljava/lang/AbstractStringBuilder;"), (Jvm.Cond.sameMethod "java/lang/AbstractStringBuilder" "java/lang/AbstractStringBuilder" "appendNull" "()Ljava/lang/AbstractStringBuilder;"), (Jvm.Cond.sameMethod "java/lang/AbstractStringBuilder" "java/lang/AbstractStringBuilder" "ensureCapacityInternal" "(I)V")]
noncomputable def tb13_13 : List Jvm.Cond := [(Jvm.Cond.sameMethod "java/lang/AbstractStringBuilder" "java/lang/AbstractStringBuilder" "newCapacity" "(I)I"), (Jvm.Cond.sameMethod "java/lang/AbstractStringBuilder" "java/lang/AbstractStringBuilder" "putStringAt" "(ILjava/lang/String;)V"), (Jvm.Cond.sameMethod "java/lang/AbstractStringBuilder" "java/lang/AbstractStringBuilder" "inflateIfNeededFor" "(Ljava/lang/String;)V"), (Jvm.Cond.sameMethod "java/lang/AbstractStringBuilder" "java/lang/AbstractStringBuilder" "inflate" "()V"), (Jvm.Cond.sameMethod "java/lang/AbstractStringBuilder" "java/lang/AbstractStringBuilder" "append" "(I)Ljava/lang/AbstractStringBuilder;")]
set_option maxRecDepth 100000 in
theorem tbe13 : tables_1_13 = (tb13_0 ++ (tb13_1 ++ (tb13_2 ++ (tb13_3 ++ (tb13_4 ++ (tb13_5 ++ (tb13_6 ++ (tb13_7 ++ (tb13_8 ++ (tb13_9 ++ (tb13_10 ++ (tb13_11 ++ (tb13_12 ++ tb13_13))))))))))))) := rfl
theorem tm13_0 {w : Jvm.Cond} (h : w ∈ tb13_0) : w ∈ tables_1_13 := by
  rw [tbe13]
  exact (List.mem_append_left _ h)
theorem tm13_1 {w : Jvm.Cond} (h : w ∈ tb13_1) : w ∈ tables_1_13 := by
  rw [tbe13]
  exact (List.mem_append_right _ (List.mem_append_left _ h))
theorem tm13_2 {w : Jvm.Cond} (h : w ∈ tb13_2) : w ∈ tables_1_13 := by
  rw [tbe13]
  exact (List.mem_append_right _ (List.mem_append_right _ (List.mem_append_left _ h)))
theorem tm13_3 {w : Jvm.Cond} (h : w ∈ tb13_3) : w ∈ tables_1_13 := by
  rw [tbe13]
  exact (List.mem_append_right _ (List.mem_append_right _ (List.mem_append_right _ (List.mem_append_left _ h))))
theorem tm13_4 {w : Jvm.Cond} (h : w ∈ tb13_4) : w ∈ tables_1_13 := by
  rw [tbe13]
  exact (List.mem_append_right _ (List.mem_append_right _ (List.mem_append_right _ (List.mem_append_right _ (List.mem_append_left _ h)))))
theorem tm13_5 {w : Jvm.Cond} (h : w ∈ tb13_5) : w ∈ tables_1_13 := by
  rw [tbe13]
  exact (List.mem_append_right _ (List.mem_append_right _ (List.mem_append_right _ (List.mem_append_right _ (List.mem_append_right _ (List.mem_append_left _ h))))))
theorem tm13_6 {w : Jvm.Cond} (h : w ∈ tb13_6) : w ∈ tables_1_13 := by
  rw [tbe13]
  exact (List.mem_append_right _ (List.mem_append_right _ (List.mem_append_right _ (List.mem_append_right _ (List.mem_append_right _ (List.mem_append_right _ (List.mem_append_left _ h)))))))
theorem tm13_7 {w : Jvm.Cond} (h : w ∈ tb13_7) : w ∈ tables_1_13 := by
  rw [tbe13]
  exact (List.mem_append_right _ (List.mem_append_right _ (List.mem_append_right _ (List.mem_append_right _ (List.mem_append_right _ (List.mem_append_right _ (List.mem_append_right _ (List.mem_append_left _ h))))))))
theorem tm13_8 {w : Jvm.Cond} (h : w ∈ tb13_8) : w ∈ tables_1_13 := by
  rw [tbe13]
  exact (List.mem_append_right _ (List.mem_append_right _ (List.mem_append_right _ (List.mem_append_right _ (List.mem_append_right _ (List.mem_append_right _ (List.mem_append_right _ (List.mem_append_right _ (List.mem_append_left _ h)))))))))
theorem tm13_9 {w : Jvm.Cond} (h : w ∈ tb13_9) : w ∈ tables_1_13 := by
  rw [tbe13]
  exact (List.mem_append_right _ (List.mem_append_right _ (List.mem_append_right _ (List.mem_append_right _ (List.mem_append_right _ (List.mem_append_right _ (List.mem_append_right _ (List.mem_append_right _ (List.mem_append_right _ (List.mem_append_left _ h))))))))))
theorem tm13_10 {w : Jvm.Cond} (h : w ∈ tb13_10) : w ∈ tables_1_13 := by
  rw [tbe13]
  exact (List.mem_append_right _ (List.mem_append_right _ (List.mem_append_right _ (List.mem_append_right _ (List.mem_append_right _ (List.mem_append_right _ (List.mem_append_right _ (List.mem_append_right _ (List.mem_append_right _ (List.mem_append_right _ (List.mem_append_left _ h)))))))))))
theorem tm13_11 {w : Jvm.Cond} (h : w ∈ tb13_11) : w ∈ tables_1_13 := by
  rw [tbe13]
  exact (List.mem_append_right _ (List.mem_append_right _ (List.mem_append_right _ (List.mem_append_right _ (List.mem_append_right _ (List.mem_append_right _ (List.mem_append_right _ (List.mem_append_right _ (List.mem_append_right _ (List.mem_append_right _ (List.mem_append_right _ (List.mem_append_left _ h))))))))))))
theorem tm13_12 {w : Jvm.Cond} (h : w ∈ tb13_12) : w ∈ tables_1_13 := by
  rw [tbe13]
  exact (List.mem_append_right _ (List.mem_append_right _ (List.mem_append_right _ (List.mem_append_right _ (List.mem_append_right _ (List.mem_append_right _ (List.mem_append_right _ (List.mem_append_right _ (List.mem_append_right _ (List.mem_append_right _ (List.mem_append_right _ (List.mem_append_right _ (List.mem_append_left _ h)))))))))))))
theorem tm13_13 {w : Jvm.Cond} (h : w ∈ tb13_13) : w ∈ tables_1_13 := by
  rw [tbe13]
  exact (List.mem_append_right _ (List.mem_append_right _ (List.mem_append_right _ (List.mem_append_right _ (List.mem_append_right _ (List.mem_append_right _ (List.mem_append_right _ (List.mem_append_right _ (List.mem_append_right _ (List.mem_append_right _ (List.mem_append_right _ (List.mem_append_right _ (List.mem_append_right _ h)))))))))))))
end ZJN0
section ZJN1
-- ===== PART A: goes FIRST, ahead of the names: the tables' words, and 'selects' of the private methods out of them =====
theorem tm_1 {w : Jvm.Cond} (h : w ∈ tables_1_1) : w ∈ tables_1 := List.mem_append_left _ h
theorem tm_2 {w : Jvm.Cond} (h : w ∈ tables_1_2) : w ∈ tables_1 := List.mem_append_right _ (List.mem_append_left _ h)
theorem tm_3 {w : Jvm.Cond} (h : w ∈ tables_1_3) : w ∈ tables_1 := List.mem_append_right _ (List.mem_append_right _ (List.mem_append_left _ h))
theorem tm_4 {w : Jvm.Cond} (h : w ∈ tables_1_4) : w ∈ tables_1 := List.mem_append_right _ (List.mem_append_right _ (List.mem_append_right _ (List.mem_append_left _ h)))
theorem tm_5 {w : Jvm.Cond} (h : w ∈ tables_1_5) : w ∈ tables_1 := List.mem_append_right _ (List.mem_append_right _ (List.mem_append_right _ (List.mem_append_right _ (List.mem_append_left _ h))))
theorem tm_6 {w : Jvm.Cond} (h : w ∈ tables_1_6) : w ∈ tables_1 := List.mem_append_right _ (List.mem_append_right _ (List.mem_append_right _ (List.mem_append_right _ (List.mem_append_right _ (List.mem_append_left _ h)))))
theorem tm_7 {w : Jvm.Cond} (h : w ∈ tables_1_7) : w ∈ tables_1 := List.mem_append_right _ (List.mem_append_right _ (List.mem_append_right _ (List.mem_append_right _ (List.mem_append_right _ (List.mem_append_right _ (List.mem_append_left _ h))))))
theorem tm_8 {w : Jvm.Cond} (h : w ∈ tables_1_8) : w ∈ tables_1 := List.mem_append_right _ (List.mem_append_right _ (List.mem_append_right _ (List.mem_append_right _ (List.mem_append_right _ (List.mem_append_right _ (List.mem_append_right _ (List.mem_append_left _ h)))))))
theorem tm_9 {w : Jvm.Cond} (h : w ∈ tables_1_9) : w ∈ tables_1 := List.mem_append_right _ (List.mem_append_right _ (List.mem_append_right _ (List.mem_append_right _ (List.mem_append_right _ (List.mem_append_right _ (List.mem_append_right _ (List.mem_append_right _ (List.mem_append_left _ h))))))))
theorem tm_10 {w : Jvm.Cond} (h : w ∈ tables_1_10) : w ∈ tables_1 := List.mem_append_right _ (List.mem_append_right _ (List.mem_append_right _ (List.mem_append_right _ (List.mem_append_right _ (List.mem_append_right _ (List.mem_append_right _ (List.mem_append_right _ (List.mem_append_right _ (List.mem_append_left _ h)))))))))
theorem tm_11 {w : Jvm.Cond} (h : w ∈ tables_1_11) : w ∈ tables_1 := List.mem_append_right _ (List.mem_append_right _ (List.mem_append_right _ (List.mem_append_right _ (List.mem_append_right _ (List.mem_append_right _ (List.mem_append_right _ (List.mem_append_right _ (List.mem_append_right _ (List.mem_append_right _ (List.mem_append_left _ h))))))))))
theorem tm_12 {w : Jvm.Cond} (h : w ∈ tables_1_12) : w ∈ tables_1 := List.mem_append_right _ (List.mem_append_right _ (List.mem_append_right _ (List.mem_append_right _ (List.mem_append_right _ (List.mem_append_right _ (List.mem_append_right _ (List.mem_append_right _ (List.mem_append_right _ (List.mem_append_right _ (List.mem_append_right _ (List.mem_append_left _ h)))))))))))
theorem tm_13 {w : Jvm.Cond} (h : w ∈ tables_1_13) : w ∈ tables_1 := List.mem_append_right _ (List.mem_append_right _ (List.mem_append_right _ (List.mem_append_right _ (List.mem_append_right _ (List.mem_append_right _ (List.mem_append_right _ (List.mem_append_right _ (List.mem_append_right _ (List.mem_append_right _ (List.mem_append_right _ (List.mem_append_right _ (h))))))))))))
/-- a private method of a class that the tables say can be made, by its rows of tables_1 -/
def lw_okq (q : MethodName × Nat) : Prop := (q.1.cls ≠ "java/lang/invoke/MethodHandle" ∧ q.1.cls ≠ "java/lang/invoke/VarHandle") ∧ Cond.instantiable q.1.cls q.2 ∈ tables_1 ∧ Cond.privateMethod q.1 ∈ tables_1 ∧ Cond.instanceMethod q.1 ∈ tables_1
theorem lw_p0 : lw_okq (⟨"java/lang/Throwable", "fillInStackTrace", "(I)Ljava/lang/Throwable;"⟩, 6) := ⟨⟨by decide +kernel, by decide +kernel⟩, tm_1 (tm1_13 (List.mem_of_getElem? (i := 2) rfl)), tm_1 (tm1_13 (List.mem_of_getElem? (i := 0) rfl)), tm_1 (tm1_13 (List.mem_of_getElem? (i := 1) rfl))⟩
theorem lw_p1 : lw_okq (⟨"PadConsole$Memory", "findHeader", "()I"⟩, 14) := ⟨⟨by decide +kernel, by decide +kernel⟩, tm_1 (tm1_2 (List.mem_of_getElem? (i := 8) rfl)), tm_4 (tm4_1 (List.mem_of_getElem? (i := 7) rfl)), tm_4 (tm4_1 (List.mem_of_getElem? (i := 8) rfl))⟩
theorem lw_p2 : lw_okq (⟨"PadConsole$Memory", "romByte", "(I)I"⟩, 14) := ⟨⟨by decide +kernel, by decide +kernel⟩, tm_1 (tm1_2 (List.mem_of_getElem? (i := 8) rfl)), tm_4 (tm4_1 (List.mem_of_getElem? (i := 13) rfl)), tm_4 (tm4_1 (List.mem_of_getElem? (i := 14) rfl))⟩
theorem lw_p3 : lw_okq (⟨"PadConsole$Memory", "findPaging", "()I"⟩, 14) := ⟨⟨by decide +kernel, by decide +kernel⟩, tm_1 (tm1_2 (List.mem_of_getElem? (i := 8) rfl)), tm_4 (tm4_2 (List.mem_of_getElem? (i := 3) rfl)), tm_4 (tm4_2 (List.mem_of_getElem? (i := 4) rfl))⟩
theorem lw_p4 : lw_okq (⟨"PadConsole$Memory", "romWord", "(I)I"⟩, 14) := ⟨⟨by decide +kernel, by decide +kernel⟩, tm_1 (tm1_2 (List.mem_of_getElem? (i := 8) rfl)), tm_4 (tm4_2 (List.mem_of_getElem? (i := 8) rfl)), tm_4 (tm4_2 (List.mem_of_getElem? (i := 9) rfl))⟩
theorem lw_p5 : lw_okq (⟨"PadConsole", "clearAll", "()V"⟩, 12) := ⟨⟨by decide +kernel, by decide +kernel⟩, tm_1 (tm1_2 (List.mem_of_getElem? (i := 0) rfl)), tm_4 (tm4_3 (List.mem_of_getElem? (i := 2) rfl)), tm_4 (tm4_3 (List.mem_of_getElem? (i := 3) rfl))⟩
theorem lw_p6 : lw_okq (⟨"PadConsole$Teller", "take", "()I"⟩, 11) := ⟨⟨by decide +kernel, by decide +kernel⟩, tm_3 (tm3_11 (List.mem_of_getElem? (i := 1) rfl)), tm_4 (tm4_6 (List.mem_of_getElem? (i := 4) rfl)), tm_4 (tm4_6 (List.mem_of_getElem? (i := 5) rfl))⟩
theorem lw_p7 : lw_okq (⟨"PadConsole$Memory", "batteryIsIn", "()Z"⟩, 14) := ⟨⟨by decide +kernel, by decide +kernel⟩, tm_1 (tm1_2 (List.mem_of_getElem? (i := 8) rfl)), tm_4 (tm4_6 (List.mem_of_getElem? (i := 13) rfl)), tm_4 (tm4_6 (List.mem_of_getElem? (i := 14) rfl))⟩
theorem lw_p8 : lw_okq (⟨"PadConsole$Memory", "batteryPlace", "(I)I"⟩, 14) := ⟨⟨by decide +kernel, by decide +kernel⟩, tm_1 (tm1_2 (List.mem_of_getElem? (i := 8) rfl)), tm_4 (tm4_7 (List.mem_of_getElem? (i := 1) rfl)), tm_4 (tm4_7 (List.mem_of_getElem? (i := 2) rfl))⟩
theorem lw_p9 : lw_okq (⟨"PadConsole$Teller", "put", "(Ljava/lang/String;)V"⟩, 11) := ⟨⟨by decide +kernel, by decide +kernel⟩, tm_3 (tm3_11 (List.mem_of_getElem? (i := 1) rfl)), tm_4 (tm4_7 (List.mem_of_getElem? (i := 6) rfl)), tm_4 (tm4_7 (List.mem_of_getElem? (i := 7) rfl))⟩
theorem lw_p10 : lw_okq (⟨"PadConsole$Teller", "putMeant", "(I)V"⟩, 11) := ⟨⟨by decide +kernel, by decide +kernel⟩, tm_3 (tm3_11 (List.mem_of_getElem? (i := 1) rfl)), tm_4 (tm4_9 (List.mem_of_getElem? (i := 3) rfl)), tm_4 (tm4_9 (List.mem_of_getElem? (i := 4) rfl))⟩
theorem lw_p11 : lw_okq (⟨"PadConsole$Teller", "putOne", "(I)V"⟩, 11) := ⟨⟨by decide +kernel, by decide +kernel⟩, tm_3 (tm3_11 (List.mem_of_getElem? (i := 1) rfl)), tm_4 (tm4_9 (List.mem_of_getElem? (i := 7) rfl)), tm_4 (tm4_9 (List.mem_of_getElem? (i := 8) rfl))⟩
theorem lw_p12 : lw_okq (⟨"PadConsole$Teller", "putPlace", "(I)V"⟩, 11) := ⟨⟨by decide +kernel, by decide +kernel⟩, tm_3 (tm3_11 (List.mem_of_getElem? (i := 1) rfl)), tm_4 (tm4_9 (List.mem_of_getElem? (i := 11) rfl)), tm_4 (tm4_9 (List.mem_of_getElem? (i := 12) rfl))⟩
theorem lw_p13 : lw_okq (⟨"PadConsole$Teller", "putSign", "(I)V"⟩, 11) := ⟨⟨by decide +kernel, by decide +kernel⟩, tm_3 (tm3_11 (List.mem_of_getElem? (i := 1) rfl)), tm_4 (tm4_9 (List.mem_of_getElem? (i := 15) rfl)), tm_4 (tm4_10 (List.mem_of_getElem? (i := 0) rfl))⟩
theorem lw_p14 : lw_okq (⟨"PadConsole$Teller", "putHl", "()V"⟩, 11) := ⟨⟨by decide +kernel, by decide +kernel⟩, tm_3 (tm3_11 (List.mem_of_getElem? (i := 1) rfl)), tm_4 (tm4_10 (List.mem_of_getElem? (i := 3) rfl)), tm_4 (tm4_10 (List.mem_of_getElem? (i := 4) rfl))⟩
theorem lw_p15 : lw_okq (⟨"PadConsole$Teller", "putByte", "(I)V"⟩, 11) := ⟨⟨by decide +kernel, by decide +kernel⟩, tm_3 (tm3_11 (List.mem_of_getElem? (i := 1) rfl)), tm_4 (tm4_10 (List.mem_of_getElem? (i := 7) rfl)), tm_4 (tm4_10 (List.mem_of_getElem? (i := 8) rfl))⟩
def lw_privs_1 : List (MethodName × Nat) := [(⟨"java/lang/Throwable", "fillInStackTrace", "(I)Ljava/lang/Throwable;"⟩, 6), (⟨"PadConsole$Memory", "findHeader", "()I"⟩, 14), (⟨"PadConsole$Memory", "romByte", "(I)I"⟩, 14), (⟨"PadConsole$Memory", "findPaging", "()I"⟩, 14), (⟨"PadConsole$Memory", "romWord", "(I)I"⟩, 14), (⟨"PadConsole", "clearAll", "()V"⟩, 12), (⟨"PadConsole$Teller", "take", "()I"⟩, 11), (⟨"PadConsole$Memory", "batteryIsIn", "()Z"⟩, 14), (⟨"PadConsole$Memory", "batteryPlace", "(I)I"⟩, 14), (⟨"PadConsole$Teller", "put", "(Ljava/lang/String;)V"⟩, 11), (⟨"PadConsole$Teller", "putMeant", "(I)V"⟩, 11), (⟨"PadConsole$Teller", "putOne", "(I)V"⟩, 11), (⟨"PadConsole$Teller", "putPlace", "(I)V"⟩, 11), (⟨"PadConsole$Teller", "putSign", "(I)V"⟩, 11), (⟨"PadConsole$Teller", "putHl", "()V"⟩, 11), (⟨"PadConsole$Teller", "putByte", "(I)V"⟩, 11)]
theorem lw_r1 : ∀ q ∈ lw_privs_1, lw_okq q := List.forall_mem_cons.mpr ⟨lw_p0, List.forall_mem_cons.mpr ⟨lw_p1, List.forall_mem_cons.mpr ⟨lw_p2, List.forall_mem_cons.mpr ⟨lw_p3, List.forall_mem_cons.mpr ⟨lw_p4, List.forall_mem_cons.mpr ⟨lw_p5, List.forall_mem_cons.mpr ⟨lw_p6, List.forall_mem_cons.mpr ⟨lw_p7, List.forall_mem_cons.mpr ⟨lw_p8, List.forall_mem_cons.mpr ⟨lw_p9, List.forall_mem_cons.mpr ⟨lw_p10, List.forall_mem_cons.mpr ⟨lw_p11, List.forall_mem_cons.mpr ⟨lw_p12, List.forall_mem_cons.mpr ⟨lw_p13, List.forall_mem_cons.mpr ⟨lw_p14, List.forall_mem_cons.mpr ⟨lw_p15, fun _ h => absurd h List.not_mem_nil⟩⟩⟩⟩⟩⟩⟩⟩⟩⟩⟩⟩⟩⟩⟩⟩
theorem lw_p16 : lw_okq (⟨"PadConsole$Teller", "putName", "(Ljava/lang/String;I)V"⟩, 11) := ⟨⟨by decide +kernel, by decide +kernel⟩, tm_3 (tm3_11 (List.mem_of_getElem? (i := 1) rfl)), tm_4 (tm4_10 (List.mem_of_getElem? (i := 13) rfl)), tm_4 (tm4_10 (List.mem_of_getElem? (i := 14) rfl))⟩
theorem lw_p17 : lw_okq (⟨"PadConsole$Teller", "putTurned", "()V"⟩, 11) := ⟨⟨by decide +kernel, by decide +kernel⟩, tm_3 (tm3_11 (List.mem_of_getElem? (i := 1) rfl)), tm_4 (tm4_11 (List.mem_of_getElem? (i := 1) rfl)), tm_4 (tm4_11 (List.mem_of_getElem? (i := 2) rfl))⟩
theorem lw_p18 : lw_okq (⟨"PadConsole$Teller", "putPair", "(Ljava/lang/String;)V"⟩, 11) := ⟨⟨by decide +kernel, by decide +kernel⟩, tm_3 (tm3_11 (List.mem_of_getElem? (i := 1) rfl)), tm_4 (tm4_11 (List.mem_of_getElem? (i := 6) rfl)), tm_4 (tm4_11 (List.mem_of_getElem? (i := 7) rfl))⟩
theorem lw_p19 : lw_okq (⟨"PadConsole$Teller", "putWord", "(I)V"⟩, 11) := ⟨⟨by decide +kernel, by decide +kernel⟩, tm_3 (tm3_11 (List.mem_of_getElem? (i := 1) rfl)), tm_4 (tm4_11 (List.mem_of_getElem? (i := 12) rfl)), tm_4 (tm4_11 (List.mem_of_getElem? (i := 13) rfl))⟩
theorem lw_p20 : lw_okq (⟨"PadConsole$Teller", "patternsOf", "(I)Ljava/lang/String;"⟩, 11) := ⟨⟨by decide +kernel, by decide +kernel⟩, tm_3 (tm3_11 (List.mem_of_getElem? (i := 1) rfl)), tm_4 (tm4_12 (List.mem_of_getElem? (i := 3) rfl)), tm_4 (tm4_12 (List.mem_of_getElem? (i := 4) rfl))⟩
theorem lw_p21 : lw_okq (⟨"PadConsole$Teller", "split", "(I)V"⟩, 11) := ⟨⟨by decide +kernel, by decide +kernel⟩, tm_3 (tm3_11 (List.mem_of_getElem? (i := 1) rfl)), tm_4 (tm4_12 (List.mem_of_getElem? (i := 7) rfl)), tm_4 (tm4_12 (List.mem_of_getElem? (i := 8) rfl))⟩
theorem lw_p22 : lw_okq (⟨"PadConsole$Teller", "turnPatterns", "()Ljava/lang/String;"⟩, 11) := ⟨⟨by decide +kernel, by decide +kernel⟩, tm_3 (tm3_11 (List.mem_of_getElem? (i := 1) rfl)), tm_4 (tm4_12 (List.mem_of_getElem? (i := 11) rfl)), tm_4 (tm4_12 (List.mem_of_getElem? (i := 12) rfl))⟩
theorem lw_p23 : lw_okq (⟨"PadConsole$Teller", "blockPatterns", "()Ljava/lang/String;"⟩, 11) := ⟨⟨by decide +kernel, by decide +kernel⟩, tm_3 (tm3_11 (List.mem_of_getElem? (i := 1) rfl)), tm_4 (tm4_13 (List.mem_of_getElem? (i := 3) rfl)), tm_4 (tm4_13 (List.mem_of_getElem? (i := 4) rfl))⟩
theorem lw_p24 : lw_okq (⟨"PadConsole$Teller", "morePatterns", "()Ljava/lang/String;"⟩, 11) := ⟨⟨by decide +kernel, by decide +kernel⟩, tm_3 (tm3_11 (List.mem_of_getElem? (i := 1) rfl)), tm_4 (tm4_13 (List.mem_of_getElem? (i := 11) rfl)), tm_4 (tm4_13 (List.mem_of_getElem? (i := 12) rfl))⟩
theorem lw_p25 : lw_okq (⟨"PadConsole$Teller", "firstPatterns", "()Ljava/lang/String;"⟩, 11) := ⟨⟨by decide +kernel, by decide +kernel⟩, tm_3 (tm3_11 (List.mem_of_getElem? (i := 1) rfl)), tm_4 (tm4_14 (List.mem_of_getElem? (i := 10) rfl)), tm_4 (tm4_14 (List.mem_of_getElem? (i := 11) rfl))⟩
theorem lw_p26 : lw_okq (⟨"PadConsole$Teller", "lastPatterns", "()Ljava/lang/String;"⟩, 11) := ⟨⟨by decide +kernel, by decide +kernel⟩, tm_3 (tm3_11 (List.mem_of_getElem? (i := 1) rfl)), tm_5 (tm5_0 (List.mem_of_getElem? (i := 9) rfl)), tm_5 (tm5_0 (List.mem_of_getElem? (i := 10) rfl))⟩
theorem lw_p27 : lw_okq (⟨"PadConsole$Ports", "readHandy", "(I)I"⟩, 6) := ⟨⟨by decide +kernel, by decide +kernel⟩, tm_3 (tm3_2 (List.mem_of_getElem? (i := 11) rfl)), tm_5 (tm5_6 (List.mem_of_getElem? (i := 4) rfl)), tm_5 (tm5_6 (List.mem_of_getElem? (i := 5) rfl))⟩
theorem lw_p28 : lw_okq (⟨"PadConsole$Video", "readAhead", "()V"⟩, 6) := ⟨⟨by decide +kernel, by decide +kernel⟩, tm_1 (tm1_5 (List.mem_of_getElem? (i := 13) rfl)), tm_5 (tm5_7 (List.mem_of_getElem? (i := 4) rfl)), tm_5 (tm5_7 (List.mem_of_getElem? (i := 5) rfl))⟩
theorem lw_p29 : lw_okq (⟨"PadConsole$Ports", "readEvenPads", "()I"⟩, 6) := ⟨⟨by decide +kernel, by decide +kernel⟩, tm_3 (tm3_2 (List.mem_of_getElem? (i := 11) rfl)), tm_5 (tm5_8 (List.mem_of_getElem? (i := 1) rfl)), tm_5 (tm5_8 (List.mem_of_getElem? (i := 2) rfl))⟩
theorem lw_p30 : lw_okq (⟨"PadConsole$Ports", "readOddPads", "()I"⟩, 6) := ⟨⟨by decide +kernel, by decide +kernel⟩, tm_3 (tm3_2 (List.mem_of_getElem? (i := 11) rfl)), tm_5 (tm5_8 (List.mem_of_getElem? (i := 5) rfl)), tm_5 (tm5_8 (List.mem_of_getElem? (i := 6) rfl))⟩
theorem lw_p31 : lw_okq (⟨"PadConsole$Ports", "lines", "()I"⟩, 6) := ⟨⟨by decide +kernel, by decide +kernel⟩, tm_3 (tm3_2 (List.mem_of_getElem? (i := 11) rfl)), tm_5 (tm5_8 (List.mem_of_getElem? (i := 9) rfl)), tm_5 (tm5_8 (List.mem_of_getElem? (i := 10) rfl))⟩
def lw_privs_2 : List (MethodName × Nat) := [(⟨"PadConsole$Teller", "putName", "(Ljava/lang/String;I)V"⟩, 11), (⟨"PadConsole$Teller", "putTurned", "()V"⟩, 11), (⟨"PadConsole$Teller", "putPair", "(Ljava/lang/String;)V"⟩, 11), (⟨"PadConsole$Teller", "putWord", "(I)V"⟩, 11), (⟨"PadConsole$Teller", "patternsOf", "(I)Ljava/lang/String;"⟩, 11), (⟨"PadConsole$Teller", "split", "(I)V"⟩, 11), (⟨"PadConsole$Teller", "turnPatterns", "()Ljava/lang/String;"⟩, 11), (⟨"PadConsole$Teller", "blockPatterns", "()Ljava/lang/String;"⟩, 11), (⟨"PadConsole$Teller", "morePatterns", "()Ljava/lang/String;"⟩, 11), (⟨"PadConsole$Teller", "firstPatterns", "()Ljava/lang/String;"⟩, 11), (⟨"PadConsole$Teller", "lastPatterns", "()Ljava/lang/String;"⟩, 11), (⟨"PadConsole$Ports", "readHandy", "(I)I"⟩, 6), (⟨"PadConsole$Video", "readAhead", "()V"⟩, 6), (⟨"PadConsole$Ports", "readEvenPads", "()I"⟩, 6), (⟨"PadConsole$Ports", "readOddPads", "()I"⟩, 6), (⟨"PadConsole$Ports", "lines", "()I"⟩, 6)]
theorem lw_r2 : ∀ q ∈ lw_privs_2, lw_okq q := List.forall_mem_cons.mpr ⟨lw_p16, List.forall_mem_cons.mpr ⟨lw_p17, List.forall_mem_cons.mpr ⟨lw_p18, List.forall_mem_cons.mpr ⟨lw_p19, List.forall_mem_cons.mpr ⟨lw_p20, List.forall_mem_cons.mpr ⟨lw_p21, List.forall_mem_cons.mpr ⟨lw_p22, List.forall_mem_cons.mpr ⟨lw_p23, List.forall_mem_cons.mpr ⟨lw_p24, List.forall_mem_cons.mpr ⟨lw_p25, List.forall_mem_cons.mpr ⟨lw_p26, List.forall_mem_cons.mpr ⟨lw_p27, List.forall_mem_cons.mpr ⟨lw_p28, List.forall_mem_cons.mpr ⟨lw_p29, List.forall_mem_cons.mpr ⟨lw_p30, List.forall_mem_cons.mpr ⟨lw_p31, fun _ h => absurd h List.not_mem_nil⟩⟩⟩⟩⟩⟩⟩⟩⟩⟩⟩⟩⟩⟩⟩⟩
theorem lw_p32 : lw_okq (⟨"PadConsole$Ports", "writeHandy", "(II)V"⟩, 6) := ⟨⟨by decide +kernel, by decide +kernel⟩, tm_3 (tm3_2 (List.mem_of_getElem? (i := 11) rfl)), tm_5 (tm5_9 (List.mem_of_getElem? (i := 5) rfl)), tm_5 (tm5_9 (List.mem_of_getElem? (i := 6) rfl))⟩
theorem lw_p33 : lw_okq (⟨"PadConsole$Ports", "changeLines", "(II)V"⟩, 6) := ⟨⟨by decide +kernel, by decide +kernel⟩, tm_3 (tm3_2 (List.mem_of_getElem? (i := 11) rfl)), tm_5 (tm5_9 (List.mem_of_getElem? (i := 13) rfl)), tm_5 (tm5_9 (List.mem_of_getElem? (i := 14) rfl))⟩
theorem lw_p34 : lw_okq (⟨"PadConsole$Video", "writeColour", "(II)V"⟩, 6) := ⟨⟨by decide +kernel, by decide +kernel⟩, tm_1 (tm1_5 (List.mem_of_getElem? (i := 13) rfl)), tm_5 (tm5_10 (List.mem_of_getElem? (i := 13) rfl)), tm_5 (tm5_10 (List.mem_of_getElem? (i := 14) rfl))⟩
theorem lw_p35 : lw_okq (⟨"PadConsole$Memory", "decimal", "(I)I"⟩, 14) := ⟨⟨by decide +kernel, by decide +kernel⟩, tm_1 (tm1_2 (List.mem_of_getElem? (i := 8) rfl)), tm_6 (tm6_2 (List.mem_of_getElem? (i := 12) rfl)), tm_6 (tm6_2 (List.mem_of_getElem? (i := 13) rfl))⟩
theorem lw_p36 : lw_okq (⟨"PadConsole$Memory", "sumOfCard", "()I"⟩, 14) := ⟨⟨by decide +kernel, by decide +kernel⟩, tm_1 (tm1_2 (List.mem_of_getElem? (i := 8) rfl)), tm_6 (tm6_3 (List.mem_of_getElem? (i := 0) rfl)), tm_6 (tm6_3 (List.mem_of_getElem? (i := 1) rfl))⟩
theorem lw_p37 : lw_okq (⟨"PadConsole", "run", "(II)I"⟩, 12) := ⟨⟨by decide +kernel, by decide +kernel⟩, tm_1 (tm1_2 (List.mem_of_getElem? (i := 0) rfl)), tm_6 (tm6_3 (List.mem_of_getElem? (i := 12) rfl)), tm_6 (tm6_3 (List.mem_of_getElem? (i := 13) rfl))⟩
theorem lw_p38 : lw_okq (⟨"PadConsole$Desk", "placeOfStop", "(I)I"⟩, 6) := ⟨⟨by decide +kernel, by decide +kernel⟩, tm_3 (tm3_9 (List.mem_of_getElem? (i := 7) rfl)), tm_6 (tm6_4 (List.mem_of_getElem? (i := 12) rfl)), tm_6 (tm6_4 (List.mem_of_getElem? (i := 13) rfl))⟩
theorem lw_p39 : lw_okq (⟨"PadConsole$Processor", "breakOff", "(I)V"⟩, 6) := ⟨⟨by decide +kernel, by decide +kernel⟩, tm_3 (tm3_4 (List.mem_of_getElem? (i := 8) rfl)), tm_6 (tm6_5 (List.mem_of_getElem? (i := 12) rfl)), tm_6 (tm6_5 (List.mem_of_getElem? (i := 13) rfl))⟩
theorem lw_p40 : lw_okq (⟨"PadConsole$Processor", "growR", "()V"⟩, 6) := ⟨⟨by decide +kernel, by decide +kernel⟩, tm_3 (tm3_4 (List.mem_of_getElem? (i := 8) rfl)), tm_6 (tm6_6 (List.mem_of_getElem? (i := 0) rfl)), tm_6 (tm6_6 (List.mem_of_getElem? (i := 1) rfl))⟩
theorem lw_p41 : lw_okq (⟨"PadConsole$Processor", "push", "(I)V"⟩, 6) := ⟨⟨by decide +kernel, by decide +kernel⟩, tm_3 (tm3_4 (List.mem_of_getElem? (i := 8) rfl)), tm_6 (tm6_6 (List.mem_of_getElem? (i := 4) rfl)), tm_6 (tm6_6 (List.mem_of_getElem? (i := 5) rfl))⟩
theorem lw_p42 : lw_okq (⟨"PadConsole$Processor", "goTo", "(I)V"⟩, 6) := ⟨⟨by decide +kernel, by decide +kernel⟩, tm_3 (tm3_4 (List.mem_of_getElem? (i := 8) rfl)), tm_6 (tm6_6 (List.mem_of_getElem? (i := 10) rfl)), tm_6 (tm6_6 (List.mem_of_getElem? (i := 11) rfl))⟩
theorem lw_p43 : lw_okq (⟨"PadConsole$Processor", "readWord", "(I)I"⟩, 6) := ⟨⟨by decide +kernel, by decide +kernel⟩, tm_3 (tm3_4 (List.mem_of_getElem? (i := 8) rfl)), tm_6 (tm6_6 (List.mem_of_getElem? (i := 14) rfl)), tm_6 (tm6_6 (List.mem_of_getElem? (i := 15) rfl))⟩
theorem lw_p44 : lw_okq (⟨"PadConsole$Processor", "pairAt", "(I)I"⟩, 6) := ⟨⟨by decide +kernel, by decide +kernel⟩, tm_3 (tm3_4 (List.mem_of_getElem? (i := 8) rfl)), tm_6 (tm6_7 (List.mem_of_getElem? (i := 7) rfl)), tm_6 (tm6_7 (List.mem_of_getElem? (i := 8) rfl))⟩
theorem lw_p45 : lw_okq (⟨"PadConsole$Processor", "fetchOp", "()I"⟩, 6) := ⟨⟨by decide +kernel, by decide +kernel⟩, tm_3 (tm3_4 (List.mem_of_getElem? (i := 8) rfl)), tm_6 (tm6_7 (List.mem_of_getElem? (i := 11) rfl)), tm_6 (tm6_7 (List.mem_of_getElem? (i := 12) rfl))⟩
theorem lw_p46 : lw_okq (⟨"PadConsole$Processor", "fetch", "()I"⟩, 6) := ⟨⟨by decide +kernel, by decide +kernel⟩, tm_3 (tm3_4 (List.mem_of_getElem? (i := 8) rfl)), tm_6 (tm6_7 (List.mem_of_getElem? (i := 15) rfl)), tm_6 (tm6_8 (List.mem_of_getElem? (i := 0) rfl))⟩
theorem lw_p47 : lw_okq (⟨"PadConsole$Processor", "turnBeside", "()I"⟩, 6) := ⟨⟨by decide +kernel, by decide +kernel⟩, tm_3 (tm3_4 (List.mem_of_getElem? (i := 8) rfl)), tm_6 (tm6_8 (List.mem_of_getElem? (i := 3) rfl)), tm_6 (tm6_8 (List.mem_of_getElem? (i := 4) rfl))⟩
def lw_privs_3 : List (MethodName × Nat) := [(⟨"PadConsole$Ports", "writeHandy", "(II)V"⟩, 6), (⟨"PadConsole$Ports", "changeLines", "(II)V"⟩, 6), (⟨"PadConsole$Video", "writeColour", "(II)V"⟩, 6), (⟨"PadConsole$Memory", "decimal", "(I)I"⟩, 14), (⟨"PadConsole$Memory", "sumOfCard", "()I"⟩, 14), (⟨"PadConsole", "run", "(II)I"⟩, 12), (⟨"PadConsole$Desk", "placeOfStop", "(I)I"⟩, 6), (⟨"PadConsole$Processor", "breakOff", "(I)V"⟩, 6), (⟨"PadConsole$Processor", "growR", "()V"⟩, 6), (⟨"PadConsole$Processor", "push", "(I)V"⟩, 6), (⟨"PadConsole$Processor", "goTo", "(I)V"⟩, 6), (⟨"PadConsole$Processor", "readWord", "(I)I"⟩, 6), (⟨"PadConsole$Processor", "pairAt", "(I)I"⟩, 6), (⟨"PadConsole$Processor", "fetchOp", "()I"⟩, 6), (⟨"PadConsole$Processor", "fetch", "()I"⟩, 6), (⟨"PadConsole$Processor", "turnBeside", "()I"⟩, 6)]
theorem lw_r3 : ∀ q ∈ lw_privs_3, lw_okq q := List.forall_mem_cons.mpr ⟨lw_p32, List.forall_mem_cons.mpr ⟨lw_p33, List.forall_mem_cons.mpr ⟨lw_p34, List.forall_mem_cons.mpr ⟨lw_p35, List.forall_mem_cons.mpr ⟨lw_p36, List.forall_mem_cons.mpr ⟨lw_p37, List.forall_mem_cons.mpr ⟨lw_p38, List.forall_mem_cons.mpr ⟨lw_p39, List.forall_mem_cons.mpr ⟨lw_p40, List.forall_mem_cons.mpr ⟨lw_p41, List.forall_mem_cons.mpr ⟨lw_p42, List.forall_mem_cons.mpr ⟨lw_p43, List.forall_mem_cons.mpr ⟨lw_p44, List.forall_mem_cons.mpr ⟨lw_p45, List.forall_mem_cons.mpr ⟨lw_p46, List.forall_mem_cons.mpr ⟨lw_p47, fun _ h => absurd h List.not_mem_nil⟩⟩⟩⟩⟩⟩⟩⟩⟩⟩⟩⟩⟩⟩⟩⟩
theorem lw_p48 : lw_okq (⟨"PadConsole$Processor", "askBit", "(III)V"⟩, 6) := ⟨⟨by decide +kernel, by decide +kernel⟩, tm_3 (tm3_4 (List.mem_of_getElem? (i := 8) rfl)), tm_6 (tm6_8 (List.mem_of_getElem? (i := 7) rfl)), tm_6 (tm6_8 (List.mem_of_getElem? (i := 8) rfl))⟩
theorem lw_p49 : lw_okq (⟨"PadConsole$Processor", "turned", "(II)I"⟩, 6) := ⟨⟨by decide +kernel, by decide +kernel⟩, tm_3 (tm3_4 (List.mem_of_getElem? (i := 8) rfl)), tm_6 (tm6_8 (List.mem_of_getElem? (i := 11) rfl)), tm_6 (tm6_8 (List.mem_of_getElem? (i := 12) rfl))⟩
theorem lw_p50 : lw_okq (⟨"PadConsole$Processor", "turn", "(II)I"⟩, 6) := ⟨⟨by decide +kernel, by decide +kernel⟩, tm_3 (tm3_4 (List.mem_of_getElem? (i := 8) rfl)), tm_6 (tm6_8 (List.mem_of_getElem? (i := 15) rfl)), tm_6 (tm6_9 (List.mem_of_getElem? (i := 0) rfl))⟩
theorem lw_p51 : lw_okq (⟨"PadConsole$Processor", "putOne", "(II)V"⟩, 6) := ⟨⟨by decide +kernel, by decide +kernel⟩, tm_3 (tm3_4 (List.mem_of_getElem? (i := 8) rfl)), tm_6 (tm6_9 (List.mem_of_getElem? (i := 15) rfl)), tm_6 (tm6_10 (List.mem_of_getElem? (i := 0) rfl))⟩
theorem lw_p52 : lw_okq (⟨"PadConsole$Processor", "putPairHalf", "(II)V"⟩, 6) := ⟨⟨by decide +kernel, by decide +kernel⟩, tm_3 (tm3_4 (List.mem_of_getElem? (i := 8) rfl)), tm_6 (tm6_10 (List.mem_of_getElem? (i := 3) rfl)), tm_6 (tm6_10 (List.mem_of_getElem? (i := 4) rfl))⟩
theorem lw_p53 : lw_okq (⟨"PadConsole$Processor", "takePlace", "(I)I"⟩, 6) := ⟨⟨by decide +kernel, by decide +kernel⟩, tm_3 (tm3_4 (List.mem_of_getElem? (i := 8) rfl)), tm_6 (tm6_10 (List.mem_of_getElem? (i := 8) rfl)), tm_6 (tm6_10 (List.mem_of_getElem? (i := 9) rfl))⟩
theorem lw_p54 : lw_okq (⟨"PadConsole$Processor", "turns", "(I)I"⟩, 6) := ⟨⟨by decide +kernel, by decide +kernel⟩, tm_3 (tm3_4 (List.mem_of_getElem? (i := 8) rfl)), tm_6 (tm6_10 (List.mem_of_getElem? (i := 13) rfl)), tm_6 (tm6_10 (List.mem_of_getElem? (i := 14) rfl))⟩
theorem lw_p55 : lw_okq (⟨"PadConsole$Processor", "one", "(I)I"⟩, 6) := ⟨⟨by decide +kernel, by decide +kernel⟩, tm_3 (tm3_4 (List.mem_of_getElem? (i := 8) rfl)), tm_6 (tm6_11 (List.mem_of_getElem? (i := 1) rfl)), tm_6 (tm6_11 (List.mem_of_getElem? (i := 2) rfl))⟩
theorem lw_p56 : lw_okq (⟨"PadConsole$Processor", "block", "(I)I"⟩, 6) := ⟨⟨by decide +kernel, by decide +kernel⟩, tm_3 (tm3_4 (List.mem_of_getElem? (i := 8) rfl)), tm_6 (tm6_11 (List.mem_of_getElem? (i := 5) rfl)), tm_6 (tm6_11 (List.mem_of_getElem? (i := 6) rfl))⟩
theorem lw_p57 : lw_okq (⟨"PadConsole$Processor", "copyOne", "(I)Z"⟩, 6) := ⟨⟨by decide +kernel, by decide +kernel⟩, tm_3 (tm3_4 (List.mem_of_getElem? (i := 8) rfl)), tm_6 (tm6_11 (List.mem_of_getElem? (i := 9) rfl)), tm_6 (tm6_11 (List.mem_of_getElem? (i := 10) rfl))⟩
theorem lw_p58 : lw_okq (⟨"PadConsole$Processor", "putPairAt", "(II)V"⟩, 6) := ⟨⟨by decide +kernel, by decide +kernel⟩, tm_3 (tm3_4 (List.mem_of_getElem? (i := 8) rfl)), tm_6 (tm6_11 (List.mem_of_getElem? (i := 13) rfl)), tm_6 (tm6_11 (List.mem_of_getElem? (i := 14) rfl))⟩
theorem lw_p59 : lw_okq (⟨"PadConsole$Processor", "compareOne", "(I)Z"⟩, 6) := ⟨⟨by decide +kernel, by decide +kernel⟩, tm_3 (tm3_4 (List.mem_of_getElem? (i := 8) rfl)), tm_6 (tm6_12 (List.mem_of_getElem? (i := 1) rfl)), tm_6 (tm6_12 (List.mem_of_getElem? (i := 2) rfl))⟩
theorem lw_p60 : lw_okq (⟨"PadConsole$Processor", "takeOne", "(I)Z"⟩, 6) := ⟨⟨by decide +kernel, by decide +kernel⟩, tm_3 (tm3_4 (List.mem_of_getElem? (i := 8) rfl)), tm_6 (tm6_12 (List.mem_of_getElem? (i := 5) rfl)), tm_6 (tm6_12 (List.mem_of_getElem? (i := 6) rfl))⟩
theorem lw_p61 : lw_okq (⟨"PadConsole$Processor", "tellOfPort", "(II)V"⟩, 6) := ⟨⟨by decide +kernel, by decide +kernel⟩, tm_3 (tm3_4 (List.mem_of_getElem? (i := 8) rfl)), tm_6 (tm6_12 (List.mem_of_getElem? (i := 10) rfl)), tm_6 (tm6_12 (List.mem_of_getElem? (i := 11) rfl))⟩
theorem lw_p62 : lw_okq (⟨"PadConsole$Processor", "giveOne", "(I)Z"⟩, 6) := ⟨⟨by decide +kernel, by decide +kernel⟩, tm_3 (tm3_4 (List.mem_of_getElem? (i := 8) rfl)), tm_6 (tm6_12 (List.mem_of_getElem? (i := 14) rfl)), tm_6 (tm6_12 (List.mem_of_getElem? (i := 15) rfl))⟩
theorem lw_p63 : lw_okq (⟨"PadConsole$Processor", "behindEd", "(I)I"⟩, 6) := ⟨⟨by decide +kernel, by decide +kernel⟩, tm_3 (tm3_4 (List.mem_of_getElem? (i := 8) rfl)), tm_6 (tm6_13 (List.mem_of_getElem? (i := 3) rfl)), tm_6 (tm6_13 (List.mem_of_getElem? (i := 4) rfl))⟩
def lw_privs_4 : List (MethodName × Nat) := [(⟨"PadConsole$Processor", "askBit", "(III)V"⟩, 6), (⟨"PadConsole$Processor", "turned", "(II)I"⟩, 6), (⟨"PadConsole$Processor", "turn", "(II)I"⟩, 6), (⟨"PadConsole$Processor", "putOne", "(II)V"⟩, 6), (⟨"PadConsole$Processor", "putPairHalf", "(II)V"⟩, 6), (⟨"PadConsole$Processor", "takePlace", "(I)I"⟩, 6), (⟨"PadConsole$Processor", "turns", "(I)I"⟩, 6), (⟨"PadConsole$Processor", "one", "(I)I"⟩, 6), (⟨"PadConsole$Processor", "block", "(I)I"⟩, 6), (⟨"PadConsole$Processor", "copyOne", "(I)Z"⟩, 6), (⟨"PadConsole$Processor", "putPairAt", "(II)V"⟩, 6), (⟨"PadConsole$Processor", "compareOne", "(I)Z"⟩, 6), (⟨"PadConsole$Processor", "takeOne", "(I)Z"⟩, 6), (⟨"PadConsole$Processor", "tellOfPort", "(II)V"⟩, 6), (⟨"PadConsole$Processor", "giveOne", "(I)Z"⟩, 6), (⟨"PadConsole$Processor", "behindEd", "(I)I"⟩, 6)]
theorem lw_r4 : ∀ q ∈ lw_privs_4, lw_okq q := List.forall_mem_cons.mpr ⟨lw_p48, List.forall_mem_cons.mpr ⟨lw_p49, List.forall_mem_cons.mpr ⟨lw_p50, List.forall_mem_cons.mpr ⟨lw_p51, List.forall_mem_cons.mpr ⟨lw_p52, List.forall_mem_cons.mpr ⟨lw_p53, List.forall_mem_cons.mpr ⟨lw_p54, List.forall_mem_cons.mpr ⟨lw_p55, List.forall_mem_cons.mpr ⟨lw_p56, List.forall_mem_cons.mpr ⟨lw_p57, List.forall_mem_cons.mpr ⟨lw_p58, List.forall_mem_cons.mpr ⟨lw_p59, List.forall_mem_cons.mpr ⟨lw_p60, List.forall_mem_cons.mpr ⟨lw_p61, List.forall_mem_cons.mpr ⟨lw_p62, List.forall_mem_cons.mpr ⟨lw_p63, fun _ h => absurd h List.not_mem_nil⟩⟩⟩⟩⟩⟩⟩⟩⟩⟩⟩⟩⟩⟩⟩⟩
theorem lw_p64 : lw_okq (⟨"PadConsole$Processor", "takeFromPort", "(I)V"⟩, 6) := ⟨⟨by decide +kernel, by decide +kernel⟩, tm_3 (tm3_4 (List.mem_of_getElem? (i := 8) rfl)), tm_6 (tm6_13 (List.mem_of_getElem? (i := 7) rfl)), tm_6 (tm6_13 (List.mem_of_getElem? (i := 8) rfl))⟩
theorem lw_p65 : lw_okq (⟨"PadConsole$Processor", "takePair", "(I)I"⟩, 6) := ⟨⟨by decide +kernel, by decide +kernel⟩, tm_3 (tm3_4 (List.mem_of_getElem? (i := 8) rfl)), tm_6 (tm6_13 (List.mem_of_getElem? (i := 11) rfl)), tm_6 (tm6_13 (List.mem_of_getElem? (i := 12) rfl))⟩
theorem lw_p66 : lw_okq (⟨"PadConsole$Processor", "hl", "()I"⟩, 6) := ⟨⟨by decide +kernel, by decide +kernel⟩, tm_3 (tm3_4 (List.mem_of_getElem? (i := 8) rfl)), tm_6 (tm6_13 (List.mem_of_getElem? (i := 15) rfl)), tm_6 (tm6_14 (List.mem_of_getElem? (i := 0) rfl))⟩
theorem lw_p67 : lw_okq (⟨"PadConsole$Processor", "pair", "(I)I"⟩, 6) := ⟨⟨by decide +kernel, by decide +kernel⟩, tm_3 (tm3_4 (List.mem_of_getElem? (i := 8) rfl)), tm_6 (tm6_14 (List.mem_of_getElem? (i := 3) rfl)), tm_6 (tm6_14 (List.mem_of_getElem? (i := 4) rfl))⟩
theorem lw_p68 : lw_okq (⟨"PadConsole$Processor", "putWide", "(III)V"⟩, 6) := ⟨⟨by decide +kernel, by decide +kernel⟩, tm_3 (tm3_4 (List.mem_of_getElem? (i := 8) rfl)), tm_6 (tm6_14 (List.mem_of_getElem? (i := 7) rfl)), tm_6 (tm6_14 (List.mem_of_getElem? (i := 8) rfl))⟩
theorem lw_p69 : lw_okq (⟨"PadConsole$Processor", "putHl", "(I)V"⟩, 6) := ⟨⟨by decide +kernel, by decide +kernel⟩, tm_3 (tm3_4 (List.mem_of_getElem? (i := 8) rfl)), tm_6 (tm6_14 (List.mem_of_getElem? (i := 11) rfl)), tm_6 (tm6_14 (List.mem_of_getElem? (i := 12) rfl))⟩
theorem lw_p70 : lw_okq (⟨"PadConsole$Processor", "addPairAndCarry", "(I)I"⟩, 6) := ⟨⟨by decide +kernel, by decide +kernel⟩, tm_3 (tm3_4 (List.mem_of_getElem? (i := 8) rfl)), tm_7 (tm7_0 (List.mem_of_getElem? (i := 0) rfl)), tm_7 (tm7_0 (List.mem_of_getElem? (i := 1) rfl))⟩
theorem lw_p71 : lw_okq (⟨"PadConsole$Processor", "farPair", "(I)I"⟩, 6) := ⟨⟨by decide +kernel, by decide +kernel⟩, tm_3 (tm3_4 (List.mem_of_getElem? (i := 8) rfl)), tm_7 (tm7_0 (List.mem_of_getElem? (i := 4) rfl)), tm_7 (tm7_0 (List.mem_of_getElem? (i := 5) rfl))⟩
theorem lw_p72 : lw_okq (⟨"PadConsole$Processor", "fetchWord", "()I"⟩, 6) := ⟨⟨by decide +kernel, by decide +kernel⟩, tm_3 (tm3_4 (List.mem_of_getElem? (i := 8) rfl)), tm_7 (tm7_0 (List.mem_of_getElem? (i := 8) rfl)), tm_7 (tm7_0 (List.mem_of_getElem? (i := 9) rfl))⟩
theorem lw_p73 : lw_okq (⟨"PadConsole$Processor", "writeWord", "(II)V"⟩, 6) := ⟨⟨by decide +kernel, by decide +kernel⟩, tm_3 (tm3_4 (List.mem_of_getElem? (i := 8) rfl)), tm_7 (tm7_0 (List.mem_of_getElem? (i := 12) rfl)), tm_7 (tm7_0 (List.mem_of_getElem? (i := 13) rfl))⟩
theorem lw_p74 : lw_okq (⟨"PadConsole$Processor", "putPair", "(II)V"⟩, 6) := ⟨⟨by decide +kernel, by decide +kernel⟩, tm_3 (tm3_4 (List.mem_of_getElem? (i := 8) rfl)), tm_7 (tm7_1 (List.mem_of_getElem? (i := 0) rfl)), tm_7 (tm7_1 (List.mem_of_getElem? (i := 1) rfl))⟩
theorem lw_p75 : lw_okq (⟨"PadConsole$Processor", "difference", "(III)I"⟩, 6) := ⟨⟨by decide +kernel, by decide +kernel⟩, tm_3 (tm3_4 (List.mem_of_getElem? (i := 8) rfl)), tm_7 (tm7_1 (List.mem_of_getElem? (i := 4) rfl)), tm_7 (tm7_1 (List.mem_of_getElem? (i := 5) rfl))⟩
theorem lw_p76 : lw_okq (⟨"PadConsole$Processor", "pop", "()I"⟩, 6) := ⟨⟨by decide +kernel, by decide +kernel⟩, tm_3 (tm3_4 (List.mem_of_getElem? (i := 8) rfl)), tm_7 (tm7_1 (List.mem_of_getElem? (i := 8) rfl)), tm_7 (tm7_1 (List.mem_of_getElem? (i := 9) rfl))⟩
theorem lw_p77 : lw_okq (⟨"PadConsole$Processor", "moreOfA", "(I)I"⟩, 6) := ⟨⟨by decide +kernel, by decide +kernel⟩, tm_3 (tm3_4 (List.mem_of_getElem? (i := 8) rfl)), tm_7 (tm7_1 (List.mem_of_getElem? (i := 13) rfl)), tm_7 (tm7_1 (List.mem_of_getElem? (i := 14) rfl))⟩
theorem lw_p78 : lw_okq (⟨"PadConsole$Processor", "turnDigits", "(Z)V"⟩, 6) := ⟨⟨by decide +kernel, by decide +kernel⟩, tm_3 (tm3_4 (List.mem_of_getElem? (i := 8) rfl)), tm_7 (tm7_2 (List.mem_of_getElem? (i := 1) rfl)), tm_7 (tm7_2 (List.mem_of_getElem? (i := 2) rfl))⟩
theorem lw_p79 : lw_okq (⟨"PadConsole$Processor", "firstQuarter", "(I)I"⟩, 6) := ⟨⟨by decide +kernel, by decide +kernel⟩, tm_3 (tm3_4 (List.mem_of_getElem? (i := 8) rfl)), tm_7 (tm7_2 (List.mem_of_getElem? (i := 5) rfl)), tm_7 (tm7_2 (List.mem_of_getElem? (i := 6) rfl))⟩
def lw_privs_5 : List (MethodName × Nat) := [(⟨"PadConsole$Processor", "takeFromPort", "(I)V"⟩, 6), (⟨"PadConsole$Processor", "takePair", "(I)I"⟩, 6), (⟨"PadConsole$Processor", "hl", "()I"⟩, 6), (⟨"PadConsole$Processor", "pair", "(I)I"⟩, 6), (⟨"PadConsole$Processor", "putWide", "(III)V"⟩, 6), (⟨"PadConsole$Processor", "putHl", "(I)V"⟩, 6), (⟨"PadConsole$Processor", "addPairAndCarry", "(I)I"⟩, 6), (⟨"PadConsole$Processor", "farPair", "(I)I"⟩, 6), (⟨"PadConsole$Processor", "fetchWord", "()I"⟩, 6), (⟨"PadConsole$Processor", "writeWord", "(II)V"⟩, 6), (⟨"PadConsole$Processor", "putPair", "(II)V"⟩, 6), (⟨"PadConsole$Processor", "difference", "(III)I"⟩, 6), (⟨"PadConsole$Processor", "pop", "()I"⟩, 6), (⟨"PadConsole$Processor", "moreOfA", "(I)I"⟩, 6), (⟨"PadConsole$Processor", "turnDigits", "(Z)V"⟩, 6), (⟨"PadConsole$Processor", "firstQuarter", "(I)I"⟩, 6)]
theorem lw_r5 : ∀ q ∈ lw_privs_5, lw_okq q := List.forall_mem_cons.mpr ⟨lw_p64, List.forall_mem_cons.mpr ⟨lw_p65, List.forall_mem_cons.mpr ⟨lw_p66, List.forall_mem_cons.mpr ⟨lw_p67, List.forall_mem_cons.mpr ⟨lw_p68, List.forall_mem_cons.mpr ⟨lw_p69, List.forall_mem_cons.mpr ⟨lw_p70, List.forall_mem_cons.mpr ⟨lw_p71, List.forall_mem_cons.mpr ⟨lw_p72, List.forall_mem_cons.mpr ⟨lw_p73, List.forall_mem_cons.mpr ⟨lw_p74, List.forall_mem_cons.mpr ⟨lw_p75, List.forall_mem_cons.mpr ⟨lw_p76, List.forall_mem_cons.mpr ⟨lw_p77, List.forall_mem_cons.mpr ⟨lw_p78, List.forall_mem_cons.mpr ⟨lw_p79, fun _ h => absurd h List.not_mem_nil⟩⟩⟩⟩⟩⟩⟩⟩⟩⟩⟩⟩⟩⟩⟩⟩
theorem lw_p80 : lw_okq (⟨"PadConsole$Processor", "near", "(I)I"⟩, 6) := ⟨⟨by decide +kernel, by decide +kernel⟩, tm_3 (tm3_4 (List.mem_of_getElem? (i := 8) rfl)), tm_7 (tm7_2 (List.mem_of_getElem? (i := 9) rfl)), tm_7 (tm7_2 (List.mem_of_getElem? (i := 10) rfl))⟩
theorem lw_p81 : lw_okq (⟨"PadConsole$Processor", "changeWithOther", "(I)V"⟩, 6) := ⟨⟨by decide +kernel, by decide +kernel⟩, tm_3 (tm3_4 (List.mem_of_getElem? (i := 8) rfl)), tm_7 (tm7_2 (List.mem_of_getElem? (i := 13) rfl)), tm_7 (tm7_2 (List.mem_of_getElem? (i := 14) rfl))⟩
theorem lw_p82 : lw_okq (⟨"PadConsole$Processor", "holds", "(I)Z"⟩, 6) := ⟨⟨by decide +kernel, by decide +kernel⟩, tm_3 (tm3_4 (List.mem_of_getElem? (i := 8) rfl)), tm_7 (tm7_3 (List.mem_of_getElem? (i := 1) rfl)), tm_7 (tm7_3 (List.mem_of_getElem? (i := 2) rfl))⟩
theorem lw_p83 : lw_okq (⟨"PadConsole$Processor", "loadPair", "(I)I"⟩, 6) := ⟨⟨by decide +kernel, by decide +kernel⟩, tm_3 (tm3_4 (List.mem_of_getElem? (i := 8) rfl)), tm_7 (tm7_3 (List.mem_of_getElem? (i := 7) rfl)), tm_7 (tm7_3 (List.mem_of_getElem? (i := 8) rfl))⟩
theorem lw_p84 : lw_okq (⟨"PadConsole$Processor", "addPair", "(I)I"⟩, 6) := ⟨⟨by decide +kernel, by decide +kernel⟩, tm_3 (tm3_4 (List.mem_of_getElem? (i := 8) rfl)), tm_7 (tm7_3 (List.mem_of_getElem? (i := 11) rfl)), tm_7 (tm7_3 (List.mem_of_getElem? (i := 12) rfl))⟩
theorem lw_p85 : lw_okq (⟨"PadConsole$Processor", "far", "(I)I"⟩, 6) := ⟨⟨by decide +kernel, by decide +kernel⟩, tm_3 (tm3_4 (List.mem_of_getElem? (i := 8) rfl)), tm_7 (tm7_3 (List.mem_of_getElem? (i := 15) rfl)), tm_7 (tm7_4 (List.mem_of_getElem? (i := 0) rfl))⟩
theorem lw_p86 : lw_okq (⟨"PadConsole$Processor", "oneMore", "(I)I"⟩, 6) := ⟨⟨by decide +kernel, by decide +kernel⟩, tm_3 (tm3_4 (List.mem_of_getElem? (i := 8) rfl)), tm_7 (tm7_4 (List.mem_of_getElem? (i := 3) rfl)), tm_7 (tm7_4 (List.mem_of_getElem? (i := 4) rfl))⟩
theorem lw_p87 : lw_okq (⟨"PadConsole$Processor", "oneLess", "(I)I"⟩, 6) := ⟨⟨by decide +kernel, by decide +kernel⟩, tm_3 (tm3_4 (List.mem_of_getElem? (i := 8) rfl)), tm_7 (tm7_4 (List.mem_of_getElem? (i := 7) rfl)), tm_7 (tm7_4 (List.mem_of_getElem? (i := 8) rfl))⟩
theorem lw_p88 : lw_okq (⟨"PadConsole$Processor", "changeA", "(I)V"⟩, 6) := ⟨⟨by decide +kernel, by decide +kernel⟩, tm_3 (tm3_4 (List.mem_of_getElem? (i := 8) rfl)), tm_7 (tm7_4 (List.mem_of_getElem? (i := 11) rfl)), tm_7 (tm7_4 (List.mem_of_getElem? (i := 12) rfl))⟩
theorem lw_p89 : lw_okq (⟨"PadConsole$Processor", "adjustA", "()V"⟩, 6) := ⟨⟨by decide +kernel, by decide +kernel⟩, tm_3 (tm3_4 (List.mem_of_getElem? (i := 8) rfl)), tm_7 (tm7_4 (List.mem_of_getElem? (i := 15) rfl)), tm_7 (tm7_5 (List.mem_of_getElem? (i := 0) rfl))⟩
theorem lw_p90 : lw_okq (⟨"PadConsole$Processor", "move", "(I)I"⟩, 6) := ⟨⟨by decide +kernel, by decide +kernel⟩, tm_3 (tm3_4 (List.mem_of_getElem? (i := 8) rfl)), tm_7 (tm7_5 (List.mem_of_getElem? (i := 3) rfl)), tm_7 (tm7_5 (List.mem_of_getElem? (i := 4) rfl))⟩
theorem lw_p91 : lw_okq (⟨"PadConsole$Processor", "doWithRegister", "(I)I"⟩, 6) := ⟨⟨by decide +kernel, by decide +kernel⟩, tm_3 (tm3_4 (List.mem_of_getElem? (i := 8) rfl)), tm_7 (tm7_5 (List.mem_of_getElem? (i := 7) rfl)), tm_7 (tm7_5 (List.mem_of_getElem? (i := 8) rfl))⟩
theorem lw_p92 : lw_okq (⟨"PadConsole$Processor", "doWith", "(II)V"⟩, 6) := ⟨⟨by decide +kernel, by decide +kernel⟩, tm_3 (tm3_4 (List.mem_of_getElem? (i := 8) rfl)), tm_7 (tm7_5 (List.mem_of_getElem? (i := 11) rfl)), tm_7 (tm7_5 (List.mem_of_getElem? (i := 12) rfl))⟩
theorem lw_p93 : lw_okq (⟨"PadConsole$Processor", "sum", "(III)I"⟩, 6) := ⟨⟨by decide +kernel, by decide +kernel⟩, tm_3 (tm3_4 (List.mem_of_getElem? (i := 8) rfl)), tm_7 (tm7_5 (List.mem_of_getElem? (i := 15) rfl)), tm_7 (tm7_6 (List.mem_of_getElem? (i := 0) rfl))⟩
theorem lw_p94 : lw_okq (⟨"PadConsole$Processor", "exchange", "(I)I"⟩, 6) := ⟨⟨by decide +kernel, by decide +kernel⟩, tm_3 (tm3_4 (List.mem_of_getElem? (i := 8) rfl)), tm_7 (tm7_6 (List.mem_of_getElem? (i := 3) rfl)), tm_7 (tm7_6 (List.mem_of_getElem? (i := 4) rfl))⟩
theorem lw_p95 : lw_okq (⟨"PadConsole$Processor", "lastQuarter", "(I)I"⟩, 6) := ⟨⟨by decide +kernel, by decide +kernel⟩, tm_3 (tm3_4 (List.mem_of_getElem? (i := 8) rfl)), tm_7 (tm7_6 (List.mem_of_getElem? (i := 7) rfl)), tm_7 (tm7_6 (List.mem_of_getElem? (i := 8) rfl))⟩
def lw_privs_6 : List (MethodName × Nat) := [(⟨"PadConsole$Processor", "near", "(I)I"⟩, 6), (⟨"PadConsole$Processor", "changeWithOther", "(I)V"⟩, 6), (⟨"PadConsole$Processor", "holds", "(I)Z"⟩, 6), (⟨"PadConsole$Processor", "loadPair", "(I)I"⟩, 6), (⟨"PadConsole$Processor", "addPair", "(I)I"⟩, 6), (⟨"PadConsole$Processor", "far", "(I)I"⟩, 6), (⟨"PadConsole$Processor", "oneMore", "(I)I"⟩, 6), (⟨"PadConsole$Processor", "oneLess", "(I)I"⟩, 6), (⟨"PadConsole$Processor", "changeA", "(I)V"⟩, 6), (⟨"PadConsole$Processor", "adjustA", "()V"⟩, 6), (⟨"PadConsole$Processor", "move", "(I)I"⟩, 6), (⟨"PadConsole$Processor", "doWithRegister", "(I)I"⟩, 6), (⟨"PadConsole$Processor", "doWith", "(II)V"⟩, 6), (⟨"PadConsole$Processor", "sum", "(III)I"⟩, 6), (⟨"PadConsole$Processor", "exchange", "(I)I"⟩, 6), (⟨"PadConsole$Processor", "lastQuarter", "(I)I"⟩, 6)]
theorem lw_r6 : ∀ q ∈ lw_privs_6, lw_okq q := List.forall_mem_cons.mpr ⟨lw_p80, List.forall_mem_cons.mpr ⟨lw_p81, List.forall_mem_cons.mpr ⟨lw_p82, List.forall_mem_cons.mpr ⟨lw_p83, List.forall_mem_cons.mpr ⟨lw_p84, List.forall_mem_cons.mpr ⟨lw_p85, List.forall_mem_cons.mpr ⟨lw_p86, List.forall_mem_cons.mpr ⟨lw_p87, List.forall_mem_cons.mpr ⟨lw_p88, List.forall_mem_cons.mpr ⟨lw_p89, List.forall_mem_cons.mpr ⟨lw_p90, List.forall_mem_cons.mpr ⟨lw_p91, List.forall_mem_cons.mpr ⟨lw_p92, List.forall_mem_cons.mpr ⟨lw_p93, List.forall_mem_cons.mpr ⟨lw_p94, List.forall_mem_cons.mpr ⟨lw_p95, fun _ h => absurd h List.not_mem_nil⟩⟩⟩⟩⟩⟩⟩⟩⟩⟩⟩⟩⟩⟩⟩⟩
theorem lw_p96 : lw_okq (⟨"PadConsole$Processor", "popPair", "(I)I"⟩, 6) := ⟨⟨by decide +kernel, by decide +kernel⟩, tm_3 (tm3_4 (List.mem_of_getElem? (i := 8) rfl)), tm_7 (tm7_6 (List.mem_of_getElem? (i := 11) rfl)), tm_7 (tm7_6 (List.mem_of_getElem? (i := 12) rfl))⟩
theorem lw_p97 : lw_okq (⟨"PadConsole$Processor", "leave", "(I)I"⟩, 6) := ⟨⟨by decide +kernel, by decide +kernel⟩, tm_3 (tm3_4 (List.mem_of_getElem? (i := 8) rfl)), tm_7 (tm7_6 (List.mem_of_getElem? (i := 15) rfl)), tm_7 (tm7_7 (List.mem_of_getElem? (i := 0) rfl))⟩
theorem lw_p98 : lw_okq (⟨"PadConsole$Processor", "callIf", "(Z)I"⟩, 6) := ⟨⟨by decide +kernel, by decide +kernel⟩, tm_3 (tm3_4 (List.mem_of_getElem? (i := 8) rfl)), tm_7 (tm7_7 (List.mem_of_getElem? (i := 3) rfl)), tm_7 (tm7_7 (List.mem_of_getElem? (i := 4) rfl))⟩
theorem lw_p99 : lw_okq (⟨"PadConsole", "endLine", "()V"⟩, 12) := ⟨⟨by decide +kernel, by decide +kernel⟩, tm_1 (tm1_2 (List.mem_of_getElem? (i := 0) rfl)), tm_7 (tm7_7 (List.mem_of_getElem? (i := 11) rfl)), tm_7 (tm7_7 (List.mem_of_getElem? (i := 12) rfl))⟩
theorem lw_p100 : lw_okq (⟨"PadConsole$Painter", "drawTiles", "(I)V"⟩, 9) := ⟨⟨by decide +kernel, by decide +kernel⟩, tm_1 (tm1_7 (List.mem_of_getElem? (i := 6) rfl)), tm_7 (tm7_8 (List.mem_of_getElem? (i := 14) rfl)), tm_7 (tm7_8 (List.mem_of_getElem? (i := 15) rfl))⟩
theorem lw_p101 : lw_okq (⟨"PadConsole$Painter", "takeTile", "(II)V"⟩, 9) := ⟨⟨by decide +kernel, by decide +kernel⟩, tm_1 (tm1_7 (List.mem_of_getElem? (i := 6) rfl)), tm_7 (tm7_9 (List.mem_of_getElem? (i := 3) rfl)), tm_7 (tm7_9 (List.mem_of_getElem? (i := 4) rfl))⟩
theorem lw_p102 : lw_okq (⟨"PadConsole$Painter", "takePlanes", "(I)V"⟩, 9) := ⟨⟨by decide +kernel, by decide +kernel⟩, tm_1 (tm1_7 (List.mem_of_getElem? (i := 6) rfl)), tm_7 (tm7_9 (List.mem_of_getElem? (i := 11) rfl)), tm_7 (tm7_9 (List.mem_of_getElem? (i := 12) rfl))⟩
theorem lw_p103 : lw_okq (⟨"PadConsole$Painter", "drawSprites", "(I)V"⟩, 9) := ⟨⟨by decide +kernel, by decide +kernel⟩, tm_1 (tm1_7 (List.mem_of_getElem? (i := 6) rfl)), tm_7 (tm7_10 (List.mem_of_getElem? (i := 3) rfl)), tm_7 (tm7_10 (List.mem_of_getElem? (i := 4) rfl))⟩
theorem lw_p104 : lw_okq (⟨"PadConsole$Painter", "rowOfSprite", "(II)I"⟩, 9) := ⟨⟨by decide +kernel, by decide +kernel⟩, tm_1 (tm1_7 (List.mem_of_getElem? (i := 6) rfl)), tm_7 (tm7_10 (List.mem_of_getElem? (i := 7) rfl)), tm_7 (tm7_10 (List.mem_of_getElem? (i := 8) rfl))⟩
theorem lw_p105 : lw_okq (⟨"PadConsole$Painter", "drawSprite", "(II)V"⟩, 9) := ⟨⟨by decide +kernel, by decide +kernel⟩, tm_1 (tm1_7 (List.mem_of_getElem? (i := 6) rfl)), tm_7 (tm7_10 (List.mem_of_getElem? (i := 15) rfl)), tm_7 (tm7_11 (List.mem_of_getElem? (i := 0) rfl))⟩
theorem lw_p106 : lw_okq (⟨"PadConsole$Painter", "drawOld", "(II)V"⟩, 9) := ⟨⟨by decide +kernel, by decide +kernel⟩, tm_1 (tm1_7 (List.mem_of_getElem? (i := 6) rfl)), tm_7 (tm7_11 (List.mem_of_getElem? (i := 4) rfl)), tm_7 (tm7_11 (List.mem_of_getElem? (i := 5) rfl))⟩
theorem lw_p107 : lw_okq (⟨"PadConsole$Painter", "drawText", "(II)V"⟩, 9) := ⟨⟨by decide +kernel, by decide +kernel⟩, tm_1 (tm1_7 (List.mem_of_getElem? (i := 6) rfl)), tm_7 (tm7_11 (List.mem_of_getElem? (i := 8) rfl)), tm_7 (tm7_11 (List.mem_of_getElem? (i := 9) rfl))⟩
theorem lw_p108 : lw_okq (⟨"PadConsole$Painter", "patternAt", "(II)I"⟩, 9) := ⟨⟨by decide +kernel, by decide +kernel⟩, tm_1 (tm1_7 (List.mem_of_getElem? (i := 6) rfl)), tm_7 (tm7_11 (List.mem_of_getElem? (i := 12) rfl)), tm_7 (tm7_11 (List.mem_of_getElem? (i := 13) rfl))⟩
theorem lw_p109 : lw_okq (⟨"PadConsole$Painter", "drawPattern", "(III)V"⟩, 9) := ⟨⟨by decide +kernel, by decide +kernel⟩, tm_1 (tm1_7 (List.mem_of_getElem? (i := 6) rfl)), tm_7 (tm7_12 (List.mem_of_getElem? (i := 0) rfl)), tm_7 (tm7_12 (List.mem_of_getElem? (i := 1) rfl))⟩
theorem lw_p110 : lw_okq (⟨"PadConsole$Painter", "drawThird", "(III)V"⟩, 9) := ⟨⟨by decide +kernel, by decide +kernel⟩, tm_1 (tm1_7 (List.mem_of_getElem? (i := 6) rfl)), tm_7 (tm7_12 (List.mem_of_getElem? (i := 4) rfl)), tm_7 (tm7_12 (List.mem_of_getElem? (i := 5) rfl))⟩
theorem lw_p111 : lw_okq (⟨"PadConsole$Painter", "drawBlocks", "(III)V"⟩, 9) := ⟨⟨by decide +kernel, by decide +kernel⟩, tm_1 (tm1_7 (List.mem_of_getElem? (i := 6) rfl)), tm_7 (tm7_12 (List.mem_of_getElem? (i := 8) rfl)), tm_7 (tm7_12 (List.mem_of_getElem? (i := 9) rfl))⟩
def lw_privs_7 : List (MethodName × Nat) := [(⟨"PadConsole$Processor", "popPair", "(I)I"⟩, 6), (⟨"PadConsole$Processor", "leave", "(I)I"⟩, 6), (⟨"PadConsole$Processor", "callIf", "(Z)I"⟩, 6), (⟨"PadConsole", "endLine", "()V"⟩, 12), (⟨"PadConsole$Painter", "drawTiles", "(I)V"⟩, 9), (⟨"PadConsole$Painter", "takeTile", "(II)V"⟩, 9), (⟨"PadConsole$Painter", "takePlanes", "(I)V"⟩, 9), (⟨"PadConsole$Painter", "drawSprites", "(I)V"⟩, 9), (⟨"PadConsole$Painter", "rowOfSprite", "(II)I"⟩, 9), (⟨"PadConsole$Painter", "drawSprite", "(II)V"⟩, 9), (⟨"PadConsole$Painter", "drawOld", "(II)V"⟩, 9), (⟨"PadConsole$Painter", "drawText", "(II)V"⟩, 9), (⟨"PadConsole$Painter", "patternAt", "(II)I"⟩, 9), (⟨"PadConsole$Painter", "drawPattern", "(III)V"⟩, 9), (⟨"PadConsole$Painter", "drawThird", "(III)V"⟩, 9), (⟨"PadConsole$Painter", "drawBlocks", "(III)V"⟩, 9)]
theorem lw_r7 : ∀ q ∈ lw_privs_7, lw_okq q := List.forall_mem_cons.mpr ⟨lw_p96, List.forall_mem_cons.mpr ⟨lw_p97, List.forall_mem_cons.mpr ⟨lw_p98, List.forall_mem_cons.mpr ⟨lw_p99, List.forall_mem_cons.mpr ⟨lw_p100, List.forall_mem_cons.mpr ⟨lw_p101, List.forall_mem_cons.mpr ⟨lw_p102, List.forall_mem_cons.mpr ⟨lw_p103, List.forall_mem_cons.mpr ⟨lw_p104, List.forall_mem_cons.mpr ⟨lw_p105, List.forall_mem_cons.mpr ⟨lw_p106, List.forall_mem_cons.mpr ⟨lw_p107, List.forall_mem_cons.mpr ⟨lw_p108, List.forall_mem_cons.mpr ⟨lw_p109, List.forall_mem_cons.mpr ⟨lw_p110, List.forall_mem_cons.mpr ⟨lw_p111, fun _ h => absurd h List.not_mem_nil⟩⟩⟩⟩⟩⟩⟩⟩⟩⟩⟩⟩⟩⟩⟩⟩
theorem lw_p112 : lw_okq (⟨"PadConsole$Painter", "drawOldSprites", "(I)V"⟩, 9) := ⟨⟨by decide +kernel, by decide +kernel⟩, tm_1 (tm1_7 (List.mem_of_getElem? (i := 6) rfl)), tm_7 (tm7_12 (List.mem_of_getElem? (i := 12) rfl)), tm_7 (tm7_12 (List.mem_of_getElem? (i := 13) rfl))⟩
theorem lw_p113 : lw_okq (⟨"PadConsole$Painter", "drawOldSprite", "(II)V"⟩, 9) := ⟨⟨by decide +kernel, by decide +kernel⟩, tm_1 (tm1_7 (List.mem_of_getElem? (i := 6) rfl)), tm_7 (tm7_13 (List.mem_of_getElem? (i := 4) rfl)), tm_7 (tm7_13 (List.mem_of_getElem? (i := 5) rfl))⟩
theorem lw_p114 : lw_okq (⟨"PadConsole$Painter", "takeDot", "(II)V"⟩, 9) := ⟨⟨by decide +kernel, by decide +kernel⟩, tm_1 (tm1_7 (List.mem_of_getElem? (i := 6) rfl)), tm_7 (tm7_13 (List.mem_of_getElem? (i := 8) rfl)), tm_7 (tm7_13 (List.mem_of_getElem? (i := 9) rfl))⟩
theorem lw_p115 : lw_okq (⟨"PadConsole$Painter", "fillBack", "(I)V"⟩, 9) := ⟨⟨by decide +kernel, by decide +kernel⟩, tm_1 (tm1_7 (List.mem_of_getElem? (i := 6) rfl)), tm_7 (tm7_13 (List.mem_of_getElem? (i := 12) rfl)), tm_7 (tm7_13 (List.mem_of_getElem? (i := 13) rfl))⟩
theorem lw_p116 : lw_okq (⟨"PadConsole$Painter", "mixColours", "(I)V"⟩, 9) := ⟨⟨by decide +kernel, by decide +kernel⟩, tm_1 (tm1_7 (List.mem_of_getElem? (i := 6) rfl)), tm_7 (tm7_14 (List.mem_of_getElem? (i := 0) rfl)), tm_7 (tm7_14 (List.mem_of_getElem? (i := 1) rfl))⟩
theorem lw_p117 : lw_okq (⟨"PadConsole$Desk", "placeOfPlan", "(I)I"⟩, 6) := ⟨⟨by decide +kernel, by decide +kernel⟩, tm_3 (tm3_9 (List.mem_of_getElem? (i := 7) rfl)), tm_8 (tm8_0 (List.mem_of_getElem? (i := 2) rfl)), tm_8 (tm8_0 (List.mem_of_getElem? (i := 3) rfl))⟩
theorem lw_p118 : lw_okq (⟨"PadConsole$Clock", "addSample", "()V"⟩, 6) := ⟨⟨by decide +kernel, by decide +kernel⟩, tm_3 (tm3_6 (List.mem_of_getElem? (i := 2) rfl)), tm_8 (tm8_0 (List.mem_of_getElem? (i := 15) rfl)), tm_8 (tm8_1 (List.mem_of_getElem? (i := 0) rfl))⟩
theorem lw_p119 : lw_okq (⟨"PadConsole$Sound", "moveTone", "(I)V"⟩, 2) := ⟨⟨by decide +kernel, by decide +kernel⟩, tm_1 (tm1_9 (List.mem_of_getElem? (i := 9) rfl)), tm_8 (tm8_1 (List.mem_of_getElem? (i := 7) rfl)), tm_8 (tm8_1 (List.mem_of_getElem? (i := 8) rfl))⟩
theorem lw_p120 : lw_okq (⟨"PadConsole$Sound", "moveNoise", "()V"⟩, 2) := ⟨⟨by decide +kernel, by decide +kernel⟩, tm_1 (tm1_9 (List.mem_of_getElem? (i := 9) rfl)), tm_8 (tm8_1 (List.mem_of_getElem? (i := 12) rfl)), tm_8 (tm8_1 (List.mem_of_getElem? (i := 13) rfl))⟩
theorem lw_p121 : lw_okq (⟨"PadConsole$Waves", "takeOwnPatch", "()V"⟩, 8) := ⟨⟨by decide +kernel, by decide +kernel⟩, tm_3 (tm3_0 (List.mem_of_getElem? (i := 7) rfl)), tm_8 (tm8_2 (List.mem_of_getElem? (i := 12) rfl)), tm_8 (tm8_2 (List.mem_of_getElem? (i := 13) rfl))⟩
theorem lw_p122 : lw_okq (⟨"PadConsole$Waves", "takeChannel", "(I)V"⟩, 8) := ⟨⟨by decide +kernel, by decide +kernel⟩, tm_3 (tm3_0 (List.mem_of_getElem? (i := 7) rfl)), tm_8 (tm8_3 (List.mem_of_getElem? (i := 0) rfl)), tm_8 (tm8_3 (List.mem_of_getElem? (i := 1) rfl))⟩
theorem lw_p123 : lw_okq (⟨"PadConsole$Waves", "moveOperator", "(II)V"⟩, 8) := ⟨⟨by decide +kernel, by decide +kernel⟩, tm_3 (tm3_0 (List.mem_of_getElem? (i := 7) rfl)), tm_8 (tm8_3 (List.mem_of_getElem? (i := 6) rfl)), tm_8 (tm8_3 (List.mem_of_getElem? (i := 7) rfl))⟩
theorem lw_p124 : lw_okq (⟨"PadConsole$Waves", "isOn", "(I)Z"⟩, 8) := ⟨⟨by decide +kernel, by decide +kernel⟩, tm_3 (tm3_0 (List.mem_of_getElem? (i := 7) rfl)), tm_8 (tm8_3 (List.mem_of_getElem? (i := 10) rfl)), tm_8 (tm8_3 (List.mem_of_getElem? (i := 11) rfl))⟩
theorem lw_p125 : lw_okq (⟨"PadConsole$Waves", "moveLevel", "(II)V"⟩, 8) := ⟨⟨by decide +kernel, by decide +kernel⟩, tm_3 (tm3_0 (List.mem_of_getElem? (i := 7) rfl)), tm_8 (tm8_3 (List.mem_of_getElem? (i := 14) rfl)), tm_8 (tm8_3 (List.mem_of_getElem? (i := 15) rfl))⟩
theorem lw_p126 : lw_okq (⟨"PadConsole$Waves", "rateIn", "(II)I"⟩, 8) := ⟨⟨by decide +kernel, by decide +kernel⟩, tm_3 (tm3_0 (List.mem_of_getElem? (i := 7) rfl)), tm_8 (tm8_4 (List.mem_of_getElem? (i := 2) rfl)), tm_8 (tm8_4 (List.mem_of_getElem? (i := 3) rfl))⟩
theorem lw_p127 : lw_okq (⟨"PadConsole$Waves", "part", "(I)I"⟩, 8) := ⟨⟨by decide +kernel, by decide +kernel⟩, tm_3 (tm3_0 (List.mem_of_getElem? (i := 7) rfl)), tm_8 (tm8_4 (List.mem_of_getElem? (i := 6) rfl)), tm_8 (tm8_4 (List.mem_of_getElem? (i := 7) rfl))⟩
def lw_privs_8 : List (MethodName × Nat) := [(⟨"PadConsole$Painter", "drawOldSprites", "(I)V"⟩, 9), (⟨"PadConsole$Painter", "drawOldSprite", "(II)V"⟩, 9), (⟨"PadConsole$Painter", "takeDot", "(II)V"⟩, 9), (⟨"PadConsole$Painter", "fillBack", "(I)V"⟩, 9), (⟨"PadConsole$Painter", "mixColours", "(I)V"⟩, 9), (⟨"PadConsole$Desk", "placeOfPlan", "(I)I"⟩, 6), (⟨"PadConsole$Clock", "addSample", "()V"⟩, 6), (⟨"PadConsole$Sound", "moveTone", "(I)V"⟩, 2), (⟨"PadConsole$Sound", "moveNoise", "()V"⟩, 2), (⟨"PadConsole$Waves", "takeOwnPatch", "()V"⟩, 8), (⟨"PadConsole$Waves", "takeChannel", "(I)V"⟩, 8), (⟨"PadConsole$Waves", "moveOperator", "(II)V"⟩, 8), (⟨"PadConsole$Waves", "isOn", "(I)Z"⟩, 8), (⟨"PadConsole$Waves", "moveLevel", "(II)V"⟩, 8), (⟨"PadConsole$Waves", "rateIn", "(II)I"⟩, 8), (⟨"PadConsole$Waves", "part", "(I)I"⟩, 8)]
theorem lw_r8 : ∀ q ∈ lw_privs_8, lw_okq q := List.forall_mem_cons.mpr ⟨lw_p112, List.forall_mem_cons.mpr ⟨lw_p113, List.forall_mem_cons.mpr ⟨lw_p114, List.forall_mem_cons.mpr ⟨lw_p115, List.forall_mem_cons.mpr ⟨lw_p116, List.forall_mem_cons.mpr ⟨lw_p117, List.forall_mem_cons.mpr ⟨lw_p118, List.forall_mem_cons.mpr ⟨lw_p119, List.forall_mem_cons.mpr ⟨lw_p120, List.forall_mem_cons.mpr ⟨lw_p121, List.forall_mem_cons.mpr ⟨lw_p122, List.forall_mem_cons.mpr ⟨lw_p123, List.forall_mem_cons.mpr ⟨lw_p124, List.forall_mem_cons.mpr ⟨lw_p125, List.forall_mem_cons.mpr ⟨lw_p126, List.forall_mem_cons.mpr ⟨lw_p127, fun _ h => absurd h List.not_mem_nil⟩⟩⟩⟩⟩⟩⟩⟩⟩⟩⟩⟩⟩⟩⟩⟩
theorem lw_p128 : lw_okq (⟨"PadConsole$Waves", "louder", "(III)I"⟩, 8) := ⟨⟨by decide +kernel, by decide +kernel⟩, tm_3 (tm3_0 (List.mem_of_getElem? (i := 7) rfl)), tm_8 (tm8_4 (List.mem_of_getElem? (i := 13) rfl)), tm_8 (tm8_4 (List.mem_of_getElem? (i := 14) rfl))⟩
theorem lw_p129 : lw_okq (⟨"PadConsole$Waves", "slowTick", "()I"⟩, 8) := ⟨⟨by decide +kernel, by decide +kernel⟩, tm_3 (tm3_0 (List.mem_of_getElem? (i := 7) rfl)), tm_8 (tm8_5 (List.mem_of_getElem? (i := 1) rfl)), tm_8 (tm8_5 (List.mem_of_getElem? (i := 2) rfl))⟩
theorem lw_p130 : lw_okq (⟨"PadConsole$Waves", "tickAt", "(II)I"⟩, 8) := ⟨⟨by decide +kernel, by decide +kernel⟩, tm_3 (tm3_0 (List.mem_of_getElem? (i := 7) rfl)), tm_8 (tm8_5 (List.mem_of_getElem? (i := 5) rfl)), tm_8 (tm8_5 (List.mem_of_getElem? (i := 6) rfl))⟩
theorem lw_p131 : lw_okq (⟨"PadConsole$Waves", "softer", "(II)I"⟩, 8) := ⟨⟨by decide +kernel, by decide +kernel⟩, tm_3 (tm3_0 (List.mem_of_getElem? (i := 7) rfl)), tm_8 (tm8_5 (List.mem_of_getElem? (i := 10) rfl)), tm_8 (tm8_5 (List.mem_of_getElem? (i := 11) rfl))⟩
theorem lw_p132 : lw_okq (⟨"PadConsole$Waves", "moveState", "(II)V"⟩, 8) := ⟨⟨by decide +kernel, by decide +kernel⟩, tm_3 (tm3_0 (List.mem_of_getElem? (i := 7) rfl)), tm_8 (tm8_5 (List.mem_of_getElem? (i := 14) rfl)), tm_8 (tm8_5 (List.mem_of_getElem? (i := 15) rfl))⟩
theorem lw_p133 : lw_okq (⟨"PadConsole$Waves", "movePhase", "(II)V"⟩, 8) := ⟨⟨by decide +kernel, by decide +kernel⟩, tm_3 (tm3_0 (List.mem_of_getElem? (i := 7) rfl)), tm_8 (tm8_6 (List.mem_of_getElem? (i := 2) rfl)), tm_8 (tm8_6 (List.mem_of_getElem? (i := 3) rfl))⟩
theorem lw_p134 : lw_okq (⟨"PadConsole$Waves", "sway", "(I)I"⟩, 8) := ⟨⟨by decide +kernel, by decide +kernel⟩, tm_3 (tm3_0 (List.mem_of_getElem? (i := 7) rfl)), tm_8 (tm8_6 (List.mem_of_getElem? (i := 6) rfl)), tm_8 (tm8_6 (List.mem_of_getElem? (i := 7) rfl))⟩
theorem lw_p135 : lw_okq (⟨"PadConsole$Waves", "moveOut", "(II)V"⟩, 8) := ⟨⟨by decide +kernel, by decide +kernel⟩, tm_3 (tm3_0 (List.mem_of_getElem? (i := 7) rfl)), tm_8 (tm8_6 (List.mem_of_getElem? (i := 13) rfl)), tm_8 (tm8_6 (List.mem_of_getElem? (i := 14) rfl))⟩
theorem lw_p136 : lw_okq (⟨"PadConsole$Waves", "turnedPhase", "(II)I"⟩, 8) := ⟨⟨by decide +kernel, by decide +kernel⟩, tm_3 (tm3_0 (List.mem_of_getElem? (i := 7) rfl)), tm_8 (tm8_7 (List.mem_of_getElem? (i := 1) rfl)), tm_8 (tm8_7 (List.mem_of_getElem? (i := 2) rfl))⟩
theorem lw_p137 : lw_okq (⟨"PadConsole$Waves", "drumPhase", "(II)I"⟩, 8) := ⟨⟨by decide +kernel, by decide +kernel⟩, tm_3 (tm3_0 (List.mem_of_getElem? (i := 7) rfl)), tm_8 (tm8_7 (List.mem_of_getElem? (i := 5) rfl)), tm_8 (tm8_7 (List.mem_of_getElem? (i := 6) rfl))⟩
theorem lw_p138 : lw_okq (⟨"PadConsole$Waves", "softness", "(II)I"⟩, 8) := ⟨⟨by decide +kernel, by decide +kernel⟩, tm_3 (tm3_0 (List.mem_of_getElem? (i := 7) rfl)), tm_8 (tm8_7 (List.mem_of_getElem? (i := 9) rfl)), tm_8 (tm8_7 (List.mem_of_getElem? (i := 10) rfl))⟩
theorem lw_p139 : lw_okq (⟨"PadConsole$Waves", "scaled", "(I)I"⟩, 8) := ⟨⟨by decide +kernel, by decide +kernel⟩, tm_3 (tm3_0 (List.mem_of_getElem? (i := 7) rfl)), tm_8 (tm8_7 (List.mem_of_getElem? (i := 13) rfl)), tm_8 (tm8_7 (List.mem_of_getElem? (i := 14) rfl))⟩
theorem lw_p140 : lw_okq (⟨"PadConsole$Waves", "tremble", "()I"⟩, 8) := ⟨⟨by decide +kernel, by decide +kernel⟩, tm_3 (tm3_0 (List.mem_of_getElem? (i := 7) rfl)), tm_8 (tm8_8 (List.mem_of_getElem? (i := 3) rfl)), tm_8 (tm8_8 (List.mem_of_getElem? (i := 4) rfl))⟩
theorem lw_p141 : lw_okq (⟨"PadConsole$Clock", "addMix", "()V"⟩, 6) := ⟨⟨by decide +kernel, by decide +kernel⟩, tm_3 (tm3_6 (List.mem_of_getElem? (i := 2) rfl)), tm_8 (tm8_9 (List.mem_of_getElem? (i := 0) rfl)), tm_8 (tm8_9 (List.mem_of_getElem? (i := 1) rfl))⟩
theorem lw_p142 : lw_okq (⟨"PadConsole$Painter", "placeOf", "(I)I"⟩, 9) := ⟨⟨by decide +kernel, by decide +kernel⟩, tm_1 (tm1_7 (List.mem_of_getElem? (i := 6) rfl)), tm_9 (tm9_8 (List.mem_of_getElem? (i := 9) rfl)), tm_9 (tm9_8 (List.mem_of_getElem? (i := 10) rfl))⟩
theorem lw_p143 : lw_okq (⟨"PadConsoleModel", "anew", "()V"⟩, 44) := ⟨⟨by decide +kernel, by decide +kernel⟩, tm_9 (tm9_14 (List.mem_of_getElem? (i := 4) rfl)), tm_9 (tm9_14 (List.mem_of_getElem? (i := 14) rfl)), tm_9 (tm9_14 (List.mem_of_getElem? (i := 15) rfl))⟩
def lw_privs_9 : List (MethodName × Nat) := [(⟨"PadConsole$Waves", "louder", "(III)I"⟩, 8), (⟨"PadConsole$Waves", "slowTick", "()I"⟩, 8), (⟨"PadConsole$Waves", "tickAt", "(II)I"⟩, 8), (⟨"PadConsole$Waves", "softer", "(II)I"⟩, 8), (⟨"PadConsole$Waves", "moveState", "(II)V"⟩, 8), (⟨"PadConsole$Waves", "movePhase", "(II)V"⟩, 8), (⟨"PadConsole$Waves", "sway", "(I)I"⟩, 8), (⟨"PadConsole$Waves", "moveOut", "(II)V"⟩, 8), (⟨"PadConsole$Waves", "turnedPhase", "(II)I"⟩, 8), (⟨"PadConsole$Waves", "drumPhase", "(II)I"⟩, 8), (⟨"PadConsole$Waves", "softness", "(II)I"⟩, 8), (⟨"PadConsole$Waves", "scaled", "(I)I"⟩, 8), (⟨"PadConsole$Waves", "tremble", "()I"⟩, 8), (⟨"PadConsole$Clock", "addMix", "()V"⟩, 6), (⟨"PadConsole$Painter", "placeOf", "(I)I"⟩, 9), (⟨"PadConsoleModel", "anew", "()V"⟩, 44)]
theorem lw_r9 : ∀ q ∈ lw_privs_9, lw_okq q := List.forall_mem_cons.mpr ⟨lw_p128, List.forall_mem_cons.mpr ⟨lw_p129, List.forall_mem_cons.mpr ⟨lw_p130, List.forall_mem_cons.mpr ⟨lw_p131, List.forall_mem_cons.mpr ⟨lw_p132, List.forall_mem_cons.mpr ⟨lw_p133, List.forall_mem_cons.mpr ⟨lw_p134, List.forall_mem_cons.mpr ⟨lw_p135, List.forall_mem_cons.mpr ⟨lw_p136, List.forall_mem_cons.mpr ⟨lw_p137, List.forall_mem_cons.mpr ⟨lw_p138, List.forall_mem_cons.mpr ⟨lw_p139, List.forall_mem_cons.mpr ⟨lw_p140, List.forall_mem_cons.mpr ⟨lw_p141, List.forall_mem_cons.mpr ⟨lw_p142, List.forall_mem_cons.mpr ⟨lw_p143, fun _ h => absurd h List.not_mem_nil⟩⟩⟩⟩⟩⟩⟩⟩⟩⟩⟩⟩⟩⟩⟩⟩
theorem lw_p144 : lw_okq (⟨"PadConsoleModel", "fails", "(ZI)Z"⟩, 44) := ⟨⟨by decide +kernel, by decide +kernel⟩, tm_9 (tm9_14 (List.mem_of_getElem? (i := 4) rfl)), tm_10 (tm10_9 (List.mem_of_getElem? (i := 5) rfl)), tm_10 (tm10_9 (List.mem_of_getElem? (i := 6) rfl))⟩
theorem lw_p145 : lw_okq (⟨"PadConsoleModel", "isHeader", "(I)Z"⟩, 44) := ⟨⟨by decide +kernel, by decide +kernel⟩, tm_9 (tm9_14 (List.mem_of_getElem? (i := 4) rfl)), tm_10 (tm10_10 (List.mem_of_getElem? (i := 5) rfl)), tm_10 (tm10_10 (List.mem_of_getElem? (i := 6) rfl))⟩
theorem lw_p146 : lw_okq (⟨"PadConsoleModel", "bytesAt", "(II)I"⟩, 44) := ⟨⟨by decide +kernel, by decide +kernel⟩, tm_9 (tm9_14 (List.mem_of_getElem? (i := 4) rfl)), tm_10 (tm10_10 (List.mem_of_getElem? (i := 10) rfl)), tm_10 (tm10_10 (List.mem_of_getElem? (i := 11) rfl))⟩
theorem lw_p147 : lw_okq (⟨"PadConsoleModel", "tens", "(I)I"⟩, 44) := ⟨⟨by decide +kernel, by decide +kernel⟩, tm_9 (tm9_14 (List.mem_of_getElem? (i := 4) rfl)), tm_10 (tm10_11 (List.mem_of_getElem? (i := 5) rfl)), tm_10 (tm10_11 (List.mem_of_getElem? (i := 6) rfl))⟩
theorem lw_p148 : lw_okq (⟨"PadConsoleModel", "isStop", "(I)Z"⟩, 44) := ⟨⟨by decide +kernel, by decide +kernel⟩, tm_9 (tm9_14 (List.mem_of_getElem? (i := 4) rfl)), tm_10 (tm10_11 (List.mem_of_getElem? (i := 14) rfl)), tm_10 (tm10_11 (List.mem_of_getElem? (i := 15) rfl))⟩
theorem lw_p149 : lw_okq (⟨"PadConsoleModel", "once", "()V"⟩, 44) := ⟨⟨by decide +kernel, by decide +kernel⟩, tm_9 (tm9_14 (List.mem_of_getElem? (i := 4) rfl)), tm_10 (tm10_12 (List.mem_of_getElem? (i := 2) rfl)), tm_10 (tm10_12 (List.mem_of_getElem? (i := 3) rfl))⟩
theorem lw_p150 : lw_okq (⟨"PadConsoleModel", "answers", "()V"⟩, 44) := ⟨⟨by decide +kernel, by decide +kernel⟩, tm_9 (tm9_14 (List.mem_of_getElem? (i := 4) rfl)), tm_10 (tm10_12 (List.mem_of_getElem? (i := 7) rfl)), tm_10 (tm10_12 (List.mem_of_getElem? (i := 8) rfl))⟩
theorem lw_p151 : lw_okq (⟨"PadConsoleModel", "grows", "()V"⟩, 44) := ⟨⟨by decide +kernel, by decide +kernel⟩, tm_9 (tm9_14 (List.mem_of_getElem? (i := 4) rfl)), tm_10 (tm10_12 (List.mem_of_getElem? (i := 11) rfl)), tm_10 (tm10_12 (List.mem_of_getElem? (i := 12) rfl))⟩
theorem lw_p152 : lw_okq (⟨"PadConsoleModel", "call", "(I)V"⟩, 44) := ⟨⟨by decide +kernel, by decide +kernel⟩, tm_9 (tm9_14 (List.mem_of_getElem? (i := 4) rfl)), tm_10 (tm10_12 (List.mem_of_getElem? (i := 15) rfl)), tm_10 (tm10_13 (List.mem_of_getElem? (i := 0) rfl))⟩
theorem lw_p153 : lw_okq (⟨"PadConsoleModel", "push", "(I)V"⟩, 44) := ⟨⟨by decide +kernel, by decide +kernel⟩, tm_9 (tm9_14 (List.mem_of_getElem? (i := 4) rfl)), tm_10 (tm10_13 (List.mem_of_getElem? (i := 3) rfl)), tm_10 (tm10_13 (List.mem_of_getElem? (i := 4) rfl))⟩
theorem lw_p154 : lw_okq (⟨"PadConsoleModel", "write", "(II)V"⟩, 44) := ⟨⟨by decide +kernel, by decide +kernel⟩, tm_9 (tm9_14 (List.mem_of_getElem? (i := 4) rfl)), tm_10 (tm10_13 (List.mem_of_getElem? (i := 7) rfl)), tm_10 (tm10_13 (List.mem_of_getElem? (i := 8) rfl))⟩
theorem lw_p155 : lw_okq (⟨"PadConsoleModel", "isBattery", "(I)Z"⟩, 44) := ⟨⟨by decide +kernel, by decide +kernel⟩, tm_9 (tm9_14 (List.mem_of_getElem? (i := 4) rfl)), tm_10 (tm10_13 (List.mem_of_getElem? (i := 11) rfl)), tm_10 (tm10_13 (List.mem_of_getElem? (i := 12) rfl))⟩
theorem lw_p156 : lw_okq (⟨"PadConsoleModel", "batteryAt", "(I)I"⟩, 44) := ⟨⟨by decide +kernel, by decide +kernel⟩, tm_9 (tm9_14 (List.mem_of_getElem? (i := 4) rfl)), tm_10 (tm10_13 (List.mem_of_getElem? (i := 15) rfl)), tm_10 (tm10_14 (List.mem_of_getElem? (i := 0) rfl))⟩
theorem lw_p157 : lw_okq (⟨"PadConsoleModel", "asks", "()Z"⟩, 44) := ⟨⟨by decide +kernel, by decide +kernel⟩, tm_9 (tm9_14 (List.mem_of_getElem? (i := 4) rfl)), tm_10 (tm10_14 (List.mem_of_getElem? (i := 6) rfl)), tm_10 (tm10_14 (List.mem_of_getElem? (i := 7) rfl))⟩
theorem lw_p158 : lw_okq (⟨"PadConsoleModel", "bit", "(II)I"⟩, 44) := ⟨⟨by decide +kernel, by decide +kernel⟩, tm_9 (tm9_14 (List.mem_of_getElem? (i := 4) rfl)), tm_10 (tm10_14 (List.mem_of_getElem? (i := 10) rfl)), tm_10 (tm10_14 (List.mem_of_getElem? (i := 11) rfl))⟩
theorem lw_p159 : lw_okq (⟨"PadConsoleModel", "word", "(I)I"⟩, 44) := ⟨⟨by decide +kernel, by decide +kernel⟩, tm_9 (tm9_14 (List.mem_of_getElem? (i := 4) rfl)), tm_10 (tm10_14 (List.mem_of_getElem? (i := 14) rfl)), tm_10 (tm10_14 (List.mem_of_getElem? (i := 15) rfl))⟩
def lw_privs_10 : List (MethodName × Nat) := [(⟨"PadConsoleModel", "fails", "(ZI)Z"⟩, 44), (⟨"PadConsoleModel", "isHeader", "(I)Z"⟩, 44), (⟨"PadConsoleModel", "bytesAt", "(II)I"⟩, 44), (⟨"PadConsoleModel", "tens", "(I)I"⟩, 44), (⟨"PadConsoleModel", "isStop", "(I)Z"⟩, 44), (⟨"PadConsoleModel", "once", "()V"⟩, 44), (⟨"PadConsoleModel", "answers", "()V"⟩, 44), (⟨"PadConsoleModel", "grows", "()V"⟩, 44), (⟨"PadConsoleModel", "call", "(I)V"⟩, 44), (⟨"PadConsoleModel", "push", "(I)V"⟩, 44), (⟨"PadConsoleModel", "write", "(II)V"⟩, 44), (⟨"PadConsoleModel", "isBattery", "(I)Z"⟩, 44), (⟨"PadConsoleModel", "batteryAt", "(I)I"⟩, 44), (⟨"PadConsoleModel", "asks", "()Z"⟩, 44), (⟨"PadConsoleModel", "bit", "(II)I"⟩, 44), (⟨"PadConsoleModel", "word", "(I)I"⟩, 44)]
theorem lw_r10 : ∀ q ∈ lw_privs_10, lw_okq q := List.forall_mem_cons.mpr ⟨lw_p144, List.forall_mem_cons.mpr ⟨lw_p145, List.forall_mem_cons.mpr ⟨lw_p146, List.forall_mem_cons.mpr ⟨lw_p147, List.forall_mem_cons.mpr ⟨lw_p148, List.forall_mem_cons.mpr ⟨lw_p149, List.forall_mem_cons.mpr ⟨lw_p150, List.forall_mem_cons.mpr ⟨lw_p151, List.forall_mem_cons.mpr ⟨lw_p152, List.forall_mem_cons.mpr ⟨lw_p153, List.forall_mem_cons.mpr ⟨lw_p154, List.forall_mem_cons.mpr ⟨lw_p155, List.forall_mem_cons.mpr ⟨lw_p156, List.forall_mem_cons.mpr ⟨lw_p157, List.forall_mem_cons.mpr ⟨lw_p158, List.forall_mem_cons.mpr ⟨lw_p159, fun _ h => absurd h List.not_mem_nil⟩⟩⟩⟩⟩⟩⟩⟩⟩⟩⟩⟩⟩⟩⟩⟩
theorem lw_p160 : lw_okq (⟨"PadConsoleModel", "read", "(I)I"⟩, 44) := ⟨⟨by decide +kernel, by decide +kernel⟩, tm_9 (tm9_14 (List.mem_of_getElem? (i := 4) rfl)), tm_11 (tm11_0 (List.mem_of_getElem? (i := 2) rfl)), tm_11 (tm11_0 (List.mem_of_getElem? (i := 3) rfl))⟩
theorem lw_p161 : lw_okq (⟨"PadConsoleModel", "ofBank", "(II)I"⟩, 44) := ⟨⟨by decide +kernel, by decide +kernel⟩, tm_9 (tm9_14 (List.mem_of_getElem? (i := 4) rfl)), tm_11 (tm11_0 (List.mem_of_getElem? (i := 6) rfl)), tm_11 (tm11_0 (List.mem_of_getElem? (i := 7) rfl))⟩
theorem lw_p162 : lw_okq (⟨"PadConsoleModel", "instruction", "()I"⟩, 44) := ⟨⟨by decide +kernel, by decide +kernel⟩, tm_9 (tm9_14 (List.mem_of_getElem? (i := 4) rfl)), tm_11 (tm11_0 (List.mem_of_getElem? (i := 10) rfl)), tm_11 (tm11_0 (List.mem_of_getElem? (i := 11) rfl))⟩
theorem lw_p163 : lw_okq (⟨"PadConsoleModel", "fetch", "()I"⟩, 44) := ⟨⟨by decide +kernel, by decide +kernel⟩, tm_9 (tm9_14 (List.mem_of_getElem? (i := 4) rfl)), tm_11 (tm11_0 (List.mem_of_getElem? (i := 14) rfl)), tm_11 (tm11_0 (List.mem_of_getElem? (i := 15) rfl))⟩
theorem lw_p164 : lw_okq (⟨"PadConsoleModel", "next", "()I"⟩, 44) := ⟨⟨by decide +kernel, by decide +kernel⟩, tm_9 (tm9_14 (List.mem_of_getElem? (i := 4) rfl)), tm_11 (tm11_1 (List.mem_of_getElem? (i := 2) rfl)), tm_11 (tm11_1 (List.mem_of_getElem? (i := 3) rfl))⟩
theorem lw_p165 : lw_okq (⟨"PadConsoleModel", "plain", "(I)I"⟩, 44) := ⟨⟨by decide +kernel, by decide +kernel⟩, tm_9 (tm9_14 (List.mem_of_getElem? (i := 4) rfl)), tm_11 (tm11_1 (List.mem_of_getElem? (i := 6) rfl)), tm_11 (tm11_1 (List.mem_of_getElem? (i := 7) rfl))⟩
theorem lw_p166 : lw_okq (⟨"PadConsoleModel", "zero", "(II)I"⟩, 44) := ⟨⟨by decide +kernel, by decide +kernel⟩, tm_9 (tm9_14 (List.mem_of_getElem? (i := 4) rfl)), tm_11 (tm11_1 (List.mem_of_getElem? (i := 10) rfl)), tm_11 (tm11_1 (List.mem_of_getElem? (i := 11) rfl))⟩
theorem lw_p167 : lw_okq (⟨"PadConsoleModel", "change", "(II)V"⟩, 44) := ⟨⟨by decide +kernel, by decide +kernel⟩, tm_9 (tm9_14 (List.mem_of_getElem? (i := 4) rfl)), tm_11 (tm11_1 (List.mem_of_getElem? (i := 14) rfl)), tm_11 (tm11_1 (List.mem_of_getElem? (i := 15) rfl))⟩
theorem lw_p168 : lw_okq (⟨"PadConsoleModel", "cc", "(I)Z"⟩, 44) := ⟨⟨by decide +kernel, by decide +kernel⟩, tm_9 (tm9_14 (List.mem_of_getElem? (i := 4) rfl)), tm_11 (tm11_2 (List.mem_of_getElem? (i := 5) rfl)), tm_11 (tm11_2 (List.mem_of_getElem? (i := 6) rfl))⟩
theorem lw_p169 : lw_okq (⟨"PadConsoleModel", "flag", "(I)I"⟩, 44) := ⟨⟨by decide +kernel, by decide +kernel⟩, tm_9 (tm9_14 (List.mem_of_getElem? (i := 4) rfl)), tm_11 (tm11_2 (List.mem_of_getElem? (i := 9) rfl)), tm_11 (tm11_2 (List.mem_of_getElem? (i := 10) rfl))⟩
theorem lw_p170 : lw_okq (⟨"PadConsoleModel", "jump", "(I)V"⟩, 44) := ⟨⟨by decide +kernel, by decide +kernel⟩, tm_9 (tm9_14 (List.mem_of_getElem? (i := 4) rfl)), tm_11 (tm11_2 (List.mem_of_getElem? (i := 13) rfl)), tm_11 (tm11_2 (List.mem_of_getElem? (i := 14) rfl))⟩
theorem lw_p171 : lw_okq (⟨"PadConsoleModel", "nextWord", "()I"⟩, 44) := ⟨⟨by decide +kernel, by decide +kernel⟩, tm_9 (tm9_14 (List.mem_of_getElem? (i := 4) rfl)), tm_11 (tm11_3 (List.mem_of_getElem? (i := 1) rfl)), tm_11 (tm11_3 (List.mem_of_getElem? (i := 2) rfl))⟩
theorem lw_p172 : lw_okq (⟨"PadConsoleModel", "rpTo", "(II)V"⟩, 44) := ⟨⟨by decide +kernel, by decide +kernel⟩, tm_9 (tm9_14 (List.mem_of_getElem? (i := 4) rfl)), tm_11 (tm11_3 (List.mem_of_getElem? (i := 5) rfl)), tm_11 (tm11_3 (List.mem_of_getElem? (i := 6) rfl))⟩
theorem lw_p173 : lw_okq (⟨"PadConsoleModel", "pairTo", "(II)V"⟩, 44) := ⟨⟨by decide +kernel, by decide +kernel⟩, tm_9 (tm9_14 (List.mem_of_getElem? (i := 4) rfl)), tm_11 (tm11_3 (List.mem_of_getElem? (i := 9) rfl)), tm_11 (tm11_3 (List.mem_of_getElem? (i := 10) rfl))⟩
theorem lw_p174 : lw_okq (⟨"PadConsoleModel", "hlTo", "(I)V"⟩, 44) := ⟨⟨by decide +kernel, by decide +kernel⟩, tm_9 (tm9_14 (List.mem_of_getElem? (i := 4) rfl)), tm_11 (tm11_3 (List.mem_of_getElem? (i := 13) rfl)), tm_11 (tm11_3 (List.mem_of_getElem? (i := 14) rfl))⟩
theorem lw_p175 : lw_okq (⟨"PadConsoleModel", "hl", "()I"⟩, 44) := ⟨⟨by decide +kernel, by decide +kernel⟩, tm_9 (tm9_14 (List.mem_of_getElem? (i := 4) rfl)), tm_11 (tm11_4 (List.mem_of_getElem? (i := 1) rfl)), tm_11 (tm11_4 (List.mem_of_getElem? (i := 2) rfl))⟩
def lw_privs_11 : List (MethodName × Nat) := [(⟨"PadConsoleModel", "read", "(I)I"⟩, 44), (⟨"PadConsoleModel", "ofBank", "(II)I"⟩, 44), (⟨"PadConsoleModel", "instruction", "()I"⟩, 44), (⟨"PadConsoleModel", "fetch", "()I"⟩, 44), (⟨"PadConsoleModel", "next", "()I"⟩, 44), (⟨"PadConsoleModel", "plain", "(I)I"⟩, 44), (⟨"PadConsoleModel", "zero", "(II)I"⟩, 44), (⟨"PadConsoleModel", "change", "(II)V"⟩, 44), (⟨"PadConsoleModel", "cc", "(I)Z"⟩, 44), (⟨"PadConsoleModel", "flag", "(I)I"⟩, 44), (⟨"PadConsoleModel", "jump", "(I)V"⟩, 44), (⟨"PadConsoleModel", "nextWord", "()I"⟩, 44), (⟨"PadConsoleModel", "rpTo", "(II)V"⟩, 44), (⟨"PadConsoleModel", "pairTo", "(II)V"⟩, 44), (⟨"PadConsoleModel", "hlTo", "(I)V"⟩, 44), (⟨"PadConsoleModel", "hl", "()I"⟩, 44)]
theorem lw_r11 : ∀ q ∈ lw_privs_11, lw_okq q := List.forall_mem_cons.mpr ⟨lw_p160, List.forall_mem_cons.mpr ⟨lw_p161, List.forall_mem_cons.mpr ⟨lw_p162, List.forall_mem_cons.mpr ⟨lw_p163, List.forall_mem_cons.mpr ⟨lw_p164, List.forall_mem_cons.mpr ⟨lw_p165, List.forall_mem_cons.mpr ⟨lw_p166, List.forall_mem_cons.mpr ⟨lw_p167, List.forall_mem_cons.mpr ⟨lw_p168, List.forall_mem_cons.mpr ⟨lw_p169, List.forall_mem_cons.mpr ⟨lw_p170, List.forall_mem_cons.mpr ⟨lw_p171, List.forall_mem_cons.mpr ⟨lw_p172, List.forall_mem_cons.mpr ⟨lw_p173, List.forall_mem_cons.mpr ⟨lw_p174, List.forall_mem_cons.mpr ⟨lw_p175, fun _ h => absurd h List.not_mem_nil⟩⟩⟩⟩⟩⟩⟩⟩⟩⟩⟩⟩⟩⟩⟩⟩
theorem lw_p176 : lw_okq (⟨"PadConsoleModel", "pair", "(I)I"⟩, 44) := ⟨⟨by decide +kernel, by decide +kernel⟩, tm_9 (tm9_14 (List.mem_of_getElem? (i := 4) rfl)), tm_11 (tm11_4 (List.mem_of_getElem? (i := 5) rfl)), tm_11 (tm11_4 (List.mem_of_getElem? (i := 6) rfl))⟩
theorem lw_p177 : lw_okq (⟨"PadConsoleModel", "rp", "(I)I"⟩, 44) := ⟨⟨by decide +kernel, by decide +kernel⟩, tm_9 (tm9_14 (List.mem_of_getElem? (i := 4) rfl)), tm_11 (tm11_4 (List.mem_of_getElem? (i := 9) rfl)), tm_11 (tm11_4 (List.mem_of_getElem? (i := 10) rfl))⟩
theorem lw_p178 : lw_okq (⟨"PadConsoleModel", "put", "(IZ)V"⟩, 44) := ⟨⟨by decide +kernel, by decide +kernel⟩, tm_9 (tm9_14 (List.mem_of_getElem? (i := 4) rfl)), tm_11 (tm11_4 (List.mem_of_getElem? (i := 13) rfl)), tm_11 (tm11_4 (List.mem_of_getElem? (i := 14) rfl))⟩
theorem lw_p179 : lw_okq (⟨"PadConsoleModel", "xy", "(I)V"⟩, 44) := ⟨⟨by decide +kernel, by decide +kernel⟩, tm_9 (tm9_14 (List.mem_of_getElem? (i := 4) rfl)), tm_11 (tm11_5 (List.mem_of_getElem? (i := 1) rfl)), tm_11 (tm11_5 (List.mem_of_getElem? (i := 2) rfl))⟩
theorem lw_p180 : lw_okq (⟨"PadConsoleModel", "moves", "(IZ)I"⟩, 44) := ⟨⟨by decide +kernel, by decide +kernel⟩, tm_9 (tm9_14 (List.mem_of_getElem? (i := 4) rfl)), tm_11 (tm11_5 (List.mem_of_getElem? (i := 5) rfl)), tm_11 (tm11_5 (List.mem_of_getElem? (i := 6) rfl))⟩
theorem lw_p181 : lw_okq (⟨"PadConsoleModel", "wordTo", "(II)V"⟩, 44) := ⟨⟨by decide +kernel, by decide +kernel⟩, tm_9 (tm9_14 (List.mem_of_getElem? (i := 4) rfl)), tm_11 (tm11_5 (List.mem_of_getElem? (i := 9) rfl)), tm_11 (tm11_5 (List.mem_of_getElem? (i := 10) rfl))⟩
theorem lw_p182 : lw_okq (⟨"PadConsoleModel", "singles", "(II)I"⟩, 44) := ⟨⟨by decide +kernel, by decide +kernel⟩, tm_9 (tm9_14 (List.mem_of_getElem? (i := 4) rfl)), tm_11 (tm11_5 (List.mem_of_getElem? (i := 13) rfl)), tm_11 (tm11_5 (List.mem_of_getElem? (i := 14) rfl))⟩
theorem lw_p183 : lw_okq (⟨"PadConsoleModel", "rTo", "(II)V"⟩, 44) := ⟨⟨by decide +kernel, by decide +kernel⟩, tm_9 (tm9_14 (List.mem_of_getElem? (i := 4) rfl)), tm_11 (tm11_6 (List.mem_of_getElem? (i := 1) rfl)), tm_11 (tm11_6 (List.mem_of_getElem? (i := 2) rfl))⟩
theorem lw_p184 : lw_okq (⟨"PadConsoleModel", "m", "()I"⟩, 44) := ⟨⟨by decide +kernel, by decide +kernel⟩, tm_9 (tm9_14 (List.mem_of_getElem? (i := 4) rfl)), tm_11 (tm11_6 (List.mem_of_getElem? (i := 5) rfl)), tm_11 (tm11_6 (List.mem_of_getElem? (i := 6) rfl))⟩
theorem lw_p185 : lw_okq (⟨"PadConsoleModel", "\x72", "(I)I"⟩, 44) := ⟨⟨by decide +kernel, by decide +kernel⟩, tm_9 (tm9_14 (List.mem_of_getElem? (i := 4) rfl)), tm_11 (tm11_6 (List.mem_of_getElem? (i := 10) rfl)), tm_11 (tm11_6 (List.mem_of_getElem? (i := 11) rfl))⟩
theorem lw_p186 : lw_okq (⟨"PadConsoleModel", "by", "(I)V"⟩, 44) := ⟨⟨by decide +kernel, by decide +kernel⟩, tm_9 (tm9_14 (List.mem_of_getElem? (i := 4) rfl)), tm_11 (tm11_6 (List.mem_of_getElem? (i := 14) rfl)), tm_11 (tm11_6 (List.mem_of_getElem? (i := 15) rfl))⟩
theorem lw_p187 : lw_okq (⟨"PadConsoleModel", "turned", "(II)I"⟩, 44) := ⟨⟨by decide +kernel, by decide +kernel⟩, tm_9 (tm9_14 (List.mem_of_getElem? (i := 4) rfl)), tm_11 (tm11_7 (List.mem_of_getElem? (i := 2) rfl)), tm_11 (tm11_7 (List.mem_of_getElem? (i := 3) rfl))⟩
theorem lw_p188 : lw_okq (⟨"PadConsoleModel", "adjusts", "()V"⟩, 44) := ⟨⟨by decide +kernel, by decide +kernel⟩, tm_9 (tm9_14 (List.mem_of_getElem? (i := 4) rfl)), tm_11 (tm11_7 (List.mem_of_getElem? (i := 6) rfl)), tm_11 (tm11_7 (List.mem_of_getElem? (i := 7) rfl))⟩
theorem lw_p189 : lw_okq (⟨"PadConsoleModel", "does", "(II)V"⟩, 44) := ⟨⟨by decide +kernel, by decide +kernel⟩, tm_9 (tm9_14 (List.mem_of_getElem? (i := 4) rfl)), tm_11 (tm11_7 (List.mem_of_getElem? (i := 13) rfl)), tm_11 (tm11_7 (List.mem_of_getElem? (i := 14) rfl))⟩
theorem lw_p190 : lw_okq (⟨"PadConsoleModel", "three", "(II)I"⟩, 44) := ⟨⟨by decide +kernel, by decide +kernel⟩, tm_9 (tm9_14 (List.mem_of_getElem? (i := 4) rfl)), tm_11 (tm11_8 (List.mem_of_getElem? (i := 1) rfl)), tm_11 (tm11_8 (List.mem_of_getElem? (i := 2) rfl))⟩
theorem lw_p191 : lw_okq (⟨"PadConsoleModel", "pop", "()I"⟩, 44) := ⟨⟨by decide +kernel, by decide +kernel⟩, tm_9 (tm9_14 (List.mem_of_getElem? (i := 4) rfl)), tm_11 (tm11_8 (List.mem_of_getElem? (i := 5) rfl)), tm_11 (tm11_8 (List.mem_of_getElem? (i := 6) rfl))⟩
def lw_privs_12 : List (MethodName × Nat) := [(⟨"PadConsoleModel", "pair", "(I)I"⟩, 44), (⟨"PadConsoleModel", "rp", "(I)I"⟩, 44), (⟨"PadConsoleModel", "put", "(IZ)V"⟩, 44), (⟨"PadConsoleModel", "xy", "(I)V"⟩, 44), (⟨"PadConsoleModel", "moves", "(IZ)I"⟩, 44), (⟨"PadConsoleModel", "wordTo", "(II)V"⟩, 44), (⟨"PadConsoleModel", "singles", "(II)I"⟩, 44), (⟨"PadConsoleModel", "rTo", "(II)V"⟩, 44), (⟨"PadConsoleModel", "m", "()I"⟩, 44), (⟨"PadConsoleModel", "\x72", "(I)I"⟩, 44), (⟨"PadConsoleModel", "by", "(I)V"⟩, 44), (⟨"PadConsoleModel", "turned", "(II)I"⟩, 44), (⟨"PadConsoleModel", "adjusts", "()V"⟩, 44), (⟨"PadConsoleModel", "does", "(II)V"⟩, 44), (⟨"PadConsoleModel", "three", "(II)I"⟩, 44), (⟨"PadConsoleModel", "pop", "()I"⟩, 44)]
theorem lw_r12 : ∀ q ∈ lw_privs_12, lw_okq q := List.forall_mem_cons.mpr ⟨lw_p176, List.forall_mem_cons.mpr ⟨lw_p177, List.forall_mem_cons.mpr ⟨lw_p178, List.forall_mem_cons.mpr ⟨lw_p179, List.forall_mem_cons.mpr ⟨lw_p180, List.forall_mem_cons.mpr ⟨lw_p181, List.forall_mem_cons.mpr ⟨lw_p182, List.forall_mem_cons.mpr ⟨lw_p183, List.forall_mem_cons.mpr ⟨lw_p184, List.forall_mem_cons.mpr ⟨lw_p185, List.forall_mem_cons.mpr ⟨lw_p186, List.forall_mem_cons.mpr ⟨lw_p187, List.forall_mem_cons.mpr ⟨lw_p188, List.forall_mem_cons.mpr ⟨lw_p189, List.forall_mem_cons.mpr ⟨lw_p190, List.forall_mem_cons.mpr ⟨lw_p191, fun _ h => absurd h List.not_mem_nil⟩⟩⟩⟩⟩⟩⟩⟩⟩⟩⟩⟩⟩⟩⟩⟩
theorem lw_p192 : lw_okq (⟨"PadConsoleModel", "turns", "()I"⟩, 44) := ⟨⟨by decide +kernel, by decide +kernel⟩, tm_9 (tm9_14 (List.mem_of_getElem? (i := 4) rfl)), tm_11 (tm11_8 (List.mem_of_getElem? (i := 9) rfl)), tm_11 (tm11_8 (List.mem_of_getElem? (i := 10) rfl))⟩
theorem lw_p193 : lw_okq (⟨"PadConsoleModel", "turn", "(I)I"⟩, 44) := ⟨⟨by decide +kernel, by decide +kernel⟩, tm_9 (tm9_14 (List.mem_of_getElem? (i := 4) rfl)), tm_11 (tm11_8 (List.mem_of_getElem? (i := 13) rfl)), tm_11 (tm11_8 (List.mem_of_getElem? (i := 14) rfl))⟩
theorem lw_p194 : lw_okq (⟨"PadConsoleModel", "portTo", "(II)V"⟩, 44) := ⟨⟨by decide +kernel, by decide +kernel⟩, tm_9 (tm9_14 (List.mem_of_getElem? (i := 4) rfl)), tm_11 (tm11_9 (List.mem_of_getElem? (i := 1) rfl)), tm_11 (tm11_9 (List.mem_of_getElem? (i := 2) rfl))⟩
theorem lw_p195 : lw_okq (⟨"PadConsoleModel", "lineAt", "(I)I"⟩, 44) := ⟨⟨by decide +kernel, by decide +kernel⟩, tm_9 (tm9_14 (List.mem_of_getElem? (i := 4) rfl)), tm_11 (tm11_9 (List.mem_of_getElem? (i := 5) rfl)), tm_11 (tm11_9 (List.mem_of_getElem? (i := 6) rfl))⟩
theorem lw_p196 : lw_okq (⟨"PadConsoleModel", "hCount", "()I"⟩, 44) := ⟨⟨by decide +kernel, by decide +kernel⟩, tm_9 (tm9_14 (List.mem_of_getElem? (i := 4) rfl)), tm_11 (tm11_9 (List.mem_of_getElem? (i := 9) rfl)), tm_11 (tm11_9 (List.mem_of_getElem? (i := 10) rfl))⟩
theorem lw_p197 : lw_okq (⟨"PadConsoleModel", "noise", "(I)V"⟩, 44) := ⟨⟨by decide +kernel, by decide +kernel⟩, tm_9 (tm9_14 (List.mem_of_getElem? (i := 4) rfl)), tm_11 (tm11_9 (List.mem_of_getElem? (i := 13) rfl)), tm_11 (tm11_9 (List.mem_of_getElem? (i := 14) rfl))⟩
theorem lw_p198 : lw_okq (⟨"PadConsoleModel", "control", "(I)V"⟩, 44) := ⟨⟨by decide +kernel, by decide +kernel⟩, tm_9 (tm9_14 (List.mem_of_getElem? (i := 4) rfl)), tm_11 (tm11_10 (List.mem_of_getElem? (i := 1) rfl)), tm_11 (tm11_10 (List.mem_of_getElem? (i := 2) rfl))⟩
theorem lw_p199 : lw_okq (⟨"PadConsoleModel", "video8", "(I)I"⟩, 44) := ⟨⟨by decide +kernel, by decide +kernel⟩, tm_9 (tm9_14 (List.mem_of_getElem? (i := 4) rfl)), tm_11 (tm11_10 (List.mem_of_getElem? (i := 5) rfl)), tm_11 (tm11_10 (List.mem_of_getElem? (i := 6) rfl))⟩
theorem lw_p200 : lw_okq (⟨"PadConsoleModel", "further", "()V"⟩, 44) := ⟨⟨by decide +kernel, by decide +kernel⟩, tm_9 (tm9_14 (List.mem_of_getElem? (i := 4) rfl)), tm_11 (tm11_10 (List.mem_of_getElem? (i := 9) rfl)), tm_11 (tm11_10 (List.mem_of_getElem? (i := 10) rfl))⟩
theorem lw_p201 : lw_okq (⟨"PadConsoleModel", "dataTo", "(I)V"⟩, 44) := ⟨⟨by decide +kernel, by decide +kernel⟩, tm_9 (tm9_14 (List.mem_of_getElem? (i := 4) rfl)), tm_11 (tm11_10 (List.mem_of_getElem? (i := 13) rfl)), tm_11 (tm11_10 (List.mem_of_getElem? (i := 14) rfl))⟩
theorem lw_p202 : lw_okq (⟨"PadConsoleModel", "port", "(I)I"⟩, 44) := ⟨⟨by decide +kernel, by decide +kernel⟩, tm_9 (tm9_14 (List.mem_of_getElem? (i := 4) rfl)), tm_11 (tm11_11 (List.mem_of_getElem? (i := 1) rfl)), tm_11 (tm11_11 (List.mem_of_getElem? (i := 2) rfl))⟩
theorem lw_p203 : lw_okq (⟨"PadConsoleModel", "vCount", "()I"⟩, 44) := ⟨⟨by decide +kernel, by decide +kernel⟩, tm_9 (tm9_14 (List.mem_of_getElem? (i := 4) rfl)), tm_11 (tm11_11 (List.mem_of_getElem? (i := 5) rfl)), tm_11 (tm11_11 (List.mem_of_getElem? (i := 6) rfl))⟩
theorem lw_p204 : lw_okq (⟨"PadConsoleModel", "height", "()I"⟩, 44) := ⟨⟨by decide +kernel, by decide +kernel⟩, tm_9 (tm9_14 (List.mem_of_getElem? (i := 4) rfl)), tm_11 (tm11_11 (List.mem_of_getElem? (i := 9) rfl)), tm_11 (tm11_11 (List.mem_of_getElem? (i := 10) rfl))⟩
theorem lw_p205 : lw_okq (⟨"PadConsoleModel", "mode", "()I"⟩, 44) := ⟨⟨by decide +kernel, by decide +kernel⟩, tm_9 (tm9_14 (List.mem_of_getElem? (i := 4) rfl)), tm_11 (tm11_11 (List.mem_of_getElem? (i := 13) rfl)), tm_11 (tm11_11 (List.mem_of_getElem? (i := 14) rfl))⟩
theorem lw_p206 : lw_okq (⟨"PadConsoleModel", "status", "()I"⟩, 44) := ⟨⟨by decide +kernel, by decide +kernel⟩, tm_9 (tm9_14 (List.mem_of_getElem? (i := 4) rfl)), tm_11 (tm11_12 (List.mem_of_getElem? (i := 1) rfl)), tm_11 (tm11_12 (List.mem_of_getElem? (i := 2) rfl))⟩
theorem lw_p207 : lw_okq (⟨"PadConsoleModel", "data", "()I"⟩, 44) := ⟨⟨by decide +kernel, by decide +kernel⟩, tm_9 (tm9_14 (List.mem_of_getElem? (i := 4) rfl)), tm_11 (tm11_12 (List.mem_of_getElem? (i := 5) rfl)), tm_11 (tm11_12 (List.mem_of_getElem? (i := 6) rfl))⟩
def lw_privs_13 : List (MethodName × Nat) := [(⟨"PadConsoleModel", "turns", "()I"⟩, 44), (⟨"PadConsoleModel", "turn", "(I)I"⟩, 44), (⟨"PadConsoleModel", "portTo", "(II)V"⟩, 44), (⟨"PadConsoleModel", "lineAt", "(I)I"⟩, 44), (⟨"PadConsoleModel", "hCount", "()I"⟩, 44), (⟨"PadConsoleModel", "noise", "(I)V"⟩, 44), (⟨"PadConsoleModel", "control", "(I)V"⟩, 44), (⟨"PadConsoleModel", "video8", "(I)I"⟩, 44), (⟨"PadConsoleModel", "further", "()V"⟩, 44), (⟨"PadConsoleModel", "dataTo", "(I)V"⟩, 44), (⟨"PadConsoleModel", "port", "(I)I"⟩, 44), (⟨"PadConsoleModel", "vCount", "()I"⟩, 44), (⟨"PadConsoleModel", "height", "()I"⟩, 44), (⟨"PadConsoleModel", "mode", "()I"⟩, 44), (⟨"PadConsoleModel", "status", "()I"⟩, 44), (⟨"PadConsoleModel", "data", "()I"⟩, 44)]
theorem lw_r13 : ∀ q ∈ lw_privs_13, lw_okq q := List.forall_mem_cons.mpr ⟨lw_p192, List.forall_mem_cons.mpr ⟨lw_p193, List.forall_mem_cons.mpr ⟨lw_p194, List.forall_mem_cons.mpr ⟨lw_p195, List.forall_mem_cons.mpr ⟨lw_p196, List.forall_mem_cons.mpr ⟨lw_p197, List.forall_mem_cons.mpr ⟨lw_p198, List.forall_mem_cons.mpr ⟨lw_p199, List.forall_mem_cons.mpr ⟨lw_p200, List.forall_mem_cons.mpr ⟨lw_p201, List.forall_mem_cons.mpr ⟨lw_p202, List.forall_mem_cons.mpr ⟨lw_p203, List.forall_mem_cons.mpr ⟨lw_p204, List.forall_mem_cons.mpr ⟨lw_p205, List.forall_mem_cons.mpr ⟨lw_p206, List.forall_mem_cons.mpr ⟨lw_p207, fun _ h => absurd h List.not_mem_nil⟩⟩⟩⟩⟩⟩⟩⟩⟩⟩⟩⟩⟩⟩⟩⟩
theorem lw_p208 : lw_okq (⟨"PadConsoleModel", "without", "(III)I"⟩, 44) := ⟨⟨by decide +kernel, by decide +kernel⟩, tm_9 (tm9_14 (List.mem_of_getElem? (i := 4) rfl)), tm_11 (tm11_12 (List.mem_of_getElem? (i := 9) rfl)), tm_11 (tm11_12 (List.mem_of_getElem? (i := 10) rfl))⟩
theorem lw_p209 : lw_okq (⟨"PadConsoleModel", "more3", "(II)I"⟩, 44) := ⟨⟨by decide +kernel, by decide +kernel⟩, tm_9 (tm9_14 (List.mem_of_getElem? (i := 4) rfl)), tm_11 (tm11_12 (List.mem_of_getElem? (i := 13) rfl)), tm_11 (tm11_12 (List.mem_of_getElem? (i := 14) rfl))⟩
theorem lw_p210 : lw_okq (⟨"PadConsoleModel", "more", "(I)I"⟩, 44) := ⟨⟨by decide +kernel, by decide +kernel⟩, tm_9 (tm9_14 (List.mem_of_getElem? (i := 4) rfl)), tm_11 (tm11_13 (List.mem_of_getElem? (i := 1) rfl)), tm_11 (tm11_13 (List.mem_of_getElem? (i := 2) rfl))⟩
theorem lw_p211 : lw_okq (⟨"PadConsoleModel", "blocks", "(II)I"⟩, 44) := ⟨⟨by decide +kernel, by decide +kernel⟩, tm_9 (tm9_14 (List.mem_of_getElem? (i := 4) rfl)), tm_11 (tm11_13 (List.mem_of_getElem? (i := 5) rfl)), tm_11 (tm11_13 (List.mem_of_getElem? (i := 6) rfl))⟩
theorem lw_p212 : lw_okq (⟨"PadConsoleModel", "words", "(IZ)V"⟩, 44) := ⟨⟨by decide +kernel, by decide +kernel⟩, tm_9 (tm9_14 (List.mem_of_getElem? (i := 4) rfl)), tm_11 (tm11_13 (List.mem_of_getElem? (i := 9) rfl)), tm_11 (tm11_13 (List.mem_of_getElem? (i := 10) rfl))⟩
theorem lw_p213 : lw_okq (⟨"PadConsoleModel", "specials", "(I)I"⟩, 44) := ⟨⟨by decide +kernel, by decide +kernel⟩, tm_9 (tm9_14 (List.mem_of_getElem? (i := 4) rfl)), tm_11 (tm11_13 (List.mem_of_getElem? (i := 13) rfl)), tm_11 (tm11_13 (List.mem_of_getElem? (i := 14) rfl))⟩
theorem lw_p214 : lw_okq (⟨"PadConsoleModel", "prefixed", "(I)I"⟩, 44) := ⟨⟨by decide +kernel, by decide +kernel⟩, tm_9 (tm9_14 (List.mem_of_getElem? (i := 4) rfl)), tm_11 (tm11_14 (List.mem_of_getElem? (i := 1) rfl)), tm_11 (tm11_14 (List.mem_of_getElem? (i := 2) rfl))⟩
theorem lw_p215 : lw_okq (⟨"PadConsoleModel", "ends", "()V"⟩, 44) := ⟨⟨by decide +kernel, by decide +kernel⟩, tm_9 (tm9_14 (List.mem_of_getElem? (i := 4) rfl)), tm_11 (tm11_14 (List.mem_of_getElem? (i := 5) rfl)), tm_11 (tm11_14 (List.mem_of_getElem? (i := 6) rfl))⟩
theorem lw_p216 : lw_okq (⟨"PadConsoleModel", "draws", "(I)V"⟩, 44) := ⟨⟨by decide +kernel, by decide +kernel⟩, tm_9 (tm9_14 (List.mem_of_getElem? (i := 4) rfl)), tm_11 (tm11_14 (List.mem_of_getElem? (i := 9) rfl)), tm_11 (tm11_14 (List.mem_of_getElem? (i := 10) rfl))⟩
theorem lw_p217 : lw_okq (⟨"PadConsoleModel", "reg", "(I)I"⟩, 44) := ⟨⟨by decide +kernel, by decide +kernel⟩, tm_9 (tm9_14 (List.mem_of_getElem? (i := 4) rfl)), tm_11 (tm11_14 (List.mem_of_getElem? (i := 13) rfl)), tm_11 (tm11_14 (List.mem_of_getElem? (i := 14) rfl))⟩
theorem lw_p218 : lw_okq (⟨"PadConsoleModel", "tile", "(II)V"⟩, 44) := ⟨⟨by decide +kernel, by decide +kernel⟩, tm_9 (tm9_14 (List.mem_of_getElem? (i := 4) rfl)), tm_12 (tm12_0 (List.mem_of_getElem? (i := 1) rfl)), tm_12 (tm12_0 (List.mem_of_getElem? (i := 2) rfl))⟩
theorem lw_p219 : lw_okq (⟨"PadConsoleModel", "tileDot", "(III)I"⟩, 44) := ⟨⟨by decide +kernel, by decide +kernel⟩, tm_9 (tm9_14 (List.mem_of_getElem? (i := 4) rfl)), tm_12 (tm12_0 (List.mem_of_getElem? (i := 5) rfl)), tm_12 (tm12_0 (List.mem_of_getElem? (i := 6) rfl))⟩
theorem lw_p220 : lw_okq (⟨"PadConsoleModel", "sprites", "(I)V"⟩, 44) := ⟨⟨by decide +kernel, by decide +kernel⟩, tm_9 (tm9_14 (List.mem_of_getElem? (i := 4) rfl)), tm_12 (tm12_0 (List.mem_of_getElem? (i := 9) rfl)), tm_12 (tm12_0 (List.mem_of_getElem? (i := 10) rfl))⟩
theorem lw_p221 : lw_okq (⟨"PadConsoleModel", "old", "(II)I"⟩, 44) := ⟨⟨by decide +kernel, by decide +kernel⟩, tm_9 (tm9_14 (List.mem_of_getElem? (i := 4) rfl)), tm_12 (tm12_0 (List.mem_of_getElem? (i := 13) rfl)), tm_12 (tm12_0 (List.mem_of_getElem? (i := 14) rfl))⟩
theorem lw_p222 : lw_okq (⟨"PadConsoleModel", "oldSprites", "(I)V"⟩, 44) := ⟨⟨by decide +kernel, by decide +kernel⟩, tm_9 (tm9_14 (List.mem_of_getElem? (i := 4) rfl)), tm_12 (tm12_1 (List.mem_of_getElem? (i := 1) rfl)), tm_12 (tm12_1 (List.mem_of_getElem? (i := 2) rfl))⟩
theorem lw_p223 : lw_okq (⟨"PadConsoleModel", "colour", "(I)I"⟩, 44) := ⟨⟨by decide +kernel, by decide +kernel⟩, tm_9 (tm9_14 (List.mem_of_getElem? (i := 4) rfl)), tm_12 (tm12_1 (List.mem_of_getElem? (i := 5) rfl)), tm_12 (tm12_1 (List.mem_of_getElem? (i := 6) rfl))⟩
def lw_privs_14 : List (MethodName × Nat) := [(⟨"PadConsoleModel", "without", "(III)I"⟩, 44), (⟨"PadConsoleModel", "more3", "(II)I"⟩, 44), (⟨"PadConsoleModel", "more", "(I)I"⟩, 44), (⟨"PadConsoleModel", "blocks", "(II)I"⟩, 44), (⟨"PadConsoleModel", "words", "(IZ)V"⟩, 44), (⟨"PadConsoleModel", "specials", "(I)I"⟩, 44), (⟨"PadConsoleModel", "prefixed", "(I)I"⟩, 44), (⟨"PadConsoleModel", "ends", "()V"⟩, 44), (⟨"PadConsoleModel", "draws", "(I)V"⟩, 44), (⟨"PadConsoleModel", "reg", "(I)I"⟩, 44), (⟨"PadConsoleModel", "tile", "(II)V"⟩, 44), (⟨"PadConsoleModel", "tileDot", "(III)I"⟩, 44), (⟨"PadConsoleModel", "sprites", "(I)V"⟩, 44), (⟨"PadConsoleModel", "old", "(II)I"⟩, 44), (⟨"PadConsoleModel", "oldSprites", "(I)V"⟩, 44), (⟨"PadConsoleModel", "colour", "(I)I"⟩, 44)]
theorem lw_r14 : ∀ q ∈ lw_privs_14, lw_okq q := List.forall_mem_cons.mpr ⟨lw_p208, List.forall_mem_cons.mpr ⟨lw_p209, List.forall_mem_cons.mpr ⟨lw_p210, List.forall_mem_cons.mpr ⟨lw_p211, List.forall_mem_cons.mpr ⟨lw_p212, List.forall_mem_cons.mpr ⟨lw_p213, List.forall_mem_cons.mpr ⟨lw_p214, List.forall_mem_cons.mpr ⟨lw_p215, List.forall_mem_cons.mpr ⟨lw_p216, List.forall_mem_cons.mpr ⟨lw_p217, List.forall_mem_cons.mpr ⟨lw_p218, List.forall_mem_cons.mpr ⟨lw_p219, List.forall_mem_cons.mpr ⟨lw_p220, List.forall_mem_cons.mpr ⟨lw_p221, List.forall_mem_cons.mpr ⟨lw_p222, List.forall_mem_cons.mpr ⟨lw_p223, fun _ h => absurd h List.not_mem_nil⟩⟩⟩⟩⟩⟩⟩⟩⟩⟩⟩⟩⟩⟩⟩⟩
theorem lw_p224 : lw_okq (⟨"PadConsoleModel", "planned", "()V"⟩, 44) := ⟨⟨by decide +kernel, by decide +kernel⟩, tm_9 (tm9_14 (List.mem_of_getElem? (i := 4) rfl)), tm_12 (tm12_1 (List.mem_of_getElem? (i := 9) rfl)), tm_12 (tm12_1 (List.mem_of_getElem? (i := 10) rfl))⟩
theorem lw_p225 : lw_okq (⟨"PadConsoleModel", "sample", "()V"⟩, 44) := ⟨⟨by decide +kernel, by decide +kernel⟩, tm_9 (tm9_14 (List.mem_of_getElem? (i := 4) rfl)), tm_12 (tm12_1 (List.mem_of_getElem? (i := 14) rfl)), tm_12 (tm12_1 (List.mem_of_getElem? (i := 15) rfl))⟩
theorem lw_p226 : lw_okq (⟨"PadConsoleModel", "waves", "()V"⟩, 44) := ⟨⟨by decide +kernel, by decide +kernel⟩, tm_9 (tm9_14 (List.mem_of_getElem? (i := 4) rfl)), tm_12 (tm12_2 (List.mem_of_getElem? (i := 7) rfl)), tm_12 (tm12_2 (List.mem_of_getElem? (i := 8) rfl))⟩
theorem lw_p227 : lw_okq (⟨"PadConsoleModel", "operator", "(II)V"⟩, 44) := ⟨⟨by decide +kernel, by decide +kernel⟩, tm_9 (tm9_14 (List.mem_of_getElem? (i := 4) rfl)), tm_12 (tm12_2 (List.mem_of_getElem? (i := 11) rfl)), tm_12 (tm12_2 (List.mem_of_getElem? (i := 12) rfl))⟩
theorem lw_p228 : lw_okq (⟨"PadConsoleModel", "isOn", "(II)I"⟩, 44) := ⟨⟨by decide +kernel, by decide +kernel⟩, tm_9 (tm9_14 (List.mem_of_getElem? (i := 4) rfl)), tm_12 (tm12_2 (List.mem_of_getElem? (i := 15) rfl)), tm_12 (tm12_3 (List.mem_of_getElem? (i := 0) rfl))⟩
theorem lw_p229 : lw_okq (⟨"PadConsoleModel", "wreg", "(I)I"⟩, 44) := ⟨⟨by decide +kernel, by decide +kernel⟩, tm_9 (tm9_14 (List.mem_of_getElem? (i := 4) rfl)), tm_12 (tm12_3 (List.mem_of_getElem? (i := 3) rfl)), tm_12 (tm12_3 (List.mem_of_getElem? (i := 4) rfl))⟩
theorem lw_p230 : lw_okq (⟨"PadConsoleModel", "isRhythm", "(I)Z"⟩, 44) := ⟨⟨by decide +kernel, by decide +kernel⟩, tm_9 (tm9_14 (List.mem_of_getElem? (i := 4) rfl)), tm_12 (tm12_3 (List.mem_of_getElem? (i := 7) rfl)), tm_12 (tm12_3 (List.mem_of_getElem? (i := 8) rfl))⟩
theorem lw_p231 : lw_okq (⟨"PadConsoleModel", "envelope", "(III)V"⟩, 44) := ⟨⟨by decide +kernel, by decide +kernel⟩, tm_9 (tm9_14 (List.mem_of_getElem? (i := 4) rfl)), tm_12 (tm12_3 (List.mem_of_getElem? (i := 11) rfl)), tm_12 (tm12_3 (List.mem_of_getElem? (i := 12) rfl))⟩
theorem lw_p232 : lw_okq (⟨"PadConsoleModel", "rate", "(III)I"⟩, 44) := ⟨⟨by decide +kernel, by decide +kernel⟩, tm_9 (tm9_14 (List.mem_of_getElem? (i := 4) rfl)), tm_12 (tm12_3 (List.mem_of_getElem? (i := 15) rfl)), tm_12 (tm12_4 (List.mem_of_getElem? (i := 0) rfl))⟩
theorem lw_p233 : lw_okq (⟨"PadConsoleModel", "patchByte", "(II)I"⟩, 44) := ⟨⟨by decide +kernel, by decide +kernel⟩, tm_9 (tm9_14 (List.mem_of_getElem? (i := 4) rfl)), tm_12 (tm12_4 (List.mem_of_getElem? (i := 3) rfl)), tm_12 (tm12_4 (List.mem_of_getElem? (i := 4) rfl))⟩
theorem lw_p234 : lw_okq (⟨"PadConsoleModel", "block", "(I)I"⟩, 44) := ⟨⟨by decide +kernel, by decide +kernel⟩, tm_9 (tm9_14 (List.mem_of_getElem? (i := 4) rfl)), tm_12 (tm12_4 (List.mem_of_getElem? (i := 12) rfl)), tm_12 (tm12_4 (List.mem_of_getElem? (i := 13) rfl))⟩
theorem lw_p235 : lw_okq (⟨"PadConsoleModel", "f", "(I)I"⟩, 44) := ⟨⟨by decide +kernel, by decide +kernel⟩, tm_9 (tm9_14 (List.mem_of_getElem? (i := 4) rfl)), tm_12 (tm12_5 (List.mem_of_getElem? (i := 0) rfl)), tm_12 (tm12_5 (List.mem_of_getElem? (i := 1) rfl))⟩
theorem lw_p236 : lw_okq (⟨"PadConsoleModel", "phase", "(III)V"⟩, 44) := ⟨⟨by decide +kernel, by decide +kernel⟩, tm_9 (tm9_14 (List.mem_of_getElem? (i := 4) rfl)), tm_12 (tm12_5 (List.mem_of_getElem? (i := 10) rfl)), tm_12 (tm12_5 (List.mem_of_getElem? (i := 11) rfl))⟩
theorem lw_p237 : lw_okq (⟨"PadConsoleModel", "drum", "(III)I"⟩, 44) := ⟨⟨by decide +kernel, by decide +kernel⟩, tm_9 (tm9_14 (List.mem_of_getElem? (i := 4) rfl)), tm_12 (tm12_6 (List.mem_of_getElem? (i := 0) rfl)), tm_12 (tm12_6 (List.mem_of_getElem? (i := 1) rfl))⟩
theorem lw_p238 : lw_okq (⟨"PadConsoleModel", "waveAt", "(IIII)I"⟩, 44) := ⟨⟨by decide +kernel, by decide +kernel⟩, tm_9 (tm9_14 (List.mem_of_getElem? (i := 4) rfl)), tm_12 (tm12_6 (List.mem_of_getElem? (i := 4) rfl)), tm_12 (tm12_6 (List.mem_of_getElem? (i := 5) rfl))⟩
theorem lw_p239 : lw_okq (⟨"PadConsoleModel", "mixed", "()V"⟩, 44) := ⟨⟨by decide +kernel, by decide +kernel⟩, tm_9 (tm9_14 (List.mem_of_getElem? (i := 4) rfl)), tm_12 (tm12_7 (List.mem_of_getElem? (i := 3) rfl)), tm_12 (tm12_7 (List.mem_of_getElem? (i := 4) rfl))⟩
def lw_privs_15 : List (MethodName × Nat) := [(⟨"PadConsoleModel", "planned", "()V"⟩, 44), (⟨"PadConsoleModel", "sample", "()V"⟩, 44), (⟨"PadConsoleModel", "waves", "()V"⟩, 44), (⟨"PadConsoleModel", "operator", "(II)V"⟩, 44), (⟨"PadConsoleModel", "isOn", "(II)I"⟩, 44), (⟨"PadConsoleModel", "wreg", "(I)I"⟩, 44), (⟨"PadConsoleModel", "isRhythm", "(I)Z"⟩, 44), (⟨"PadConsoleModel", "envelope", "(III)V"⟩, 44), (⟨"PadConsoleModel", "rate", "(III)I"⟩, 44), (⟨"PadConsoleModel", "patchByte", "(II)I"⟩, 44), (⟨"PadConsoleModel", "block", "(I)I"⟩, 44), (⟨"PadConsoleModel", "f", "(I)I"⟩, 44), (⟨"PadConsoleModel", "phase", "(III)V"⟩, 44), (⟨"PadConsoleModel", "drum", "(III)I"⟩, 44), (⟨"PadConsoleModel", "waveAt", "(IIII)I"⟩, 44), (⟨"PadConsoleModel", "mixed", "()V"⟩, 44)]
theorem lw_r15 : ∀ q ∈ lw_privs_15, lw_okq q := List.forall_mem_cons.mpr ⟨lw_p224, List.forall_mem_cons.mpr ⟨lw_p225, List.forall_mem_cons.mpr ⟨lw_p226, List.forall_mem_cons.mpr ⟨lw_p227, List.forall_mem_cons.mpr ⟨lw_p228, List.forall_mem_cons.mpr ⟨lw_p229, List.forall_mem_cons.mpr ⟨lw_p230, List.forall_mem_cons.mpr ⟨lw_p231, List.forall_mem_cons.mpr ⟨lw_p232, List.forall_mem_cons.mpr ⟨lw_p233, List.forall_mem_cons.mpr ⟨lw_p234, List.forall_mem_cons.mpr ⟨lw_p235, List.forall_mem_cons.mpr ⟨lw_p236, List.forall_mem_cons.mpr ⟨lw_p237, List.forall_mem_cons.mpr ⟨lw_p238, List.forall_mem_cons.mpr ⟨lw_p239, fun _ h => absurd h List.not_mem_nil⟩⟩⟩⟩⟩⟩⟩⟩⟩⟩⟩⟩⟩⟩⟩⟩
theorem lw_p240 : lw_okq (⟨"PadConsoleModel", "taken", "()I"⟩, 44) := ⟨⟨by decide +kernel, by decide +kernel⟩, tm_9 (tm9_14 (List.mem_of_getElem? (i := 4) rfl)), tm_13 (tm13_0 (List.mem_of_getElem? (i := 7) rfl)), tm_13 (tm13_0 (List.mem_of_getElem? (i := 8) rfl))⟩
theorem lw_p241 : lw_okq (⟨"PadConsoleModel", "sayPrefixed", "(I)V"⟩, 44) := ⟨⟨by decide +kernel, by decide +kernel⟩, tm_9 (tm9_14 (List.mem_of_getElem? (i := 4) rfl)), tm_13 (tm13_0 (List.mem_of_getElem? (i := 11) rfl)), tm_13 (tm13_0 (List.mem_of_getElem? (i := 12) rfl))⟩
theorem lw_p242 : lw_okq (⟨"PadConsoleModel", "say", "(Ljava/lang/String;)V"⟩, 44) := ⟨⟨by decide +kernel, by decide +kernel⟩, tm_9 (tm9_14 (List.mem_of_getElem? (i := 4) rfl)), tm_13 (tm13_1 (List.mem_of_getElem? (i := 0) rfl)), tm_13 (tm13_1 (List.mem_of_getElem? (i := 1) rfl))⟩
theorem lw_p243 : lw_okq (⟨"PadConsoleModel", "sayTurn", "(I)V"⟩, 44) := ⟨⟨by decide +kernel, by decide +kernel⟩, tm_9 (tm9_14 (List.mem_of_getElem? (i := 4) rfl)), tm_13 (tm13_1 (List.mem_of_getElem? (i := 5) rfl)), tm_13 (tm13_1 (List.mem_of_getElem? (i := 6) rfl))⟩
theorem lw_p244 : lw_okq (⟨"PadConsoleModel", "hex", "(II)V"⟩, 44) := ⟨⟨by decide +kernel, by decide +kernel⟩, tm_9 (tm9_14 (List.mem_of_getElem? (i := 4) rfl)), tm_13 (tm13_2 (List.mem_of_getElem? (i := 4) rfl)), tm_13 (tm13_2 (List.mem_of_getElem? (i := 5) rfl))⟩
theorem lw_p245 : lw_okq (⟨"PadConsoleModel", "sayR", "(I)V"⟩, 44) := ⟨⟨by decide +kernel, by decide +kernel⟩, tm_9 (tm9_14 (List.mem_of_getElem? (i := 4) rfl)), tm_13 (tm13_2 (List.mem_of_getElem? (i := 9) rfl)), tm_13 (tm13_2 (List.mem_of_getElem? (i := 10) rfl))⟩
theorem lw_p246 : lw_okq (⟨"PadConsoleModel", "sayPlace", "()V"⟩, 44) := ⟨⟨by decide +kernel, by decide +kernel⟩, tm_9 (tm9_14 (List.mem_of_getElem? (i := 4) rfl)), tm_13 (tm13_2 (List.mem_of_getElem? (i := 13) rfl)), tm_13 (tm13_2 (List.mem_of_getElem? (i := 14) rfl))⟩
theorem lw_p247 : lw_okq (⟨"PadConsoleModel", "sayHl", "()V"⟩, 44) := ⟨⟨by decide +kernel, by decide +kernel⟩, tm_9 (tm9_14 (List.mem_of_getElem? (i := 4) rfl)), tm_13 (tm13_3 (List.mem_of_getElem? (i := 7) rfl)), tm_13 (tm13_3 (List.mem_of_getElem? (i := 8) rfl))⟩
theorem lw_p248 : lw_okq (⟨"PadConsoleModel", "sayPlain", "(I)V"⟩, 44) := ⟨⟨by decide +kernel, by decide +kernel⟩, tm_9 (tm9_14 (List.mem_of_getElem? (i := 4) rfl)), tm_13 (tm13_4 (List.mem_of_getElem? (i := 5) rfl)), tm_13 (tm13_4 (List.mem_of_getElem? (i := 6) rfl))⟩
theorem lw_p249 : lw_okq (⟨"PadConsoleModel", "sayZero", "(II)V"⟩, 44) := ⟨⟨by decide +kernel, by decide +kernel⟩, tm_9 (tm9_14 (List.mem_of_getElem? (i := 4) rfl)), tm_13 (tm13_4 (List.mem_of_getElem? (i := 9) rfl)), tm_13 (tm13_4 (List.mem_of_getElem? (i := 10) rfl))⟩
theorem lw_p250 : lw_okq (⟨"PadConsoleModel", "sayCc", "(I)V"⟩, 44) := ⟨⟨by decide +kernel, by decide +kernel⟩, tm_9 (tm9_14 (List.mem_of_getElem? (i := 4) rfl)), tm_13 (tm13_5 (List.mem_of_getElem? (i := 0) rfl)), tm_13 (tm13_5 (List.mem_of_getElem? (i := 1) rfl))⟩
theorem lw_p251 : lw_okq (⟨"PadConsoleModel", "sayJump", "()V"⟩, 44) := ⟨⟨by decide +kernel, by decide +kernel⟩, tm_9 (tm9_14 (List.mem_of_getElem? (i := 4) rfl)), tm_13 (tm13_5 (List.mem_of_getElem? (i := 11) rfl)), tm_13 (tm13_5 (List.mem_of_getElem? (i := 12) rfl))⟩
theorem lw_p252 : lw_okq (⟨"PadConsoleModel", "sayRp", "(IZ)V"⟩, 44) := ⟨⟨by decide +kernel, by decide +kernel⟩, tm_9 (tm9_14 (List.mem_of_getElem? (i := 4) rfl)), tm_13 (tm13_6 (List.mem_of_getElem? (i := 1) rfl)), tm_13 (tm13_6 (List.mem_of_getElem? (i := 2) rfl))⟩
theorem lw_p253 : lw_okq (⟨"PadConsoleModel", "takenWord", "()I"⟩, 44) := ⟨⟨by decide +kernel, by decide +kernel⟩, tm_9 (tm9_14 (List.mem_of_getElem? (i := 4) rfl)), tm_13 (tm13_6 (List.mem_of_getElem? (i := 9) rfl)), tm_13 (tm13_6 (List.mem_of_getElem? (i := 10) rfl))⟩
theorem lw_p254 : lw_okq (⟨"PadConsoleModel", "sayPlaced", "(I)V"⟩, 44) := ⟨⟨by decide +kernel, by decide +kernel⟩, tm_9 (tm9_14 (List.mem_of_getElem? (i := 4) rfl)), tm_13 (tm13_7 (List.mem_of_getElem? (i := 1) rfl)), tm_13 (tm13_7 (List.mem_of_getElem? (i := 2) rfl))⟩
theorem lw_p255 : lw_okq (⟨"PadConsoleModel", "saySingle", "(II)V"⟩, 44) := ⟨⟨by decide +kernel, by decide +kernel⟩, tm_9 (tm9_14 (List.mem_of_getElem? (i := 4) rfl)), tm_13 (tm13_7 (List.mem_of_getElem? (i := 6) rfl)), tm_13 (tm13_7 (List.mem_of_getElem? (i := 7) rfl))⟩
def lw_privs_16 : List (MethodName × Nat) := [(⟨"PadConsoleModel", "taken", "()I"⟩, 44), (⟨"PadConsoleModel", "sayPrefixed", "(I)V"⟩, 44), (⟨"PadConsoleModel", "say", "(Ljava/lang/String;)V"⟩, 44), (⟨"PadConsoleModel", "sayTurn", "(I)V"⟩, 44), (⟨"PadConsoleModel", "hex", "(II)V"⟩, 44), (⟨"PadConsoleModel", "sayR", "(I)V"⟩, 44), (⟨"PadConsoleModel", "sayPlace", "()V"⟩, 44), (⟨"PadConsoleModel", "sayHl", "()V"⟩, 44), (⟨"PadConsoleModel", "sayPlain", "(I)V"⟩, 44), (⟨"PadConsoleModel", "sayZero", "(II)V"⟩, 44), (⟨"PadConsoleModel", "sayCc", "(I)V"⟩, 44), (⟨"PadConsoleModel", "sayJump", "()V"⟩, 44), (⟨"PadConsoleModel", "sayRp", "(IZ)V"⟩, 44), (⟨"PadConsoleModel", "takenWord", "()I"⟩, 44), (⟨"PadConsoleModel", "sayPlaced", "(I)V"⟩, 44), (⟨"PadConsoleModel", "saySingle", "(II)V"⟩, 44)]
theorem lw_r16 : ∀ q ∈ lw_privs_16, lw_okq q := List.forall_mem_cons.mpr ⟨lw_p240, List.forall_mem_cons.mpr ⟨lw_p241, List.forall_mem_cons.mpr ⟨lw_p242, List.forall_mem_cons.mpr ⟨lw_p243, List.forall_mem_cons.mpr ⟨lw_p244, List.forall_mem_cons.mpr ⟨lw_p245, List.forall_mem_cons.mpr ⟨lw_p246, List.forall_mem_cons.mpr ⟨lw_p247, List.forall_mem_cons.mpr ⟨lw_p248, List.forall_mem_cons.mpr ⟨lw_p249, List.forall_mem_cons.mpr ⟨lw_p250, List.forall_mem_cons.mpr ⟨lw_p251, List.forall_mem_cons.mpr ⟨lw_p252, List.forall_mem_cons.mpr ⟨lw_p253, List.forall_mem_cons.mpr ⟨lw_p254, List.forall_mem_cons.mpr ⟨lw_p255, fun _ h => absurd h List.not_mem_nil⟩⟩⟩⟩⟩⟩⟩⟩⟩⟩⟩⟩⟩⟩⟩⟩
theorem lw_p256 : lw_okq (⟨"PadConsoleModel", "sayDo", "(I)V"⟩, 44) := ⟨⟨by decide +kernel, by decide +kernel⟩, tm_9 (tm9_14 (List.mem_of_getElem? (i := 4) rfl)), tm_13 (tm13_8 (List.mem_of_getElem? (i := 3) rfl)), tm_13 (tm13_8 (List.mem_of_getElem? (i := 4) rfl))⟩
theorem lw_p257 : lw_okq (⟨"PadConsoleModel", "sayThree", "(II)V"⟩, 44) := ⟨⟨by decide +kernel, by decide +kernel⟩, tm_9 (tm9_14 (List.mem_of_getElem? (i := 4) rfl)), tm_13 (tm13_8 (List.mem_of_getElem? (i := 14) rfl)), tm_13 (tm13_8 (List.mem_of_getElem? (i := 15) rfl))⟩
theorem lw_p258 : lw_okq (⟨"PadConsoleModel", "sayLast", "(II)V"⟩, 44) := ⟨⟨by decide +kernel, by decide +kernel⟩, tm_9 (tm9_14 (List.mem_of_getElem? (i := 4) rfl)), tm_13 (tm13_10 (List.mem_of_getElem? (i := 0) rfl)), tm_13 (tm13_10 (List.mem_of_getElem? (i := 1) rfl))⟩
theorem lw_p259 : lw_okq (⟨"PadConsoleModel", "sayMore", "(I)V"⟩, 44) := ⟨⟨by decide +kernel, by decide +kernel⟩, tm_9 (tm9_14 (List.mem_of_getElem? (i := 4) rfl)), tm_13 (tm13_10 (List.mem_of_getElem? (i := 7) rfl)), tm_13 (tm13_10 (List.mem_of_getElem? (i := 8) rfl))⟩
theorem lw_p260 : lw_okq (⟨"PadConsoleModel", "sayOdd", "(II)V"⟩, 44) := ⟨⟨by decide +kernel, by decide +kernel⟩, tm_9 (tm9_14 (List.mem_of_getElem? (i := 4) rfl)), tm_13 (tm13_11 (List.mem_of_getElem? (i := 8) rfl)), tm_13 (tm13_11 (List.mem_of_getElem? (i := 9) rfl))⟩
def lw_privs_17 : List (MethodName × Nat) := [(⟨"PadConsoleModel", "sayDo", "(I)V"⟩, 44), (⟨"PadConsoleModel", "sayThree", "(II)V"⟩, 44), (⟨"PadConsoleModel", "sayLast", "(II)V"⟩, 44), (⟨"PadConsoleModel", "sayMore", "(I)V"⟩, 44), (⟨"PadConsoleModel", "sayOdd", "(II)V"⟩, 44)]
theorem lw_r17 : ∀ q ∈ lw_privs_17, lw_okq q := List.forall_mem_cons.mpr ⟨lw_p256, List.forall_mem_cons.mpr ⟨lw_p257, List.forall_mem_cons.mpr ⟨lw_p258, List.forall_mem_cons.mpr ⟨lw_p259, List.forall_mem_cons.mpr ⟨lw_p260, fun _ h => absurd h List.not_mem_nil⟩⟩⟩⟩⟩
def lw_privs : List (MethodName × Nat) := lw_privs_1 ++ (lw_privs_2 ++ (lw_privs_3 ++ (lw_privs_4 ++ (lw_privs_5 ++ (lw_privs_6 ++ (lw_privs_7 ++ (lw_privs_8 ++ (lw_privs_9 ++ (lw_privs_10 ++ (lw_privs_11 ++ (lw_privs_12 ++ (lw_privs_13 ++ (lw_privs_14 ++ (lw_privs_15 ++ (lw_privs_16 ++ (lw_privs_17))))))))))))))))
def lw_tbl : List Cond := k2_sels lw_privs ++ tables_1
theorem lw_privs_ok : ∀ q ∈ lw_privs, lw_okq q := by
  show ∀ q ∈ lw_privs_1 ++ (lw_privs_2 ++ (lw_privs_3 ++ (lw_privs_4 ++ (lw_privs_5 ++ (lw_privs_6 ++ (lw_privs_7 ++ (lw_privs_8 ++ (lw_privs_9 ++ (lw_privs_10 ++ (lw_privs_11 ++ (lw_privs_12 ++ (lw_privs_13 ++ (lw_privs_14 ++ (lw_privs_15 ++ (lw_privs_16 ++ (lw_privs_17)))))))))))))))), lw_okq q
  exact List.forall_mem_append.mpr ⟨lw_r1, List.forall_mem_append.mpr ⟨lw_r2, List.forall_mem_append.mpr ⟨lw_r3, List.forall_mem_append.mpr ⟨lw_r4, List.forall_mem_append.mpr ⟨lw_r5, List.forall_mem_append.mpr ⟨lw_r6, List.forall_mem_append.mpr ⟨lw_r7, List.forall_mem_append.mpr ⟨lw_r8, List.forall_mem_append.mpr ⟨lw_r9, List.forall_mem_append.mpr ⟨lw_r10, List.forall_mem_append.mpr ⟨lw_r11, List.forall_mem_append.mpr ⟨lw_r12, List.forall_mem_append.mpr ⟨lw_r13, List.forall_mem_append.mpr ⟨lw_r14, List.forall_mem_append.mpr ⟨lw_r15, List.forall_mem_append.mpr ⟨lw_r16, lw_r17⟩⟩⟩⟩⟩⟩⟩⟩⟩⟩⟩⟩⟩⟩⟩⟩
end ZJN1
section ZJN2
/-! ===== BEGIN words of one list among another's, by their places ===== -/
theorem goodIn_r {big : List Cond} (ws : List Cond) (ps : List Nat) (hp : ws = ps.filterMap (fun i => big[i]?)) (h : ws.all goodWord = true) : GoodIn big ws := by
  intro w hw
  have h1 := List.all_eq_true.mp h w hw
  rw [hp] at hw
  obtain ⟨i, -, hi⟩ := List.mem_filterMap.mp hw
  have hm : w ∈ big := by first | exact List.mem_of_getElem? hi | exact List.getElem?_mem hi
  exact ⟨hm, good_of_word h1⟩
theorem goodIn_app {big a b : List Cond} (ha : GoodIn big a) (hb : GoodIn big b) : GoodIn big (a ++ b) := fun w h => (List.mem_append.mp h).elim (ha w) (hb w)
theorem goodIn_ca {big a b : List Cond} {c : Cond} (ha : GoodIn big (c :: a)) (hb : GoodIn big b) : GoodIn big (c :: (a ++ b)) := fun w h => (List.mem_cons.mp h).elim (fun e => ha w (List.mem_cons.mpr (Or.inl e))) (fun h => (List.mem_append.mp h).elim (fun h => ha w (List.mem_cons.mpr (Or.inr h))) (hb w))
theorem goodIn_sub {big ws : List Cond} (hm : ∀ w ∈ ws, w ∈ big) (h : ws.all goodWord = true) : GoodIn big ws := fun w hw => ⟨hm w hw, good_of_word (List.all_eq_true.mp h w hw)⟩
/-! ===== END ===== -/
def RX0 : String := "PadConsole$Clock"
def TX0 : u_T := fun k => match k with
  | 0 => ("PadConsole$Clock", "tones", "LPadConsole$Sound;", true)
  | 1 => ("PadConsole$Clock", "synth", "LPadConsole$Waves;", true)
  | 2 => ("PadConsole$Clock", "samples", "LPadConsole$Ring;", true)
  | 3 => ("PadConsole$Clock", "mixes", "LPadConsole$Ring;", true)
  | 4 => ("PadConsole$Clock", "counts", "[J", true)
  | _ => ("PadConsole$Clock", "kept", "[J", true)
def tyX0 : Nat → FieldType := fun k => match k with
  | 0 => .object "PadConsole$Sound"
  | 1 => .object "PadConsole$Waves"
  | 2 => .object "PadConsole$Ring"
  | 3 => .object "PadConsole$Ring"
  | 4 => .array .long
  | _ => .array .long
abbrev wsX00 : List Cond := u_ws RX0 TX0 6
theorem nmX0 : ∀ a, a < 6 → ∀ b, b < 6 → a ≠ b → (TX0 a).2.1 ≠ (TX0 b).2.1 := by decide +kernel
theorem tyX0_ok : ∀ k, k < 6 → parseFieldDescriptor (TX0 k).2.2.1 = some (tyX0 k) := by decide +kernel
abbrev cX0_init : ByteArray := prog_2_method_1_code
def yX0_init : MethodName := ⟨RX0, "<init>", "(LPadConsole$Sound;LPadConsole$Waves;)V"⟩
abbrev cX0_keep : ByteArray := prog_2_method_2_code
def yX0_keep : MethodName := ⟨RX0, "keep", "()V"⟩
abbrev cX0_bringBack : ByteArray := prog_2_method_3_code
def yX0_bringBack : MethodName := ⟨RX0, "bringBack", "()V"⟩
abbrev cX0_count : ByteArray := prog_2_method_4_code
def yX0_count : MethodName := ⟨RX0, "count", "(I)J"⟩
abbrev cX0_countPicture : ByteArray := prog_2_method_5_code
def yX0_countPicture : MethodName := ⟨RX0, "countPicture", "()V"⟩
abbrev cX0_pass : ByteArray := prog_2_method_6_code
def yX0_pass : MethodName := ⟨RX0, "pass", "(I)V"⟩
abbrev cX0_addSample : ByteArray := prog_2_method_7_code
def yX0_addSample : MethodName := ⟨RX0, "addSample", "()V"⟩
abbrev cX0_addMix : ByteArray := prog_2_method_8_code
def yX0_addMix : MethodName := ⟨RX0, "addMix", "()V"⟩
def RX1 : String := "PadConsole$Desk"
def TX1 : u_T := fun k => match k with
  | 0 => ("PadConsole$Desk", "stops", "[I", true)
  | 1 => ("PadConsole$Desk", "stopsKept", "[I", true)
  | 2 => ("PadConsole$Desk", "plans", "[I", true)
  | 3 => ("PadConsole$Desk", "plansKept", "[I", true)
  | 4 => ("PadConsole$Desk", "steps", "[I", true)
  | _ => ("PadConsole$Desk", "nextStep", "I", false)
def tyX1 : Nat → FieldType := fun k => match k with
  | 0 => .array .int
  | 1 => .array .int
  | 2 => .array .int
  | 3 => .array .int
  | 4 => .array .int
  | _ => .int
abbrev wsX10 : List Cond := u_ws RX1 TX1 6
theorem nmX1 : ∀ a, a < 6 → ∀ b, b < 6 → a ≠ b → (TX1 a).2.1 ≠ (TX1 b).2.1 := by decide +kernel
theorem tyX1_ok : ∀ k, k < 6 → parseFieldDescriptor (TX1 k).2.2.1 = some (tyX1 k) := by decide +kernel
abbrev cX1_init : ByteArray := prog_3_method_1_code
def yX1_init : MethodName := ⟨RX1, "<init>", "()V"⟩
abbrev cX1_keep : ByteArray := prog_3_method_2_code
def yX1_keep : MethodName := ⟨RX1, "keep", "()V"⟩
abbrev cX1_bringBack : ByteArray := prog_3_method_3_code
def yX1_bringBack : MethodName := ⟨RX1, "bringBack", "()V"⟩
abbrev cX1_noteStep : ByteArray := prog_3_method_4_code
def yX1_noteStep : MethodName := ⟨RX1, "noteStep", "(I)V"⟩
abbrev cX1_stepBack : ByteArray := prog_3_method_5_code
def yX1_stepBack : MethodName := ⟨RX1, "stepBack", "(I)I"⟩
abbrev cX1_stopCount : ByteArray := prog_3_method_6_code
def yX1_stopCount : MethodName := ⟨RX1, "stopCount", "()I"⟩
abbrev cX1_isStop : ByteArray := prog_3_method_7_code
def yX1_isStop : MethodName := ⟨RX1, "isStop", "(I)Z"⟩
abbrev cX1_placeOfStop : ByteArray := prog_3_method_8_code
def yX1_placeOfStop : MethodName := ⟨RX1, "placeOfStop", "(I)I"⟩
abbrev cX1_stopsBeside : ByteArray := prog_3_method_9_code
def yX1_stopsBeside : MethodName := ⟨RX1, "stopsBeside", "(I)I"⟩
abbrev cX1_changeStop : ByteArray := prog_3_method_10_code
def yX1_changeStop : MethodName := ⟨RX1, "changeStop", "(IZ)I"⟩
abbrev cX1_plansWaiting : ByteArray := prog_3_method_11_code
def yX1_plansWaiting : MethodName := ⟨RX1, "plansWaiting", "()I"⟩
abbrev cX1_placeOfPlan : ByteArray := prog_3_method_12_code
def yX1_placeOfPlan : MethodName := ⟨RX1, "placeOfPlan", "(I)I"⟩
abbrev cX1_leastPlan : ByteArray := prog_3_method_13_code
def yX1_leastPlan : MethodName := ⟨RX1, "leastPlan", "()I"⟩
abbrev cX1_addPlan : ByteArray := prog_3_method_14_code
def yX1_addPlan : MethodName := ⟨RX1, "addPlan", "(III)I"⟩
abbrev cX1_carryOutPlans : ByteArray := prog_3_method_15_code
def yX1_carryOutPlans : MethodName := ⟨RX1, "carryOutPlans", "(JLPadConsole$Ports;)V"⟩
def RX2 : String := "PadConsole$Memory"
def TX2 : u_T := fun k => match k with
  | 0 => ("PadConsole$Memory", "tape", "[I", false)
  | 1 => ("PadConsole$Memory", "rom", "[I", false)
  | 2 => ("PadConsole$Memory", "tapeLength", "I", false)
  | 3 => ("PadConsole$Memory", "base", "I", false)
  | 4 => ("PadConsole$Memory", "size", "I", false)
  | 5 => ("PadConsole$Memory", "banks", "I", false)
  | 6 => ("PadConsole$Memory", "paging", "I", false)
  | 7 => ("PadConsole$Memory", "header", "I", false)
  | 8 => ("PadConsole$Memory", "ram", "[I", true)
  | 9 => ("PadConsole$Memory", "ramKept", "[I", true)
  | 10 => ("PadConsole$Memory", "charged", "[I", true)
  | 11 => ("PadConsole$Memory", "chargedKept", "[I", true)
  | 12 => ("PadConsole$Memory", "pages", "[I", true)
  | _ => ("PadConsole$Memory", "pagesKept", "[I", true)
def tyX2 : Nat → FieldType := fun k => match k with
  | 0 => .array .int
  | 1 => .array .int
  | 2 => .int
  | 3 => .int
  | 4 => .int
  | 5 => .int
  | 6 => .int
  | 7 => .int
  | 8 => .array .int
  | 9 => .array .int
  | 10 => .array .int
  | 11 => .array .int
  | 12 => .array .int
  | _ => .array .int
abbrev wsX20 : List Cond := u_ws RX2 TX2 14
theorem nmX2 : ∀ a, a < 14 → ∀ b, b < 14 → a ≠ b → (TX2 a).2.1 ≠ (TX2 b).2.1 := by decide +kernel
theorem tyX2_ok : ∀ k, k < 14 → parseFieldDescriptor (TX2 k).2.2.1 = some (tyX2 k) := by decide +kernel
abbrev cX2_init : ByteArray := prog_4_method_1_code
def yX2_init : MethodName := ⟨RX2, "<init>", "()V"⟩
abbrev cX2_addToTape : ByteArray := prog_4_method_2_code
def yX2_addToTape : MethodName := ⟨RX2, "addToTape", "(I)V"⟩
abbrev cX2_repeatTape : ByteArray := prog_4_method_3_code
def yX2_repeatTape : MethodName := ⟨RX2, "repeatTape", "(I)V"⟩
abbrev cX2_changeTape : ByteArray := prog_4_method_4_code
def yX2_changeTape : MethodName := ⟨RX2, "changeTape", "(IJ)V"⟩
abbrev cX2_takeTape : ByteArray := prog_4_method_5_code
def yX2_takeTape : MethodName := ⟨RX2, "takeTape", "()I"⟩
abbrev cX2_findHeader : ByteArray := prog_4_method_6_code
def yX2_findHeader : MethodName := ⟨RX2, "findHeader", "()I"⟩
abbrev cX2_findPaging : ByteArray := prog_4_method_7_code
def yX2_findPaging : MethodName := ⟨RX2, "findPaging", "()I"⟩
abbrev cX2_romByte : ByteArray := prog_4_method_8_code
def yX2_romByte : MethodName := ⟨RX2, "romByte", "(I)I"⟩
abbrev cX2_romWord : ByteArray := prog_4_method_9_code
def yX2_romWord : MethodName := ⟨RX2, "romWord", "(I)I"⟩
abbrev cX2_aboutCard : ByteArray := prog_4_method_10_code
def yX2_aboutCard : MethodName := ⟨RX2, "aboutCard", "(I)I"⟩
abbrev cX2_decimal : ByteArray := prog_4_method_11_code
def yX2_decimal : MethodName := ⟨RX2, "decimal", "(I)I"⟩
abbrev cX2_sumOfCard : ByteArray := prog_4_method_12_code
def yX2_sumOfCard : MethodName := ⟨RX2, "sumOfCard", "()I"⟩
abbrev cX2_cardSize : ByteArray := prog_4_method_13_code
def yX2_cardSize : MethodName := ⟨RX2, "cardSize", "()I"⟩
abbrev cX2_page : ByteArray := prog_4_method_14_code
def yX2_page : MethodName := ⟨RX2, "page", "(I)I"⟩
abbrev cX2_read : ByteArray := prog_4_method_15_code
def yX2_read : MethodName := ⟨RX2, "read", "(I)I"⟩
abbrev cX2_write : ByteArray := prog_4_method_16_code
def yX2_write : MethodName := ⟨RX2, "write", "(II)V"⟩
abbrev cX2_batteryIsIn : ByteArray := prog_4_method_17_code
def yX2_batteryIsIn : MethodName := ⟨RX2, "batteryIsIn", "()Z"⟩
abbrev cX2_batteryPlace : ByteArray := prog_4_method_18_code
def yX2_batteryPlace : MethodName := ⟨RX2, "batteryPlace", "(I)I"⟩
abbrev cX2_batteryByte : ByteArray := prog_4_method_19_code
def yX2_batteryByte : MethodName := ⟨RX2, "batteryByte", "(I)I"⟩
abbrev cX2_clearBattery : ByteArray := prog_4_method_20_code
def yX2_clearBattery : MethodName := ⟨RX2, "clearBattery", "()V"⟩
abbrev cX2_clearRam : ByteArray := prog_4_method_21_code
def yX2_clearRam : MethodName := ⟨RX2, "clearRam", "()V"⟩
abbrev cX2_clearPages : ByteArray := prog_4_method_22_code
def yX2_clearPages : MethodName := ⟨RX2, "clearPages", "()V"⟩
abbrev cX2_keep : ByteArray := prog_4_method_23_code
def yX2_keep : MethodName := ⟨RX2, "keep", "()V"⟩
abbrev cX2_bringBack : ByteArray := prog_4_method_24_code
def yX2_bringBack : MethodName := ⟨RX2, "bringBack", "()V"⟩
def RX3 : String := "PadConsole$Painter"
def TX3 : u_T := fun k => match k with
  | 0 => ("PadConsole$Painter", "chip", "LPadConsole$Video;", true)
  | 1 => ("PadConsole$Painter", "handy", "Z", true)
  | 2 => ("PadConsole$Painter", "picture", "[I", true)
  | 3 => ("PadConsole$Painter", "kept", "[I", true)
  | 4 => ("PadConsole$Painter", "numbers", "[I", true)
  | 5 => ("PadConsole$Painter", "sprites", "[I", true)
  | 6 => ("PadConsole$Painter", "colours", "[I", true)
  | 7 => ("PadConsole$Painter", "planes", "I", false)
  | _ => ("PadConsole$Painter", "tileBits", "I", false)
def tyX3 : Nat → FieldType := fun k => match k with
  | 0 => .object "PadConsole$Video"
  | 1 => .boolean
  | 2 => .array .int
  | 3 => .array .int
  | 4 => .array .int
  | 5 => .array .int
  | 6 => .array .int
  | 7 => .int
  | _ => .int
abbrev wsX30 : List Cond := u_ws RX3 TX3 9
theorem nmX3 : ∀ a, a < 9 → ∀ b, b < 9 → a ≠ b → (TX3 a).2.1 ≠ (TX3 b).2.1 := by decide +kernel
theorem tyX3_ok : ∀ k, k < 9 → parseFieldDescriptor (TX3 k).2.2.1 = some (tyX3 k) := by decide +kernel
abbrev cX3_init : ByteArray := prog_5_method_1_code
def yX3_init : MethodName := ⟨RX3, "<init>", "(LPadConsole$Video;Z)V"⟩
abbrev cX3_keep : ByteArray := prog_5_method_2_code
def yX3_keep : MethodName := ⟨RX3, "keep", "()V"⟩
abbrev cX3_bringBack : ByteArray := prog_5_method_3_code
def yX3_bringBack : MethodName := ⟨RX3, "bringBack", "()V"⟩
abbrev cX3_width : ByteArray := prog_5_method_4_code
def yX3_width : MethodName := ⟨RX3, "width", "()I"⟩
abbrev cX3_height : ByteArray := prog_5_method_5_code
def yX3_height : MethodName := ⟨RX3, "height", "()I"⟩
abbrev cX3_dotAt : ByteArray := prog_5_method_6_code
def yX3_dotAt : MethodName := ⟨RX3, "dotAt", "(II)I"⟩
abbrev cX3_placeOf : ByteArray := prog_5_method_7_code
def yX3_placeOf : MethodName := ⟨RX3, "placeOf", "(I)I"⟩
abbrev cX3_sumOfLine : ByteArray := prog_5_method_8_code
def yX3_sumOfLine : MethodName := ⟨RX3, "sumOfLine", "(I)I"⟩
abbrev cX3_draw : ByteArray := prog_5_method_9_code
def yX3_draw : MethodName := ⟨RX3, "draw", "()V"⟩
abbrev cX3_mixColours : ByteArray := prog_5_method_10_code
def yX3_mixColours : MethodName := ⟨RX3, "mixColours", "(I)V"⟩
abbrev cX3_fillBack : ByteArray := prog_5_method_11_code
def yX3_fillBack : MethodName := ⟨RX3, "fillBack", "(I)V"⟩
abbrev cX3_drawTiles : ByteArray := prog_5_method_12_code
def yX3_drawTiles : MethodName := ⟨RX3, "drawTiles", "(I)V"⟩
abbrev cX3_takeTile : ByteArray := prog_5_method_13_code
def yX3_takeTile : MethodName := ⟨RX3, "takeTile", "(II)V"⟩
abbrev cX3_takePlanes : ByteArray := prog_5_method_14_code
def yX3_takePlanes : MethodName := ⟨RX3, "takePlanes", "(I)V"⟩
abbrev cX3_numberIn : ByteArray := prog_5_method_15_code
def yX3_numberIn : MethodName := ⟨RX3, "numberIn", "(II)I"⟩
abbrev cX3_drawSprites : ByteArray := prog_5_method_16_code
def yX3_drawSprites : MethodName := ⟨RX3, "drawSprites", "(I)V"⟩
abbrev cX3_rowOfSprite : ByteArray := prog_5_method_17_code
def yX3_rowOfSprite : MethodName := ⟨RX3, "rowOfSprite", "(II)I"⟩
abbrev cX3_drawSprite : ByteArray := prog_5_method_18_code
def yX3_drawSprite : MethodName := ⟨RX3, "drawSprite", "(II)V"⟩
abbrev cX3_drawOld : ByteArray := prog_5_method_19_code
def yX3_drawOld : MethodName := ⟨RX3, "drawOld", "(II)V"⟩
abbrev cX3_patternAt : ByteArray := prog_5_method_20_code
def yX3_patternAt : MethodName := ⟨RX3, "patternAt", "(II)I"⟩
abbrev cX3_drawText : ByteArray := prog_5_method_21_code
def yX3_drawText : MethodName := ⟨RX3, "drawText", "(II)V"⟩
abbrev cX3_drawPattern : ByteArray := prog_5_method_22_code
def yX3_drawPattern : MethodName := ⟨RX3, "drawPattern", "(III)V"⟩
abbrev cX3_drawThird : ByteArray := prog_5_method_23_code
def yX3_drawThird : MethodName := ⟨RX3, "drawThird", "(III)V"⟩
abbrev cX3_drawBlocks : ByteArray := prog_5_method_24_code
def yX3_drawBlocks : MethodName := ⟨RX3, "drawBlocks", "(III)V"⟩
abbrev cX3_drawOldSprites : ByteArray := prog_5_method_25_code
def yX3_drawOldSprites : MethodName := ⟨RX3, "drawOldSprites", "(I)V"⟩
abbrev cX3_drawOldSprite : ByteArray := prog_5_method_26_code
def yX3_drawOldSprite : MethodName := ⟨RX3, "drawOldSprite", "(II)V"⟩
abbrev cX3_takeDot : ByteArray := prog_5_method_27_code
def yX3_takeDot : MethodName := ⟨RX3, "takeDot", "(II)V"⟩
def RX4 : String := "PadConsole$Ports"
def TX4 : u_T := fun k => match k with
  | 0 => ("PadConsole$Ports", "handy", "Z", true)
  | 1 => ("PadConsole$Ports", "screen", "LPadConsole$Video;", true)
  | 2 => ("PadConsole$Ports", "tones", "LPadConsole$Sound;", true)
  | 3 => ("PadConsole$Ports", "synth", "LPadConsole$Waves;", true)
  | 4 => ("PadConsole$Ports", "p", "[I", true)
  | _ => ("PadConsole$Ports", "kept", "[I", true)
def tyX4 : Nat → FieldType := fun k => match k with
  | 0 => .boolean
  | 1 => .object "PadConsole$Video"
  | 2 => .object "PadConsole$Sound"
  | 3 => .object "PadConsole$Waves"
  | 4 => .array .int
  | _ => .array .int
abbrev wsX40 : List Cond := u_ws RX4 TX4 6
theorem nmX4 : ∀ a, a < 6 → ∀ b, b < 6 → a ≠ b → (TX4 a).2.1 ≠ (TX4 b).2.1 := by decide +kernel
theorem tyX4_ok : ∀ k, k < 6 → parseFieldDescriptor (TX4 k).2.2.1 = some (tyX4 k) := by decide +kernel
abbrev cX4_init : ByteArray := prog_6_method_1_code
def yX4_init : MethodName := ⟨RX4, "<init>", "(ZLPadConsole$Video;LPadConsole$Sound;LPadConsole$Waves;)V"⟩
abbrev cX4_clear : ByteArray := prog_6_method_2_code
def yX4_clear : MethodName := ⟨RX4, "clear", "()V"⟩
abbrev cX4_keep : ByteArray := prog_6_method_3_code
def yX4_keep : MethodName := ⟨RX4, "keep", "()V"⟩
abbrev cX4_bringBack : ByteArray := prog_6_method_4_code
def yX4_bringBack : MethodName := ⟨RX4, "bringBack", "()V"⟩
abbrev cX4_value : ByteArray := prog_6_method_5_code
def yX4_value : MethodName := ⟨RX4, "value", "(I)I"⟩
abbrev cX4_canPress : ByteArray := prog_6_method_6_code
def yX4_canPress : MethodName := ⟨RX4, "canPress", "(II)Z"⟩
abbrev cX4_holdButtons : ByteArray := prog_6_method_7_code
def yX4_holdButtons : MethodName := ⟨RX4, "holdButtons", "(II)V"⟩
abbrev cX4_holdStart : ByteArray := prog_6_method_8_code
def yX4_holdStart : MethodName := ⟨RX4, "holdStart", "(Z)V"⟩
abbrev cX4_moveLine : ByteArray := prog_6_method_9_code
def yX4_moveLine : MethodName := ⟨RX4, "moveLine", "(IZ)V"⟩
abbrev cX4_lines : ByteArray := prog_6_method_10_code
def yX4_lines : MethodName := ⟨RX4, "lines", "()I"⟩
abbrev cX4_changeLines : ByteArray := prog_6_method_11_code
def yX4_changeLines : MethodName := ⟨RX4, "changeLines", "(II)V"⟩
abbrev cX4_read : ByteArray := prog_6_method_12_code
def yX4_read : MethodName := ⟨RX4, "read", "(I)I"⟩
abbrev cX4_readHandy : ByteArray := prog_6_method_13_code
def yX4_readHandy : MethodName := ⟨RX4, "readHandy", "(I)I"⟩
abbrev cX4_readEvenPads : ByteArray := prog_6_method_14_code
def yX4_readEvenPads : MethodName := ⟨RX4, "readEvenPads", "()I"⟩
abbrev cX4_readOddPads : ByteArray := prog_6_method_15_code
def yX4_readOddPads : MethodName := ⟨RX4, "readOddPads", "()I"⟩
abbrev cX4_write : ByteArray := prog_6_method_16_code
def yX4_write : MethodName := ⟨RX4, "write", "(II)V"⟩
abbrev cX4_writeHandy : ByteArray := prog_6_method_17_code
def yX4_writeHandy : MethodName := ⟨RX4, "writeHandy", "(II)V"⟩
def RX5 : String := "PadConsole$Processor"
def TX5 : u_T := fun k => match k with
  | 0 => ("PadConsole$Processor", "memory", "LPadConsole$Memory;", true)
  | 1 => ("PadConsole$Processor", "ports", "LPadConsole$Ports;", true)
  | 2 => ("PadConsole$Processor", "\x72", "[I", true)
  | 3 => ("PadConsole$Processor", "kept", "[I", true)
  | 4 => ("PadConsole$Processor", "j", "I", false)
  | _ => ("PadConsole$Processor", "place", "I", false)
def tyX5 : Nat → FieldType := fun k => match k with
  | 0 => .object "PadConsole$Memory"
  | 1 => .object "PadConsole$Ports"
  | 2 => .array .int
  | 3 => .array .int
  | 4 => .int
  | _ => .int
abbrev wsX50 : List Cond := u_ws RX5 TX5 6
theorem nmX5 : ∀ a, a < 6 → ∀ b, b < 6 → a ≠ b → (TX5 a).2.1 ≠ (TX5 b).2.1 := by decide +kernel
theorem tyX5_ok : ∀ k, k < 6 → parseFieldDescriptor (TX5 k).2.2.1 = some (tyX5 k) := by decide +kernel
abbrev cX5_init : ByteArray := prog_7_method_1_code
def yX5_init : MethodName := ⟨RX5, "<init>", "(LPadConsole$Memory;LPadConsole$Ports;)V"⟩
abbrev cX5_clear : ByteArray := prog_7_method_2_code
def yX5_clear : MethodName := ⟨RX5, "clear", "()V"⟩
abbrev cX5_keep : ByteArray := prog_7_method_3_code
def yX5_keep : MethodName := ⟨RX5, "keep", "()V"⟩
abbrev cX5_bringBack : ByteArray := prog_7_method_4_code
def yX5_bringBack : MethodName := ⟨RX5, "bringBack", "()V"⟩
abbrev cX5_value : ByteArray := prog_7_method_5_code
def yX5_value : MethodName := ⟨RX5, "value", "(I)I"⟩
abbrev cX5_change : ByteArray := prog_7_method_6_code
def yX5_change : MethodName := ⟨RX5, "change", "(II)V"⟩
abbrev cX5_askForPause : ByteArray := prog_7_method_7_code
def yX5_askForPause : MethodName := ⟨RX5, "askForPause", "()V"⟩
abbrev cX5_answerCalls : ByteArray := prog_7_method_8_code
def yX5_answerCalls : MethodName := ⟨RX5, "answerCalls", "(Z)I"⟩
abbrev cX5_breakOff : ByteArray := prog_7_method_9_code
def yX5_breakOff : MethodName := ⟨RX5, "breakOff", "(I)V"⟩
abbrev cX5_carryOn : ByteArray := prog_7_method_10_code
def yX5_carryOn : MethodName := ⟨RX5, "carryOn", "()I"⟩
abbrev cX5_takePlace : ByteArray := prog_7_method_11_code
def yX5_takePlace : MethodName := ⟨RX5, "takePlace", "(I)I"⟩
abbrev cX5_meansPlace : ByteArray := prog_7_method_12_code
def yX5_meansPlace : MethodName := ⟨RX5, "meansPlace", "(I)Z"⟩
abbrev cX5_fetch : ByteArray := prog_7_method_13_code
def yX5_fetch : MethodName := ⟨RX5, "fetch", "()I"⟩
abbrev cX5_fetchOp : ByteArray := prog_7_method_14_code
def yX5_fetchOp : MethodName := ⟨RX5, "fetchOp", "()I"⟩
abbrev cX5_fetchWord : ByteArray := prog_7_method_15_code
def yX5_fetchWord : MethodName := ⟨RX5, "fetchWord", "()I"⟩
abbrev cX5_growR : ByteArray := prog_7_method_16_code
def yX5_growR : MethodName := ⟨RX5, "growR", "()V"⟩
abbrev cX5_readWord : ByteArray := prog_7_method_17_code
def yX5_readWord : MethodName := ⟨RX5, "readWord", "(I)I"⟩
abbrev cX5_writeWord : ByteArray := prog_7_method_18_code
def yX5_writeWord : MethodName := ⟨RX5, "writeWord", "(II)V"⟩
abbrev cX5_push : ByteArray := prog_7_method_19_code
def yX5_push : MethodName := ⟨RX5, "push", "(I)V"⟩
abbrev cX5_pop : ByteArray := prog_7_method_20_code
def yX5_pop : MethodName := ⟨RX5, "pop", "()I"⟩
abbrev cX5_goTo : ByteArray := prog_7_method_21_code
def yX5_goTo : MethodName := ⟨RX5, "goTo", "(I)V"⟩
abbrev cX5_pairAt : ByteArray := prog_7_method_22_code
def yX5_pairAt : MethodName := ⟨RX5, "pairAt", "(I)I"⟩
abbrev cX5_putPairAt : ByteArray := prog_7_method_23_code
def yX5_putPairAt : MethodName := ⟨RX5, "putPairAt", "(II)V"⟩
abbrev cX5_hl : ByteArray := prog_7_method_24_code
def yX5_hl : MethodName := ⟨RX5, "hl", "()I"⟩
abbrev cX5_putHl : ByteArray := prog_7_method_25_code
def yX5_putHl : MethodName := ⟨RX5, "putHl", "(I)V"⟩
abbrev cX5_pair : ByteArray := prog_7_method_26_code
def yX5_pair : MethodName := ⟨RX5, "pair", "(I)I"⟩
abbrev cX5_putPair : ByteArray := prog_7_method_27_code
def yX5_putPair : MethodName := ⟨RX5, "putPair", "(II)V"⟩
abbrev cX5_one : ByteArray := prog_7_method_28_code
def yX5_one : MethodName := ⟨RX5, "one", "(I)I"⟩
abbrev cX5_putOne : ByteArray := prog_7_method_29_code
def yX5_putOne : MethodName := ⟨RX5, "putOne", "(II)V"⟩
abbrev cX5_putPairHalf : ByteArray := prog_7_method_30_code
def yX5_putPairHalf : MethodName := ⟨RX5, "putPairHalf", "(II)V"⟩
abbrev cX5_holds : ByteArray := prog_7_method_31_code
def yX5_holds : MethodName := ⟨RX5, "holds", "(I)Z"⟩
abbrev cX5_by : ByteArray := prog_7_method_32_code
def yX5_by : MethodName := ⟨RX5, "by", "(I)I"⟩
abbrev cX5_parity : ByteArray := prog_7_method_33_code
def yX5_parity : MethodName := ⟨RX5, "parity", "(I)I"⟩
abbrev cX5_changeWithOther : ByteArray := prog_7_method_34_code
def yX5_changeWithOther : MethodName := ⟨RX5, "changeWithOther", "(I)V"⟩
abbrev cX5_firstQuarter : ByteArray := prog_7_method_35_code
def yX5_firstQuarter : MethodName := ⟨RX5, "firstQuarter", "(I)I"⟩
abbrev cX5_near : ByteArray := prog_7_method_36_code
def yX5_near : MethodName := ⟨RX5, "near", "(I)I"⟩
abbrev cX5_loadPair : ByteArray := prog_7_method_37_code
def yX5_loadPair : MethodName := ⟨RX5, "loadPair", "(I)I"⟩
abbrev cX5_addPair : ByteArray := prog_7_method_38_code
def yX5_addPair : MethodName := ⟨RX5, "addPair", "(I)I"⟩
abbrev cX5_far : ByteArray := prog_7_method_39_code
def yX5_far : MethodName := ⟨RX5, "far", "(I)I"⟩
abbrev cX5_oneMore : ByteArray := prog_7_method_40_code
def yX5_oneMore : MethodName := ⟨RX5, "oneMore", "(I)I"⟩
abbrev cX5_oneLess : ByteArray := prog_7_method_41_code
def yX5_oneLess : MethodName := ⟨RX5, "oneLess", "(I)I"⟩
abbrev cX5_changeA : ByteArray := prog_7_method_42_code
def yX5_changeA : MethodName := ⟨RX5, "changeA", "(I)V"⟩
abbrev cX5_adjustA : ByteArray := prog_7_method_43_code
def yX5_adjustA : MethodName := ⟨RX5, "adjustA", "()V"⟩
abbrev cX5_turn : ByteArray := prog_7_method_44_code
def yX5_turn : MethodName := ⟨RX5, "turn", "(II)I"⟩
abbrev cX5_move : ByteArray := prog_7_method_45_code
def yX5_move : MethodName := ⟨RX5, "move", "(I)I"⟩
abbrev cX5_doWithRegister : ByteArray := prog_7_method_46_code
def yX5_doWithRegister : MethodName := ⟨RX5, "doWithRegister", "(I)I"⟩
abbrev cX5_doWith : ByteArray := prog_7_method_47_code
def yX5_doWith : MethodName := ⟨RX5, "doWith", "(II)V"⟩
abbrev cX5_sum : ByteArray := prog_7_method_48_code
def yX5_sum : MethodName := ⟨RX5, "sum", "(III)I"⟩
abbrev cX5_difference : ByteArray := prog_7_method_49_code
def yX5_difference : MethodName := ⟨RX5, "difference", "(III)I"⟩
abbrev cX5_lastQuarter : ByteArray := prog_7_method_50_code
def yX5_lastQuarter : MethodName := ⟨RX5, "lastQuarter", "(I)I"⟩
abbrev cX5_popPair : ByteArray := prog_7_method_51_code
def yX5_popPair : MethodName := ⟨RX5, "popPair", "(I)I"⟩
abbrev cX5_leave : ByteArray := prog_7_method_52_code
def yX5_leave : MethodName := ⟨RX5, "leave", "(I)I"⟩
abbrev cX5_callIf : ByteArray := prog_7_method_53_code
def yX5_callIf : MethodName := ⟨RX5, "callIf", "(Z)I"⟩
abbrev cX5_exchange : ByteArray := prog_7_method_54_code
def yX5_exchange : MethodName := ⟨RX5, "exchange", "(I)I"⟩
abbrev cX5_turns : ByteArray := prog_7_method_55_code
def yX5_turns : MethodName := ⟨RX5, "turns", "(I)I"⟩
abbrev cX5_turnBeside : ByteArray := prog_7_method_56_code
def yX5_turnBeside : MethodName := ⟨RX5, "turnBeside", "()I"⟩
abbrev cX5_turned : ByteArray := prog_7_method_57_code
def yX5_turned : MethodName := ⟨RX5, "turned", "(II)I"⟩
abbrev cX5_askBit : ByteArray := prog_7_method_58_code
def yX5_askBit : MethodName := ⟨RX5, "askBit", "(III)V"⟩
abbrev cX5_behindEd : ByteArray := prog_7_method_59_code
def yX5_behindEd : MethodName := ⟨RX5, "behindEd", "(I)I"⟩
abbrev cX5_takeFromPort : ByteArray := prog_7_method_60_code
def yX5_takeFromPort : MethodName := ⟨RX5, "takeFromPort", "(I)V"⟩
abbrev cX5_takePair : ByteArray := prog_7_method_61_code
def yX5_takePair : MethodName := ⟨RX5, "takePair", "(I)I"⟩
abbrev cX5_addPairAndCarry : ByteArray := prog_7_method_62_code
def yX5_addPairAndCarry : MethodName := ⟨RX5, "addPairAndCarry", "(I)I"⟩
abbrev cX5_putWide : ByteArray := prog_7_method_63_code
def yX5_putWide : MethodName := ⟨RX5, "putWide", "(III)V"⟩
abbrev cX5_farPair : ByteArray := prog_7_method_64_code
def yX5_farPair : MethodName := ⟨RX5, "farPair", "(I)I"⟩
abbrev cX5_moreOfA : ByteArray := prog_7_method_65_code
def yX5_moreOfA : MethodName := ⟨RX5, "moreOfA", "(I)I"⟩
abbrev cX5_turnDigits : ByteArray := prog_7_method_66_code
def yX5_turnDigits : MethodName := ⟨RX5, "turnDigits", "(Z)V"⟩
abbrev cX5_block : ByteArray := prog_7_method_67_code
def yX5_block : MethodName := ⟨RX5, "block", "(I)I"⟩
abbrev cX5_copyOne : ByteArray := prog_7_method_68_code
def yX5_copyOne : MethodName := ⟨RX5, "copyOne", "(I)Z"⟩
abbrev cX5_compareOne : ByteArray := prog_7_method_69_code
def yX5_compareOne : MethodName := ⟨RX5, "compareOne", "(I)Z"⟩
abbrev cX5_takeOne : ByteArray := prog_7_method_70_code
def yX5_takeOne : MethodName := ⟨RX5, "takeOne", "(I)Z"⟩
abbrev cX5_giveOne : ByteArray := prog_7_method_71_code
def yX5_giveOne : MethodName := ⟨RX5, "giveOne", "(I)Z"⟩
abbrev cX5_tellOfPort : ByteArray := prog_7_method_72_code
def yX5_tellOfPort : MethodName := ⟨RX5, "tellOfPort", "(II)V"⟩
def RX6 : String := "PadConsole$Ring"
def TX6 : u_T := fun k => match k with
  | 0 => ("PadConsole$Ring", "values", "[J", true)
  | 1 => ("PadConsole$Ring", "kept", "[J", true)
  | 2 => ("PadConsole$Ring", "first", "I", false)
  | 3 => ("PadConsole$Ring", "count", "I", false)
  | 4 => ("PadConsole$Ring", "firstKept", "I", false)
  | _ => ("PadConsole$Ring", "countKept", "I", false)
def tyX6 : Nat → FieldType := fun k => match k with
  | 0 => .array .long
  | 1 => .array .long
  | 2 => .int
  | 3 => .int
  | 4 => .int
  | _ => .int
abbrev wsX60 : List Cond := u_ws RX6 TX6 6
theorem nmX6 : ∀ a, a < 6 → ∀ b, b < 6 → a ≠ b → (TX6 a).2.1 ≠ (TX6 b).2.1 := by decide +kernel
theorem tyX6_ok : ∀ k, k < 6 → parseFieldDescriptor (TX6 k).2.2.1 = some (tyX6 k) := by decide +kernel
abbrev cX6_init : ByteArray := prog_8_method_1_code
def yX6_init : MethodName := ⟨RX6, "<init>", "()V"⟩
abbrev cX6_add : ByteArray := prog_8_method_2_code
def yX6_add : MethodName := ⟨RX6, "add", "(J)V"⟩
abbrev cX6_size : ByteArray := prog_8_method_3_code
def yX6_size : MethodName := ⟨RX6, "size", "()I"⟩
abbrev cX6_takeFirst : ByteArray := prog_8_method_4_code
def yX6_takeFirst : MethodName := ⟨RX6, "takeFirst", "()J"⟩
abbrev cX6_keep : ByteArray := prog_8_method_5_code
def yX6_keep : MethodName := ⟨RX6, "keep", "()V"⟩
abbrev cX6_bringBack : ByteArray := prog_8_method_6_code
def yX6_bringBack : MethodName := ⟨RX6, "bringBack", "()V"⟩
def RX7 : String := "PadConsole$Sound"
def TX7 : u_T := fun k => match k with
  | 0 => ("PadConsole$Sound", "s", "[I", true)
  | _ => ("PadConsole$Sound", "kept", "[I", true)
def tyX7 : Nat → FieldType := fun k => match k with
  | 0 => .array .int
  | _ => .array .int
abbrev wsX70 : List Cond := u_ws RX7 TX7 2
theorem nmX7 : ∀ a, a < 2 → ∀ b, b < 2 → a ≠ b → (TX7 a).2.1 ≠ (TX7 b).2.1 := by decide +kernel
theorem tyX7_ok : ∀ k, k < 2 → parseFieldDescriptor (TX7 k).2.2.1 = some (tyX7 k) := by decide +kernel
abbrev cX7_init : ByteArray := prog_9_method_1_code
def yX7_init : MethodName := ⟨RX7, "<init>", "()V"⟩
abbrev cX7_clear : ByteArray := prog_9_method_2_code
def yX7_clear : MethodName := ⟨RX7, "clear", "()V"⟩
abbrev cX7_keep : ByteArray := prog_9_method_3_code
def yX7_keep : MethodName := ⟨RX7, "keep", "()V"⟩
abbrev cX7_bringBack : ByteArray := prog_9_method_4_code
def yX7_bringBack : MethodName := ⟨RX7, "bringBack", "()V"⟩
abbrev cX7_value : ByteArray := prog_9_method_5_code
def yX7_value : MethodName := ⟨RX7, "value", "(I)I"⟩
abbrev cX7_takeStereo : ByteArray := prog_9_method_6_code
def yX7_takeStereo : MethodName := ⟨RX7, "takeStereo", "(I)V"⟩
abbrev cX7_take : ByteArray := prog_9_method_7_code
def yX7_take : MethodName := ⟨RX7, "take", "(I)V"⟩
abbrev cX7_nextSample : ByteArray := prog_9_method_8_code
def yX7_nextSample : MethodName := ⟨RX7, "nextSample", "()I"⟩
abbrev cX7_moveTone : ByteArray := prog_9_method_9_code
def yX7_moveTone : MethodName := ⟨RX7, "moveTone", "(I)V"⟩
abbrev cX7_moveNoise : ByteArray := prog_9_method_10_code
def yX7_moveNoise : MethodName := ⟨RX7, "moveNoise", "()V"⟩
def RX8 : String := "PadConsole$Teller"
def TX8 : u_T := fun k => match k with
  | 0 => ("PadConsole$Teller", "memory", "LPadConsole$Memory;", true)
  | 1 => ("PadConsole$Teller", "signs", "[I", true)
  | 2 => ("PadConsole$Teller", "length", "I", false)
  | 3 => ("PadConsole$Teller", "at", "I", false)
  | 4 => ("PadConsole$Teller", "count", "I", false)
  | 5 => ("PadConsole$Teller", "x", "I", false)
  | 6 => ("PadConsole$Teller", "y", "I", false)
  | 7 => ("PadConsole$Teller", "z", "I", false)
  | 8 => ("PadConsole$Teller", "prefix", "I", false)
  | 9 => ("PadConsole$Teller", "beside", "Z", false)
  | _ => ("PadConsole$Teller", "early", "I", false)
def tyX8 : Nat → FieldType := fun k => match k with
  | 0 => .object "PadConsole$Memory"
  | 1 => .array .int
  | 2 => .int
  | 3 => .int
  | 4 => .int
  | 5 => .int
  | 6 => .int
  | 7 => .int
  | 8 => .int
  | 9 => .boolean
  | _ => .int
abbrev wsX80 : List Cond := u_ws RX8 TX8 11
theorem nmX8 : ∀ a, a < 11 → ∀ b, b < 11 → a ≠ b → (TX8 a).2.1 ≠ (TX8 b).2.1 := by decide +kernel
theorem tyX8_ok : ∀ k, k < 11 → parseFieldDescriptor (TX8 k).2.2.1 = some (tyX8 k) := by decide +kernel
abbrev cX8_init : ByteArray := prog_10_method_1_code
def yX8_init : MethodName := ⟨RX8, "<init>", "(LPadConsole$Memory;)V"⟩
abbrev cX8_write : ByteArray := prog_10_method_2_code
def yX8_write : MethodName := ⟨RX8, "write", "(I)I"⟩
abbrev cX8_take : ByteArray := prog_10_method_3_code
def yX8_take : MethodName := ⟨RX8, "take", "()I"⟩
abbrev cX8_split : ByteArray := prog_10_method_4_code
def yX8_split : MethodName := ⟨RX8, "split", "(I)V"⟩
abbrev cX8_eightFrom : ByteArray := prog_10_method_5_code
def yX8_eightFrom : MethodName := ⟨RX8, "eightFrom", "(I)J"⟩
abbrev cX8_patternsOf : ByteArray := prog_10_method_6_code
def yX8_patternsOf : MethodName := ⟨RX8, "patternsOf", "(I)Ljava/lang/String;"⟩
abbrev cX8_firstPatterns : ByteArray := prog_10_method_7_code
def yX8_firstPatterns : MethodName := ⟨RX8, "firstPatterns", "()Ljava/lang/String;"⟩
abbrev cX8_lastPatterns : ByteArray := prog_10_method_8_code
def yX8_lastPatterns : MethodName := ⟨RX8, "lastPatterns", "()Ljava/lang/String;"⟩
abbrev cX8_turnPatterns : ByteArray := prog_10_method_9_code
def yX8_turnPatterns : MethodName := ⟨RX8, "turnPatterns", "()Ljava/lang/String;"⟩
abbrev cX8_blockPatterns : ByteArray := prog_10_method_10_code
def yX8_blockPatterns : MethodName := ⟨RX8, "blockPatterns", "()Ljava/lang/String;"⟩
abbrev cX8_morePatterns : ByteArray := prog_10_method_11_code
def yX8_morePatterns : MethodName := ⟨RX8, "morePatterns", "()Ljava/lang/String;"⟩
abbrev cX8_put : ByteArray := prog_10_method_12_code
def yX8_put : MethodName := ⟨RX8, "put", "(Ljava/lang/String;)V"⟩
abbrev cX8_putSign : ByteArray := prog_10_method_13_code
def yX8_putSign : MethodName := ⟨RX8, "putSign", "(I)V"⟩
abbrev cX8_putMeant : ByteArray := prog_10_method_14_code
def yX8_putMeant : MethodName := ⟨RX8, "putMeant", "(I)V"⟩
abbrev cX8_putName : ByteArray := prog_10_method_15_code
def yX8_putName : MethodName := ⟨RX8, "putName", "(Ljava/lang/String;I)V"⟩
abbrev cX8_putOne : ByteArray := prog_10_method_16_code
def yX8_putOne : MethodName := ⟨RX8, "putOne", "(I)V"⟩
abbrev cX8_putTurned : ByteArray := prog_10_method_17_code
def yX8_putTurned : MethodName := ⟨RX8, "putTurned", "()V"⟩
abbrev cX8_putPair : ByteArray := prog_10_method_18_code
def yX8_putPair : MethodName := ⟨RX8, "putPair", "(Ljava/lang/String;)V"⟩
abbrev cX8_putHl : ByteArray := prog_10_method_19_code
def yX8_putHl : MethodName := ⟨RX8, "putHl", "()V"⟩
abbrev cX8_putPlace : ByteArray := prog_10_method_20_code
def yX8_putPlace : MethodName := ⟨RX8, "putPlace", "(I)V"⟩
abbrev cX8_putByte : ByteArray := prog_10_method_21_code
def yX8_putByte : MethodName := ⟨RX8, "putByte", "(I)V"⟩
abbrev cX8_putWord : ByteArray := prog_10_method_22_code
def yX8_putWord : MethodName := ⟨RX8, "putWord", "(I)V"⟩
def RX9 : String := "PadConsole$Video"
def TX9 : u_T := fun k => match k with
  | 0 => ("PadConsole$Video", "handy", "Z", true)
  | 1 => ("PadConsole$Video", "lines", "I", true)
  | 2 => ("PadConsole$Video", "vram", "[I", true)
  | 3 => ("PadConsole$Video", "vramKept", "[I", true)
  | 4 => ("PadConsole$Video", "s", "[I", true)
  | _ => ("PadConsole$Video", "kept", "[I", true)
def tyX9 : Nat → FieldType := fun k => match k with
  | 0 => .boolean
  | 1 => .int
  | 2 => .array .int
  | 3 => .array .int
  | 4 => .array .int
  | _ => .array .int
abbrev wsX90 : List Cond := u_ws RX9 TX9 6
theorem nmX9 : ∀ a, a < 6 → ∀ b, b < 6 → a ≠ b → (TX9 a).2.1 ≠ (TX9 b).2.1 := by decide +kernel
theorem tyX9_ok : ∀ k, k < 6 → parseFieldDescriptor (TX9 k).2.2.1 = some (tyX9 k) := by decide +kernel
abbrev cX9_init : ByteArray := prog_11_method_1_code
def yX9_init : MethodName := ⟨RX9, "<init>", "(ZI)V"⟩
abbrev cX9_clear : ByteArray := prog_11_method_2_code
def yX9_clear : MethodName := ⟨RX9, "clear", "()V"⟩
abbrev cX9_keep : ByteArray := prog_11_method_3_code
def yX9_keep : MethodName := ⟨RX9, "keep", "()V"⟩
abbrev cX9_bringBack : ByteArray := prog_11_method_4_code
def yX9_bringBack : MethodName := ⟨RX9, "bringBack", "()V"⟩
abbrev cX9_has : ByteArray := prog_11_method_5_code
def yX9_has : MethodName := ⟨RX9, "has", "(I)Z"⟩
abbrev cX9_value : ByteArray := prog_11_method_6_code
def yX9_value : MethodName := ⟨RX9, "value", "(I)I"⟩
abbrev cX9_held : ByteArray := prog_11_method_7_code
def yX9_held : MethodName := ⟨RX9, "held", "(I)I"⟩
abbrev cX9_vramByte : ByteArray := prog_11_method_8_code
def yX9_vramByte : MethodName := ⟨RX9, "vramByte", "(I)I"⟩
abbrev cX9_eightFrom : ByteArray := prog_11_method_9_code
def yX9_eightFrom : MethodName := ⟨RX9, "eightFrom", "(I)J"⟩
abbrev cX9_mark : ByteArray := prog_11_method_10_code
def yX9_mark : MethodName := ⟨RX9, "mark", "(I)V"⟩
abbrev cX9_markFifth : ByteArray := prog_11_method_11_code
def yX9_markFifth : MethodName := ⟨RX9, "markFifth", "(I)V"⟩
abbrev cX9_writeControl : ByteArray := prog_11_method_12_code
def yX9_writeControl : MethodName := ⟨RX9, "writeControl", "(I)V"⟩
abbrev cX9_readAhead : ByteArray := prog_11_method_13_code
def yX9_readAhead : MethodName := ⟨RX9, "readAhead", "()V"⟩
abbrev cX9_readStatus : ByteArray := prog_11_method_14_code
def yX9_readStatus : MethodName := ⟨RX9, "readStatus", "()I"⟩
abbrev cX9_readData : ByteArray := prog_11_method_15_code
def yX9_readData : MethodName := ⟨RX9, "readData", "()I"⟩
abbrev cX9_writeData : ByteArray := prog_11_method_16_code
def yX9_writeData : MethodName := ⟨RX9, "writeData", "(I)V"⟩
abbrev cX9_writeColour : ByteArray := prog_11_method_17_code
def yX9_writeColour : MethodName := ⟨RX9, "writeColour", "(II)V"⟩
abbrev cX9_asks : ByteArray := prog_11_method_18_code
def yX9_asks : MethodName := ⟨RX9, "asks", "()Z"⟩
abbrev cX9_mode : ByteArray := prog_11_method_19_code
def yX9_mode : MethodName := ⟨RX9, "mode", "()I"⟩
abbrev cX9_height : ByteArray := prog_11_method_20_code
def yX9_height : MethodName := ⟨RX9, "height", "()I"⟩
abbrev cX9_hCount : ByteArray := prog_11_method_21_code
def yX9_hCount : MethodName := ⟨RX9, "hCount", "()I"⟩
abbrev cX9_vCount : ByteArray := prog_11_method_22_code
def yX9_vCount : MethodName := ⟨RX9, "vCount", "()I"⟩
abbrev cX9_passes : ByteArray := prog_11_method_23_code
def yX9_passes : MethodName := ⟨RX9, "passes", "(I)Z"⟩
abbrev cX9_goesToNextLine : ByteArray := prog_11_method_24_code
def yX9_goesToNextLine : MethodName := ⟨RX9, "goesToNextLine", "()Z"⟩
def RX10 : String := "PadConsole$Waves"
def TX10 : u_T := fun k => match k with
  | 0 => ("PadConsole$Waves", "s", "[I", true)
  | 1 => ("PadConsole$Waves", "kept", "[I", true)
  | 2 => ("PadConsole$Waves", "rhythm", "Z", false)
  | 3 => ("PadConsole$Waves", "channel", "I", false)
  | 4 => ("PadConsole$Waves", "f", "I", false)
  | 5 => ("PadConsole$Waves", "block", "I", false)
  | 6 => ("PadConsole$Waves", "patch", "J", false)
  | _ => ("PadConsole$Waves", "ownPatch", "J", false)
def tyX10 : Nat → FieldType := fun k => match k with
  | 0 => .array .int
  | 1 => .array .int
  | 2 => .boolean
  | 3 => .int
  | 4 => .int
  | 5 => .int
  | 6 => .long
  | _ => .long
abbrev wsX100 : List Cond := u_ws RX10 TX10 8
theorem nmX10 : ∀ a, a < 8 → ∀ b, b < 8 → a ≠ b → (TX10 a).2.1 ≠ (TX10 b).2.1 := by decide +kernel
theorem tyX10_ok : ∀ k, k < 8 → parseFieldDescriptor (TX10 k).2.2.1 = some (tyX10 k) := by decide +kernel
abbrev cX10_init : ByteArray := prog_12_method_1_code
def yX10_init : MethodName := ⟨RX10, "<init>", "()V"⟩
abbrev cX10_clear : ByteArray := prog_12_method_2_code
def yX10_clear : MethodName := ⟨RX10, "clear", "()V"⟩
abbrev cX10_keep : ByteArray := prog_12_method_3_code
def yX10_keep : MethodName := ⟨RX10, "keep", "()V"⟩
abbrev cX10_bringBack : ByteArray := prog_12_method_4_code
def yX10_bringBack : MethodName := ⟨RX10, "bringBack", "()V"⟩
abbrev cX10_has : ByteArray := prog_12_method_5_code
def yX10_has : MethodName := ⟨RX10, "has", "(I)Z"⟩
abbrev cX10_value : ByteArray := prog_12_method_6_code
def yX10_value : MethodName := ⟨RX10, "value", "(I)I"⟩
abbrev cX10_heard : ByteArray := prog_12_method_7_code
def yX10_heard : MethodName := ⟨RX10, "heard", "()I"⟩
abbrev cX10_take : ByteArray := prog_12_method_8_code
def yX10_take : MethodName := ⟨RX10, "take", "(II)V"⟩
abbrev cX10_makeNext : ByteArray := prog_12_method_9_code
def yX10_makeNext : MethodName := ⟨RX10, "makeNext", "()V"⟩
abbrev cX10_takeChannel : ByteArray := prog_12_method_10_code
def yX10_takeChannel : MethodName := ⟨RX10, "takeChannel", "(I)V"⟩
abbrev cX10_takeOwnPatch : ByteArray := prog_12_method_11_code
def yX10_takeOwnPatch : MethodName := ⟨RX10, "takeOwnPatch", "()V"⟩
abbrev cX10_part : ByteArray := prog_12_method_12_code
def yX10_part : MethodName := ⟨RX10, "part", "(I)I"⟩
abbrev cX10_moveOperator : ByteArray := prog_12_method_13_code
def yX10_moveOperator : MethodName := ⟨RX10, "moveOperator", "(II)V"⟩
abbrev cX10_moveOut : ByteArray := prog_12_method_14_code
def yX10_moveOut : MethodName := ⟨RX10, "moveOut", "(II)V"⟩
abbrev cX10_isOn : ByteArray := prog_12_method_15_code
def yX10_isOn : MethodName := ⟨RX10, "isOn", "(I)Z"⟩
abbrev cX10_rateIn : ByteArray := prog_12_method_16_code
def yX10_rateIn : MethodName := ⟨RX10, "rateIn", "(II)I"⟩
abbrev cX10_moveLevel : ByteArray := prog_12_method_17_code
def yX10_moveLevel : MethodName := ⟨RX10, "moveLevel", "(II)V"⟩
abbrev cX10_louder : ByteArray := prog_12_method_18_code
def yX10_louder : MethodName := ⟨RX10, "louder", "(III)I"⟩
abbrev cX10_softer : ByteArray := prog_12_method_19_code
def yX10_softer : MethodName := ⟨RX10, "softer", "(II)I"⟩
abbrev cX10_slowTick : ByteArray := prog_12_method_20_code
def yX10_slowTick : MethodName := ⟨RX10, "slowTick", "()I"⟩
abbrev cX10_tickAt : ByteArray := prog_12_method_21_code
def yX10_tickAt : MethodName := ⟨RX10, "tickAt", "(II)I"⟩
abbrev cX10_moveState : ByteArray := prog_12_method_22_code
def yX10_moveState : MethodName := ⟨RX10, "moveState", "(II)V"⟩
abbrev cX10_movePhase : ByteArray := prog_12_method_23_code
def yX10_movePhase : MethodName := ⟨RX10, "movePhase", "(II)V"⟩
abbrev cX10_sway : ByteArray := prog_12_method_24_code
def yX10_sway : MethodName := ⟨RX10, "sway", "(I)I"⟩
abbrev cX10_turnedPhase : ByteArray := prog_12_method_25_code
def yX10_turnedPhase : MethodName := ⟨RX10, "turnedPhase", "(II)I"⟩
abbrev cX10_drumPhase : ByteArray := prog_12_method_26_code
def yX10_drumPhase : MethodName := ⟨RX10, "drumPhase", "(II)I"⟩
abbrev cX10_waveAt : ByteArray := prog_12_method_27_code
def yX10_waveAt : MethodName := ⟨RX10, "waveAt", "(IIZ)I"⟩
abbrev cX10_softness : ByteArray := prog_12_method_28_code
def yX10_softness : MethodName := ⟨RX10, "softness", "(II)I"⟩
abbrev cX10_tremble : ByteArray := prog_12_method_29_code
def yX10_tremble : MethodName := ⟨RX10, "tremble", "()I"⟩
abbrev cX10_scaled : ByteArray := prog_12_method_30_code
def yX10_scaled : MethodName := ⟨RX10, "scaled", "(I)I"⟩
def RX11 : String := "PadConsole"
def TX11 : u_T := fun k => match k with
  | 0 => ("PadConsole", "handy", "Z", true)
  | 1 => ("PadConsole", "memory", "LPadConsole$Memory;", true)
  | 2 => ("PadConsole", "screen", "LPadConsole$Video;", true)
  | 3 => ("PadConsole", "painter", "LPadConsole$Painter;", true)
  | 4 => ("PadConsole", "tones", "LPadConsole$Sound;", true)
  | 5 => ("PadConsole", "synth", "LPadConsole$Waves;", true)
  | 6 => ("PadConsole", "ports", "LPadConsole$Ports;", true)
  | 7 => ("PadConsole", "processor", "LPadConsole$Processor;", true)
  | 8 => ("PadConsole", "clock", "LPadConsole$Clock;", true)
  | 9 => ("PadConsole", "desk", "LPadConsole$Desk;", true)
  | 10 => ("PadConsole", "teller", "LPadConsole$Teller;", true)
  | _ => ("PadConsole", "saved", "Z", false)
def tyX11 : Nat → FieldType := fun k => match k with
  | 0 => .boolean
  | 1 => .object "PadConsole$Memory"
  | 2 => .object "PadConsole$Video"
  | 3 => .object "PadConsole$Painter"
  | 4 => .object "PadConsole$Sound"
  | 5 => .object "PadConsole$Waves"
  | 6 => .object "PadConsole$Ports"
  | 7 => .object "PadConsole$Processor"
  | 8 => .object "PadConsole$Clock"
  | 9 => .object "PadConsole$Desk"
  | 10 => .object "PadConsole$Teller"
  | _ => .boolean
abbrev wsX110 : List Cond := u_ws RX11 TX11 12
theorem nmX11 : ∀ a, a < 12 → ∀ b, b < 12 → a ≠ b → (TX11 a).2.1 ≠ (TX11 b).2.1 := by decide +kernel
theorem tyX11_ok : ∀ k, k < 12 → parseFieldDescriptor (TX11 k).2.2.1 = some (tyX11 k) := by decide +kernel
abbrev cX11_init : ByteArray := prog_1_method_1_code
def yX11_init : MethodName := ⟨RX11, "<init>", "(I)V"⟩
abbrev cX11_feed : ByteArray := prog_1_method_2_code
def yX11_feed : MethodName := ⟨RX11, "feed", "(IJJJ)I"⟩
abbrev cX11_grow : ByteArray := prog_1_method_3_code
def yX11_grow : MethodName := ⟨RX11, "grow", "(I)I"⟩
abbrev cX11_patch : ByteArray := prog_1_method_4_code
def yX11_patch : MethodName := ⟨RX11, "patch", "(IJ)V"⟩
abbrev cX11_load : ByteArray := prog_1_method_5_code
def yX11_load : MethodName := ⟨RX11, "load", "()I"⟩
abbrev cX11_card : ByteArray := prog_1_method_6_code
def yX11_card : MethodName := ⟨RX11, "card", "(I)I"⟩
abbrev cX11_step : ByteArray := prog_1_method_7_code
def yX11_step : MethodName := ⟨RX11, "step", "(I)I"⟩
abbrev cX11_picture : ByteArray := prog_1_method_8_code
def yX11_picture : MethodName := ⟨RX11, "picture", "(I)I"⟩
abbrev cX11_reset : ByteArray := prog_1_method_9_code
def yX11_reset : MethodName := ⟨RX11, "reset", "()V"⟩
abbrev cX11_pause : ByteArray := prog_1_method_10_code
def yX11_pause : MethodName := ⟨RX11, "pause", "()Z"⟩
abbrev cX11_press : ByteArray := prog_1_method_11_code
def yX11_press : MethodName := ⟨RX11, "press", "(II)V"⟩
abbrev cX11_start : ByteArray := prog_1_method_12_code
def yX11_start : MethodName := ⟨RX11, "start", "(Z)V"⟩
abbrev cX11_line : ByteArray := prog_1_method_13_code
def yX11_line : MethodName := ⟨RX11, "line", "(IZ)V"⟩
abbrev cX11_plan : ByteArray := prog_1_method_14_code
def yX11_plan : MethodName := ⟨RX11, "plan", "(III)I"⟩
abbrev cX11_tell : ByteArray := prog_1_method_15_code
def yX11_tell : MethodName := ⟨RX11, "tell", "(I)I"⟩
abbrev cX11_text : ByteArray := prog_1_method_16_code
def yX11_text : MethodName := ⟨RX11, "text", "(I)J"⟩
abbrev cX11_stop : ByteArray := prog_1_method_17_code
def yX11_stop : MethodName := ⟨RX11, "stop", "(IZ)I"⟩
abbrev cX11_save : ByteArray := prog_1_method_18_code
def yX11_save : MethodName := ⟨RX11, "save", "()V"⟩
abbrev cX11_restore : ByteArray := prog_1_method_19_code
def yX11_restore : MethodName := ⟨RX11, "restore", "()V"⟩
abbrev cX11_register : ByteArray := prog_1_method_20_code
def yX11_register : MethodName := ⟨RX11, "register", "(I)I"⟩
abbrev cX11_set : ByteArray := prog_1_method_21_code
def yX11_set : MethodName := ⟨RX11, "set", "(II)V"⟩
abbrev cX11_peek : ByteArray := prog_1_method_22_code
def yX11_peek : MethodName := ⟨RX11, "peek", "(I)I"⟩
abbrev cX11_poke : ByteArray := prog_1_method_23_code
def yX11_poke : MethodName := ⟨RX11, "poke", "(II)V"⟩
abbrev cX11_in : ByteArray := prog_1_method_24_code
def yX11_in : MethodName := ⟨RX11, "in", "(I)I"⟩
abbrev cX11_out : ByteArray := prog_1_method_25_code
def yX11_out : MethodName := ⟨RX11, "out", "(II)V"⟩
abbrev cX11_battery : ByteArray := prog_1_method_26_code
def yX11_battery : MethodName := ⟨RX11, "battery", "(I)I"⟩
abbrev cX11_wipe : ByteArray := prog_1_method_27_code
def yX11_wipe : MethodName := ⟨RX11, "wipe", "()V"⟩
abbrev cX11_video : ByteArray := prog_1_method_28_code
def yX11_video : MethodName := ⟨RX11, "video", "(I)J"⟩
abbrev cX11_chip : ByteArray := prog_1_method_29_code
def yX11_chip : MethodName := ⟨RX11, "chip", "(I)I"⟩
abbrev cX11_dot : ByteArray := prog_1_method_30_code
def yX11_dot : MethodName := ⟨RX11, "dot", "(II)I"⟩
abbrev cX11_row : ByteArray := prog_1_method_31_code
def yX11_row : MethodName := ⟨RX11, "row", "(I)I"⟩
abbrev cX11_hear : ByteArray := prog_1_method_32_code
def yX11_hear : MethodName := ⟨RX11, "hear", "()J"⟩
abbrev cX11_mix : ByteArray := prog_1_method_33_code
def yX11_mix : MethodName := ⟨RX11, "mix", "()J"⟩
abbrev cX11_wave : ByteArray := prog_1_method_34_code
def yX11_wave : MethodName := ⟨RX11, "wave", "(I)I"⟩
abbrev cX11_sound : ByteArray := prog_1_method_35_code
def yX11_sound : MethodName := ⟨RX11, "sound", "(I)I"⟩
abbrev cX11_trace : ByteArray := prog_1_method_36_code
def yX11_trace : MethodName := ⟨RX11, "trace", "(I)I"⟩
abbrev cX11_look : ByteArray := prog_1_method_37_code
def yX11_look : MethodName := ⟨RX11, "look", "(I)J"⟩
abbrev cX11_clearAll : ByteArray := prog_1_method_38_code
def yX11_clearAll : MethodName := ⟨RX11, "clearAll", "()V"⟩
abbrev cX11_run : ByteArray := prog_1_method_39_code
def yX11_run : MethodName := ⟨RX11, "run", "(II)I"⟩
abbrev cX11_endLine : ByteArray := prog_1_method_40_code
def yX11_endLine : MethodName := ⟨RX11, "endLine", "()V"⟩
def RX12 : String := "PadConsoleModel"
def TX12 : u_T := fun k => match k with
  | 0 => ("PadConsoleModel", "thrown", "I", false)
  | 1 => ("PadConsoleModel", "tape", "[B", true)
  | 2 => ("PadConsoleModel", "taped", "I", false)
  | 3 => ("PadConsoleModel", "kind", "I", true)
  | 4 => ("PadConsoleModel", "cartridge", "[B", true)
  | 5 => ("PadConsoleModel", "size", "I", false)
  | 6 => ("PadConsoleModel", "banks", "I", false)
  | 7 => ("PadConsoleModel", "paging", "I", false)
  | 8 => ("PadConsoleModel", "header", "I", false)
  | 9 => ("PadConsoleModel", "sum", "I", false)
  | 10 => ("PadConsoleModel", "n", "[I", true)
  | 11 => ("PadConsoleModel", "all", "[J", true)
  | 12 => ("PadConsoleModel", "ram", "[B", true)
  | 13 => ("PadConsoleModel", "battery", "[B", true)
  | 14 => ("PadConsoleModel", "vram", "[B", true)
  | 15 => ("PadConsoleModel", "cram", "[B", true)
  | 16 => ("PadConsoleModel", "dots", "[I", true)
  | 17 => ("PadConsoleModel", "samples", "[J", true)
  | 18 => ("PadConsoleModel", "mixes", "[J", true)
  | 19 => ("PadConsoleModel", "saved", "Z", false)
  | 20 => ("PadConsoleModel", "savedN", "[I", true)
  | 21 => ("PadConsoleModel", "savedAll", "[J", true)
  | 22 => ("PadConsoleModel", "savedRam", "[B", true)
  | 23 => ("PadConsoleModel", "savedBattery", "[B", true)
  | 24 => ("PadConsoleModel", "savedVram", "[B", true)
  | 25 => ("PadConsoleModel", "savedCram", "[B", true)
  | 26 => ("PadConsoleModel", "savedDots", "[I", true)
  | 27 => ("PadConsoleModel", "savedSamples", "[J", true)
  | 28 => ("PadConsoleModel", "savedMixes", "[J", true)
  | 29 => ("PadConsoleModel", "trace", "[I", true)
  | 30 => ("PadConsoleModel", "traced", "J", false)
  | 31 => ("PadConsoleModel", "instead", "I", false)
  | 32 => ("PadConsoleModel", "far", "Z", false)
  | 33 => ("PadConsoleModel", "came", "I", false)
  | 34 => ("PadConsoleModel", "line", "[I", true)
  | 35 => ("PadConsoleModel", "ahead", "[Z", true)
  | 36 => ("PadConsoleModel", "over", "[I", true)
  | 37 => ("PadConsoleModel", "one", "[Z", true)
  | 38 => ("PadConsoleModel", "text", "[I", true)
  | 39 => ("PadConsoleModel", "signs", "I", false)
  | 40 => ("PadConsoleModel", "from", "I", false)
  | 41 => ("PadConsoleModel", "index", "I", false)
  | 42 => ("PadConsoleModel", "placed", "Z", false)
  | _ => ("PadConsoleModel", "distance", "I", false)
def tyX12 : Nat → FieldType := fun k => match k with
  | 0 => .int
  | 1 => .array .byte
  | 2 => .int
  | 3 => .int
  | 4 => .array .byte
  | 5 => .int
  | 6 => .int
  | 7 => .int
  | 8 => .int
  | 9 => .int
  | 10 => .array .int
  | 11 => .array .long
  | 12 => .array .byte
  | 13 => .array .byte
  | 14 => .array .byte
  | 15 => .array .byte
  | 16 => .array .int
  | 17 => .array .long
  | 18 => .array .long
  | 19 => .boolean
  | 20 => .array .int
  | 21 => .array .long
  | 22 => .array .byte
  | 23 => .array .byte
  | 24 => .array .byte
  | 25 => .array .byte
  | 26 => .array .int
  | 27 => .array .long
  | 28 => .array .long
  | 29 => .array .int
  | 30 => .long
  | 31 => .int
  | 32 => .boolean
  | 33 => .int
  | 34 => .array .int
  | 35 => .array .boolean
  | 36 => .array .int
  | 37 => .array .boolean
  | 38 => .array .int
  | 39 => .int
  | 40 => .int
  | 41 => .int
  | 42 => .boolean
  | _ => .int
abbrev wsX120 : List Cond := u_ws RX12 TX12 44
theorem nmX12 : ∀ a, a < 44 → ∀ b, b < 44 → a ≠ b → (TX12 a).2.1 ≠ (TX12 b).2.1 := by decide +kernel
theorem tyX12_ok : ∀ k, k < 44 → parseFieldDescriptor (TX12 k).2.2.1 = some (tyX12 k) := by decide +kernel
abbrev cX12_init : ByteArray := prog_14_method_1_code
def yX12_init : MethodName := ⟨RX12, "<init>", "(I)V"⟩
abbrev cX12_thrown : ByteArray := prog_14_method_2_code
def yX12_thrown : MethodName := ⟨RX12, "thrown", "()I"⟩
abbrev cX12_fails : ByteArray := prog_14_method_3_code
def yX12_fails : MethodName := ⟨RX12, "fails", "(ZI)Z"⟩
abbrev cX12_within : ByteArray := prog_14_method_4_code
def yX12_within : MethodName := ⟨RX12, "within", "(JJJ)Z"⟩
abbrev cX12_feed : ByteArray := prog_14_method_5_code
def yX12_feed : MethodName := ⟨RX12, "feed", "(IJJJ)I"⟩
abbrev cX12_grow : ByteArray := prog_14_method_6_code
def yX12_grow : MethodName := ⟨RX12, "grow", "(I)I"⟩
abbrev cX12_patch : ByteArray := prog_14_method_7_code
def yX12_patch : MethodName := ⟨RX12, "patch", "(IJ)V"⟩
abbrev cX12_bytesAt : ByteArray := prog_14_method_8_code
def yX12_bytesAt : MethodName := ⟨RX12, "bytesAt", "(II)I"⟩
abbrev cX12_load : ByteArray := prog_14_method_9_code
def yX12_load : MethodName := ⟨RX12, "load", "()I"⟩
abbrev cX12_isHeader : ByteArray := prog_14_method_10_code
def yX12_isHeader : MethodName := ⟨RX12, "isHeader", "(I)Z"⟩
abbrev cX12_tens : ByteArray := prog_14_method_11_code
def yX12_tens : MethodName := ⟨RX12, "tens", "(I)I"⟩
abbrev cX12_card : ByteArray := prog_14_method_12_code
def yX12_card : MethodName := ⟨RX12, "card", "(I)I"⟩
abbrev cX12_ofBank : ByteArray := prog_14_method_13_code
def yX12_ofBank : MethodName := ⟨RX12, "ofBank", "(II)I"⟩
abbrev cX12_isBattery : ByteArray := prog_14_method_14_code
def yX12_isBattery : MethodName := ⟨RX12, "isBattery", "(I)Z"⟩
abbrev cX12_batteryAt : ByteArray := prog_14_method_15_code
def yX12_batteryAt : MethodName := ⟨RX12, "batteryAt", "(I)I"⟩
abbrev cX12_read : ByteArray := prog_14_method_16_code
def yX12_read : MethodName := ⟨RX12, "read", "(I)I"⟩
abbrev cX12_write : ByteArray := prog_14_method_17_code
def yX12_write : MethodName := ⟨RX12, "write", "(II)V"⟩
abbrev cX12_word : ByteArray := prog_14_method_18_code
def yX12_word : MethodName := ⟨RX12, "word", "(I)I"⟩
abbrev cX12_wordTo : ByteArray := prog_14_method_19_code
def yX12_wordTo : MethodName := ⟨RX12, "wordTo", "(II)V"⟩
abbrev cX12_anew : ByteArray := prog_14_method_20_code
def yX12_anew : MethodName := ⟨RX12, "anew", "()V"⟩
abbrev cX12_pair : ByteArray := prog_14_method_21_code
def yX12_pair : MethodName := ⟨RX12, "pair", "(I)I"⟩
abbrev cX12_pairTo : ByteArray := prog_14_method_22_code
def yX12_pairTo : MethodName := ⟨RX12, "pairTo", "(II)V"⟩
abbrev cX12_hl : ByteArray := prog_14_method_23_code
def yX12_hl : MethodName := ⟨RX12, "hl", "()I"⟩
abbrev cX12_hlTo : ByteArray := prog_14_method_24_code
def yX12_hlTo : MethodName := ⟨RX12, "hlTo", "(I)V"⟩
abbrev cX12_rp : ByteArray := prog_14_method_25_code
def yX12_rp : MethodName := ⟨RX12, "rp", "(I)I"⟩
abbrev cX12_rpTo : ByteArray := prog_14_method_26_code
def yX12_rpTo : MethodName := ⟨RX12, "rpTo", "(II)V"⟩
abbrev cX12_m : ByteArray := prog_14_method_27_code
def yX12_m : MethodName := ⟨RX12, "m", "()I"⟩
abbrev cX12_r : ByteArray := prog_14_method_28_code
def yX12_r : MethodName := ⟨RX12, "\x72", "(I)I"⟩
abbrev cX12_rTo : ByteArray := prog_14_method_29_code
def yX12_rTo : MethodName := ⟨RX12, "rTo", "(II)V"⟩
abbrev cX12_put : ByteArray := prog_14_method_30_code
def yX12_put : MethodName := ⟨RX12, "put", "(IZ)V"⟩
abbrev cX12_flag : ByteArray := prog_14_method_31_code
def yX12_flag : MethodName := ⟨RX12, "flag", "(I)I"⟩
abbrev cX12_xy : ByteArray := prog_14_method_32_code
def yX12_xy : MethodName := ⟨RX12, "xy", "(I)V"⟩
abbrev cX12_by : ByteArray := prog_14_method_33_code
def yX12_by : MethodName := ⟨RX12, "by", "(I)V"⟩
abbrev cX12_isEven : ByteArray := prog_14_method_34_code
def yX12_isEven : MethodName := ⟨RX12, "isEven", "(I)Z"⟩
abbrev cX12_cc : ByteArray := prog_14_method_35_code
def yX12_cc : MethodName := ⟨RX12, "cc", "(I)Z"⟩
abbrev cX12_push : ByteArray := prog_14_method_36_code
def yX12_push : MethodName := ⟨RX12, "push", "(I)V"⟩
abbrev cX12_pop : ByteArray := prog_14_method_37_code
def yX12_pop : MethodName := ⟨RX12, "pop", "()I"⟩
abbrev cX12_grows : ByteArray := prog_14_method_38_code
def yX12_grows : MethodName := ⟨RX12, "grows", "()V"⟩
abbrev cX12_next : ByteArray := prog_14_method_39_code
def yX12_next : MethodName := ⟨RX12, "next", "()I"⟩
abbrev cX12_fetch : ByteArray := prog_14_method_40_code
def yX12_fetch : MethodName := ⟨RX12, "fetch", "()I"⟩
abbrev cX12_nextWord : ByteArray := prog_14_method_41_code
def yX12_nextWord : MethodName := ⟨RX12, "nextWord", "()I"⟩
abbrev cX12_signed : ByteArray := prog_14_method_42_code
def yX12_signed : MethodName := ⟨RX12, "signed", "(I)I"⟩
abbrev cX12_call : ByteArray := prog_14_method_43_code
def yX12_call : MethodName := ⟨RX12, "call", "(I)V"⟩
abbrev cX12_instruction : ByteArray := prog_14_method_44_code
def yX12_instruction : MethodName := ⟨RX12, "instruction", "()I"⟩
abbrev cX12_plain : ByteArray := prog_14_method_45_code
def yX12_plain : MethodName := ⟨RX12, "plain", "(I)I"⟩
abbrev cX12_jump : ByteArray := prog_14_method_46_code
def yX12_jump : MethodName := ⟨RX12, "jump", "(I)V"⟩
abbrev cX12_change : ByteArray := prog_14_method_47_code
def yX12_change : MethodName := ⟨RX12, "change", "(II)V"⟩
abbrev cX12_zero : ByteArray := prog_14_method_48_code
def yX12_zero : MethodName := ⟨RX12, "zero", "(II)I"⟩
abbrev cX12_moves : ByteArray := prog_14_method_49_code
def yX12_moves : MethodName := ⟨RX12, "moves", "(IZ)I"⟩
abbrev cX12_singles : ByteArray := prog_14_method_50_code
def yX12_singles : MethodName := ⟨RX12, "singles", "(II)I"⟩
abbrev cX12_adjusts : ByteArray := prog_14_method_51_code
def yX12_adjusts : MethodName := ⟨RX12, "adjusts", "()V"⟩
abbrev cX12_turned : ByteArray := prog_14_method_52_code
def yX12_turned : MethodName := ⟨RX12, "turned", "(II)I"⟩
abbrev cX12_does : ByteArray := prog_14_method_53_code
def yX12_does : MethodName := ⟨RX12, "does", "(II)V"⟩
abbrev cX12_three : ByteArray := prog_14_method_54_code
def yX12_three : MethodName := ⟨RX12, "three", "(II)I"⟩
abbrev cX12_more3 : ByteArray := prog_14_method_55_code
def yX12_more3 : MethodName := ⟨RX12, "more3", "(II)I"⟩
abbrev cX12_prefixed : ByteArray := prog_14_method_56_code
def yX12_prefixed : MethodName := ⟨RX12, "prefixed", "(I)I"⟩
abbrev cX12_turns : ByteArray := prog_14_method_57_code
def yX12_turns : MethodName := ⟨RX12, "turns", "()I"⟩
abbrev cX12_turn : ByteArray := prog_14_method_58_code
def yX12_turn : MethodName := ⟨RX12, "turn", "(I)I"⟩
abbrev cX12_more : ByteArray := prog_14_method_59_code
def yX12_more : MethodName := ⟨RX12, "more", "(I)I"⟩
abbrev cX12_words : ByteArray := prog_14_method_60_code
def yX12_words : MethodName := ⟨RX12, "words", "(IZ)V"⟩
abbrev cX12_specials : ByteArray := prog_14_method_61_code
def yX12_specials : MethodName := ⟨RX12, "specials", "(I)I"⟩
abbrev cX12_blocks : ByteArray := prog_14_method_62_code
def yX12_blocks : MethodName := ⟨RX12, "blocks", "(II)I"⟩
abbrev cX12_lineAt : ByteArray := prog_14_method_63_code
def yX12_lineAt : MethodName := ⟨RX12, "lineAt", "(I)I"⟩
abbrev cX12_without : ByteArray := prog_14_method_64_code
def yX12_without : MethodName := ⟨RX12, "without", "(III)I"⟩
abbrev cX12_port : ByteArray := prog_14_method_65_code
def yX12_port : MethodName := ⟨RX12, "port", "(I)I"⟩
abbrev cX12_portTo : ByteArray := prog_14_method_66_code
def yX12_portTo : MethodName := ⟨RX12, "portTo", "(II)V"⟩
abbrev cX12_once : ByteArray := prog_14_method_67_code
def yX12_once : MethodName := ⟨RX12, "once", "()V"⟩
abbrev cX12_answers : ByteArray := prog_14_method_68_code
def yX12_answers : MethodName := ⟨RX12, "answers", "()V"⟩
abbrev cX12_isStop : ByteArray := prog_14_method_69_code
def yX12_isStop : MethodName := ⟨RX12, "isStop", "(I)Z"⟩
abbrev cX12_step : ByteArray := prog_14_method_70_code
def yX12_step : MethodName := ⟨RX12, "step", "(I)I"⟩
abbrev cX12_picture : ByteArray := prog_14_method_71_code
def yX12_picture : MethodName := ⟨RX12, "picture", "(I)I"⟩
abbrev cX12_reg : ByteArray := prog_14_method_72_code
def yX12_reg : MethodName := ⟨RX12, "reg", "(I)I"⟩
abbrev cX12_bit : ByteArray := prog_14_method_73_code
def yX12_bit : MethodName := ⟨RX12, "bit", "(II)I"⟩
abbrev cX12_asks : ByteArray := prog_14_method_74_code
def yX12_asks : MethodName := ⟨RX12, "asks", "()Z"⟩
abbrev cX12_mode : ByteArray := prog_14_method_75_code
def yX12_mode : MethodName := ⟨RX12, "mode", "()I"⟩
abbrev cX12_height : ByteArray := prog_14_method_76_code
def yX12_height : MethodName := ⟨RX12, "height", "()I"⟩
abbrev cX12_video8 : ByteArray := prog_14_method_77_code
def yX12_video8 : MethodName := ⟨RX12, "video8", "(I)I"⟩
abbrev cX12_further : ByteArray := prog_14_method_78_code
def yX12_further : MethodName := ⟨RX12, "further", "()V"⟩
abbrev cX12_control : ByteArray := prog_14_method_79_code
def yX12_control : MethodName := ⟨RX12, "control", "(I)V"⟩
abbrev cX12_status : ByteArray := prog_14_method_80_code
def yX12_status : MethodName := ⟨RX12, "status", "()I"⟩
abbrev cX12_data : ByteArray := prog_14_method_81_code
def yX12_data : MethodName := ⟨RX12, "data", "()I"⟩
abbrev cX12_dataTo : ByteArray := prog_14_method_82_code
def yX12_dataTo : MethodName := ⟨RX12, "dataTo", "(I)V"⟩
abbrev cX12_hCount : ByteArray := prog_14_method_83_code
def yX12_hCount : MethodName := ⟨RX12, "hCount", "()I"⟩
abbrev cX12_vCount : ByteArray := prog_14_method_84_code
def yX12_vCount : MethodName := ⟨RX12, "vCount", "()I"⟩
abbrev cX12_ends : ByteArray := prog_14_method_85_code
def yX12_ends : MethodName := ⟨RX12, "ends", "()V"⟩
abbrev cX12_draws : ByteArray := prog_14_method_86_code
def yX12_draws : MethodName := ⟨RX12, "draws", "(I)V"⟩
abbrev cX12_tileDot : ByteArray := prog_14_method_87_code
def yX12_tileDot : MethodName := ⟨RX12, "tileDot", "(III)I"⟩
abbrev cX12_tile : ByteArray := prog_14_method_88_code
def yX12_tile : MethodName := ⟨RX12, "tile", "(II)V"⟩
abbrev cX12_sprites : ByteArray := prog_14_method_89_code
def yX12_sprites : MethodName := ⟨RX12, "sprites", "(I)V"⟩
abbrev cX12_old : ByteArray := prog_14_method_90_code
def yX12_old : MethodName := ⟨RX12, "old", "(II)I"⟩
abbrev cX12_oldSprites : ByteArray := prog_14_method_91_code
def yX12_oldSprites : MethodName := ⟨RX12, "oldSprites", "(I)V"⟩
abbrev cX12_colour : ByteArray := prog_14_method_92_code
def yX12_colour : MethodName := ⟨RX12, "colour", "(I)I"⟩
abbrev cX12_dot : ByteArray := prog_14_method_93_code
def yX12_dot : MethodName := ⟨RX12, "dot", "(II)I"⟩
abbrev cX12_row : ByteArray := prog_14_method_94_code
def yX12_row : MethodName := ⟨RX12, "row", "(I)I"⟩
abbrev cX12_noise : ByteArray := prog_14_method_95_code
def yX12_noise : MethodName := ⟨RX12, "noise", "(I)V"⟩
abbrev cX12_loudness : ByteArray := prog_14_method_96_code
def yX12_loudness : MethodName := ⟨RX12, "loudness", "(I)I"⟩
abbrev cX12_sample : ByteArray := prog_14_method_97_code
def yX12_sample : MethodName := ⟨RX12, "sample", "()V"⟩
abbrev cX12_hear : ByteArray := prog_14_method_98_code
def yX12_hear : MethodName := ⟨RX12, "hear", "()J"⟩
abbrev cX12_sound : ByteArray := prog_14_method_99_code
def yX12_sound : MethodName := ⟨RX12, "sound", "(I)I"⟩
abbrev cX12_reset : ByteArray := prog_14_method_100_code
def yX12_reset : MethodName := ⟨RX12, "reset", "()V"⟩
abbrev cX12_pause : ByteArray := prog_14_method_101_code
def yX12_pause : MethodName := ⟨RX12, "pause", "()Z"⟩
abbrev cX12_press : ByteArray := prog_14_method_102_code
def yX12_press : MethodName := ⟨RX12, "press", "(II)V"⟩
abbrev cX12_start : ByteArray := prog_14_method_103_code
def yX12_start : MethodName := ⟨RX12, "start", "(Z)V"⟩
abbrev cX12_line : ByteArray := prog_14_method_104_code
def yX12_line : MethodName := ⟨RX12, "line", "(IZ)V"⟩
abbrev cX12_stop : ByteArray := prog_14_method_105_code
def yX12_stop : MethodName := ⟨RX12, "stop", "(IZ)I"⟩
abbrev cX12_save : ByteArray := prog_14_method_106_code
def yX12_save : MethodName := ⟨RX12, "save", "()V"⟩
abbrev cX12_restore : ByteArray := prog_14_method_107_code
def yX12_restore : MethodName := ⟨RX12, "restore", "()V"⟩
abbrev cX12_register : ByteArray := prog_14_method_108_code
def yX12_register : MethodName := ⟨RX12, "register", "(I)I"⟩
abbrev cX12_set : ByteArray := prog_14_method_109_code
def yX12_set : MethodName := ⟨RX12, "set", "(II)V"⟩
abbrev cX12_peek : ByteArray := prog_14_method_110_code
def yX12_peek : MethodName := ⟨RX12, "peek", "(I)I"⟩
abbrev cX12_poke : ByteArray := prog_14_method_111_code
def yX12_poke : MethodName := ⟨RX12, "poke", "(II)V"⟩
abbrev cX12_in : ByteArray := prog_14_method_112_code
def yX12_in : MethodName := ⟨RX12, "in", "(I)I"⟩
abbrev cX12_out : ByteArray := prog_14_method_113_code
def yX12_out : MethodName := ⟨RX12, "out", "(II)V"⟩
abbrev cX12_battery : ByteArray := prog_14_method_114_code
def yX12_battery : MethodName := ⟨RX12, "battery", "(I)I"⟩
abbrev cX12_wipe : ByteArray := prog_14_method_115_code
def yX12_wipe : MethodName := ⟨RX12, "wipe", "()V"⟩
abbrev cX12_video : ByteArray := prog_14_method_116_code
def yX12_video : MethodName := ⟨RX12, "video", "(I)J"⟩
abbrev cX12_chip : ByteArray := prog_14_method_117_code
def yX12_chip : MethodName := ⟨RX12, "chip", "(I)I"⟩
abbrev cX12_trace : ByteArray := prog_14_method_118_code
def yX12_trace : MethodName := ⟨RX12, "trace", "(I)I"⟩
abbrev cX12_look : ByteArray := prog_14_method_119_code
def yX12_look : MethodName := ⟨RX12, "look", "(I)J"⟩
abbrev cX12_wreg : ByteArray := prog_14_method_120_code
def yX12_wreg : MethodName := ⟨RX12, "wreg", "(I)I"⟩
abbrev cX12_isRhythm : ByteArray := prog_14_method_121_code
def yX12_isRhythm : MethodName := ⟨RX12, "isRhythm", "(I)Z"⟩
abbrev cX12_digit : ByteArray := prog_14_method_122_code
def yX12_digit : MethodName := ⟨RX12, "digit", "(I)I"⟩
abbrev cX12_patchByte : ByteArray := prog_14_method_123_code
def yX12_patchByte : MethodName := ⟨RX12, "patchByte", "(II)I"⟩
abbrev cX12_isOn : ByteArray := prog_14_method_124_code
def yX12_isOn : MethodName := ⟨RX12, "isOn", "(II)I"⟩
abbrev cX12_waves : ByteArray := prog_14_method_125_code
def yX12_waves : MethodName := ⟨RX12, "waves", "()V"⟩
abbrev cX12_operator : ByteArray := prog_14_method_126_code
def yX12_operator : MethodName := ⟨RX12, "operator", "(II)V"⟩
abbrev cX12_t : ByteArray := prog_14_method_127_code
def yX12_t : MethodName := ⟨RX12, "t", "(II)I"⟩
abbrev cX12_rate : ByteArray := prog_14_method_128_code
def yX12_rate : MethodName := ⟨RX12, "rate", "(III)I"⟩
abbrev cX12_f : ByteArray := prog_14_method_129_code
def yX12_f : MethodName := ⟨RX12, "f", "(I)I"⟩
abbrev cX12_block : ByteArray := prog_14_method_130_code
def yX12_block : MethodName := ⟨RX12, "block", "(I)I"⟩
abbrev cX12_envelope : ByteArray := prog_14_method_131_code
def yX12_envelope : MethodName := ⟨RX12, "envelope", "(III)V"⟩
abbrev cX12_phase : ByteArray := prog_14_method_132_code
def yX12_phase : MethodName := ⟨RX12, "phase", "(III)V"⟩
abbrev cX12_drum : ByteArray := prog_14_method_133_code
def yX12_drum : MethodName := ⟨RX12, "drum", "(III)I"⟩
abbrev cX12_kept : ByteArray := prog_14_method_134_code
def yX12_kept : MethodName := ⟨RX12, "kept", "(I)I"⟩
abbrev cX12_waveAt : ByteArray := prog_14_method_135_code
def yX12_waveAt : MethodName := ⟨RX12, "waveAt", "(IIII)I"⟩
abbrev cX12_mixed : ByteArray := prog_14_method_136_code
def yX12_mixed : MethodName := ⟨RX12, "mixed", "()V"⟩
abbrev cX12_mix : ByteArray := prog_14_method_137_code
def yX12_mix : MethodName := ⟨RX12, "mix", "()J"⟩
abbrev cX12_wave : ByteArray := prog_14_method_138_code
def yX12_wave : MethodName := ⟨RX12, "wave", "(I)I"⟩
abbrev cX12_plan : ByteArray := prog_14_method_139_code
def yX12_plan : MethodName := ⟨RX12, "plan", "(III)I"⟩
abbrev cX12_planned : ByteArray := prog_14_method_140_code
def yX12_planned : MethodName := ⟨RX12, "planned", "()V"⟩
abbrev cX12_say : ByteArray := prog_14_method_141_code
def yX12_say : MethodName := ⟨RX12, "say", "(Ljava/lang/String;)V"⟩
abbrev cX12_hex : ByteArray := prog_14_method_142_code
def yX12_hex : MethodName := ⟨RX12, "hex", "(II)V"⟩
abbrev cX12_taken : ByteArray := prog_14_method_143_code
def yX12_taken : MethodName := ⟨RX12, "taken", "()I"⟩
abbrev cX12_takenWord : ByteArray := prog_14_method_144_code
def yX12_takenWord : MethodName := ⟨RX12, "takenWord", "()I"⟩
abbrev cX12_sayHl : ByteArray := prog_14_method_145_code
def yX12_sayHl : MethodName := ⟨RX12, "sayHl", "()V"⟩
abbrev cX12_sayPlace : ByteArray := prog_14_method_146_code
def yX12_sayPlace : MethodName := ⟨RX12, "sayPlace", "()V"⟩
abbrev cX12_sayR : ByteArray := prog_14_method_147_code
def yX12_sayR : MethodName := ⟨RX12, "sayR", "(I)V"⟩
abbrev cX12_sayRp : ByteArray := prog_14_method_148_code
def yX12_sayRp : MethodName := ⟨RX12, "sayRp", "(IZ)V"⟩
abbrev cX12_sayCc : ByteArray := prog_14_method_149_code
def yX12_sayCc : MethodName := ⟨RX12, "sayCc", "(I)V"⟩
abbrev cX12_sayPlaced : ByteArray := prog_14_method_150_code
def yX12_sayPlaced : MethodName := ⟨RX12, "sayPlaced", "(I)V"⟩
abbrev cX12_sayJump : ByteArray := prog_14_method_151_code
def yX12_sayJump : MethodName := ⟨RX12, "sayJump", "()V"⟩
abbrev cX12_sayDo : ByteArray := prog_14_method_152_code
def yX12_sayDo : MethodName := ⟨RX12, "sayDo", "(I)V"⟩
abbrev cX12_tell : ByteArray := prog_14_method_153_code
def yX12_tell : MethodName := ⟨RX12, "tell", "(I)I"⟩
abbrev cX12_sayPrefixed : ByteArray := prog_14_method_154_code
def yX12_sayPrefixed : MethodName := ⟨RX12, "sayPrefixed", "(I)V"⟩
abbrev cX12_sayTurn : ByteArray := prog_14_method_155_code
def yX12_sayTurn : MethodName := ⟨RX12, "sayTurn", "(I)V"⟩
abbrev cX12_sayPlain : ByteArray := prog_14_method_156_code
def yX12_sayPlain : MethodName := ⟨RX12, "sayPlain", "(I)V"⟩
abbrev cX12_sayZero : ByteArray := prog_14_method_157_code
def yX12_sayZero : MethodName := ⟨RX12, "sayZero", "(II)V"⟩
abbrev cX12_saySingle : ByteArray := prog_14_method_158_code
def yX12_saySingle : MethodName := ⟨RX12, "saySingle", "(II)V"⟩
abbrev cX12_sayThree : ByteArray := prog_14_method_159_code
def yX12_sayThree : MethodName := ⟨RX12, "sayThree", "(II)V"⟩
abbrev cX12_sayLast : ByteArray := prog_14_method_160_code
def yX12_sayLast : MethodName := ⟨RX12, "sayLast", "(II)V"⟩
abbrev cX12_sayMore : ByteArray := prog_14_method_161_code
def yX12_sayMore : MethodName := ⟨RX12, "sayMore", "(I)V"⟩
abbrev cX12_sayOdd : ByteArray := prog_14_method_162_code
def yX12_sayOdd : MethodName := ⟨RX12, "sayOdd", "(II)V"⟩
abbrev cX12_text : ByteArray := prog_14_method_163_code
def yX12_text : MethodName := ⟨RX12, "text", "(I)J"⟩
def RJ5 : String := "java/lang/AbstractStringBuilder"
def TJ5 : u_T := fun k => match k with
  | _ => ("", "", "", false)
def tyJ5 : Nat → FieldType := fun k => match k with
  | _ => .int
abbrev wsJ50 : List Cond := u_ws RJ5 TJ5 0
theorem nmJ5 : ∀ a, a < 0 → ∀ b, b < 0 → a ≠ b → (TJ5 a).2.1 ≠ (TJ5 b).2.1 := by decide +kernel
theorem tyJ5_ok : ∀ k, k < 0 → parseFieldDescriptor (TJ5 k).2.2.1 = some (tyJ5 k) := by decide +kernel
abbrev cJ5_init_d00df : ByteArray := prog_15_method_2_code
def yJ5_init_d00df : MethodName := ⟨RJ5, "<init>", "(I)V"⟩
abbrev cJ5_length_8abf5 : ByteArray := prog_15_method_6_code
def yJ5_length_8abf5 : MethodName := ⟨RJ5, "length", "()I"⟩
abbrev cJ5_ensureCapacityInternal_d00df : ByteArray := prog_15_method_9_code
def yJ5_ensureCapacityInternal_d00df : MethodName := ⟨RJ5, "ensureCapacityInternal", "(I)V"⟩
abbrev cJ5_newCapacity_0f7a4 : ByteArray := prog_15_method_10_code
def yJ5_newCapacity_0f7a4 : MethodName := ⟨RJ5, "newCapacity", "(I)I"⟩
abbrev cJ5_inflate_da8c8 : ByteArray := prog_15_method_11_code
def yJ5_inflate_da8c8 : MethodName := ⟨RJ5, "inflate", "()V"⟩
abbrev cJ5_append_cf1ce : ByteArray := prog_15_method_22_code
def yJ5_append_cf1ce : MethodName := ⟨RJ5, "append", "(Ljava/lang/String;)Ljava/lang/AbstractStringBuilder;"⟩
abbrev cJ5_appendNull_278bc : ByteArray := prog_15_method_26_code
def yJ5_appendNull_278bc : MethodName := ⟨RJ5, "appendNull", "()Ljava/lang/AbstractStringBuilder;"⟩
abbrev cJ5_append_c97b9 : ByteArray := prog_15_method_32_code
def yJ5_append_c97b9 : MethodName := ⟨RJ5, "append", "(I)Ljava/lang/AbstractStringBuilder;"⟩
abbrev cJ5_getValue_6d5f1 : ByteArray := prog_15_method_64_code
def yJ5_getValue_6d5f1 : MethodName := ⟨RJ5, "getValue", "()[B"⟩
abbrev cJ5_isLatin1_aae02 : ByteArray := prog_15_method_68_code
def yJ5_isLatin1_aae02 : MethodName := ⟨RJ5, "isLatin1", "()Z"⟩
abbrev cJ5_inflateIfNeededFor_a7421 : ByteArray := prog_15_method_71_code
def yJ5_inflateIfNeededFor_a7421 : MethodName := ⟨RJ5, "inflateIfNeededFor", "(Ljava/lang/String;)V"⟩
abbrev cJ5_putStringAt_47b60 : ByteArray := prog_15_method_73_code
def yJ5_putStringAt_47b60 : MethodName := ⟨RJ5, "putStringAt", "(ILjava/lang/String;)V"⟩
def RJx8e188 : String := "java/lang/Cloneable"
def TJx8e188 : u_T := fun k => match k with
  | _ => ("", "", "", false)
def tyJx8e188 : Nat → FieldType := fun k => match k with
  | _ => .int
abbrev wsJx8e1880 : List Cond := u_ws RJx8e188 TJx8e188 0
theorem nmJx8e188 : ∀ a, a < 0 → ∀ b, b < 0 → a ≠ b → (TJx8e188 a).2.1 ≠ (TJx8e188 b).2.1 := by decide +kernel
theorem tyJx8e188_ok : ∀ k, k < 0 → parseFieldDescriptor (TJx8e188 k).2.2.1 = some (tyJx8e188 k) := by decide +kernel
def RJ6 : String := "java/lang/Integer"
def TJ6 : u_T := fun k => match k with
  | _ => ("", "", "", false)
def tyJ6 : Nat → FieldType := fun k => match k with
  | _ => .int
abbrev wsJ60 : List Cond := u_ws RJ6 TJ6 0
theorem nmJ6 : ∀ a, a < 0 → ∀ b, b < 0 → a ≠ b → (TJ6 a).2.1 ≠ (TJ6 b).2.1 := by decide +kernel
theorem tyJ6_ok : ∀ k, k < 0 → parseFieldDescriptor (TJ6 k).2.2.1 = some (tyJ6 k) := by decide +kernel
abbrev cJ6_getChars_ba4f3 : ByteArray := prog_20_method_12_code
def yJ6_getChars_ba4f3 : MethodName := ⟨RJ6, "getChars", "(II[B)I"⟩
abbrev cJ6_stringSize_0f7a4 : ByteArray := prog_20_method_13_code
def yJ6_stringSize_0f7a4 : MethodName := ⟨RJ6, "stringSize", "(I)I"⟩
abbrev cJ6_bitCount_0f7a4 : ByteArray := prog_20_method_49_code
def yJ6_bitCount_0f7a4 : MethodName := ⟨RJ6, "bitCount", "(I)I"⟩
def RJ9 : String := "java/lang/Math"
def TJ9 : u_T := fun k => match k with
  | _ => ("", "", "", false)
def tyJ9 : Nat → FieldType := fun k => match k with
  | _ => .int
abbrev wsJ90 : List Cond := u_ws RJ9 TJ9 0
theorem nmJ9 : ∀ a, a < 0 → ∀ b, b < 0 → a ≠ b → (TJ9 a).2.1 ≠ (TJ9 b).2.1 := by decide +kernel
theorem tyJ9_ok : ∀ k, k < 0 → parseFieldDescriptor (TJ9 k).2.2.1 = some (tyJ9 k) := by decide +kernel
abbrev cJ9_max_7cf53 : ByteArray := prog_21_method_65_code
def yJ9_max_7cf53 : MethodName := ⟨RJ9, "max", "(II)I"⟩
abbrev cJ9_max_f86c9 : ByteArray := prog_21_method_66_code
def yJ9_max_f86c9 : MethodName := ⟨RJ9, "max", "(JJ)J"⟩
abbrev cJ9_min_7cf53 : ByteArray := prog_21_method_69_code
def yJ9_min_7cf53 : MethodName := ⟨RJ9, "min", "(II)I"⟩
def RJ0 : String := "java/lang/String"
def TJ0 : u_T := fun k => match k with
  | 0 => ("java/lang/String", "value", "[B", true)
  | 1 => ("java/lang/String", "coder", "B", true)
  | 2 => ("java/lang/String", "hash", "I", false)
  | _ => ("java/lang/String", "hashIsZero", "Z", false)
def tyJ0 : Nat → FieldType := fun k => match k with
  | 0 => .array .byte
  | 1 => .byte
  | 2 => .int
  | _ => .boolean
abbrev wsJ00 : List Cond := u_ws RJ0 TJ0 4
theorem nmJ0 : ∀ a, a < 4 → ∀ b, b < 4 → a ≠ b → (TJ0 a).2.1 ≠ (TJ0 b).2.1 := by decide +kernel
theorem tyJ0_ok : ∀ k, k < 4 → parseFieldDescriptor (TJ0 k).2.2.1 = some (tyJ0 k) := by decide +kernel
abbrev cJ0_init_81219 : ByteArray := prog_23_method_53_code
def yJ0_init_81219 : MethodName := ⟨RJ0, "<init>", "(Ljava/lang/StringBuilder;)V"⟩
abbrev cJ0_length_8abf5 : ByteArray := prog_23_method_54_code
def yJ0_length_8abf5 : MethodName := ⟨RJ0, "length", "()I"⟩
abbrev cJ0_charAt_5068e : ByteArray := prog_23_method_56_code
def yJ0_charAt_5068e : MethodName := ⟨RJ0, "charAt", "(I)C"⟩
abbrev cJ0_getBytes_840e7 : ByteArray := prog_23_method_147_code
def yJ0_getBytes_840e7 : MethodName := ⟨RJ0, "getBytes", "([BIB)V"⟩
abbrev cJ0_init_db425 : ByteArray := prog_23_method_150_code
def yJ0_init_db425 : MethodName := ⟨RJ0, "<init>", "(Ljava/lang/AbstractStringBuilder;Ljava/lang/Void;)V"⟩
abbrev cJ0_coder_7d493 : ByteArray := prog_23_method_152_code
def yJ0_coder_7d493 : MethodName := ⟨RJ0, "coder", "()B"⟩
abbrev cJ0_isLatin1_aae02 : ByteArray := prog_23_method_154_code
def yJ0_isLatin1_aae02 : MethodName := ⟨RJ0, "isLatin1", "()Z"⟩
abbrev cJ0_checkIndex_df160 : ByteArray := prog_23_method_155_code
def yJ0_checkIndex_df160 : MethodName := ⟨RJ0, "checkIndex", "(II)V"⟩
abbrev cJ0_checkBoundsOffCount_cabcc : ByteArray := prog_23_method_157_code
def yJ0_checkBoundsOffCount_cabcc : MethodName := ⟨RJ0, "checkBoundsOffCount", "(III)I"⟩
abbrev cJ0_checkBoundsBeginEnd_23922 : ByteArray := prog_23_method_158_code
def yJ0_checkBoundsBeginEnd_23922 : MethodName := ⟨RJ0, "checkBoundsBeginEnd", "(III)V"⟩
def RJ4 : String := "java/lang/StringBuilder"
def TJ4 : u_T := fun k => match k with
  | 0 => ("java/lang/AbstractStringBuilder", "value", "[B", false)
  | 1 => ("java/lang/AbstractStringBuilder", "coder", "B", false)
  | 2 => ("java/lang/AbstractStringBuilder", "maybeLatin1", "Z", false)
  | _ => ("java/lang/AbstractStringBuilder", "count", "I", false)
def tyJ4 : Nat → FieldType := fun k => match k with
  | 0 => .array .byte
  | 1 => .byte
  | 2 => .boolean
  | _ => .int
abbrev wsJ40 : List Cond := u_ws RJ4 TJ4 4
theorem nmJ4 : ∀ a, a < 4 → ∀ b, b < 4 → a ≠ b → (TJ4 a).2.1 ≠ (TJ4 b).2.1 := by decide +kernel
theorem tyJ4_ok : ∀ k, k < 4 → parseFieldDescriptor (TJ4 k).2.2.1 = some (tyJ4 k) := by decide +kernel
abbrev cJ4_init_da8c8 : ByteArray := prog_24_method_1_code
def yJ4_init_da8c8 : MethodName := ⟨RJ4, "<init>", "()V"⟩
abbrev cJ4_append_15ec4 : ByteArray := prog_24_method_7_code
def yJ4_append_15ec4 : MethodName := ⟨RJ4, "append", "(Ljava/lang/String;)Ljava/lang/StringBuilder;"⟩
abbrev cJ4_append_bf812 : ByteArray := prog_24_method_15_code
def yJ4_append_bf812 : MethodName := ⟨RJ4, "append", "(I)Ljava/lang/StringBuilder;"⟩
abbrev cJ4_toString_0e30d : ByteArray := prog_24_method_42_code
def yJ4_toString_0e30d : MethodName := ⟨RJ4, "toString", "()Ljava/lang/String;"⟩
abbrev cJ4_length_8abf5 : ByteArray := prog_24_method_93_code
def yJ4_length_8abf5 : MethodName := ⟨RJ4, "length", "()I"⟩
def RJ1 : String := "java/lang/StringLatin1"
def TJ1 : u_T := fun k => match k with
  | _ => ("", "", "", false)
def tyJ1 : Nat → FieldType := fun k => match k with
  | _ => .int
abbrev wsJ10 : List Cond := u_ws RJ1 TJ1 0
theorem nmJ1 : ∀ a, a < 0 → ∀ b, b < 0 → a ≠ b → (TJ1 a).2.1 ≠ (TJ1 b).2.1 := by decide +kernel
theorem tyJ1_ok : ∀ k, k < 0 → parseFieldDescriptor (TJ1 k).2.2.1 = some (tyJ1 k) := by decide +kernel
abbrev cJ1_charAt_3b067 : ByteArray := prog_25_method_2_code
def yJ1_charAt_3b067 : MethodName := ⟨RJ1, "charAt", "([BI)C"⟩
abbrev cJ1_inflate_0e8fd : ByteArray := prog_25_method_50_code
def yJ1_inflate_0e8fd : MethodName := ⟨RJ1, "inflate", "([BI[BII)V"⟩
def RJ2 : String := "java/lang/StringUTF16"
def TJ2 : u_T := fun k => match k with
  | _ => ("", "", "", false)
def tyJ2 : Nat → FieldType := fun k => match k with
  | _ => .int
abbrev wsJ20 : List Cond := u_ws RJ2 TJ2 0
theorem nmJ2 : ∀ a, a < 0 → ∀ b, b < 0 → a ≠ b → (TJ2 a).2.1 ≠ (TJ2 b).2.1 := by decide +kernel
theorem tyJ2_ok : ∀ k, k < 0 → parseFieldDescriptor (TJ2 k).2.2.1 = some (tyJ2 k) := by decide +kernel
abbrev cJ2_newBytesFor_77867 : ByteArray := prog_26_method_2_code
def yJ2_newBytesFor_77867 : MethodName := ⟨RJ2, "newBytesFor", "(I)[B"⟩
abbrev cJ2_newBytesLength_0f7a4 : ByteArray := prog_26_method_3_code
def yJ2_newBytesLength_0f7a4 : MethodName := ⟨RJ2, "newBytesLength", "(I)I"⟩
abbrev cJ2_putChar_b72d1 : ByteArray := prog_26_method_4_code
def yJ2_putChar_b72d1 : MethodName := ⟨RJ2, "putChar", "([BII)V"⟩
abbrev cJ2_getChar_3b067 : ByteArray := prog_26_method_5_code
def yJ2_getChar_3b067 : MethodName := ⟨RJ2, "getChar", "([BI)C"⟩
abbrev cJ2_length_9d52b : ByteArray := prog_26_method_6_code
def yJ2_length_9d52b : MethodName := ⟨RJ2, "length", "([B)I"⟩
abbrev cJ2_coderFromArrayLen_85cad : ByteArray := prog_26_method_15_code
def yJ2_coderFromArrayLen_85cad : MethodName := ⟨RJ2, "coderFromArrayLen", "([BI)B"⟩
abbrev cJ2_compress_39247 : ByteArray := prog_26_method_17_code
def yJ2_compress_39247 : MethodName := ⟨RJ2, "compress", "([BII)[B"⟩
abbrev cJ2_compress_5af95 : ByteArray := prog_26_method_22_code
def yJ2_compress_5af95 : MethodName := ⟨RJ2, "compress", "([BI[BII)I"⟩
abbrev cJ2_getChars_46870 : ByteArray := prog_26_method_77_code
def yJ2_getChars_46870 : MethodName := ⟨RJ2, "getChars", "(III[B)I"⟩
abbrev cJ2_putCharsAt_cd4e5 : ByteArray := prog_26_method_81_code
def yJ2_putCharsAt_cd4e5 : MethodName := ⟨RJ2, "putCharsAt", "([BICCCC)I"⟩
abbrev cJ2_charAt_3b067 : ByteArray := prog_26_method_83_code
def yJ2_charAt_3b067 : MethodName := ⟨RJ2, "charAt", "([BI)C"⟩
abbrev cJ2_inflate_0e8fd : ByteArray := prog_26_method_86_code
def yJ2_inflate_0e8fd : MethodName := ⟨RJ2, "inflate", "([BI[BII)V"⟩
abbrev cJ2_getChars_ba4f3 : ByteArray := prog_26_method_89_code
def yJ2_getChars_ba4f3 : MethodName := ⟨RJ2, "getChars", "(II[B)I"⟩
abbrev cJ2_checkIndex_2214a : ByteArray := prog_26_method_91_code
def yJ2_checkIndex_2214a : MethodName := ⟨RJ2, "checkIndex", "(I[B)V"⟩
abbrev cJ2_checkBoundsBeginEnd_d044e : ByteArray := prog_26_method_93_code
def yJ2_checkBoundsBeginEnd_d044e : MethodName := ⟨RJ2, "checkBoundsBeginEnd", "(II[B)V"⟩
abbrev cJ2_checkBoundsOffCount_d044e : ByteArray := prog_26_method_94_code
def yJ2_checkBoundsOffCount_d044e : MethodName := ⟨RJ2, "checkBoundsOffCount", "(II[B)V"⟩
def RJ10 : String := "java/lang/System"
def TJ10 : u_T := fun k => match k with
  | _ => ("", "", "", false)
def tyJ10 : Nat → FieldType := fun k => match k with
  | _ => .int
abbrev wsJ100 : List Cond := u_ws RJ10 TJ10 0
theorem nmJ10 : ∀ a, a < 0 → ∀ b, b < 0 → a ≠ b → (TJ10 a).2.1 ≠ (TJ10 b).2.1 := by decide +kernel
theorem tyJ10_ok : ∀ k, k < 0 → parseFieldDescriptor (TJ10 k).2.2.1 = some (tyJ10 k) := by decide +kernel
def RJ7 : String := "java/util/Arrays"
def TJ7 : u_T := fun k => match k with
  | _ => ("", "", "", false)
def tyJ7 : Nat → FieldType := fun k => match k with
  | _ => .int
abbrev wsJ70 : List Cond := u_ws RJ7 TJ7 0
theorem nmJ7 : ∀ a, a < 0 → ∀ b, b < 0 → a ≠ b → (TJ7 a).2.1 ≠ (TJ7 b).2.1 := by decide +kernel
theorem tyJ7_ok : ∀ k, k < 0 → parseFieldDescriptor (TJ7 k).2.2.1 = some (tyJ7 k) := by decide +kernel
abbrev cJ7_rangeCheck_23922 : ByteArray := prog_29_method_30_code
def yJ7_rangeCheck_23922 : MethodName := ⟨RJ7, "rangeCheck", "(III)V"⟩
abbrev cJ7_fill_53178 : ByteArray := prog_29_method_103_code
def yJ7_fill_53178 : MethodName := ⟨RJ7, "fill", "([II)V"⟩
abbrev cJ7_fill_fda19 : ByteArray := prog_29_method_104_code
def yJ7_fill_fda19 : MethodName := ⟨RJ7, "fill", "([IIII)V"⟩
abbrev cJ7_copyOf_9075b : ByteArray := prog_29_method_121_code
def yJ7_copyOf_9075b : MethodName := ⟨RJ7, "copyOf", "([BI)[B"⟩
abbrev cJ7_checkLength_df160 : ByteArray := prog_29_method_131_code
def yJ7_checkLength_df160 : MethodName := ⟨RJ7, "checkLength", "(II)V"⟩
abbrev cJ7_copyOfRange_39247 : ByteArray := prog_29_method_132_code
def yJ7_copyOfRange_39247 : MethodName := ⟨RJ7, "copyOfRange", "([BII)[B"⟩
abbrev cJ7_copyOfRangeByte_39247 : ByteArray := prog_29_method_133_code
def yJ7_copyOfRangeByte_39247 : MethodName := ⟨RJ7, "copyOfRangeByte", "([BII)[B"⟩
def RJ8 : String := "jdk/internal/util/ArraysSupport"
def TJ8 : u_T := fun k => match k with
  | _ => ("", "", "", false)
def tyJ8 : Nat → FieldType := fun k => match k with
  | _ => .int
abbrev wsJ80 : List Cond := u_ws RJ8 TJ8 0
theorem nmJ8 : ∀ a, a < 0 → ∀ b, b < 0 → a ≠ b → (TJ8 a).2.1 ≠ (TJ8 b).2.1 := by decide +kernel
theorem tyJ8_ok : ∀ k, k < 0 → parseFieldDescriptor (TJ8 k).2.2.1 = some (tyJ8 k) := by decide +kernel
abbrev cJ8_newLength_cabcc : ByteArray := prog_31_method_27_code
def yJ8_newLength_cabcc : MethodName := ⟨RJ8, "newLength", "(III)I"⟩
abbrev cJ8_hugeLength_7cf53 : ByteArray := prog_31_method_28_code
def yJ8_hugeLength_7cf53 : MethodName := ⟨RJ8, "hugeLength", "(II)I"⟩
def RJ3 : String := "jdk/internal/util/Preconditions"
def TJ3 : u_T := fun k => match k with
  | _ => ("", "", "", false)
def tyJ3 : Nat → FieldType := fun k => match k with
  | _ => .int
abbrev wsJ30 : List Cond := u_ws RJ3 TJ3 0
theorem nmJ3 : ∀ a, a < 0 → ∀ b, b < 0 → a ≠ b → (TJ3 a).2.1 ≠ (TJ3 b).2.1 := by decide +kernel
theorem tyJ3_ok : ∀ k, k < 0 → parseFieldDescriptor (TJ3 k).2.2.1 = some (tyJ3 k) := by decide +kernel
abbrev cJ3_checkIndex_8e157 : ByteArray := prog_32_method_11_code
def yJ3_checkIndex_8e157 : MethodName := ⟨RJ3, "checkIndex", "(IILjava/util/function/BiFunction;)I"⟩
abbrev cJ3_checkFromToIndex_8c36e : ByteArray := prog_32_method_12_code
def yJ3_checkFromToIndex_8c36e : MethodName := ⟨RJ3, "checkFromToIndex", "(IIILjava/util/function/BiFunction;)I"⟩
abbrev cJ3_checkFromIndexSize_8c36e : ByteArray := prog_32_method_13_code
def yJ3_checkFromIndexSize_8c36e : MethodName := ⟨RJ3, "checkFromIndexSize", "(IIILjava/util/function/BiFunction;)I"⟩
def RL : String := "PadConsoleLaw"
abbrev cL_cell : ByteArray := method_2_code
def yL_cell : MethodName := ⟨RL, "cell", "([II)I"⟩
abbrev cL_feed : ByteArray := method_3_code
def yL_feed : MethodName := ⟨RL, "feed", "(LPadConsole;IJJJ[J)I"⟩
abbrev cL_grow : ByteArray := method_4_code
def yL_grow : MethodName := ⟨RL, "grow", "(LPadConsole;I[J)I"⟩
abbrev cL_patch : ByteArray := method_5_code
def yL_patch : MethodName := ⟨RL, "patch", "(LPadConsole;IJ)I"⟩
abbrev cL_card : ByteArray := method_6_code
def yL_card : MethodName := ⟨RL, "card", "(LPadConsole;I[J)I"⟩
abbrev cL_step : ByteArray := method_7_code
def yL_step : MethodName := ⟨RL, "step", "(LPadConsole;I[J)I"⟩
abbrev cL_picture : ByteArray := method_8_code
def yL_picture : MethodName := ⟨RL, "picture", "(LPadConsole;I[J)I"⟩
abbrev cL_press : ByteArray := method_9_code
def yL_press : MethodName := ⟨RL, "press", "(LPadConsole;II)I"⟩
abbrev cL_line : ByteArray := method_10_code
def yL_line : MethodName := ⟨RL, "line", "(LPadConsole;IZ)I"⟩
abbrev cL_plan : ByteArray := method_11_code
def yL_plan : MethodName := ⟨RL, "plan", "(LPadConsole;III[J)I"⟩
abbrev cL_text : ByteArray := method_12_code
def yL_text : MethodName := ⟨RL, "text", "(LPadConsole;I[J)I"⟩
abbrev cL_stop : ByteArray := method_13_code
def yL_stop : MethodName := ⟨RL, "stop", "(LPadConsole;IZ[J)I"⟩
abbrev cL_restore : ByteArray := method_14_code
def yL_restore : MethodName := ⟨RL, "restore", "(LPadConsole;)I"⟩
abbrev cL_register : ByteArray := method_15_code
def yL_register : MethodName := ⟨RL, "register", "(LPadConsole;I[J)I"⟩
abbrev cL_set : ByteArray := method_16_code
def yL_set : MethodName := ⟨RL, "set", "(LPadConsole;II)I"⟩
abbrev cL_battery : ByteArray := method_17_code
def yL_battery : MethodName := ⟨RL, "battery", "(LPadConsole;I[J)I"⟩
abbrev cL_chip : ByteArray := method_18_code
def yL_chip : MethodName := ⟨RL, "chip", "(LPadConsole;I[J)I"⟩
abbrev cL_dot : ByteArray := method_19_code
def yL_dot : MethodName := ⟨RL, "dot", "(LPadConsole;II[J)I"⟩
abbrev cL_row : ByteArray := method_20_code
def yL_row : MethodName := ⟨RL, "row", "(LPadConsole;I[J)I"⟩
abbrev cL_hear : ByteArray := method_21_code
def yL_hear : MethodName := ⟨RL, "hear", "(LPadConsole;[J)I"⟩
abbrev cL_mix : ByteArray := method_22_code
def yL_mix : MethodName := ⟨RL, "mix", "(LPadConsole;[J)I"⟩
abbrev cL_wave : ByteArray := method_23_code
def yL_wave : MethodName := ⟨RL, "wave", "(LPadConsole;I[J)I"⟩
abbrev cL_sound : ByteArray := method_24_code
def yL_sound : MethodName := ⟨RL, "sound", "(LPadConsole;I[J)I"⟩
abbrev cL_look : ByteArray := method_25_code
def yL_look : MethodName := ⟨RL, "look", "(LPadConsole;I[J)I"⟩
abbrev cL_law : ByteArray := code
def yL_law : MethodName := ⟨RL, "law", "([I)Z"⟩
abbrev vwCl : List vw_C := [(RJ0, TJ0, 4), (RJ4, TJ4, 4), (RX0, TX0, 6), (RX1, TX1, 6), (RX2, TX2, 14), (RX3, TX3, 9), (RX4, TX4, 6), (RX5, TX5, 6), (RX6, TX6, 6), (RX7, TX7, 2), (RX8, TX8, 11), (RX9, TX9, 6), (RX10, TX10, 8), (RX11, TX11, 12), (RX12, TX12, 44)]
end ZJN2
section ZJN3
/-! ===== BEGIN exceptions that leave a method, and their catching by the caller (launches without stack traces) ===== -/
section VXA
/-! The laws vx_back, vx_callV, vx_callS, vx_callSW, vx_throw0, vx_throwS follow proofs of the library, with one case more: JvmDerived/Free/Laws.lean (Back.of_free), Shelf42/LK1.lean (callV, callS), Shelf/KitTraced.lean (throwNew0V, throwNewS). -/

/-- where a method has thrown q: the class by its name, the cell, what was written, the world -/
def vx_T (XC : String → State → State → Prop) (st : State) (q : Addr) (t : State) (mc ms : Nat) (free : Addr → Prop) : Prop :=
  ∃ (E : String) (ce : Cell) (L : List Loc), XC E st t ∧ t.heap[q]? = some ce ∧ ce.vm = .none ∧ st.vm.findClass E = some ce.cls ∧ st.WarmedH t.vm ∧ st.sameButNew ({ t with vm := st.vm } : State) L mc ms ∧ ∀ z ∈ L, free z.base
def vx_Q (Qc : Array Value → State → Outcome → State → Prop) (XC : String → State → State → Prop) (mc ms : Nat) (free : Addr → Prop) : Array Value → State → Outcome → State → Prop := fun a st o t =>
  (Qc a st o t ∧ ∃ L, FrameEnd st o t L mc ms ∧ ∀ q ∈ L, free q.base) ∨ ∃ q, o = .threw q ∧ vx_T XC st q t mc ms free
/-- a callee that returns or throws -/
def vx_Met (l : Launch) (y : MethodName) (ws : List Cond) (rm : Room) (Pc : Array Value → State → Prop) (Qc : Array Value → State → Outcome → State → Prop) (XC : String → State → State → Prop) (mc ms : Nat) (free : Addr → Prop) : Prop :=
  MetFree l y (headSpec ws rm) Pc (fun _ _ _ _ _ => True) (vx_Q Qc XC mc ms free)
def vx_Post (XC : String → State → State → Prop) (mc ms : Nat) (free : Addr → Prop) : Pt → Array Value → Addr → Pt → Prop := fun A a q B =>
  ∃ (g : JFrame) (mk : MethodId) (t : State) (L : List Loc) (E : String) (ce : Cell), B.U.heap = t.heap ∧ B.U.vm = t.vm ∧ XC E (A.U.calling g mk a) t ∧ t.heap[q]? = some ce ∧ ce.vm = .none ∧ A.U.vm.findClass E = some ce.cls ∧ B.locs = A.locs ++ L ∧ (∀ z ∈ L, free z.base) ∧ B.cells = A.cells + mc ∧ B.slots = A.slots + ms
def vx_Back (l : Launch) (R : Room) (p : Program) (e : Env) (below : List Frame) (s : State) (sargs : Array Value) (y : MethodName) (len W9 : Nat)
    (Pre : Pt → Array Value → Prop) (Post : Pt → Array Value → Option Value → Pt → Prop) (PostX : Pt → Array Value → Addr → Pt → Prop) : Prop :=
  ∀ (m : MethodId) (meth : Method) (c : Code) (A : Pt) (g : JFrame) (ig : Instr) (mk : MethodId) (a : Array Value),
    Stand p l e R s m sargs below meth c A.U A.locs A.cells A.slots → g.method = m → g.locals.size = c.maxLocals → decode c.code g.pc = .ok (ig, len) →
    2 * g.monitorRoom + (g.stack.map fun v => v.category).sum ≤ W9 → A.U.methodNamed? y = some mk → Pre A a →
    (∃ (v : Option Value) (B : Pt), Stand p l e R s m sargs below meth c B.U B.locs B.cells B.slots ∧ Post A a v B ∧
      Steps p.tables e below (doInvoke e (A.U.setTop g) [] mk a).1 (B.U.setTop { g with pc := g.pc + len, stack := v.toList ++ g.stack })) ∨
    (∃ (q : Addr) (B : Pt), Stand p l e R s m sargs below meth c B.U B.locs B.cells B.slots ∧ PostX A a q B ∧
      Steps p.tables e below (doInvoke e (A.U.setTop g) [] mk a).1 ((B.U.setTop g).pushFrame (.throwing q)))
section Payer
variable {l : Launch} {R : Room} {p : Program} {e : Env} {below : List Frame} {s : State} {sargs : Array Value} {y : MethodName} {len W9 : Nat}
theorem vx_back {ws : List Cond} {rm : Room} {Pc : Array Value → State → Prop} {Qc : Array Value → State → Outcome → State → Prop} {XC : String → State → State → Prop} {mc ms : Nat} {free : Addr → Prop} {bytes : ByteArray} {maxL : Nat} {ret : Option FieldType}
    (hM : vx_Met l y ws rm Pc Qc XC mc ms free) (hblind : FrameBlind Pc) (hrc : rm.cells = mc) (hrs : rm.slots = ms)
    (hframes : rm.frames + 1 ≤ R.frames) (hlocals : W9 + (maxL + 11) + rm.locals ≤ R.locals)
    (hws : ∀ w ∈ ws, ∀ a' U, s.WarmedH U.vm → w.before a' U = true) (hcode : Cond.code y bytes maxL ret ∈ ws) (hinit : ∀ a' U, s.WarmedH U.vm → (Cond.initialized y.cls).before a' U = true) :
    vx_Back l R p e below s sargs y len W9 (PreOf R mc ms Pc) (PostOf Qc mc ms free) (vx_Post XC mc ms free) := by
  intro m meth c A g ig mk a X hg hsize hdg hW hn hp
  have h1 : (headSpec ws rm).pre.before a A.U = true := atoms_intro fun w hw => hws w hw _ _ X.warmed
  have h2 : (Cond.code y bytes maxL ret).before a A.U = true := hws _ hcode _ _ X.warmed
  have h3 : (Cond.initialized y.cls).before a A.U = true := hinit _ _ X.warmed
  have h4 : A.cells + (headSpec ws rm).room.cells ≤ R.cells := by rw [show (headSpec ws rm).room.cells = mc from hrc]; exact hp.1
  have h5 : A.slots + (headSpec ws rm).room.slots ≤ R.slots := by rw [show (headSpec ws rm).room.slots = ms from hrs]; exact hp.2.1
  have hPc : Pc a (A.U.calling g mk a) := hblind _ _ _ _ hp.2.2
  obtain ⟨U, Ls, c0, s0⟩ := A
  dsimp only [Pt.U, Pt.locs, Pt.cells, Pt.slots] at h1 h2 h3 h4 h5 X hn hPc ⊢
  obtain ⟨methY, cY, hmY, hcY, -, hlY, -, -, -, -⟩ := Cond.code_spec hn h2
  obtain ⟨kY, hkY, -⟩ := className_of_methodNamed hn
  have hinitY : kY.init = .initialized := Cond.initialized_spec (findClass_of_methodNamed hn) hkY h3
  have h : At U g.method c below := by rw [hg]; exact X.here
  have hlocals9 : W9 + (maxL + 11) + (headSpec ws rm).room.locals ≤ R.locals := hlocals
  have happ : (headSpec ws rm).appliesLoose y e.platform (U.calling g mk a) = true :=
    Spec.appliesLoose_calling (g := g) h hdg hn hkY hinitY
      (X.room_calling (g := g) (R' := (headSpec ws rm).room) hsize hmY hcY hframes (by rw [hlY]; omega) h4 h5) h1
  obtain ⟨mid, hmid⟩ := h.above
  have hfr : (U.setTop g).frames = (.java g :: mid) ++ below := by rw [State.frames_setTop' g h.top, hmid]; rfl
  obtain ⟨o, s₂, hsteps, -, hend, hq⟩ := Steps.callFree hM p X.admits X.cas X.clock (acts := []) hfr happ hPc trivial
  have hq' : vx_Q Qc XC mc ms free a (U.calling g mk a) o s₂ := hq
  rw [State.frames_setTop' g h.top] at hend
  obtain ⟨g₀, hg0⟩ := Option.isSome_iff_exists.mp h.top
  obtain ⟨r, hr⟩ := State.topJava?_eq_some.mp hg0
  have hr' : (({ U with heap := s₂.heap, slotsUsed := s₂.slotsUsed } : State).setVm s₂.vm).frames = .java g₀ :: r := hr
  rcases hq' with ⟨hqc, L, hfe, hL⟩ | ⟨q, rfl, E, ce, L, hx, hce, hcv, hcl, hW₂, hsm, hL⟩
  · obtain ⟨⟨v, rfl⟩, hW₂, e2, q2, q3, q4, q5, q6⟩ := id hfe
    have e3 : s₂ = ({ (U.calling g mk a).setFrames s₂.frames with heap := s₂.heap, slotsUsed := s₂.slotsUsed } : State).setVm s₂.vm := by
      have : s₂ = ({ s₂ with vm := (U.calling g mk a).vm } : State).setVm s₂.vm := rfl
      rw [e2] at this
      exact this
    obtain ⟨c₂, i₂, len₂, hc₂, hd₂, hf₂⟩ := hend
    have hW' : U.WarmedH s₂.vm := hW₂
    have hcc : c₂ = c := by
      have h1 : s₂.code? g.method = U.code? g.method := by
        rw [State.code?_eq, State.code?_eq, hW'.alike.method?]
      exact Option.some.inj (hc₂.symm.trans (h1.trans h.code))
    subst hcc
    have hlen : len₂ = len := by rw [hdg] at hd₂; cases hd₂; rfl
    subst hlen
    have hs₂ : s₂ = (({ U with heap := s₂.heap, slotsUsed := s₂.slotsUsed } : State).setVm s₂.vm).setTop { g with pc := g.pc + len₂, stack := v.toList ++ g.stack } := by
      refine e3.trans ?_
      rw [hf₂, State.calling_eq h.top, State.setFrames_setFrames, State.setTop_of_frames _ hr', hr]
      rfl
    have hsame : U.sameButNew ({ U with heap := s₂.heap, slotsUsed := s₂.slotsUsed } : State) L mc ms := by
      refine ⟨?_, q2, q3, q4, q5, q6⟩
      obtain ⟨t, ht, -⟩ := State.frames_cons hr
      show ({ U with heap := s₂.heap, slotsUsed := s₂.slotsUsed } : State) = { U.setFrames U.frames with heap := s₂.heap, slotsUsed := s₂.slotsUsed }
      rw [State.setFrames_self ht]
    subst hg
    refine Or.inl ⟨v, ⟨(({ U with heap := s₂.heap, slotsUsed := s₂.slotsUsed } : State).setVm s₂.vm), Ls ++ L, c0 + mc, s0 + ms⟩,
      ⟨X.admits, X.cas, X.clock, X.frames, X.room, X.hears, X.method, X.code, (X.here.setHeapUsed s₂.heap s₂.slotsUsed).setVm hW'.alike, X.tail, State.WarmedH.trans X.warmed hW', X.limits, X.bytes, X.same.trans (hsame.setVm s.vm)⟩,
      ⟨g, mk, s₂, L, rfl, rfl, hqc, rfl, hL, rfl, rfl⟩, ?_⟩
    show Steps p.tables e below _ ((({ U with heap := s₂.heap, slotsUsed := s₂.slotsUsed } : State).setVm s₂.vm).setTop { g with pc := g.pc + len₂, stack := v.toList ++ g.stack })
    rw [← hs₂]
    exact hsteps
  · obtain ⟨e2, q2, q3, q4, q5, q6⟩ := id hsm
    have e3 : s₂ = ({ (U.calling g mk a).setFrames s₂.frames with heap := s₂.heap, slotsUsed := s₂.slotsUsed } : State).setVm s₂.vm := by
      have : s₂ = ({ s₂ with vm := (U.calling g mk a).vm } : State).setVm s₂.vm := rfl
      rw [e2] at this
      exact this
    have hf₂ : s₂.frames = .throwing q :: .java g :: U.frames.tail := hend
    have hW' : U.WarmedH s₂.vm := hW₂
    have hs₂ : s₂ = ((({ U with heap := s₂.heap, slotsUsed := s₂.slotsUsed } : State).setVm s₂.vm).setTop g).pushFrame (.throwing q) := by
      refine e3.trans ?_
      rw [hf₂, State.calling_eq h.top, State.setFrames_setFrames, State.pushFrame, State.frames_setTop _ hr', State.setTop_of_frames _ hr', State.setFrames_setFrames, hr]
      rfl
    have hsame : U.sameButNew ({ U with heap := s₂.heap, slotsUsed := s₂.slotsUsed } : State) L mc ms := by
      refine ⟨?_, q2, q3, q4, q5, q6⟩
      obtain ⟨t, ht, -⟩ := State.frames_cons hr
      show ({ U with heap := s₂.heap, slotsUsed := s₂.slotsUsed } : State) = { U.setFrames U.frames with heap := s₂.heap, slotsUsed := s₂.slotsUsed }
      rw [State.setFrames_self ht]
    subst hg
    refine Or.inr ⟨q, ⟨(({ U with heap := s₂.heap, slotsUsed := s₂.slotsUsed } : State).setVm s₂.vm), Ls ++ L, c0 + mc, s0 + ms⟩,
      ⟨X.admits, X.cas, X.clock, X.frames, X.room, X.hears, X.method, X.code, (X.here.setHeapUsed s₂.heap s₂.slotsUsed).setVm hW'.alike, X.tail, State.WarmedH.trans X.warmed hW', X.limits, X.bytes, X.same.trans (hsame.setVm s.vm)⟩,
      ⟨g, mk, s₂, L, E, ce, rfl, rfl, hx, hce, hcv, hcl, rfl, hL, rfl, rfl⟩, ?_⟩
    show Steps p.tables e below _ (((({ U with heap := s₂.heap, slotsUsed := s₂.slotsUsed } : State).setVm s₂.vm).setTop g).pushFrame (.throwing q))
    rw [← hs₂]
    exact hsteps
end Payer
section Calls
variable {p : Program} {l : Launch} {e : Env} {R : Room} {s : State} {m : MethodId} {args : Array Value} {below : List Frame} {meth : Method} {c : Code} {T : State} {locs : List Loc} {cells slots : Nat}
theorem vx_callV (X : Stand p l e R s m args below meth c T locs cells slots) (hexec : p.tables.exec = Jvm.exec) {own C : String} {index : Nat} {y : MethodName} {bytes : ByteArray} {maxL : Nat} {ret : Option FieldType}
    (hown : s.vm.findClass own = some m.cls) (hlink : (Cond.methodLink own index y).before args s = true) (hinst : (Cond.instanceMethod y).before args s = true) (hsel : (Cond.selects C y y).before args s = true)
    (hcode : (Cond.code y bytes maxL ret).before args s = true) (hy : y.cls ≠ "java/lang/invoke/MethodHandle" ∧ y.cls ≠ "java/lang/invoke/VarHandle")
    {W9 : Nat} {Pre : Pt → Array Value → Prop} {Post : Pt → Array Value → Option Value → Pt → Prop} {PostX : Pt → Array Value → Addr → Pt → Prop} (hK : vx_Back l R p e below s args y 3 W9 Pre Post PostX)
    {b : Addr} {cellB : Cell} (hcell : T.heap[b]? = some cellB) (hobj : cellB.vm.isStatics = false) (hcls : s.vm.findClass C = some cellB.cls)
    {g : JFrame} (hg : g.method = m) (hsize : g.locals.size = c.maxLocals) {argsL rest : List Value} (hlen : ∀ sig, parseMethodDescriptor y.desc = some sig → argsL.length = sig.parameters.length)
    (hstack : g.stack = argsL.reverse ++ .ref b :: rest) (hW : 2 * g.monitorRoom + (rest.map fun v => v.category).sum ≤ W9) (hdg : decode c.code g.pc = .ok (.invokevirtual index, 3))
    (hpre : ∀ vm₁, s.WarmedH vm₁ → Pre ⟨T.setVm vm₁, locs, cells, slots⟩ (Value.ref b :: argsL).toArray) :
    (∃ (v : Option Value) (vm₁ : Vm) (B : Pt), s.WarmedH vm₁ ∧ Stand p l e R s m args below meth c B.U B.locs B.cells B.slots ∧ Post ⟨T.setVm vm₁, locs, cells, slots⟩ (Value.ref b :: argsL).toArray v B ∧
      ∀ target, Steps p.tables e below (B.U.setTop { g with pc := g.pc + 3, stack := v.toList ++ rest }) target → Steps p.tables e below (T.setTop g) target) ∨
    (∃ (q : Addr) (vm₁ : Vm) (B : Pt), s.WarmedH vm₁ ∧ Stand p l e R s m args below meth c B.U B.locs B.cells B.slots ∧ PostX ⟨T.setVm vm₁, locs, cells, slots⟩ (Value.ref b :: argsL).toArray q B ∧
      Steps p.tables e below (T.setTop g) ((B.U.setTop { g with stack := rest }).pushFrame (.throwing q))) := by
  obtain ⟨mk, methM, hnamed, hmethM, hstM, habM⟩ := Cond.instanceMethod_spec hinst
  obtain ⟨methM', cM, hmethM', -, -, -, -, -, -, hsigM⟩ := Cond.code_spec hnamed hcode
  cases hmethM.symm.trans hmethM'
  obtain ⟨c2, r2, m2, q1, q2, q3, q4, kP, hkP, hkPi⟩ := Cond.selects_spec hsel
  cases hcls.symm.trans q1
  cases (State.methodFound?_of_named hnamed hy).symm.trans q2
  cases hnamed.symm.trans q3
  have hselP : selectMethod e.platform s.vm cellB.cls mk = .method mk := by rw [Launch.admits_selectMethod X.admits]; exact q4
  obtain ⟨vm₁, X₁, hstep₁⟩ := X.invokevirtual hexec hown hlink hnamed hmethM hstM hkP hkPi hy (a := b) (cell := cellB) hcell
    (fun z h => by rw [h] at hobj; cases hobj) hselP hmethM habM hkP hkPi (g := g) hg (argsL := argsL) (rest := rest) (hlen _ hsigM) hstack hdg
  rcases hK m meth c ⟨T.setVm vm₁, locs, cells, slots⟩ { g with stack := rest } (.invokevirtual index) mk (Value.ref b :: argsL).toArray X₁ hg hsize hdg hW (X₁.named hnamed) (hpre vm₁ X₁.warmed) with ⟨v, B, X', hpost, hsteps⟩ | ⟨q, B, X', hpost, hsteps⟩
  · exact Or.inl ⟨v, vm₁, B, X₁.warmed, X', hpost, fun target h => hstep₁ _ fun acts => by rw [doInvoke_state]; exact hsteps.trans h⟩
  · exact Or.inr ⟨q, vm₁, B, X₁.warmed, X', hpost, hstep₁ _ fun acts => by rw [doInvoke_state]; exact hsteps⟩
theorem vx_callS (X : Stand p l e R s m args below meth c T locs cells slots) (hexec : p.tables.exec = Jvm.exec) {own : String} {index : Nat} {y : MethodName} {bytes : ByteArray} {maxL : Nat} {ret : Option FieldType}
    (hown : s.vm.findClass own = some m.cls) (hlink : (Cond.methodLink own index y).before args s = true) (hstat : (Cond.static y).before args s = true) (hinit : (Cond.initialized y.cls).before args s = true)
    (hcode : (Cond.code y bytes maxL ret).before args s = true) (hy : y.cls ≠ "java/lang/invoke/MethodHandle" ∧ y.cls ≠ "java/lang/invoke/VarHandle")
    {W9 : Nat} {Pre : Pt → Array Value → Prop} {Post : Pt → Array Value → Option Value → Pt → Prop} {PostX : Pt → Array Value → Addr → Pt → Prop} (hK : vx_Back l R p e below s args y 3 W9 Pre Post PostX)
    {g : JFrame} (hg : g.method = m) (hsize : g.locals.size = c.maxLocals) {argsL rest : List Value} (hlen : ∀ sig, parseMethodDescriptor y.desc = some sig → argsL.length = sig.parameters.length)
    (hstack : g.stack = argsL.reverse ++ rest) (hW : 2 * g.monitorRoom + (rest.map fun v => v.category).sum ≤ W9) (hdg : decode c.code g.pc = .ok (.invokestatic index, 3))
    (hpre : ∀ vm₁, s.WarmedH vm₁ → Pre ⟨T.setVm vm₁, locs, cells, slots⟩ argsL.toArray) :
    (∃ (v : Option Value) (vm₁ : Vm) (B : Pt), s.WarmedH vm₁ ∧ Stand p l e R s m args below meth c B.U B.locs B.cells B.slots ∧ Post ⟨T.setVm vm₁, locs, cells, slots⟩ argsL.toArray v B ∧
      ∀ target, Steps p.tables e below (B.U.setTop { g with pc := g.pc + 3, stack := v.toList ++ rest }) target → Steps p.tables e below (T.setTop g) target) ∨
    (∃ (q : Addr) (vm₁ : Vm) (B : Pt), s.WarmedH vm₁ ∧ Stand p l e R s m args below meth c B.U B.locs B.cells B.slots ∧ PostX ⟨T.setVm vm₁, locs, cells, slots⟩ argsL.toArray q B ∧
      Steps p.tables e below (T.setTop g) ((B.U.setTop { g with stack := rest }).pushFrame (.throwing q))) := by
  obtain ⟨mk, hnamed⟩ := Cond.code_named hcode
  obtain ⟨methM, cM, hmethM, -, -, -, -, -, -, hsigM⟩ := Cond.code_spec hnamed hcode
  have hstatic : methM.isStatic = true := Cond.static_spec hnamed hmethM hstat
  obtain ⟨kP, hkP, -⟩ := className_of_methodNamed hnamed
  have hinitP : kP.init = .initialized := Cond.initialized_spec (findClass_of_methodNamed hnamed) hkP hinit
  obtain ⟨vm₁, X₁, hstep₁⟩ := X.invokestatic hexec hown hlink hnamed hmethM hstatic hkP hinitP hy (g := g) hg (argsL := argsL) (rest := rest) (hlen _ hsigM) hstack hdg
  rcases hK m meth c ⟨T.setVm vm₁, locs, cells, slots⟩ { g with stack := rest } (.invokestatic index) mk argsL.toArray X₁ hg hsize hdg hW (X₁.named hnamed) (hpre vm₁ X₁.warmed) with ⟨v, B, X', hpost, hsteps⟩ | ⟨q, B, X', hpost, hsteps⟩
  · exact Or.inl ⟨v, vm₁, B, X₁.warmed, X', hpost, fun target h => hstep₁ _ fun acts => by rw [doInvoke_state]; exact hsteps.trans h⟩
  · exact Or.inr ⟨q, vm₁, B, X₁.warmed, X', hpost, hstep₁ _ fun acts => by rw [doInvoke_state]; exact hsteps⟩
end Calls
theorem vx_cls {s : State} {T : State} {vm₁ : Vm} {E : String} {k : ClassId} (hW : s.WarmedH vm₁) (h : (T.setVm vm₁).vm.findClass E = some k) : s.vm.findClass E = some k := by
  have h1 : vm₁.findClass E = some k := h
  rw [hW.alike.findClass] at h1
  exact h1
/-- the method's frame g, with q thrown over it -/
def vx_W (p : Program) (l : Launch) (e : Env) (R : Room) (s : State) (m : MethodId) (args : Array Value) (below : List Frame) (meth : Method) (c : Code) (H : Heap) (locs : List Loc) (cells slots : Nat) (Q : State → Prop) (g : JFrame) (q : Addr) : Prop :=
  ∀ T : State, T.heap = H → Stand p l e R s m args below meth c T locs cells slots → ∃ t, Steps p.tables e below ((T.setTop g).pushFrame (.throwing q)) t ∧ Q t
def vx_Run (p : Program) (l : Launch) (e : Env) (R : Room) (s : State) (m : MethodId) (args : Array Value) (below : List Frame) (meth : Method) (c : Code) (H : Heap) (locs : List Loc) (cells slots mc ms : Nat) (g : JFrame) (rest : List Value) (Qa : State → Outcome → State → Prop) (XC : String → State → State → Prop) (free : Addr → Prop) : Prop :=
  ∀ T : State, T.heap = H → Stand p l e R s m args below meth c T locs cells slots →
    (∃ (v : Option Value) (st₀ t T' : State) (L : List Loc), st₀.heap = H ∧ Stand p l e R s m args below meth c T' (locs ++ L) (cells + mc) (slots + ms) ∧ (∀ q ∈ L, free q.base) ∧ T'.heap = t.heap ∧ T'.vm = t.vm ∧ Qa st₀ (.returned v) t ∧
      Goes p e below T g T' { g with pc := g.pc + 3, stack := v.toList ++ rest }) ∨
    (∃ (q : Addr) (st₀ t T' : State) (L : List Loc) (E : String) (ce : Cell), st₀.heap = H ∧ Stand p l e R s m args below meth c T' (locs ++ L) (cells + mc) (slots + ms) ∧ (∀ z ∈ L, free z.base) ∧ T'.heap = t.heap ∧ T'.vm = t.vm ∧ XC E st₀ t ∧ t.heap[q]? = some ce ∧ ce.vm = .none ∧ s.vm.findClass E = some ce.cls ∧
      Steps p.tables e below (T.setTop g) ((T'.setTop { g with stack := rest }).pushFrame (.throwing q)))
def vx_X {S : Type} (px : S → Prop) (B : String → S → State → Prop) (A : Nat → Prop) : String → State → State → Prop := fun E st t => ∃ u : S, px u ∧ B E u t ∧ va_F A st t
section Runs
variable {p : Program} {l : Launch} {e : Env} {R : Room} {s : State} {m : MethodId} {args : Array Value} {below : List Frame} {meth : Method} {c : Code} {H : Heap} {locs : List Loc} {cells slots : Nat}
variable {y : MethodName} {bytes cc : ByteArray} {maxL nL mc ms n index : Nat} {ret : Option FieldType} {ws : List Cond} {rm : Room} {Pc : Array Value → State → Prop} {Qc : Array Value → State → Outcome → State → Prop} {XC : String → State → State → Prop} {free : Addr → Prop} {Ts : List Cond} {own C : String} {b : Addr} {As rest : List Value} {g : JFrame}
theorem vx_callBack (cb : CallB R s args own index y bytes maxL ret ws rm mc ms n) (hM : vx_Met l y ws rm Pc Qc XC mc ms free) (hbl : FrameBlind Pc) : vx_Back l R p e below s args y 3 8 (PreOf R mc ms Pc) (PostOf Qc mc ms free) (vx_Post XC mc ms free) := by
  obtain ⟨hrc, hrs, hfr, hlo, hws, hcw, -, hini, -⟩ := cb
  exact vx_back (bytes := bytes) (maxL := maxL) (ret := ret) hM hbl hrc hrs hfr hlo hws hcw (fun a' U hW => word_at hW (Or.inl (by first | rfl | simp [Cond.onTables, Cond.keeps, Cond.steady])) hini)
theorem vx_runV (S : CallFix p m c cc nL s args Ts own) (hM : vx_Met l y ws rm Pc Qc XC mc ms free) (cw : CallW R s args own C index y bytes maxL ret ws rm mc ms n) (hp : PreV s H C b Pc As)
    (hg : g.method = m) (hn : As.length = n) (hsize : g.locals.size = nL) (hstack : g.stack = As.reverse ++ .ref b :: rest) (hW : 2 * g.monitorRoom + (rest.map fun v => v.category).sum ≤ 8) (hdg : decode cc g.pc = .ok (.invokevirtual index, 3)) (hf : cells + mc ≤ R.cells ∧ slots + ms ≤ R.slots) :
    vx_Run p l e R s m args below meth c H locs cells slots mc ms g rest (Qc (Value.ref b :: As).toArray) XC free := by
  have hK : vx_Back l R p e below s args y 3 8 (PreOf R mc ms Pc) (PostOf Qc mc ms free) (vx_Post XC mc ms free) := vx_callBack cw.1 hM hp.1
  obtain ⟨⟨-, -, -, -, -, -, hcode, -, hy, hlen, hl⟩, hin, hse⟩ := cw
  obtain ⟨hx, hb, hml, ho, -⟩ := S
  obtain ⟨-, ⟨cellB, hcB, hoB, hclB⟩, hPc⟩ := hp
  intro T hT X
  rcases vx_callV X hx (C := C) (bytes := bytes) (maxL := maxL) (ret := ret) ho hl hin hse hcode hy hK (by rw [hT]; exact hcB) hoB hclB hg (hsize.trans hml.symm) (argsL := As) (rest := rest) (fun sig h => hn.trans (hlen sig h)) hstack hW (by rw [hb]; exact hdg)
    (fun vm₁ hW₁ => ⟨hf.1, hf.2, hPc (T.setVm vm₁) hT hW₁⟩) with ⟨v, vm₁, ⟨U', l2, c2, s2⟩, hW₁, X', ⟨g', mk, t, L, e1, e2, hq, h1, hL, h2, h3⟩, st⟩ | ⟨q, vm₁, ⟨U', l2, c2, s2⟩, hW₁, X', ⟨g', mk, t, L, E, ce, e1, e2, hq, hce, hcv, hcl, h1, hL, h2, h3⟩, st⟩
  · dsimp only [Pt.U, Pt.locs, Pt.cells, Pt.slots] at X' e1 e2 h1 h2 h3 st
    subst h1; subst h2; subst h3
    exact Or.inl ⟨v, (T.setVm vm₁).calling g' mk (Value.ref b :: As).toArray, t, U', L, hT, X', hL, e1, e2, hq, st⟩
  · dsimp only [Pt.U, Pt.locs, Pt.cells, Pt.slots] at X' e1 e2 h1 h2 h3 st hcl
    subst h1; subst h2; subst h3
    exact Or.inr ⟨q, (T.setVm vm₁).calling g' mk (Value.ref b :: As).toArray, t, U', L, E, ce, hT, X', hL, e1, e2, hq, hce, hcv, vx_cls hW₁ hcl, st⟩
theorem vx_runS (S : CallFix p m c cc nL s args Ts own) (hM : vx_Met l y ws rm Pc Qc XC mc ms free) (cw : CallB R s args own index y bytes maxL ret ws rm mc ms n ∧ (Cond.static y).before args s = true) (hp : PreS s H Pc As)
    (hg : g.method = m) (hn : As.length = n) (hsize : g.locals.size = nL) (hstack : g.stack = As.reverse ++ rest) (hW : 2 * g.monitorRoom + (rest.map fun v => v.category).sum ≤ 8) (hdg : decode cc g.pc = .ok (.invokestatic index, 3)) (hf : cells + mc ≤ R.cells ∧ slots + ms ≤ R.slots) :
    vx_Run p l e R s m args below meth c H locs cells slots mc ms g rest (Qc As.toArray) XC free := by
  have hK : vx_Back l R p e below s args y 3 8 (PreOf R mc ms Pc) (PostOf Qc mc ms free) (vx_Post XC mc ms free) := vx_callBack cw.1 hM hp.1
  obtain ⟨⟨-, -, -, -, -, -, hcode, hini, hy, hlen, hl⟩, hstt⟩ := cw
  obtain ⟨hx, hb, hml, ho, -⟩ := S
  intro T hT X
  rcases vx_callS X hx (bytes := bytes) (maxL := maxL) (ret := ret) ho hl hstt hini hcode hy hK hg (hsize.trans hml.symm) (argsL := As) (rest := rest) (fun sig h => hn.trans (hlen sig h)) hstack hW (by rw [hb]; exact hdg)
    (fun vm₁ hW₁ => ⟨hf.1, hf.2, hp.2 (T.setVm vm₁) hT hW₁⟩) with ⟨v, vm₁, ⟨U', l2, c2, s2⟩, hW₁, X', ⟨g', mk, t, L, e1, e2, hq, h1, hL, h2, h3⟩, st⟩ | ⟨q, vm₁, ⟨U', l2, c2, s2⟩, hW₁, X', ⟨g', mk, t, L, E, ce, e1, e2, hq, hce, hcv, hcl, h1, hL, h2, h3⟩, st⟩
  · dsimp only [Pt.U, Pt.locs, Pt.cells, Pt.slots] at X' e1 e2 h1 h2 h3 st
    subst h1; subst h2; subst h3
    exact Or.inl ⟨v, (T.setVm vm₁).calling g' mk As.toArray, t, U', L, hT, X', hL, e1, e2, hq, st⟩
  · dsimp only [Pt.U, Pt.locs, Pt.cells, Pt.slots] at X' e1 e2 h1 h2 h3 st hcl
    subst h1; subst h2; subst h3
    exact Or.inr ⟨q, (T.setVm vm₁).calling g' mk As.toArray, t, U', L, E, ce, hT, X', hL, e1, e2, hq, hce, hcv, vx_cls hW₁ hcl, st⟩
end Runs
section Rows
variable {p : Program} {l : Launch} {e : Env} {R : Room} {s : State} {m : MethodId} {args : Array Value} {below : List Frame} {meth : Method} {c : Code} {H : Heap} {locs : List Loc} {cells slots : Nat} {Q : State → Prop}
variable {mc ms : Nat} {free : Addr → Prop} {A0 A1 : Nat → Prop} {H0 : Heap} {a : Array Value} {pc : Nat} {ls : Array Slot} {st0 rest : List Value}
theorem vx_keep {st₀ t T' : State} {L : List Loc} (h0 : st₀.heap = H) (e1 : T'.heap = t.heap) (hS : va_S A0 H0 H locs) (hA : ∀ q, q < H.size → A1 q → A0 q) (hf : ∀ q, free q → A0 q) (hL : ∀ q ∈ L, free q.base) (hF : va_F A1 st₀ t) :
    H.size ≤ T'.heap.size ∧ (∀ q : Nat, q < H.size → ¬ A1 q → T'.heap[q]? = H[q]?) ∧ va_S A0 H0 T'.heap (locs ++ L) := by
  obtain ⟨hz, hk⟩ := hF
  rw [h0] at hz hk
  exact ⟨by rw [e1]; exact hz, fun q h1 h2 => by rw [e1]; exact hk q h1 h2,
    ⟨Nat.le_trans hS.1 (by rw [e1]; exact hz), fun q h1 h2 => by rw [e1, hk q (Nat.lt_of_lt_of_le h1 hS.1) (fun z => h2 (hA q (Nat.lt_of_lt_of_le h1 hS.1) z))]; exact hS.2.1 q h1 h2, fun q hq => by
      rcases List.mem_append.mp hq with h | h
      · exact hS.2.2 q h
      · exact hf _ (hL q h)⟩⟩
theorem vx_calli {S SX : Type} {post : Int32 → S → Prop} {px : SX → Prop} {B : S → State → Prop} {BX : String → SX → State → Prop} {AX : Nat → Prop} (hr : vx_Run p l e R s m args below meth c H locs cells slots mc ms (F0 m pc ls st0) rest (va_Qi post B A1 a) (vx_X px BX AX) free) (hS : va_S A0 H0 H locs) (hA : ∀ q, q < H.size → A1 q → A0 q) (hf : ∀ q, free q → A0 q) (hAX : ∀ q, q < H.size → AX q → A0 q)
    (kx : ∀ (E : String) (ce : Cell) (q9 : Addr) (u : SX) (t : State) (H1 : Heap) (locs1 : List Loc), t.heap = H1 → s.vm.Alike t.vm → px u → BX E u t → H.size ≤ H1.size → (∀ q : Nat, q < H.size → ¬ AX q → H1[q]? = H[q]?) → va_S A0 H0 H1 locs1 → H1[q9]? = some ce → ce.vm = .none → s.vm.findClass E = some ce.cls → vx_W p l e R s m args below meth c H1 locs1 (cells + mc) (slots + ms) Q (F0 m pc ls rest) q9)
    (kk : ∀ (r : Int32) (u : S) (t : State) (H1 : Heap) (locs1 : List Loc), t.heap = H1 → s.vm.Alike t.vm → post r u → B u t → H.size ≤ H1.size → (∀ q : Nat, q < H.size → ¬ A1 q → H1[q]? = H[q]?) → va_S A0 H0 H1 locs1 → W p l e R s m args below meth c H1 locs1 (cells + mc) (slots + ms) Q (F0 m (pc + 3) ls (.int r :: rest))) : W p l e R s m args below meth c H locs cells slots Q (F0 m pc ls st0) := by
  intro T hT X
  rcases hr T hT X with ⟨v, st₀, t, T', L, h0, X', hL, e1, e2, ⟨⟨r, u, hv, hp, hb⟩, hF⟩, st⟩ | ⟨q, st₀, t, T', L, E, ce, h0, X', hL, e1, e2, ⟨u, hp, hb, hF⟩, hce, hcv, hcl, st⟩
  · cases hv
    obtain ⟨k1, k2, k3⟩ := vx_keep h0 e1 hS hA hf hL hF
    obtain ⟨t2, a1, b1⟩ := kk r u t T'.heap (locs ++ L) e1.symm (by rw [← e2]; exact X'.warmed.alike) hp hb k1 k2 k3 T' rfl X'
    exact ⟨t2, st t2 a1, b1⟩
  · obtain ⟨k1, k2, k3⟩ := vx_keep h0 e1 hS hAX hf hL hF
    obtain ⟨t2, a1, b1⟩ := kx E ce q u t T'.heap (locs ++ L) e1.symm (by rw [← e2]; exact X'.warmed.alike) hp hb k1 k2 k3 (by rw [e1]; exact hce) hcv hcl T' rfl X'
    exact ⟨t2, st.trans a1, b1⟩
theorem vx_calll {S SX : Type} {post : Int64 → S → Prop} {px : SX → Prop} {B : S → State → Prop} {BX : String → SX → State → Prop} {AX : Nat → Prop} (hr : vx_Run p l e R s m args below meth c H locs cells slots mc ms (F0 m pc ls st0) rest (va_Ql post B A1 a) (vx_X px BX AX) free) (hS : va_S A0 H0 H locs) (hA : ∀ q, q < H.size → A1 q → A0 q) (hf : ∀ q, free q → A0 q) (hAX : ∀ q, q < H.size → AX q → A0 q)
    (kx : ∀ (E : String) (ce : Cell) (q9 : Addr) (u : SX) (t : State) (H1 : Heap) (locs1 : List Loc), t.heap = H1 → s.vm.Alike t.vm → px u → BX E u t → H.size ≤ H1.size → (∀ q : Nat, q < H.size → ¬ AX q → H1[q]? = H[q]?) → va_S A0 H0 H1 locs1 → H1[q9]? = some ce → ce.vm = .none → s.vm.findClass E = some ce.cls → vx_W p l e R s m args below meth c H1 locs1 (cells + mc) (slots + ms) Q (F0 m pc ls rest) q9)
    (kk : ∀ (r : Int64) (u : S) (t : State) (H1 : Heap) (locs1 : List Loc), t.heap = H1 → s.vm.Alike t.vm → post r u → B u t → H.size ≤ H1.size → (∀ q : Nat, q < H.size → ¬ A1 q → H1[q]? = H[q]?) → va_S A0 H0 H1 locs1 → W p l e R s m args below meth c H1 locs1 (cells + mc) (slots + ms) Q (F0 m (pc + 3) ls (.long r :: rest))) : W p l e R s m args below meth c H locs cells slots Q (F0 m pc ls st0) := by
  intro T hT X
  rcases hr T hT X with ⟨v, st₀, t, T', L, h0, X', hL, e1, e2, ⟨⟨r, u, hv, hp, hb⟩, hF⟩, st⟩ | ⟨q, st₀, t, T', L, E, ce, h0, X', hL, e1, e2, ⟨u, hp, hb, hF⟩, hce, hcv, hcl, st⟩
  · cases hv
    obtain ⟨k1, k2, k3⟩ := vx_keep h0 e1 hS hA hf hL hF
    obtain ⟨t2, a1, b1⟩ := kk r u t T'.heap (locs ++ L) e1.symm (by rw [← e2]; exact X'.warmed.alike) hp hb k1 k2 k3 T' rfl X'
    exact ⟨t2, st t2 a1, b1⟩
  · obtain ⟨k1, k2, k3⟩ := vx_keep h0 e1 hS hAX hf hL hF
    obtain ⟨t2, a1, b1⟩ := kx E ce q u t T'.heap (locs ++ L) e1.symm (by rw [← e2]; exact X'.warmed.alike) hp hb k1 k2 k3 (by rw [e1]; exact hce) hcv hcl T' rfl X'
    exact ⟨t2, st.trans a1, b1⟩
theorem vx_callf {S SX : Type} {post : UInt32 → S → Prop} {px : SX → Prop} {B : S → State → Prop} {BX : String → SX → State → Prop} {AX : Nat → Prop} (hr : vx_Run p l e R s m args below meth c H locs cells slots mc ms (F0 m pc ls st0) rest (va_Qf post B A1 a) (vx_X px BX AX) free) (hS : va_S A0 H0 H locs) (hA : ∀ q, q < H.size → A1 q → A0 q) (hf : ∀ q, free q → A0 q) (hAX : ∀ q, q < H.size → AX q → A0 q)
    (kx : ∀ (E : String) (ce : Cell) (q9 : Addr) (u : SX) (t : State) (H1 : Heap) (locs1 : List Loc), t.heap = H1 → s.vm.Alike t.vm → px u → BX E u t → H.size ≤ H1.size → (∀ q : Nat, q < H.size → ¬ AX q → H1[q]? = H[q]?) → va_S A0 H0 H1 locs1 → H1[q9]? = some ce → ce.vm = .none → s.vm.findClass E = some ce.cls → vx_W p l e R s m args below meth c H1 locs1 (cells + mc) (slots + ms) Q (F0 m pc ls rest) q9)
    (kk : ∀ (r : UInt32) (u : S) (t : State) (H1 : Heap) (locs1 : List Loc), t.heap = H1 → s.vm.Alike t.vm → post r u → B u t → H.size ≤ H1.size → (∀ q : Nat, q < H.size → ¬ A1 q → H1[q]? = H[q]?) → va_S A0 H0 H1 locs1 → W p l e R s m args below meth c H1 locs1 (cells + mc) (slots + ms) Q (F0 m (pc + 3) ls (.float r :: rest))) : W p l e R s m args below meth c H locs cells slots Q (F0 m pc ls st0) := by
  intro T hT X
  rcases hr T hT X with ⟨v, st₀, t, T', L, h0, X', hL, e1, e2, ⟨⟨r, u, hv, hp, hb⟩, hF⟩, st⟩ | ⟨q, st₀, t, T', L, E, ce, h0, X', hL, e1, e2, ⟨u, hp, hb, hF⟩, hce, hcv, hcl, st⟩
  · cases hv
    obtain ⟨k1, k2, k3⟩ := vx_keep h0 e1 hS hA hf hL hF
    obtain ⟨t2, a1, b1⟩ := kk r u t T'.heap (locs ++ L) e1.symm (by rw [← e2]; exact X'.warmed.alike) hp hb k1 k2 k3 T' rfl X'
    exact ⟨t2, st t2 a1, b1⟩
  · obtain ⟨k1, k2, k3⟩ := vx_keep h0 e1 hS hAX hf hL hF
    obtain ⟨t2, a1, b1⟩ := kx E ce q u t T'.heap (locs ++ L) e1.symm (by rw [← e2]; exact X'.warmed.alike) hp hb k1 k2 k3 (by rw [e1]; exact hce) hcv hcl T' rfl X'
    exact ⟨t2, st.trans a1, b1⟩
theorem vx_calld {S SX : Type} {post : UInt64 → S → Prop} {px : SX → Prop} {B : S → State → Prop} {BX : String → SX → State → Prop} {AX : Nat → Prop} (hr : vx_Run p l e R s m args below meth c H locs cells slots mc ms (F0 m pc ls st0) rest (va_Qd post B A1 a) (vx_X px BX AX) free) (hS : va_S A0 H0 H locs) (hA : ∀ q, q < H.size → A1 q → A0 q) (hf : ∀ q, free q → A0 q) (hAX : ∀ q, q < H.size → AX q → A0 q)
    (kx : ∀ (E : String) (ce : Cell) (q9 : Addr) (u : SX) (t : State) (H1 : Heap) (locs1 : List Loc), t.heap = H1 → s.vm.Alike t.vm → px u → BX E u t → H.size ≤ H1.size → (∀ q : Nat, q < H.size → ¬ AX q → H1[q]? = H[q]?) → va_S A0 H0 H1 locs1 → H1[q9]? = some ce → ce.vm = .none → s.vm.findClass E = some ce.cls → vx_W p l e R s m args below meth c H1 locs1 (cells + mc) (slots + ms) Q (F0 m pc ls rest) q9)
    (kk : ∀ (r : UInt64) (u : S) (t : State) (H1 : Heap) (locs1 : List Loc), t.heap = H1 → s.vm.Alike t.vm → post r u → B u t → H.size ≤ H1.size → (∀ q : Nat, q < H.size → ¬ A1 q → H1[q]? = H[q]?) → va_S A0 H0 H1 locs1 → W p l e R s m args below meth c H1 locs1 (cells + mc) (slots + ms) Q (F0 m (pc + 3) ls (.double r :: rest))) : W p l e R s m args below meth c H locs cells slots Q (F0 m pc ls st0) := by
  intro T hT X
  rcases hr T hT X with ⟨v, st₀, t, T', L, h0, X', hL, e1, e2, ⟨⟨r, u, hv, hp, hb⟩, hF⟩, st⟩ | ⟨q, st₀, t, T', L, E, ce, h0, X', hL, e1, e2, ⟨u, hp, hb, hF⟩, hce, hcv, hcl, st⟩
  · cases hv
    obtain ⟨k1, k2, k3⟩ := vx_keep h0 e1 hS hA hf hL hF
    obtain ⟨t2, a1, b1⟩ := kk r u t T'.heap (locs ++ L) e1.symm (by rw [← e2]; exact X'.warmed.alike) hp hb k1 k2 k3 T' rfl X'
    exact ⟨t2, st t2 a1, b1⟩
  · obtain ⟨k1, k2, k3⟩ := vx_keep h0 e1 hS hAX hf hL hF
    obtain ⟨t2, a1, b1⟩ := kx E ce q u t T'.heap (locs ++ L) e1.symm (by rw [← e2]; exact X'.warmed.alike) hp hb k1 k2 k3 (by rw [e1]; exact hce) hcv hcl T' rfl X'
    exact ⟨t2, st.trans a1, b1⟩
theorem vx_callv {S SX : Type} {post : S → Prop} {px : SX → Prop} {B : S → State → Prop} {BX : String → SX → State → Prop} {AX : Nat → Prop} (hr : vx_Run p l e R s m args below meth c H locs cells slots mc ms (F0 m pc ls st0) rest (va_Qv post B A1 a) (vx_X px BX AX) free) (hS : va_S A0 H0 H locs) (hA : ∀ q, q < H.size → A1 q → A0 q) (hf : ∀ q, free q → A0 q) (hAX : ∀ q, q < H.size → AX q → A0 q)
    (kx : ∀ (E : String) (ce : Cell) (q9 : Addr) (u : SX) (t : State) (H1 : Heap) (locs1 : List Loc), t.heap = H1 → s.vm.Alike t.vm → px u → BX E u t → H.size ≤ H1.size → (∀ q : Nat, q < H.size → ¬ AX q → H1[q]? = H[q]?) → va_S A0 H0 H1 locs1 → H1[q9]? = some ce → ce.vm = .none → s.vm.findClass E = some ce.cls → vx_W p l e R s m args below meth c H1 locs1 (cells + mc) (slots + ms) Q (F0 m pc ls rest) q9)
    (kk : ∀ (u : S) (t : State) (H1 : Heap) (locs1 : List Loc), t.heap = H1 → s.vm.Alike t.vm → post u → B u t → H.size ≤ H1.size → (∀ q : Nat, q < H.size → ¬ A1 q → H1[q]? = H[q]?) → va_S A0 H0 H1 locs1 → W p l e R s m args below meth c H1 locs1 (cells + mc) (slots + ms) Q (F0 m (pc + 3) ls (rest))) : W p l e R s m args below meth c H locs cells slots Q (F0 m pc ls st0) := by
  intro T hT X
  rcases hr T hT X with ⟨v, st₀, t, T', L, h0, X', hL, e1, e2, ⟨⟨u, hv, hp, hb⟩, hF⟩, st⟩ | ⟨q, st₀, t, T', L, E, ce, h0, X', hL, e1, e2, ⟨u, hp, hb, hF⟩, hce, hcv, hcl, st⟩
  · cases hv
    obtain ⟨k1, k2, k3⟩ := vx_keep h0 e1 hS hA hf hL hF
    obtain ⟨t2, a1, b1⟩ := kk u t T'.heap (locs ++ L) e1.symm (by rw [← e2]; exact X'.warmed.alike) hp hb k1 k2 k3 T' rfl X'
    exact ⟨t2, st t2 a1, b1⟩
  · obtain ⟨k1, k2, k3⟩ := vx_keep h0 e1 hS hAX hf hL hF
    obtain ⟨t2, a1, b1⟩ := kx E ce q u t T'.heap (locs ++ L) e1.symm (by rw [← e2]; exact X'.warmed.alike) hp hb k1 k2 k3 (by rw [e1]; exact hce) hcv hcl T' rfl X'
    exact ⟨t2, st.trans a1, b1⟩
/-- caught by the row x of this method's table; the rows ahead don't take it -/
theorem vx_catch {own name : String} {E : String} {ce : Cell} {q : Addr} (hown : s.vm.findClass own = some m.cls) (pre : List ExceptionTableEntry) (x : ExceptionTableEntry) (suf : List ExceptionTableEntry) (hsplit : c.exceptionTable.toList = pre ++ x :: suf)
    (hpass : ∀ z ∈ pre, covers z pc = false ∨ (z.catchType ≠ 0 ∧ ∃ nm : String, (Cond.classLink own z.catchType nm).before args s = true ∧ va_Nc E nm s)) (hx : covers x pc = true) (h0 : x.catchType ≠ 0)
    (hlink : (Cond.classLink own x.catchType name).before args s = true) (hcast : (Cond.castable E name).before args s = true) (hcell : H[q]? = some ce) (hv : ce.vm = .none) (hcl : s.vm.findClass E = some ce.cls)
    (kk : W p l e R s m args below meth c H locs cells slots Q (F0 m x.handlerPc ls [.ref q])) : vx_W p l e R s m args below meth c H locs cells slots Q (F0 m pc ls rest) q := by
  intro T hT X
  have hpl : e.platform.magicAccessors = ({} : Platform).magicAccessors := by rw [X.admits.platform]
  obtain ⟨c3, c4, hc3, hc4, hasg⟩ := Cond.castable_spec hcast
  cases Option.some.inj (hc3.symm.trans hcl)
  obtain ⟨c5, hc5, hcl5⟩ := Cond.classLink_spec hown hlink e.platform hpl
  cases Option.some.inj (hc4.symm.trans hc5)
  obtain ⟨vm', X', st⟩ := Jvm.Stand.thenCaughtThrough X q (g := F0 m pc ls rest) rfl (Steps.refl _) (by rw [hT]; exact hcell) (by rw [hv]; rfl) (by obtain ⟨k9, h9, -⟩ := Vm.findClass_spec hcl; exact ⟨k9, h9⟩) pre x suf hsplit
    (fun z hz => by
      rcases hpass z hz with h | ⟨hz0, nm, hl1, hn1⟩
      · exact Or.inl h
      · obtain ⟨c6, hc6, hcl6⟩ := Cond.classLink_spec hown hl1 e.platform hpl
        obtain ⟨a8, b8, h1, h2, h3⟩ := hn1
        cases Option.some.inj (h1.symm.trans hcl)
        cases Option.some.inj (h2.symm.trans hc6)
        exact Or.inr ⟨hz0, _, hcl6, h3⟩) hx (Or.inr ⟨h0, c4, hcl5, hasg⟩)
  obtain ⟨t, a1, b1⟩ := kk (T.setVm vm') hT X'
  exact ⟨t, st.trans a1, b1⟩
end Rows
section Ends
variable {p : Program} {l : Launch} {e : Env} {R : Room} {s : State} {m : MethodId} {args : Array Value} {below : List Frame} {meth : Method} {c : Code} {H : Heap} {locs : List Loc} {cells slots : Nat} {Q : State → Prop}
variable {mc ms : Nat} {free : Addr → Prop} {A0 A1 : Nat → Prop} {H0 : Heap} {a : Array Value} {ls : Array Slot} {st0 rest : List Value}
variable {Qc : Array Value → State → Outcome → State → Prop} {XC : String → State → State → Prop}
/-- what a body that may throw owes at its end -/
def vx_MQ (below : List Frame) (Qc : Array Value → State → Outcome → State → Prop) (XC : String → State → State → Prop) (a : Array Value) (s : State) (mc ms : Nat) (free : Addr → Prop) : State → Prop := fun t =>
  ∃ o, t.status = .running ∧ Ended t below o ∧ vx_Q Qc XC mc ms free a s o t
theorem vx_ret {g : JFrame} {mc ms : Nat} (k : W p l e R s m args below meth c H locs cells slots (MQ below Qc args s mc ms free) g) : W p l e R s m args below meth c H locs cells slots (vx_MQ below Qc XC args s mc ms free) g := by
  intro T hT X
  obtain ⟨t, a1, o, b1, b2, b3, b4⟩ := k T hT X
  exact ⟨t, a1, o, b1, b2, Or.inl ⟨b3, b4⟩⟩
/-- not caught here: it goes on to the caller -/
theorem vx_widen {g : JFrame} {q : Addr} {k n : Nat} (h1 : cells ≤ k) (h2 : slots ≤ n) (kk : vx_W p l e R s m args below meth c H locs k n Q g q) : vx_W p l e R s m args below meth c H locs cells slots Q g q := fun T hT X => kk T hT (stand_widen X h1 h2)
theorem vx_out {pc : Nat} {E : String} {ce : Cell} {q : Addr} {mc ms : Nat} (hout : ∀ x ∈ c.exceptionTable.toList, covers x pc = false) (hlocks : meth.locks = false) (hcell : H[q]? = some ce) (hv : ce.vm = .none) (hcl : s.vm.findClass E = some ce.cls)
    (hx : ∀ t : State, t.heap = H → s.vm.Alike t.vm → XC E s t) (hf : ∀ z ∈ locs, free z.base) (hc : cells ≤ mc) (hs : slots ≤ ms) :
    vx_W p l e R s m args below meth c H locs cells slots (vx_MQ below Qc XC args s mc ms free) (F0 m pc ls rest) q := by
  intro T hT X
  obtain ⟨st1, hrun, hend, hW, hsm⟩ := X.leaveThrown q (g := F0 m pc ls rest) rfl rfl rfl hout hlocks
  have hcell9 : (T.setFrames (.throwing q :: below)).heap[q]? = some ce := by
    show T.heap[q]? = some ce
    rw [hT]; exact hcell
  exact ⟨_, st1, .threw q, hrun, hend, Or.inr ⟨q, rfl, E, ce, locs, hx _ hT hW.alike, hcell9, hv, hcl, hW, hsm.mono hc hs, hf⟩⟩
theorem vx_frame {U : State} {k n : Nat} (h : s.sameButNew ({ U with vm := s.vm } : State) locs k n) : s.heap.size ≤ U.heap.size ∧ ∀ q : Nat, q < s.heap.size → (∀ z ∈ locs, z.base ≠ q) → U.heap[q]? = s.heap[q]? := by
  obtain ⟨-, h2, -, -, -, h6⟩ := h
  refine ⟨h2, fun q hq hz => ?_⟩
  obtain ⟨c9, e1, e2, e3, e4⟩ := h6 q _ (Array.getElem?_eq_getElem hq)
  have hs : c9.slots = (s.heap[q]).slots := Array.ext_getElem? fun i => e4 i fun hm => hz _ hm rfl
  have h9 : c9 = s.heap[q] := by
    rw [hs] at e2
    exact e2
  have e5 : U.heap[q]? = some c9 := e1
  rw [e5, h9, Array.getElem?_eq_getElem hq]
/-- the words of a throw but the four that speak of the heap -/
def vx_no (w : Cond) : Bool := decide (w ≠ .isRef (.static Bundle.tN "UNASSIGNED_STACK" Bundle.steD)) && decide (w ≠ .isRef (.static Bundle.tN "SUPPRESSED_SENTINEL" Bundle.listD)) && decide (w ≠ .laysStatic Bundle.tN "UNASSIGNED_STACK" Bundle.steD) && decide (w ≠ .laysStatic Bundle.tN "SUPPRESSED_SENTINEL" Bundle.listD)
def vx_at0 (own : String) (ic : Nat) (X : String) (names : List String) : List Cond := (Bundle.ownAtoms0 own ic X names).filter vx_no
def vx_atS (own : String) (ic : Nat) (X : String) (names : List String) : List Cond := (Bundle.ownAtoms own ic X names).filter vx_no
/-- a word that the tables alone decide, or a good one -/
def vx_ot (w : Cond) : Bool := w.onTables || goodWord w
theorem vx_ot_at {args a' : Array Value} {s U : State} {w : Cond} (hW : s.WarmedH U.vm) (hvm : s.vm = U.vm) (hg : vx_ot w = true) (h : w.before args s = true) : w.before a' U = true := by
  simp only [vx_ot, Bool.or_eq_true] at hg
  rcases hg with hg | hg
  · exact va_tabs hg hvm h
  · exact word_at hW (good_of_word hg) h
/-- a list's words: the good ones out of the method's own list, the others by premises of their own -/
theorem vx_hat {args : Array Value} {s : State} {L B : List Cond} (h1 : ∀ w ∈ L.filter goodWord, w.before args s = true) (h2 : ∀ w ∈ L.filter (fun w => !goodWord w), w ∈ B) (h3 : ∀ w ∈ B, w.before args s = true) : ∀ w ∈ L, w.before args s = true := by
  intro w hw
  by_cases g : goodWord w = true
  · exact h1 w (List.mem_filter.mpr ⟨hw, g⟩)
  · refine h3 w (h2 w (List.mem_filter.mpr ⟨hw, ?_⟩))
    show (!goodWord w) = true
    cases hgw : goodWord w
    · rfl
    · exact absurd hgw g
theorem vx_c {args : Array Value} {s : State} {w : Cond} {B : List Cond} (h : w.before args s = true) (t : ∀ w ∈ B, w.before args s = true) : ∀ w' ∈ w :: B, w'.before args s = true := fun w' h' => (List.mem_cons.mp h').elim (fun e => by rw [e]; exact h) (t w')
theorem vx_n {args : Array Value} {s : State} : ∀ w ∈ ([] : List Cond), w.before args s = true := fun _ h => nomatch h
theorem vx_own {args : Array Value} {s : State} {L : List Cond} (h1 : ∀ w ∈ L.filter vx_no, w.before args s = true)
    (hU : (Cond.isRef (.static Bundle.tN "UNASSIGNED_STACK" Bundle.steD)).before args s = true) (hN : (Cond.isRef (.static Bundle.tN "SUPPRESSED_SENTINEL" Bundle.listD)).before args s = true)
    (lU : (Cond.laysStatic Bundle.tN "UNASSIGNED_STACK" Bundle.steD).before args s = true) (lN : (Cond.laysStatic Bundle.tN "SUPPRESSED_SENTINEL" Bundle.listD).before args s = true) : ∀ w ∈ L, w.before args s = true := by
  intro w hw
  by_cases e1 : w = .isRef (.static Bundle.tN "UNASSIGNED_STACK" Bundle.steD)
  · rw [e1]; exact hU
  · by_cases e2 : w = .isRef (.static Bundle.tN "SUPPRESSED_SENTINEL" Bundle.listD)
    · rw [e2]; exact hN
    · by_cases e3 : w = .laysStatic Bundle.tN "UNASSIGNED_STACK" Bundle.steD
      · rw [e3]; exact lU
      · by_cases e4 : w = .laysStatic Bundle.tN "SUPPRESSED_SENTINEL" Bundle.listD
        · rw [e4]; exact lN
        · exact h1 w (List.mem_filter.mpr ⟨hw, by unfold vx_no; rw [decide_eq_true e1, decide_eq_true e2, decide_eq_true e3, decide_eq_true e4]; rfl⟩)
/-- where a static field lies, its class's statics cell in H -/
def vx_L (C n d : String) (A : Nat → Prop) (U : State) (H : Heap) : Prop := ∃ (c : ClassId) (k : Class) (i : Nat) (f : Field) (a : Nat) (cell : Cell), U.vm.findClass C = some c ∧ U.fieldFound? C n d = some (c, k, i, f) ∧ f.isStatic = true ∧ k.statics = some a ∧ H[a]? = some cell ∧ cell.vm.isStatics = true ∧ cell.cls = c ∧ f.slot < cell.slots.size ∧ k.staticTypes[f.slot]? = some f.type ∧ ¬ A a
theorem vx_L.moved {C n d : String} {A : Nat → Prop} {u U : State} {H : Heap} (hvm : u.vm.Alike U.vm) (h : vx_L C n d A u H) : vx_L C n d A U H := by
  obtain ⟨c, k, i, f, a, cell, h1, h2, h3, h4, h5, h6, h7, h8, h9, h10⟩ := h
  obtain ⟨k', hi', he⟩ := State.fieldFound?_setVm hvm h2
  exact ⟨c, k', i, f, a, cell, by rw [hvm.findClass]; exact h1, hi', h3, by rw [he]; exact h4, h5, h6, h7, h8, by rw [he]; exact h9, h10⟩
theorem vx_L.kept {C n d : String} {A : Nat → Prop} {U : State} {H H1 : Heap} (h : vx_L C n d A U H) (hq : ∀ a : Nat, a < H.size → ¬ A a → H1[a]? = H[a]?) : vx_L C n d A U H1 := by
  obtain ⟨c, k, i, f, a, cell, h1, h2, h3, h4, h5, h6, h7, h8, h9, h10⟩ := h
  exact ⟨c, k, i, f, a, cell, h1, h2, h3, h4, by rw [hq a (Array.getElem?_eq_some_iff.mp h5).1 h10]; exact h5, h6, h7, h8, h9, h10⟩
theorem vx_L.narrow {C n d : String} {A B : Nat → Prop} {U : State} {H : Heap} (h : vx_L C n d A U H) (hAB : ∀ q, B q → A q) : vx_L C n d B U H := by
  obtain ⟨c, k, i, f, a, cell, h1, h2, h3, h4, h5, h6, h7, h8, h9, h10⟩ := h
  exact ⟨c, k, i, f, a, cell, h1, h2, h3, h4, h5, h6, h7, h8, h9, fun z => h10 (hAB _ z)⟩
theorem vx_L.word {C n d : String} {A : Nat → Prop} {s : State} {args : Array Value} (h : vx_L C n d A s s.heap) : (Cond.laysStatic C n d).before args s = true := by
  obtain ⟨c, k, i, f, a, cell, h1, h2, h3, h4, h5, h6, h7, h8, h9, -⟩ := h
  show (Cond.laysStatic C n d).holds args s none s [] = true
  exact Cond.laysStatic_of h1 h2 h3 h4 h5 h6 h7 h8 h9
/-- .. and what it holds: null or some reference -/
def vx_Zq (C n d : String) (A : Nat → Prop) (U : State) (H : Heap) : Prop := va_Zq C n d A U H ∧ vx_L C n d A U H
theorem vx_Zq.moved {C n d : String} {A : Nat → Prop} {u U : State} {H : Heap} (hvm : u.vm.Alike U.vm) (h : vx_Zq C n d A u H) : vx_Zq C n d A U H := ⟨va_Zq.moved hvm h.1, vx_L.moved hvm h.2⟩
theorem vx_Zq.kept {C n d : String} {A : Nat → Prop} {U : State} {H H1 : Heap} (h : vx_Zq C n d A U H) (hq : ∀ a : Nat, a < H.size → ¬ A a → H1[a]? = H[a]?) : vx_Zq C n d A U H1 := ⟨va_Zq.kept h.1 hq, vx_L.kept h.2 hq⟩
theorem vx_Zq.narrow {C n d : String} {A B : Nat → Prop} {U : State} {H : Heap} (h : vx_Zq C n d A U H) (hAB : ∀ q, B q → A q) : vx_Zq C n d B U H := ⟨va_Zq.narrow h.1 hAB, vx_L.narrow h.2 hAB⟩
theorem vx_Zqof {args : Array Value} {s : State} {C n d : String} {A : Nat → Prop} (hl : (Cond.laysStatic C n d).before args s = true) (hini : (Cond.initialized C).before args s = true) (h : (Cond.isRef (.static C n d)).before args s = true) (hA : ∀ a : Nat, a < s.heap.size → ¬ A a) : vx_Zq C n d A s s.heap := by
  refine ⟨va_Zqof hl hini h hA, ?_⟩
  obtain ⟨c, k, i, f, a, cell, h1, h2, h3, h4, h5, h6, h7, h8, h9⟩ := Cond.laysStatic_spec hl
  exact ⟨c, k, i, f, a, cell, h1, h2, h3, h4, h5, h6, h7, h8, h9, hA a (Array.getElem?_eq_some_iff.mp h5).1⟩
theorem vx_isRef {C n d : String} {v : Value} {A : Nat → Prop} {s : State} {args : Array Value} (h : va_Z C n d v A s s.heap) (hv : v.isRef = true) : (Cond.isRef (.static C n d)).before args s = true := by
  obtain ⟨cf, kf, fi, f, a, cell, h1, h2, h3, h4, h5, h6, h7, -⟩ := h
  have he : (Term.static C n d).eval args s none [] s = some v := by
    simp [Term.eval, State.fieldNamed?, h1, h2, h4, h5, h6, h7]
  simp only [Cond.before, Cond.holds, Cond.value, he]
  cases v <;> simp_all [Value.isRef]
theorem vx_isRefq {C n d : String} {A : Nat → Prop} {s : State} {args : Array Value} (h : va_Zq C n d A s s.heap) : (Cond.isRef (.static C n d)).before args s = true := by
  rcases h with h | ⟨t, h⟩
  · exact vx_isRef h rfl
  · exact vx_isRef h rfl
/-- the same frame, seen from here: as if the method were called anew in this heap -/
theorem vx_rebase {T : State} (X : Stand p l e R s m args below meth c T locs cells slots) {R' : Room} (hf : R'.frames ≤ R.frames) (hl : R'.locals ≤ R.locals) (hc : cells + R'.cells ≤ R.cells) (hs : slots + R'.slots ≤ R.slots) :
    Stand p l e R' ((T.setVm s.vm).setFrames (.invoking m args :: below)) m args below meth c T [] 0 0 := by
  have htop : (T.setVm s.vm).topJava?.isSome := X.here.top
  have hF : ((T.setVm s.vm).setFrames (.invoking m args :: below)).frames = .invoking m args :: below := State.frames_setFrames _ (State.cur_lt_of_top htop)
  obtain ⟨g₀, hg0⟩ := Option.isSome_iff_exists.mp htop
  obtain ⟨r, hr⟩ := State.topJava?_eq_some.mp hg0
  have hl9 : e.platform.stackLimits (T.setVm s.vm).me = e.platform.stackLimits s.me := X.limits
  have hb9 : (T.setVm s.vm).me.stackBytes = s.me.stackBytes := X.bytes
  refine ⟨X.admits, X.cas, X.clock, hF, ?_, X.hears, X.method, X.code, X.here, X.tail, X.warmed, ?_, ?_, ?_⟩
  · have h := X.room
    have hU : ((T.setVm s.vm).setFrames (.invoking m args :: below)).localsInUse = s.localsInUse := by
      rw [State.localsInUse_invoking hF (meth := meth) (c := c) X.method X.code, State.localsInUse_invoking X.frames X.method X.code]
    simp only [State.hasRoom, Bool.and_eq_true, decide_eq_true_eq] at h ⊢
    obtain ⟨⟨⟨⟨h1, h2, h3, h4, h5, h6⟩, h7⟩, h8⟩, h9⟩ := h
    rw [X.frames, List.length_cons] at h2 h3
    have q1 := X.heapSize
    have q2 := X.used
    simp only [hF, hU, List.length_cons, State.stackLimits_setFrames, State.stackBytes_setFrames, hl9, hb9]
    refine ⟨⟨⟨⟨by omega, by omega, by omega, by omega, by omega, h6⟩, ?_⟩, ?_⟩, X.book⟩
    · show T.heap.size + R'.cells ≤ e.platform.maxCells
      omega
    · show T.slotsUsed + R'.slots ≤ e.platform.maxSlots
      omega
  · rw [State.stackLimits_setFrames]; rfl
  · rw [State.stackBytes_setFrames]; rfl
  · refine ⟨?_, Nat.le_refl _, Nat.le_refl _, ?_, ?_, fun a c9 h9 => ⟨c9, h9, rfl, rfl, fun _ _ => rfl⟩⟩
    · obtain ⟨t, ht, -⟩ := State.frames_cons hr
      show T.setVm s.vm = { ((T.setVm s.vm).setFrames (.invoking m args :: below)).setFrames (T.setVm s.vm).frames with heap := T.heap, slotsUsed := T.slotsUsed }
      rw [State.setFrames_setFrames, State.setFrames_self ht]
      rfl
    · show T.slotsUsed = T.slotsUsed + ((T.heap.toList.drop T.heap.size).map (·.slots.size)).sum
      rw [List.drop_eq_nil_of_le (Nat.le_of_eq Array.length_toList)]
      rfl
    · show ((T.heap.toList.drop T.heap.size).map (·.slots.size)).sum ≤ 0
      rw [List.drop_eq_nil_of_le (Nat.le_of_eq Array.length_toList)]
      exact Nat.le_refl _
/-- 'throw new E()': new; dup; invokespecial; athrow -/
theorem vx_throw0 {cc : ByteArray} {pc : Nat} (hexec : p.tables.exec = Jvm.exec) (hb : c.code = cc) (hl : l.stackTraces = false) {own cls : String} {names : List String} {ik ic mc ms : Nat} {A : Nat → Prop}
    (hown : s.vm.findClass own = some m.cls) (hcls : Bundle.fit cls = true) (hnames : ∀ n ∈ names, Bundle.fit n = true)
    (hk : (Cond.classLink own ik cls).before args s = true) (hini : (Cond.initialized cls).before args s = true) (hat : ∀ w ∈ vx_at0 own ic cls names, w.before args s = true)
    (hgood : ∀ w ∈ Cond.classLink own ik cls :: Cond.initialized cls :: vx_at0 own ic cls names, vx_ot w = true)
    (hU : vx_Zq Bundle.tN "UNASSIGNED_STACK" Bundle.steD A s s.heap) (hN : vx_Zq Bundle.tN "SUPPRESSED_SENTINEL" Bundle.listD A s s.heap) (hS : va_S A s.heap H locs) (hsize : ls.size = c.maxLocals)
    (d0 : decode cc pc = .ok (.new ik, 3)) (d3 : decode cc (pc + 3) = .ok (.dup, 1)) (d4 : decode cc (pc + 4) = .ok (.invokespecial ic, 3)) (d7 : decode cc (pc + 7) = .ok (.athrow, 1))
    (hout : ∀ x ∈ c.exceptionTable.toList, covers x (pc + 7) = false)
    (hRframes : names.length + 3 < R.frames) (hRlocals : (rest.map fun v => v.category).sum + (13 * (names.length + 1) + 42) ≤ R.locals) (hRcells : cells + 1 ≤ R.cells) (hRslots : slots + 6 ≤ R.slots) (hlocks : meth.locks = false)
    (hx : ∀ t : State, s.vm.Alike t.vm → H.size ≤ t.heap.size → (∀ q : Nat, q < H.size → t.heap[q]? = H[q]?) → XC cls s t)
    (hf : ∀ z ∈ locs, free z.base) (hc : cells + 1 ≤ mc) (hs : slots + 6 ≤ ms) :
    W p l e R s m args below meth c H locs cells slots (vx_MQ below Qc XC args s mc ms free) (F0 m pc ls rest) := by
  intro T hT X
  have htr : e.platform.stackTraces = false := (show e.platform.stackTraces = l.stackTraces by rw [X.admits.platform]).trans hl
  have Y := vx_rebase X (R' := { frames := R.frames, locals := R.locals, cells := 1, slots := 6 }) (Nat.le_refl _) (Nat.le_refl _) hRcells hRslots
  obtain ⟨s', hA⟩ : ∃ z, z = (T.setVm s.vm).setFrames (.invoking m args :: below) := ⟨_, rfl⟩
  rw [← hA] at Y
  have hvm : s'.vm = s.vm := by rw [hA]; rfl
  have hhp : s'.heap = H := by rw [hA]; exact hT
  have hW0 : s.WarmedH s'.vm := by rw [hvm]; exact State.WarmedH.refl s
  have hat' : ∀ w ∈ vx_at0 own ic cls names, w.before args s' = true := fun w hw => vx_ot_at hW0 hvm.symm (hgood w (List.mem_cons_of_mem _ (List.mem_cons_of_mem _ hw))) (hat w hw)
  have hk' : (Cond.classLink own ik cls).before args s' = true := vx_ot_at hW0 hvm.symm (hgood _ List.mem_cons_self) hk
  have hini' : (Cond.initialized cls).before args s' = true := vx_ot_at hW0 hvm.symm (hgood _ (List.mem_cons_of_mem _ List.mem_cons_self)) hini
  have hU' : vx_Zq Bundle.tN "UNASSIGNED_STACK" Bundle.steD A s' s'.heap := by rw [hhp]; exact vx_Zq.moved hW0.alike (hU.kept hS.2.1)
  have hN' : vx_Zq Bundle.tN "SUPPRESSED_SENTINEL" Bundle.listD A s' s'.heap := by rw [hhp]; exact vx_Zq.moved hW0.alike (hN.kept hS.2.1)
  have h : ∀ w ∈ Bundle.ownAtoms0 own ic cls names, w.before args s' = true := vx_own hat' (vx_isRefq hU'.1) (vx_isRefq hN'.1) hU'.2.word hN'.2.word
  have hown' : s'.vm.findClass own = some m.cls := by rw [hvm]; exact hown
  have hins : (Cond.instantiable cls 6).before args s' = true := h _ (by simp [Bundle.ownAtoms0])
  obtain ⟨vm₁, cX, kX, hfX, hkX, -, -, X₁, st1⟩ := Y.newCold hexec (own := own) (C := cls) (index := ik) (n := 6) hown' hk' hins hini'
    (g := F0 m pc ls rest) rfl (by rw [hb]; exact d0) (Nat.le_refl _) (Nat.le_refl _)
  generalize hT1 : (T.setVm vm₁).pushCell { cls := cX, slots := kX.instanceTypes.map defaultValue, vm := .none } = T1 at X₁ st1
  have hcat : (Value.ref T.heap.size).category = 1 := rfl
  have hcellA : T1.heap[T.heap.size]? = some (freshCell cX kX) := by rw [← hT1]; exact State.heap_pushCell_size _ _
  have d3' : decode c.code (pc + 3) = .ok (.dup, 1) := by rw [hb]; exact d3
  obtain ⟨U, hsteps, hrun, hend, hW, hsame, ce, hce, hO⟩ := X₁.ctorThrow0 hexec htr (own := own) (cls := cls) (names := names) (ic := ic) hown' hcls hnames h (fun x hx => nomatch hx) hfX hkX hcellA (by rw [hhp, hT]; exact Nat.le_refl _)
    (g := { method := m, pc := pc + 4, locals := ls, stack := .ref T.heap.size :: .ref T.heap.size :: rest, locked := none }) rfl hsize rfl rfl (rest := rest) rfl
    (by rw [hb]; exact d4) (by rw [hb]; exact d7) hout hRframes (by simp only [List.map_cons, List.sum_cons, hcat]; omega) hlocks
  obtain ⟨f1, f2⟩ := vx_frame hsame
  rw [hhp] at f1 f2
  have hWs : s.WarmedH U.vm := State.WarmedH.trans hW0 hW
  have hcl : s.vm.findClass cls = some ce.cls := by
    have h9 := hO.cls
    rw [hvm] at h9
    exact h9
  have hall : s.sameButNew ({ U with vm := s.vm } : State) locs mc ms := by
    subst hA
    obtain ⟨e1, e2⟩ := hsame
    rw [State.setFrames_setFrames] at e1
    have h2 : (T.setVm s.vm).sameButNew ({ U with vm := s.vm } : State) [] (0 + 1) (0 + 6) := ⟨e1, e2⟩
    have h3 := X.same.trans h2
    rw [List.append_nil] at h3
    exact h3.mono hc hs
  refine ⟨U, ?_, .threw T.heap.size, hrun, hend, Or.inr ⟨T.heap.size, rfl, cls, ce, locs, hx U hWs.alike f1 (fun q hq => f2 q hq (fun z hz => nomatch hz)), hce, hO.vm, hcl, hWs, hall, hf⟩⟩
  refine st1 _ ?_
  show Steps p.tables e below (T1.setTop { method := m, pc := pc + 3, locals := ls, stack := .ref T.heap.size :: rest, locked := none }) _
  jvm_step X₁.here [X₁.here.top, hexec, d3', Value.category]
  exact hsteps
/-- 'throw new E("text")': new; dup; ldc; invokespecial; athrow -/
theorem vx_throwS {cc : ByteArray} {pc : Nat} (hexec : p.tables.exec = Jvm.exec) (hb : c.code = cc) (hl : l.stackTraces = false) {own cls text : String} {names : List String} {ik is ic mc ms sa : Nat} {A : Nat → Prop}
    (hown : s.vm.findClass own = some m.cls) (hcls : Bundle.fit cls = true) (hnames : ∀ n ∈ names, Bundle.fit n = true)
    (hk : (Cond.classLink own ik cls).before args s = true) (hini : (Cond.initialized cls).before args s = true) (hstr : vk_R own is text sa s) (hat : ∀ w ∈ vx_atS own ic cls names, w.before args s = true)
    (hgood : ∀ w ∈ Cond.classLink own ik cls :: Cond.initialized cls :: vx_atS own ic cls names, vx_ot w = true)
    (hU : vx_Zq Bundle.tN "UNASSIGNED_STACK" Bundle.steD A s s.heap) (hN : vx_Zq Bundle.tN "SUPPRESSED_SENTINEL" Bundle.listD A s s.heap) (hS : va_S A s.heap H locs) (hsize : ls.size = c.maxLocals)
    (d0 : decode cc pc = .ok (.new ik, 3)) (d3 : decode cc (pc + 3) = .ok (.dup, 1)) (d4 : decode cc (pc + 4) = .ok (.ldc is, 2)) (d6 : decode cc (pc + 6) = .ok (.invokespecial ic, 3)) (d9 : decode cc (pc + 9) = .ok (.athrow, 1))
    (hout : ∀ x ∈ c.exceptionTable.toList, covers x (pc + 9) = false)
    (hRframes : names.length + 3 < R.frames) (hRlocals : (rest.map fun v => v.category).sum + (13 * (names.length + 1) + 43) ≤ R.locals) (hRcells : cells + 1 ≤ R.cells) (hRslots : slots + 6 ≤ R.slots) (hlocks : meth.locks = false)
    (hx : ∀ t : State, s.vm.Alike t.vm → H.size ≤ t.heap.size → (∀ q : Nat, q < H.size → t.heap[q]? = H[q]?) → XC cls s t)
    (hf : ∀ z ∈ locs, free z.base) (hc : cells + 1 ≤ mc) (hs : slots + 6 ≤ ms) :
    W p l e R s m args below meth c H locs cells slots (vx_MQ below Qc XC args s mc ms free) (F0 m pc ls rest) := by
  intro T hT X
  have htr : e.platform.stackTraces = false := (show e.platform.stackTraces = l.stackTraces by rw [X.admits.platform]).trans hl
  have Y := vx_rebase X (R' := { frames := R.frames, locals := R.locals, cells := 1, slots := 6 }) (Nat.le_refl _) (Nat.le_refl _) hRcells hRslots
  obtain ⟨s', hA⟩ : ∃ z, z = (T.setVm s.vm).setFrames (.invoking m args :: below) := ⟨_, rfl⟩
  rw [← hA] at Y
  have hvm : s'.vm = s.vm := by rw [hA]; rfl
  have hhp : s'.heap = H := by rw [hA]; exact hT
  have hW0 : s.WarmedH s'.vm := by rw [hvm]; exact State.WarmedH.refl s
  have hat' : ∀ w ∈ vx_atS own ic cls names, w.before args s' = true := fun w hw => vx_ot_at hW0 hvm.symm (hgood w (List.mem_cons_of_mem _ (List.mem_cons_of_mem _ hw))) (hat w hw)
  have hk' : (Cond.classLink own ik cls).before args s' = true := vx_ot_at hW0 hvm.symm (hgood _ List.mem_cons_self) hk
  have hini' : (Cond.initialized cls).before args s' = true := vx_ot_at hW0 hvm.symm (hgood _ (List.mem_cons_of_mem _ List.mem_cons_self)) hini
  have hU' : vx_Zq Bundle.tN "UNASSIGNED_STACK" Bundle.steD A s' s'.heap := by rw [hhp]; exact vx_Zq.moved hW0.alike (hU.kept hS.2.1)
  have hN' : vx_Zq Bundle.tN "SUPPRESSED_SENTINEL" Bundle.listD A s' s'.heap := by rw [hhp]; exact vx_Zq.moved hW0.alike (hN.kept hS.2.1)
  have h : ∀ w ∈ Bundle.ownAtoms own ic cls names, w.before args s' = true := vx_own hat' (vx_isRefq hU'.1) (vx_isRefq hN'.1) hU'.2.word hN'.2.word
  have hown' : s'.vm.findClass own = some m.cls := by rw [hvm]; exact hown
  have hins : (Cond.instantiable cls 6).before args s' = true := h _ (by simp [Bundle.ownAtoms])
  obtain ⟨vm₁, cX, kX, hfX, hkX, -, -, X₁, st1⟩ := Y.newCold hexec (own := own) (C := cls) (index := ik) (n := 6) hown' hk' hins hini'
    (g := F0 m pc ls rest) rfl (by rw [hb]; exact d0) (Nat.le_refl _) (Nat.le_refl _)
  generalize hT1 : (T.setVm vm₁).pushCell { cls := cX, slots := kX.instanceTypes.map defaultValue, vm := .none } = T1 at X₁ st1
  have hcat : (Value.ref T.heap.size).category = 1 := rfl
  have hcellA : T1.heap[T.heap.size]? = some (freshCell cX kX) := by rw [← hT1]; exact State.heap_pushCell_size _ _
  have d3' : decode c.code (pc + 3) = .ok (.dup, 1) := by rw [hb]; exact d3
  have d4' : decode c.code (pc + 4) = .ok (.ldc is, 2) := by rw [hb]; exact d4
  have hstr' : vk_R own is text sa s' := vk_R.warm hW0 hstr
  obtain ⟨U, hsteps, hrun, hend, hW, hsame, ce, hce, hO⟩ := X₁.ctorThrowS hexec htr (own := own) (cls := cls) (names := names) (ic := ic) hown' hcls hnames h (fun x hx => nomatch hx) hfX hkX hcellA (by rw [hhp, hT]; exact Nat.le_refl _) (msg := .ref sa) rfl
    (g := { method := m, pc := pc + 6, locals := ls, stack := .ref sa :: .ref T.heap.size :: .ref T.heap.size :: rest, locked := none }) rfl hsize rfl rfl (rest := rest) rfl
    (by rw [hb]; exact d6) (by rw [hb]; exact d9) hout hRframes (by simp only [List.map_cons, List.sum_cons, hcat]; omega) hlocks
  obtain ⟨f1, f2⟩ := vx_frame hsame
  rw [hhp] at f1 f2
  have hWs : s.WarmedH U.vm := State.WarmedH.trans hW0 hW
  have hcl : s.vm.findClass cls = some ce.cls := by
    have h9 := hO.cls
    rw [hvm] at h9
    exact h9
  have hall : s.sameButNew ({ U with vm := s.vm } : State) locs mc ms := by
    subst hA
    obtain ⟨e1, e2⟩ := hsame
    rw [State.setFrames_setFrames] at e1
    have h2 : (T.setVm s.vm).sameButNew ({ U with vm := s.vm } : State) [] (0 + 1) (0 + 6) := ⟨e1, e2⟩
    have h3 := X.same.trans h2
    rw [List.append_nil] at h3
    exact h3.mono hc hs
  refine ⟨U, ?_, .threw T.heap.size, hrun, hend, Or.inr ⟨T.heap.size, rfl, cls, ce, locs, hx U hWs.alike f1 (fun q hq => f2 q hq (fun z hz => nomatch hz)), hce, hO.vm, hcl, hWs, hall, hf⟩⟩
  refine st1 _ ?_
  show Steps p.tables e below (T1.setTop { method := m, pc := pc + 3, locals := ls, stack := .ref T.heap.size :: rest, locked := none }) _
  jvm_step X₁.here [X₁.here.top, hexec, d3', Value.category]
  exact X₁.ldcString hexec (own := own) (text := text) (index := is) (a := sa) hown' hstr'.1 hstr'.2
    (g := { method := m, pc := pc + 4, locals := ls, stack := .ref T.heap.size :: .ref T.heap.size :: rest, locked := none }) rfl d4' _ hsteps
/-- 'throw new E("text")', the text by a wide index -/
theorem vx_throwSW {cc : ByteArray} {pc : Nat} (hexec : p.tables.exec = Jvm.exec) (hb : c.code = cc) (hl : l.stackTraces = false) {own cls text : String} {names : List String} {ik is ic mc ms sa : Nat} {A : Nat → Prop}
    (hown : s.vm.findClass own = some m.cls) (hcls : Bundle.fit cls = true) (hnames : ∀ n ∈ names, Bundle.fit n = true)
    (hk : (Cond.classLink own ik cls).before args s = true) (hini : (Cond.initialized cls).before args s = true) (hstr : vk_R own is text sa s) (hat : ∀ w ∈ vx_atS own ic cls names, w.before args s = true)
    (hgood : ∀ w ∈ Cond.classLink own ik cls :: Cond.initialized cls :: vx_atS own ic cls names, vx_ot w = true)
    (hU : vx_Zq Bundle.tN "UNASSIGNED_STACK" Bundle.steD A s s.heap) (hN : vx_Zq Bundle.tN "SUPPRESSED_SENTINEL" Bundle.listD A s s.heap) (hS : va_S A s.heap H locs) (hsize : ls.size = c.maxLocals)
    (d0 : decode cc pc = .ok (.new ik, 3)) (d3 : decode cc (pc + 3) = .ok (.dup, 1)) (d4 : decode cc (pc + 4) = .ok (.ldc_w is, 3)) (d7 : decode cc (pc + 7) = .ok (.invokespecial ic, 3)) (d10 : decode cc (pc + 10) = .ok (.athrow, 1))
    (hout : ∀ x ∈ c.exceptionTable.toList, covers x (pc + 10) = false)
    (hRframes : names.length + 3 < R.frames) (hRlocals : (rest.map fun v => v.category).sum + (13 * (names.length + 1) + 43) ≤ R.locals) (hRcells : cells + 1 ≤ R.cells) (hRslots : slots + 6 ≤ R.slots) (hlocks : meth.locks = false)
    (hx : ∀ t : State, s.vm.Alike t.vm → H.size ≤ t.heap.size → (∀ q : Nat, q < H.size → t.heap[q]? = H[q]?) → XC cls s t)
    (hf : ∀ z ∈ locs, free z.base) (hc : cells + 1 ≤ mc) (hs : slots + 6 ≤ ms) :
    W p l e R s m args below meth c H locs cells slots (vx_MQ below Qc XC args s mc ms free) (F0 m pc ls rest) := by
  intro T hT X
  have htr : e.platform.stackTraces = false := (show e.platform.stackTraces = l.stackTraces by rw [X.admits.platform]).trans hl
  have Y := vx_rebase X (R' := { frames := R.frames, locals := R.locals, cells := 1, slots := 6 }) (Nat.le_refl _) (Nat.le_refl _) hRcells hRslots
  obtain ⟨s', hA⟩ : ∃ z, z = (T.setVm s.vm).setFrames (.invoking m args :: below) := ⟨_, rfl⟩
  rw [← hA] at Y
  have hvm : s'.vm = s.vm := by rw [hA]; rfl
  have hhp : s'.heap = H := by rw [hA]; exact hT
  have hW0 : s.WarmedH s'.vm := by rw [hvm]; exact State.WarmedH.refl s
  have hat' : ∀ w ∈ vx_atS own ic cls names, w.before args s' = true := fun w hw => vx_ot_at hW0 hvm.symm (hgood w (List.mem_cons_of_mem _ (List.mem_cons_of_mem _ hw))) (hat w hw)
  have hk' : (Cond.classLink own ik cls).before args s' = true := vx_ot_at hW0 hvm.symm (hgood _ List.mem_cons_self) hk
  have hini' : (Cond.initialized cls).before args s' = true := vx_ot_at hW0 hvm.symm (hgood _ (List.mem_cons_of_mem _ List.mem_cons_self)) hini
  have hU' : vx_Zq Bundle.tN "UNASSIGNED_STACK" Bundle.steD A s' s'.heap := by rw [hhp]; exact vx_Zq.moved hW0.alike (hU.kept hS.2.1)
  have hN' : vx_Zq Bundle.tN "SUPPRESSED_SENTINEL" Bundle.listD A s' s'.heap := by rw [hhp]; exact vx_Zq.moved hW0.alike (hN.kept hS.2.1)
  have h : ∀ w ∈ Bundle.ownAtoms own ic cls names, w.before args s' = true := vx_own hat' (vx_isRefq hU'.1) (vx_isRefq hN'.1) hU'.2.word hN'.2.word
  have hown' : s'.vm.findClass own = some m.cls := by rw [hvm]; exact hown
  have hins : (Cond.instantiable cls 6).before args s' = true := h _ (by simp [Bundle.ownAtoms])
  obtain ⟨vm₁, cX, kX, hfX, hkX, -, -, X₁, st1⟩ := Y.newCold hexec (own := own) (C := cls) (index := ik) (n := 6) hown' hk' hins hini'
    (g := F0 m pc ls rest) rfl (by rw [hb]; exact d0) (Nat.le_refl _) (Nat.le_refl _)
  generalize hT1 : (T.setVm vm₁).pushCell { cls := cX, slots := kX.instanceTypes.map defaultValue, vm := .none } = T1 at X₁ st1
  have hcat : (Value.ref T.heap.size).category = 1 := rfl
  have hcellA : T1.heap[T.heap.size]? = some (freshCell cX kX) := by rw [← hT1]; exact State.heap_pushCell_size _ _
  have d3' : decode c.code (pc + 3) = .ok (.dup, 1) := by rw [hb]; exact d3
  have d4' : decode c.code (pc + 4) = .ok (.ldc_w is, 3) := by rw [hb]; exact d4
  have hstr' : vk_R own is text sa s' := vk_R.warm hW0 hstr
  obtain ⟨U, hsteps, hrun, hend, hW, hsame, ce, hce, hO⟩ := X₁.ctorThrowS hexec htr (own := own) (cls := cls) (names := names) (ic := ic) hown' hcls hnames h (fun x hx => nomatch hx) hfX hkX hcellA (by rw [hhp, hT]; exact Nat.le_refl _) (msg := .ref sa) rfl
    (g := { method := m, pc := pc + 7, locals := ls, stack := .ref sa :: .ref T.heap.size :: .ref T.heap.size :: rest, locked := none }) rfl hsize rfl rfl (rest := rest) rfl
    (by rw [hb]; exact d7) (by rw [hb]; exact d10) hout hRframes (by simp only [List.map_cons, List.sum_cons, hcat]; omega) hlocks
  obtain ⟨f1, f2⟩ := vx_frame hsame
  rw [hhp] at f1 f2
  have hWs : s.WarmedH U.vm := State.WarmedH.trans hW0 hW
  have hcl : s.vm.findClass cls = some ce.cls := by
    have h9 := hO.cls
    rw [hvm] at h9
    exact h9
  have hall : s.sameButNew ({ U with vm := s.vm } : State) locs mc ms := by
    subst hA
    obtain ⟨e1, e2⟩ := hsame
    rw [State.setFrames_setFrames] at e1
    have h2 : (T.setVm s.vm).sameButNew ({ U with vm := s.vm } : State) [] (0 + 1) (0 + 6) := ⟨e1, e2⟩
    have h3 := X.same.trans h2
    rw [List.append_nil] at h3
    exact h3.mono hc hs
  refine ⟨U, ?_, .threw T.heap.size, hrun, hend, Or.inr ⟨T.heap.size, rfl, cls, ce, locs, hx U hWs.alike f1 (fun q hq => f2 q hq (fun z hz => nomatch hz)), hce, hO.vm, hcl, hWs, hall, hf⟩⟩
  refine st1 _ ?_
  show Steps p.tables e below (T1.setTop { method := m, pc := pc + 3, locals := ls, stack := .ref T.heap.size :: rest, locked := none }) _
  jvm_step X₁.here [X₁.here.top, hexec, d3', Value.category]
  exact X₁.ldcStringW hexec (own := own) (text := text) (index := is) (a := sa) hown' hstr'.1 hstr'.2
    (g := { method := m, pc := pc + 4, locals := ls, stack := .ref T.heap.size :: .ref T.heap.size :: rest, locked := none }) rfl d4' _ hsteps
end Ends
section Bodies
variable {l : Launch}
theorem vx_ofW {y : MethodName} {ws ws' : List Cond} {rm : Room} {Pc : Array Value → State → Prop} {Qc : Array Value → State → Outcome → State → Prop} {XC : String → State → State → Prop} {mc ms : Nat} {free : Addr → Prop} {cc : ByteArray} {maxL : Nat} {ret : Option FieldType}
    (hy : plainName y.cls = true) (hw : ws = Cond.code y cc maxL ret :: ws')
    (body : ∀ p e s m args below meth c s₁, BodyLoose p l y (headSpec ws rm) cc maxL ret e s m args below meth c s₁ → c.maxLocals = maxL → (∀ x ∈ c.exceptionTable.toList, False) → Pc args s →
      W p l e (headSpec ws rm).room s m args below meth c s.heap [] 0 0 (vx_MQ below Qc XC args s mc ms free) (entryFrame m args maxL)) : vx_Met l y ws rm Pc Qc XC mc ms free := by
  refine MetFree.of_bodyS (code := cc) (maxLocals := maxL) (ret := ret) hy ?_ ?_
  · intro args s m h hn
    obtain ⟨meth, c, h1, h2, h3, h4, h5, h6, -, -⟩ := Cond.code_spec hn (atoms_spec (ws := ws) h _ (by rw [hw]; exact List.mem_cons_self))
    exact ⟨meth, c, h1, h2, h3, h4, h5, h6⟩
  · intro p e s m args below meth c s₁ B hml hP _
    have hh0 : s₁.heap = s.heap := by rw [B.state]; rfl
    have ht : ∀ x ∈ c.exceptionTable.toList, False := by
      obtain ⟨meth9, c9, h1, h2, -, -, -, -, h7, -⟩ := Cond.code_spec B.named (atoms_spec (ws := ws) B.pre _ (by rw [hw]; exact List.mem_cons_self))
      cases Option.some.inj (h1.symm.trans B.method)
      cases Option.some.inj (h2.symm.trans (Stand.of_body B).code)
      intro x hx
      rw [Array.isEmpty_iff.mp h7] at hx
      cases hx
    obtain ⟨t, a1, o, b1, b2, b3⟩ := body p e s m args below meth c s₁ B hml ht hP s₁ hh0 (Stand.of_body B)
    exact ⟨t, o, a1, b1, b2, b3⟩
/-- the table of a body with handlers -/
theorem vx_table {p : Program} {x y : MethodName} {S : Spec} {cc bytes : ByteArray} {maxL maxL' : Nat} {ret ret' : Option FieldType} {e : Env} {s s₁ : State} {m : MethodId} {args : Array Value} {below : List Frame} {meth : Method} {c : Code} {hh : List (Nat × Nat × Nat × Nat)}
    (B : BodyLoose p l y S cc maxL ret e s m args below meth c s₁) (h : (Cond.codeWith y bytes maxL' ret' hh).before args s = true) : c.exceptionTable.toList = tableOf hh := by
  obtain ⟨m9, meth9, c9, hn9, h1, h2, -, -, h6, -⟩ := Cond.codeWith_spec h
  cases Option.some.inj (hn9.symm.trans B.named)
  cases Option.some.inj (h1.symm.trans B.method)
  cases Option.some.inj (h2.symm.trans (Stand.of_body B).code)
  rw [← h6, table_eq]
end Bodies
end VXA
/-! ===== END ===== -/
/-! ===== BEGIN a static call of a method with an exception table ===== -/
section VXS
variable {p : Program} {l : Launch} {e : Env} {R : Room} {s : State} {m : MethodId} {args : Array Value} {below : List Frame} {meth : Method} {c : Code} {T : State} {H : Heap} {locs : List Loc} {cells slots : Nat}
abbrev vx_CSW (R : Room) (s : State) (args : Array Value) (own : String) (index : Nat) (y : MethodName) (bytes : ByteArray) (maxL : Nat) (ret : Option FieldType) (hh : List (Nat × Nat × Nat × Nat)) (ws : List Cond) (rm : Room) (mc ms n : Nat) : Prop :=
  (rm.cells = mc ∧ rm.slots = ms ∧ rm.frames + 1 ≤ R.frames ∧ 8 + (maxL + 11) + rm.locals ≤ R.locals ∧ (∀ w ∈ ws, ∀ (a' : Array Value) (U : State), s.WarmedH U.vm → w.before a' U = true) ∧ Cond.codeWith y bytes maxL ret hh ∈ ws) ∧
  (Cond.codeWith y bytes maxL ret hh).before args s = true ∧ (Cond.initialized y.cls).before args s = true ∧ (y.cls ≠ "java/lang/invoke/MethodHandle" ∧ y.cls ≠ "java/lang/invoke/VarHandle") ∧
  (∀ sig, parseMethodDescriptor y.desc = some sig → n = sig.parameters.length) ∧ (Cond.methodLink own index y).before args s = true ∧ (Cond.static y).before args s = true
theorem vx_cwSW {own : String} {index maxL mc ms : Nat} {y : MethodName} {bytes : ByteArray} {ret : Option FieldType} {hh : List (Nat × Nat × Nat × Nat)} {Ts ws ws' : List Cond} {rm : Room} (n : Nat) (ht : ∀ w ∈ Ts, w.before args s = true) (hT : GoodIn Ts (va_wsS own index y ws)) (hw : ws = Cond.codeWith y bytes maxL ret hh :: ws') (hrc : rm.cells = mc) (hrs : rm.slots = ms)
    (hd : y.cls ≠ "java/lang/invoke/MethodHandle" ∧ y.cls ≠ "java/lang/invoke/VarHandle" ∧ (parseMethodDescriptor y.desc).map (fun d => d.parameters.length) = some n) (hR : rm.frames + 1 ≤ R.frames ∧ 8 + (maxL + 11) + rm.locals ≤ R.locals) :
    vx_CSW R s args own index y bytes maxL ret hh ws rm mc ms n := by
  have ok : ∀ w ∈ va_wsS own index y ws, w.before args s = true := fun w h => ht w (hT w h).1
  have hG : GoodIn Ts ws := fun w h => hT w (by unfold va_wsS; exact List.mem_append_right _ h)
  have hc : Cond.codeWith y bytes maxL ret hh ∈ ws := by rw [hw]; exact List.mem_cons_self
  refine ⟨⟨hrc, hrs, hR.1, hR.2, pay_in ht hG, hc⟩, ht _ (hG _ hc).1, ok _ (by simp [va_wsS]), ⟨hd.1, hd.2.1⟩, fun sig h => ?_, ok _ (by simp [va_wsS]), ok _ (by simp [va_wsS])⟩
  have h2 := hd.2.2
  rw [h] at h2
  exact (Option.some.inj h2).symm
theorem vx_callSW (X : Stand p l e R s m args below meth c T locs cells slots) (hexec : p.tables.exec = Jvm.exec) {own : String} {index : Nat} {y : MethodName} {bytes : ByteArray} {maxL : Nat} {ret : Option FieldType} {hh : List (Nat × Nat × Nat × Nat)}
    (hown : s.vm.findClass own = some m.cls) (hlink : (Cond.methodLink own index y).before args s = true) (hstat : (Cond.static y).before args s = true) (hinit : (Cond.initialized y.cls).before args s = true)
    (hcode : (Cond.codeWith y bytes maxL ret hh).before args s = true) (hy : y.cls ≠ "java/lang/invoke/MethodHandle" ∧ y.cls ≠ "java/lang/invoke/VarHandle")
    {W9 : Nat} {Pre : Pt → Array Value → Prop} {Post : Pt → Array Value → Option Value → Pt → Prop} (hK : Back l R p e below s args y 3 W9 Pre Post)
    {g : JFrame} (hg : g.method = m) (hsize : g.locals.size = c.maxLocals) {argsL rest : List Value} (hlen : ∀ sig, parseMethodDescriptor y.desc = some sig → argsL.length = sig.parameters.length)
    (hstack : g.stack = argsL.reverse ++ rest) (hW : 2 * g.monitorRoom + (rest.map fun v => v.category).sum ≤ W9) (hdg : decode c.code g.pc = .ok (.invokestatic index, 3))
    (hpre : ∀ vm₁, s.WarmedH vm₁ → Pre ⟨T.setVm vm₁, locs, cells, slots⟩ argsL.toArray) :
    ∃ (v : Option Value) (vm₁ : Vm) (B : Pt), s.WarmedH vm₁ ∧ Stand p l e R s m args below meth c B.U B.locs B.cells B.slots ∧ Post ⟨T.setVm vm₁, locs, cells, slots⟩ argsL.toArray v B ∧
      ∀ target, Steps p.tables e below (B.U.setTop { g with pc := g.pc + 3, stack := v.toList ++ rest }) target → Steps p.tables e below (T.setTop g) target := by
  obtain ⟨mk, methM, cM, hnamed, hmethM, -, -, -, -, -, -, hsigM⟩ := Cond.codeWith_spec hcode
  have hstatic : methM.isStatic = true := Cond.static_spec hnamed hmethM hstat
  obtain ⟨kP, hkP, -⟩ := className_of_methodNamed hnamed
  have hinitP : kP.init = .initialized := Cond.initialized_spec (findClass_of_methodNamed hnamed) hkP hinit
  obtain ⟨vm₁, X₁, hstep₁⟩ := X.invokestatic hexec hown hlink hnamed hmethM hstatic hkP hinitP hy (g := g) hg (argsL := argsL) (rest := rest) (hlen _ hsigM) hstack hdg
  obtain ⟨v, B, X', hpost, hsteps⟩ := hK m meth c ⟨T.setVm vm₁, locs, cells, slots⟩ { g with stack := rest } (.invokestatic index) mk argsL.toArray X₁ hg hsize hdg hW (X₁.named hnamed) (hpre vm₁ X₁.warmed)
  exact ⟨v, vm₁, B, X₁.warmed, X', hpost, fun target h => hstep₁ _ fun acts => by rw [doInvoke_state]; exact hsteps.trans h⟩
theorem vx_runSW {y : MethodName} {bytes cc : ByteArray} {maxL nL mc ms n index : Nat} {ret : Option FieldType} {hh : List (Nat × Nat × Nat × Nat)} {ws : List Cond} {rm : Room} {Pc : Array Value → State → Prop} {Qc : Array Value → State → Outcome → State → Prop} {free : Addr → Prop} {Ts : List Cond} {own : String} {As rest : List Value} {g : JFrame}
    (S : CallFix p m c cc nL s args Ts own) (hM : Met l y ws rm Pc Qc mc ms free) (cw : vx_CSW R s args own index y bytes maxL ret hh ws rm mc ms n) (hp : PreS s H Pc As)
    (hg : g.method = m) (hn : As.length = n) (hsize : g.locals.size = nL) (hstack : g.stack = As.reverse ++ rest) (hW : 2 * g.monitorRoom + (rest.map fun v => v.category).sum ≤ 8) (hdg : decode cc g.pc = .ok (.invokestatic index, 3)) (hf : cells + mc ≤ R.cells ∧ slots + ms ≤ R.slots) :
    va_Run p l e R s m args below meth c H locs cells slots mc ms g rest (Qc As.toArray) (free) := by
  obtain ⟨⟨hrc, hrs, hfr, hlo, hws, hcw⟩, hcode, hini, hy, hlen, hl, hstt⟩ := cw
  have hK : Back l R p e below s args y 3 8 (PreOf R mc ms Pc) (PostOf Qc mc ms free) := va_backW (hh := hh) (bytes := bytes) (maxL := maxL) (ret := ret) hM hp.1 hrc hrs hfr hlo hws hcw (fun a' U hW => word_at hW (Or.inl (by first | rfl | simp [Cond.onTables, Cond.keeps, Cond.steady])) hini)
  obtain ⟨hx, hb, hml, ho, -⟩ := S
  intro T hT X
  obtain ⟨v, vm₁, ⟨U', l2, c2, s2⟩, hW₁, X', ⟨g', mk, t, L, e1, e2, hq, h1, hL, h2, h3⟩, st⟩ := vx_callSW X hx (hh := hh) (bytes := bytes) (maxL := maxL) (ret := ret) ho hl hstt hini hcode hy hK hg (hsize.trans hml.symm) (argsL := As) (rest := rest) (fun sig h => hn.trans (hlen sig h)) hstack hW (by rw [hb]; exact hdg)
    (fun vm₁ hW₁ => ⟨hf.1, hf.2, hp.2 (T.setVm vm₁) hT hW₁⟩)
  dsimp only [Pt.U, Pt.locs, Pt.cells, Pt.slots] at X' e1 e2 h1 h2 h3 st
  subst h1; subst h2; subst h3
  exact ⟨v, (T.setVm vm₁).calling g' mk As.toArray, t, U', L, hT, X', hL, e1, e2, hq, st⟩
/-- not caught here, past rows that name other classes: it goes on to the caller -/
theorem vx_outP {p : Program} {l : Launch} {e : Env} {R : Room} {s : State} {m : MethodId} {args : Array Value} {below : List Frame} {meth : Method} {c : Code} {H : Heap} {locs : List Loc} {cells slots : Nat} {free : Addr → Prop} {ls : Array Slot} {rest : List Value} {Qc : Array Value → State → Outcome → State → Prop} {XC : String → State → State → Prop}
    {pc : Nat} {own E : String} {ce : Cell} {q : Addr} {mc ms : Nat} (hown : s.vm.findClass own = some m.cls) (hlocks : meth.locks = false)
    (hpass : ∀ z ∈ c.exceptionTable.toList, covers z pc = false ∨ (z.catchType ≠ 0 ∧ ∃ nm : String, (Cond.classLink own z.catchType nm).before args s = true ∧ va_Nc E nm s)) (hcell : H[q]? = some ce) (hv : ce.vm = .none) (hcl : s.vm.findClass E = some ce.cls)
    (hx : ∀ t : State, t.heap = H → s.vm.Alike t.vm → XC E s t) (hf : ∀ z ∈ locs, free z.base) (hc : cells ≤ mc) (hs : slots ≤ ms) :
    vx_W p l e R s m args below meth c H locs cells slots (vx_MQ below Qc XC args s mc ms free) (F0 m pc ls rest) q := by
  intro T hT X
  have hpl : e.platform.magicAccessors = ({} : Platform).magicAccessors := by rw [X.admits.platform]
  obtain ⟨vm', hW', X', st⟩ := Jvm.Stand.outThrough X hlocks q (g := F0 m pc ls rest) rfl rfl rfl (cell := ce) (by rw [hT]; exact hcell) (by rw [hv]; rfl)
    (by obtain ⟨k9, h9, -⟩ := Vm.findClass_spec hcl; exact ⟨k9, h9⟩) (fun z hz => by
      rcases hpass z hz with h | ⟨hz0, nm, hl1, hn1⟩
      · exact Or.inl h
      · obtain ⟨c6, hc6, hcl6⟩ := Cond.classLink_spec hown hl1 e.platform hpl
        obtain ⟨a8, b8, h1, h2, h3⟩ := hn1
        cases Option.some.inj (h1.symm.trans hcl)
        cases Option.some.inj (h2.symm.trans hc6)
        exact Or.inr ⟨hz0, _, hcl6, h3⟩)
  obtain ⟨g₀, hfr⟩ := X'.frames_eq
  have hcell9 : ((T.setVm vm').setFrames (.throwing q :: below)).heap[q]? = some ce := by
    show T.heap[q]? = some ce
    rw [hT]; exact hcell
  have hend : Ended ((T.setVm vm').setFrames (.throwing q :: below)) below (.threw q) := State.frames_setFrames _ (State.cur_lt_of_frames hfr)
  refine ⟨(T.setVm vm').setFrames (.throwing q :: below), ?_, .threw q, X'.here.running, hend, Or.inr ⟨q, rfl, E, ce, locs, hx _ hT (X'.ends _).1.alike, hcell9, hv, hcl, (X'.ends _).1, (X'.ends _).2.mono hc hs, hf⟩⟩
  rw [X.pushThrowing_eq]
  exact st
/-- a thing of a world lies in the heap -/
theorem vx_lt {D : va_G} {cl : List vw_C} {ws : va_W} {H1 : Heap} (h : va_P D cl ws H1) {k : Nat} {q : Nat × va_E} (hk : ws[k]? = some q) : q.1 < H1.size := (h k q hk).lt
end VXS
/-! ===== END ===== -/
/-! ===== BEGIN methods with a table of their own: called by a name, returning or throwing ===== -/
section VXH
/-! vx_backW, vx_callVX, vx_callSX, vx_callVW, vx_runVW, vx_runVX, vx_runSX, vx_ofWH follow the same proofs as their sisters above (Free/Laws.lean, Shelf42/LK1.lean); vx_outP calls Shelf42/NT130.lean (outThrough). -/
section
variable {l : Launch} {R : Room} {p : Program} {e : Env} {below : List Frame} {s : State} {sargs : Array Value} {y : MethodName} {len W9 : Nat}
theorem vx_backW {ws : List Cond} {rm : Room} {Pc : Array Value → State → Prop} {Qc : Array Value → State → Outcome → State → Prop} {XC : String → State → State → Prop} {mc ms : Nat} {free : Addr → Prop} {bytes : ByteArray} {maxL : Nat} {ret : Option FieldType} {hh : List (Nat × Nat × Nat × Nat)}
    (hM : vx_Met l y ws rm Pc Qc XC mc ms free) (hblind : FrameBlind Pc) (hrc : rm.cells = mc) (hrs : rm.slots = ms)
    (hframes : rm.frames + 1 ≤ R.frames) (hlocals : W9 + (maxL + 11) + rm.locals ≤ R.locals)
    (hws : ∀ w ∈ ws, ∀ a' U, s.WarmedH U.vm → w.before a' U = true) (hcode : Cond.codeWith y bytes maxL ret hh ∈ ws) (hinit : ∀ a' U, s.WarmedH U.vm → (Cond.initialized y.cls).before a' U = true) :
    vx_Back l R p e below s sargs y len W9 (PreOf R mc ms Pc) (PostOf Qc mc ms free) (vx_Post XC mc ms free) := by
  intro m meth c A g ig mk a X hg hsize hdg hW hn hp
  have h1 : (headSpec ws rm).pre.before a A.U = true := atoms_intro fun w hw => hws w hw _ _ X.warmed
  have h2 : (Cond.codeWith y bytes maxL ret hh).before a A.U = true := hws _ hcode _ _ X.warmed
  have h3 : (Cond.initialized y.cls).before a A.U = true := hinit _ _ X.warmed
  have h4 : A.cells + (headSpec ws rm).room.cells ≤ R.cells := by rw [show (headSpec ws rm).room.cells = mc from hrc]; exact hp.1
  have h5 : A.slots + (headSpec ws rm).room.slots ≤ R.slots := by rw [show (headSpec ws rm).room.slots = ms from hrs]; exact hp.2.1
  have hPc : Pc a (A.U.calling g mk a) := hblind _ _ _ _ hp.2.2
  obtain ⟨U, Ls, c0, s0⟩ := A
  dsimp only [Pt.U, Pt.locs, Pt.cells, Pt.slots] at h1 h2 h3 h4 h5 X hn hPc ⊢
  obtain ⟨m9, methY, cY, hn9, hmY, hcY, -, hlY, -⟩ := Cond.codeWith_spec h2
  cases Option.some.inj (hn9.symm.trans hn)
  obtain ⟨kY, hkY, -⟩ := className_of_methodNamed hn
  have hinitY : kY.init = .initialized := Cond.initialized_spec (findClass_of_methodNamed hn) hkY h3
  have h : At U g.method c below := by rw [hg]; exact X.here
  have hlocals9 : W9 + (maxL + 11) + (headSpec ws rm).room.locals ≤ R.locals := hlocals
  have happ : (headSpec ws rm).appliesLoose y e.platform (U.calling g mk a) = true :=
    Spec.appliesLoose_calling (g := g) h hdg hn hkY hinitY
      (X.room_calling (g := g) (R' := (headSpec ws rm).room) hsize hmY hcY hframes (by rw [hlY]; omega) h4 h5) h1
  obtain ⟨mid, hmid⟩ := h.above
  have hfr : (U.setTop g).frames = (.java g :: mid) ++ below := by rw [State.frames_setTop' g h.top, hmid]; rfl
  obtain ⟨o, s₂, hsteps, -, hend, hq⟩ := Steps.callFree hM p X.admits X.cas X.clock (acts := []) hfr happ hPc trivial
  have hq' : vx_Q Qc XC mc ms free a (U.calling g mk a) o s₂ := hq
  rw [State.frames_setTop' g h.top] at hend
  obtain ⟨g₀, hg0⟩ := Option.isSome_iff_exists.mp h.top
  obtain ⟨r, hr⟩ := State.topJava?_eq_some.mp hg0
  have hr' : (({ U with heap := s₂.heap, slotsUsed := s₂.slotsUsed } : State).setVm s₂.vm).frames = .java g₀ :: r := hr
  rcases hq' with ⟨hqc, L, hfe, hL⟩ | ⟨q, rfl, E, ce, L, hx, hce, hcv, hcl, hW₂, hsm, hL⟩
  · obtain ⟨⟨v, rfl⟩, hW₂, e2, q2, q3, q4, q5, q6⟩ := id hfe
    have e3 : s₂ = ({ (U.calling g mk a).setFrames s₂.frames with heap := s₂.heap, slotsUsed := s₂.slotsUsed } : State).setVm s₂.vm := by
      have : s₂ = ({ s₂ with vm := (U.calling g mk a).vm } : State).setVm s₂.vm := rfl
      rw [e2] at this
      exact this
    obtain ⟨c₂, i₂, len₂, hc₂, hd₂, hf₂⟩ := hend
    have hW' : U.WarmedH s₂.vm := hW₂
    have hcc : c₂ = c := by
      have h1 : s₂.code? g.method = U.code? g.method := by
        rw [State.code?_eq, State.code?_eq, hW'.alike.method?]
      exact Option.some.inj (hc₂.symm.trans (h1.trans h.code))
    subst hcc
    have hlen : len₂ = len := by rw [hdg] at hd₂; cases hd₂; rfl
    subst hlen
    have hs₂ : s₂ = (({ U with heap := s₂.heap, slotsUsed := s₂.slotsUsed } : State).setVm s₂.vm).setTop { g with pc := g.pc + len₂, stack := v.toList ++ g.stack } := by
      refine e3.trans ?_
      rw [hf₂, State.calling_eq h.top, State.setFrames_setFrames, State.setTop_of_frames _ hr', hr]
      rfl
    have hsame : U.sameButNew ({ U with heap := s₂.heap, slotsUsed := s₂.slotsUsed } : State) L mc ms := by
      refine ⟨?_, q2, q3, q4, q5, q6⟩
      obtain ⟨t, ht, -⟩ := State.frames_cons hr
      show ({ U with heap := s₂.heap, slotsUsed := s₂.slotsUsed } : State) = { U.setFrames U.frames with heap := s₂.heap, slotsUsed := s₂.slotsUsed }
      rw [State.setFrames_self ht]
    subst hg
    refine Or.inl ⟨v, ⟨(({ U with heap := s₂.heap, slotsUsed := s₂.slotsUsed } : State).setVm s₂.vm), Ls ++ L, c0 + mc, s0 + ms⟩,
      ⟨X.admits, X.cas, X.clock, X.frames, X.room, X.hears, X.method, X.code, (X.here.setHeapUsed s₂.heap s₂.slotsUsed).setVm hW'.alike, X.tail, State.WarmedH.trans X.warmed hW', X.limits, X.bytes, X.same.trans (hsame.setVm s.vm)⟩,
      ⟨g, mk, s₂, L, rfl, rfl, hqc, rfl, hL, rfl, rfl⟩, ?_⟩
    show Steps p.tables e below _ ((({ U with heap := s₂.heap, slotsUsed := s₂.slotsUsed } : State).setVm s₂.vm).setTop { g with pc := g.pc + len₂, stack := v.toList ++ g.stack })
    rw [← hs₂]
    exact hsteps
  · obtain ⟨e2, q2, q3, q4, q5, q6⟩ := id hsm
    have e3 : s₂ = ({ (U.calling g mk a).setFrames s₂.frames with heap := s₂.heap, slotsUsed := s₂.slotsUsed } : State).setVm s₂.vm := by
      have : s₂ = ({ s₂ with vm := (U.calling g mk a).vm } : State).setVm s₂.vm := rfl
      rw [e2] at this
      exact this
    have hf₂ : s₂.frames = .throwing q :: .java g :: U.frames.tail := hend
    have hW' : U.WarmedH s₂.vm := hW₂
    have hs₂ : s₂ = ((({ U with heap := s₂.heap, slotsUsed := s₂.slotsUsed } : State).setVm s₂.vm).setTop g).pushFrame (.throwing q) := by
      refine e3.trans ?_
      rw [hf₂, State.calling_eq h.top, State.setFrames_setFrames, State.pushFrame, State.frames_setTop _ hr', State.setTop_of_frames _ hr', State.setFrames_setFrames, hr]
      rfl
    have hsame : U.sameButNew ({ U with heap := s₂.heap, slotsUsed := s₂.slotsUsed } : State) L mc ms := by
      refine ⟨?_, q2, q3, q4, q5, q6⟩
      obtain ⟨t, ht, -⟩ := State.frames_cons hr
      show ({ U with heap := s₂.heap, slotsUsed := s₂.slotsUsed } : State) = { U.setFrames U.frames with heap := s₂.heap, slotsUsed := s₂.slotsUsed }
      rw [State.setFrames_self ht]
    subst hg
    refine Or.inr ⟨q, ⟨(({ U with heap := s₂.heap, slotsUsed := s₂.slotsUsed } : State).setVm s₂.vm), Ls ++ L, c0 + mc, s0 + ms⟩,
      ⟨X.admits, X.cas, X.clock, X.frames, X.room, X.hears, X.method, X.code, (X.here.setHeapUsed s₂.heap s₂.slotsUsed).setVm hW'.alike, X.tail, State.WarmedH.trans X.warmed hW', X.limits, X.bytes, X.same.trans (hsame.setVm s.vm)⟩,
      ⟨g, mk, s₂, L, E, ce, rfl, rfl, hx, hce, hcv, hcl, rfl, hL, rfl, rfl⟩, ?_⟩
    show Steps p.tables e below _ (((({ U with heap := s₂.heap, slotsUsed := s₂.slotsUsed } : State).setVm s₂.vm).setTop g).pushFrame (.throwing q))
    rw [← hs₂]
    exact hsteps
end
variable {p : Program} {l : Launch} {e : Env} {R : Room} {s : State} {m : MethodId} {args : Array Value} {below : List Frame} {meth : Method} {c : Code} {T : State} {H : Heap} {locs : List Loc} {cells slots : Nat}
theorem vx_callVX (X : Stand p l e R s m args below meth c T locs cells slots) (hexec : p.tables.exec = Jvm.exec) {own C : String} {index : Nat} {y : MethodName} {bytes : ByteArray} {maxL : Nat} {ret : Option FieldType} {hh : List (Nat × Nat × Nat × Nat)}
    (hown : s.vm.findClass own = some m.cls) (hlink : (Cond.methodLink own index y).before args s = true) (hinst : (Cond.instanceMethod y).before args s = true) (hsel : (Cond.selects C y y).before args s = true)
    (hcode : (Cond.codeWith y bytes maxL ret hh).before args s = true) (hy : y.cls ≠ "java/lang/invoke/MethodHandle" ∧ y.cls ≠ "java/lang/invoke/VarHandle")
    {W9 : Nat} {Pre : Pt → Array Value → Prop} {Post : Pt → Array Value → Option Value → Pt → Prop} {PostX : Pt → Array Value → Addr → Pt → Prop} (hK : vx_Back l R p e below s args y 3 W9 Pre Post PostX)
    {b : Addr} {cellB : Cell} (hcell : T.heap[b]? = some cellB) (hobj : cellB.vm.isStatics = false) (hcls : s.vm.findClass C = some cellB.cls)
    {g : JFrame} (hg : g.method = m) (hsize : g.locals.size = c.maxLocals) {argsL rest : List Value} (hlen : ∀ sig, parseMethodDescriptor y.desc = some sig → argsL.length = sig.parameters.length)
    (hstack : g.stack = argsL.reverse ++ .ref b :: rest) (hW : 2 * g.monitorRoom + (rest.map fun v => v.category).sum ≤ W9) (hdg : decode c.code g.pc = .ok (.invokevirtual index, 3))
    (hpre : ∀ vm₁, s.WarmedH vm₁ → Pre ⟨T.setVm vm₁, locs, cells, slots⟩ (Value.ref b :: argsL).toArray) :
    (∃ (v : Option Value) (vm₁ : Vm) (B : Pt), s.WarmedH vm₁ ∧ Stand p l e R s m args below meth c B.U B.locs B.cells B.slots ∧ Post ⟨T.setVm vm₁, locs, cells, slots⟩ (Value.ref b :: argsL).toArray v B ∧
      ∀ target, Steps p.tables e below (B.U.setTop { g with pc := g.pc + 3, stack := v.toList ++ rest }) target → Steps p.tables e below (T.setTop g) target) ∨
    (∃ (q : Addr) (vm₁ : Vm) (B : Pt), s.WarmedH vm₁ ∧ Stand p l e R s m args below meth c B.U B.locs B.cells B.slots ∧ PostX ⟨T.setVm vm₁, locs, cells, slots⟩ (Value.ref b :: argsL).toArray q B ∧
      Steps p.tables e below (T.setTop g) ((B.U.setTop { g with stack := rest }).pushFrame (.throwing q))) := by
  obtain ⟨mk, methM, hnamed, hmethM, hstM, habM⟩ := Cond.instanceMethod_spec hinst
  obtain ⟨m8, methM', cM, hn8, hmethM', -, -, -, -, -, -, hsigM⟩ := Cond.codeWith_spec hcode
  cases Option.some.inj (hn8.symm.trans hnamed)
  cases hmethM.symm.trans hmethM'
  obtain ⟨c2, r2, m2, q1, q2, q3, q4, kP, hkP, hkPi⟩ := Cond.selects_spec hsel
  cases hcls.symm.trans q1
  cases (State.methodFound?_of_named hnamed hy).symm.trans q2
  cases hnamed.symm.trans q3
  have hselP : selectMethod e.platform s.vm cellB.cls mk = .method mk := by rw [Launch.admits_selectMethod X.admits]; exact q4
  obtain ⟨vm₁, X₁, hstep₁⟩ := X.invokevirtual hexec hown hlink hnamed hmethM hstM hkP hkPi hy (a := b) (cell := cellB) hcell
    (fun z h => by rw [h] at hobj; cases hobj) hselP hmethM habM hkP hkPi (g := g) hg (argsL := argsL) (rest := rest) (hlen _ hsigM) hstack hdg
  rcases hK m meth c ⟨T.setVm vm₁, locs, cells, slots⟩ { g with stack := rest } (.invokevirtual index) mk (Value.ref b :: argsL).toArray X₁ hg hsize hdg hW (X₁.named hnamed) (hpre vm₁ X₁.warmed) with ⟨v, B, X', hpost, hsteps⟩ | ⟨q, B, X', hpost, hsteps⟩
  · exact Or.inl ⟨v, vm₁, B, X₁.warmed, X', hpost, fun target h => hstep₁ _ fun acts => by rw [doInvoke_state]; exact hsteps.trans h⟩
  · exact Or.inr ⟨q, vm₁, B, X₁.warmed, X', hpost, hstep₁ _ fun acts => by rw [doInvoke_state]; exact hsteps⟩
theorem vx_callSX (X : Stand p l e R s m args below meth c T locs cells slots) (hexec : p.tables.exec = Jvm.exec) {own : String} {index : Nat} {y : MethodName} {bytes : ByteArray} {maxL : Nat} {ret : Option FieldType} {hh : List (Nat × Nat × Nat × Nat)}
    (hown : s.vm.findClass own = some m.cls) (hlink : (Cond.methodLink own index y).before args s = true) (hstat : (Cond.static y).before args s = true) (hinit : (Cond.initialized y.cls).before args s = true)
    (hcode : (Cond.codeWith y bytes maxL ret hh).before args s = true) (hy : y.cls ≠ "java/lang/invoke/MethodHandle" ∧ y.cls ≠ "java/lang/invoke/VarHandle")
    {W9 : Nat} {Pre : Pt → Array Value → Prop} {Post : Pt → Array Value → Option Value → Pt → Prop} {PostX : Pt → Array Value → Addr → Pt → Prop} (hK : vx_Back l R p e below s args y 3 W9 Pre Post PostX)
    {g : JFrame} (hg : g.method = m) (hsize : g.locals.size = c.maxLocals) {argsL rest : List Value} (hlen : ∀ sig, parseMethodDescriptor y.desc = some sig → argsL.length = sig.parameters.length)
    (hstack : g.stack = argsL.reverse ++ rest) (hW : 2 * g.monitorRoom + (rest.map fun v => v.category).sum ≤ W9) (hdg : decode c.code g.pc = .ok (.invokestatic index, 3))
    (hpre : ∀ vm₁, s.WarmedH vm₁ → Pre ⟨T.setVm vm₁, locs, cells, slots⟩ argsL.toArray) :
    (∃ (v : Option Value) (vm₁ : Vm) (B : Pt), s.WarmedH vm₁ ∧ Stand p l e R s m args below meth c B.U B.locs B.cells B.slots ∧ Post ⟨T.setVm vm₁, locs, cells, slots⟩ argsL.toArray v B ∧
      ∀ target, Steps p.tables e below (B.U.setTop { g with pc := g.pc + 3, stack := v.toList ++ rest }) target → Steps p.tables e below (T.setTop g) target) ∨
    (∃ (q : Addr) (vm₁ : Vm) (B : Pt), s.WarmedH vm₁ ∧ Stand p l e R s m args below meth c B.U B.locs B.cells B.slots ∧ PostX ⟨T.setVm vm₁, locs, cells, slots⟩ argsL.toArray q B ∧
      Steps p.tables e below (T.setTop g) ((B.U.setTop { g with stack := rest }).pushFrame (.throwing q))) := by
  obtain ⟨mk, methM, cM, hnamed, hmethM, -, -, -, -, -, -, hsigM⟩ := Cond.codeWith_spec hcode
  have hstatic : methM.isStatic = true := Cond.static_spec hnamed hmethM hstat
  obtain ⟨kP, hkP, -⟩ := className_of_methodNamed hnamed
  have hinitP : kP.init = .initialized := Cond.initialized_spec (findClass_of_methodNamed hnamed) hkP hinit
  obtain ⟨vm₁, X₁, hstep₁⟩ := X.invokestatic hexec hown hlink hnamed hmethM hstatic hkP hinitP hy (g := g) hg (argsL := argsL) (rest := rest) (hlen _ hsigM) hstack hdg
  rcases hK m meth c ⟨T.setVm vm₁, locs, cells, slots⟩ { g with stack := rest } (.invokestatic index) mk argsL.toArray X₁ hg hsize hdg hW (X₁.named hnamed) (hpre vm₁ X₁.warmed) with ⟨v, B, X', hpost, hsteps⟩ | ⟨q, B, X', hpost, hsteps⟩
  · exact Or.inl ⟨v, vm₁, B, X₁.warmed, X', hpost, fun target h => hstep₁ _ fun acts => by rw [doInvoke_state]; exact hsteps.trans h⟩
  · exact Or.inr ⟨q, vm₁, B, X₁.warmed, X', hpost, hstep₁ _ fun acts => by rw [doInvoke_state]; exact hsteps⟩
theorem vx_callVW (X : Stand p l e R s m args below meth c T locs cells slots) (hexec : p.tables.exec = Jvm.exec) {own C : String} {index : Nat} {y : MethodName} {bytes : ByteArray} {maxL : Nat} {ret : Option FieldType} {hh : List (Nat × Nat × Nat × Nat)}
    (hown : s.vm.findClass own = some m.cls) (hlink : (Cond.methodLink own index y).before args s = true) (hinst : (Cond.instanceMethod y).before args s = true) (hsel : (Cond.selects C y y).before args s = true)
    (hcode : (Cond.codeWith y bytes maxL ret hh).before args s = true) (hy : y.cls ≠ "java/lang/invoke/MethodHandle" ∧ y.cls ≠ "java/lang/invoke/VarHandle")
    {W9 : Nat} {Pre : Pt → Array Value → Prop} {Post : Pt → Array Value → Option Value → Pt → Prop} (hK : Back l R p e below s args y 3 W9 Pre Post)
    {b : Addr} {cellB : Cell} (hcell : T.heap[b]? = some cellB) (hobj : cellB.vm.isStatics = false) (hcls : s.vm.findClass C = some cellB.cls)
    {g : JFrame} (hg : g.method = m) (hsize : g.locals.size = c.maxLocals) {argsL rest : List Value} (hlen : ∀ sig, parseMethodDescriptor y.desc = some sig → argsL.length = sig.parameters.length)
    (hstack : g.stack = argsL.reverse ++ .ref b :: rest) (hW : 2 * g.monitorRoom + (rest.map fun v => v.category).sum ≤ W9) (hdg : decode c.code g.pc = .ok (.invokevirtual index, 3))
    (hpre : ∀ vm₁, s.WarmedH vm₁ → Pre ⟨T.setVm vm₁, locs, cells, slots⟩ (Value.ref b :: argsL).toArray) :
    ∃ (v : Option Value) (vm₁ : Vm) (B : Pt), s.WarmedH vm₁ ∧ Stand p l e R s m args below meth c B.U B.locs B.cells B.slots ∧ Post ⟨T.setVm vm₁, locs, cells, slots⟩ (Value.ref b :: argsL).toArray v B ∧
      ∀ target, Steps p.tables e below (B.U.setTop { g with pc := g.pc + 3, stack := v.toList ++ rest }) target → Steps p.tables e below (T.setTop g) target := by
  obtain ⟨mk, methM, hnamed, hmethM, hstM, habM⟩ := Cond.instanceMethod_spec hinst
  obtain ⟨m8, methM', cM, hn8, hmethM', -, -, -, -, -, -, hsigM⟩ := Cond.codeWith_spec hcode
  cases Option.some.inj (hn8.symm.trans hnamed)
  cases hmethM.symm.trans hmethM'
  obtain ⟨c2, r2, m2, q1, q2, q3, q4, kP, hkP, hkPi⟩ := Cond.selects_spec hsel
  cases hcls.symm.trans q1
  cases (State.methodFound?_of_named hnamed hy).symm.trans q2
  cases hnamed.symm.trans q3
  have hselP : selectMethod e.platform s.vm cellB.cls mk = .method mk := by rw [Launch.admits_selectMethod X.admits]; exact q4
  obtain ⟨vm₁, X₁, hstep₁⟩ := X.invokevirtual hexec hown hlink hnamed hmethM hstM hkP hkPi hy (a := b) (cell := cellB) hcell
    (fun z h => by rw [h] at hobj; cases hobj) hselP hmethM habM hkP hkPi (g := g) hg (argsL := argsL) (rest := rest) (hlen _ hsigM) hstack hdg
  obtain ⟨v, B, X', hpost, hsteps⟩ := hK m meth c ⟨T.setVm vm₁, locs, cells, slots⟩ { g with stack := rest } (.invokevirtual index) mk (Value.ref b :: argsL).toArray X₁ hg hsize hdg hW (X₁.named hnamed) (hpre vm₁ X₁.warmed)
  exact ⟨v, vm₁, B, X₁.warmed, X', hpost, fun target h => hstep₁ _ fun acts => by rw [doInvoke_state]; exact hsteps.trans h⟩
abbrev vx_CVW (R : Room) (s : State) (args : Array Value) (own C : String) (index : Nat) (y : MethodName) (bytes : ByteArray) (maxL : Nat) (ret : Option FieldType) (hh : List (Nat × Nat × Nat × Nat)) (ws : List Cond) (rm : Room) (mc ms n : Nat) : Prop :=
  (rm.cells = mc ∧ rm.slots = ms ∧ rm.frames + 1 ≤ R.frames ∧ 8 + (maxL + 11) + rm.locals ≤ R.locals ∧ (∀ w ∈ ws, ∀ (a' : Array Value) (U : State), s.WarmedH U.vm → w.before a' U = true) ∧ Cond.codeWith y bytes maxL ret hh ∈ ws) ∧
  (Cond.codeWith y bytes maxL ret hh).before args s = true ∧ (Cond.initialized y.cls).before args s = true ∧ (y.cls ≠ "java/lang/invoke/MethodHandle" ∧ y.cls ≠ "java/lang/invoke/VarHandle") ∧
  (∀ sig, parseMethodDescriptor y.desc = some sig → n = sig.parameters.length) ∧ (Cond.methodLink own index y).before args s = true ∧ (Cond.instanceMethod y).before args s = true ∧ (Cond.selects C y y).before args s = true
theorem vx_cwVW {own C : String} {index maxL mc ms : Nat} {y : MethodName} {bytes : ByteArray} {ret : Option FieldType} {hh : List (Nat × Nat × Nat × Nat)} {Ts ws ws' : List Cond} {rm : Room} (n : Nat) (ht : ∀ w ∈ Ts, w.before args s = true) (hT : GoodIn Ts (wsV own index C y ws)) (hw : ws = Cond.codeWith y bytes maxL ret hh :: ws') (hrc : rm.cells = mc) (hrs : rm.slots = ms)
    (hd : y.cls = C ∧ y.cls ≠ "java/lang/invoke/MethodHandle" ∧ y.cls ≠ "java/lang/invoke/VarHandle" ∧ (parseMethodDescriptor y.desc).map (fun d => d.parameters.length) = some n) (hR : rm.frames + 1 ≤ R.frames ∧ 8 + (maxL + 11) + rm.locals ≤ R.locals) :
    vx_CVW R s args own C index y bytes maxL ret hh ws rm mc ms n := by
  obtain ⟨hC, hd⟩ := hd
  subst hC
  have ok : ∀ w ∈ wsV own index y.cls y ws, w.before args s = true := fun w h => ht w (hT w h).1
  have hG : GoodIn Ts ws := fun w h => hT w (by unfold wsV; exact List.mem_append_right _ h)
  have hc : Cond.codeWith y bytes maxL ret hh ∈ ws := by rw [hw]; exact List.mem_cons_self
  refine ⟨⟨hrc, hrs, hR.1, hR.2, pay_in ht hG, hc⟩, ht _ (hG _ hc).1, ok _ (by simp [wsV]), ⟨hd.1, hd.2.1⟩, fun sig h => ?_, ok _ (by simp [wsV]), ok _ (by simp [wsV]), ok _ (by simp [wsV])⟩
  have h2 := hd.2.2
  rw [h] at h2
  exact (Option.some.inj h2).symm
theorem vx_runVW {y : MethodName} {bytes cc : ByteArray} {maxL nL mc ms n index : Nat} {ret : Option FieldType} {hh : List (Nat × Nat × Nat × Nat)} {ws : List Cond} {rm : Room} {Pc : Array Value → State → Prop} {Qc : Array Value → State → Outcome → State → Prop} {free : Addr → Prop} {Ts : List Cond} {own C : String} {b : Addr} {As rest : List Value} {g : JFrame}
    (S : CallFix p m c cc nL s args Ts own) (hM : Met l y ws rm Pc Qc mc ms free) (cw : vx_CVW R s args own C index y bytes maxL ret hh ws rm mc ms n) (hp : PreV s H C b Pc As)
    (hg : g.method = m) (hn : As.length = n) (hsize : g.locals.size = nL) (hstack : g.stack = As.reverse ++ .ref b :: rest) (hW : 2 * g.monitorRoom + (rest.map fun v => v.category).sum ≤ 8) (hdg : decode cc g.pc = .ok (.invokevirtual index, 3)) (hf : cells + mc ≤ R.cells ∧ slots + ms ≤ R.slots) :
    va_Run p l e R s m args below meth c H locs cells slots mc ms g rest (Qc (Value.ref b :: As).toArray) free := by
  obtain ⟨⟨hrc, hrs, hfr, hlo, hws, hcw⟩, hcode, hini, hy, hlen, hl, hin, hse⟩ := cw
  have hK : Back l R p e below s args y 3 8 (PreOf R mc ms Pc) (PostOf Qc mc ms free) := va_backW (hh := hh) (bytes := bytes) (maxL := maxL) (ret := ret) hM hp.1 hrc hrs hfr hlo hws hcw (fun a' U hW => word_at hW (Or.inl (by first | rfl | simp [Cond.onTables, Cond.keeps, Cond.steady])) hini)
  obtain ⟨hx, hb, hml, ho, -⟩ := S
  obtain ⟨-, ⟨cellB, hcB, hoB, hclB⟩, hPc⟩ := hp
  intro T hT X
  obtain ⟨v, vm₁, ⟨U', l2, c2, s2⟩, hW₁, X', ⟨g', mk, t, L, e1, e2, hq, h1, hL, h2, h3⟩, st⟩ := vx_callVW X hx (C := C) (hh := hh) (bytes := bytes) (maxL := maxL) (ret := ret) ho hl hin hse hcode hy hK (by rw [hT]; exact hcB) hoB hclB hg (hsize.trans hml.symm) (argsL := As) (rest := rest) (fun sig h => hn.trans (hlen sig h)) hstack hW (by rw [hb]; exact hdg)
    (fun vm₁ hW₁ => ⟨hf.1, hf.2, hPc (T.setVm vm₁) hT hW₁⟩)
  dsimp only [Pt.U, Pt.locs, Pt.cells, Pt.slots] at X' e1 e2 h1 h2 h3 st
  subst h1; subst h2; subst h3
  exact ⟨v, (T.setVm vm₁).calling g' mk (Value.ref b :: As).toArray, t, U', L, hT, X', hL, e1, e2, hq, st⟩
section
variable {y : MethodName} {bytes cc : ByteArray} {maxL nL mc ms n index : Nat} {ret : Option FieldType} {ws : List Cond} {rm : Room} {Pc : Array Value → State → Prop} {Qc : Array Value → State → Outcome → State → Prop} {XC : String → State → State → Prop} {free : Addr → Prop} {Ts : List Cond} {own C : String} {b : Addr} {As rest : List Value} {g : JFrame}
theorem vx_runVX {hh : List (Nat × Nat × Nat × Nat)} (S : CallFix p m c cc nL s args Ts own) (hM : vx_Met l y ws rm Pc Qc XC mc ms free) (cw : vx_CVW R s args own C index y bytes maxL ret hh ws rm mc ms n) (hp : PreV s H C b Pc As)
    (hg : g.method = m) (hn : As.length = n) (hsize : g.locals.size = nL) (hstack : g.stack = As.reverse ++ .ref b :: rest) (hW : 2 * g.monitorRoom + (rest.map fun v => v.category).sum ≤ 8) (hdg : decode cc g.pc = .ok (.invokevirtual index, 3)) (hf : cells + mc ≤ R.cells ∧ slots + ms ≤ R.slots) :
    vx_Run p l e R s m args below meth c H locs cells slots mc ms g rest (Qc (Value.ref b :: As).toArray) XC free := by
  obtain ⟨⟨hrc, hrs, hfr, hlo, hws, hcw⟩, hcode, hini, hy, hlen, hl, hin, hse⟩ := cw
  have hK : vx_Back l R p e below s args y 3 8 (PreOf R mc ms Pc) (PostOf Qc mc ms free) (vx_Post XC mc ms free) := vx_backW (hh := hh) (bytes := bytes) (maxL := maxL) (ret := ret) hM hp.1 hrc hrs hfr hlo hws hcw (fun a' U hW => word_at hW (Or.inl (by first | rfl | simp [Cond.onTables, Cond.keeps, Cond.steady])) hini)
  obtain ⟨hx, hb, hml, ho, -⟩ := S
  obtain ⟨-, ⟨cellB, hcB, hoB, hclB⟩, hPc⟩ := hp
  intro T hT X
  rcases vx_callVX X hx (C := C) (hh := hh) (bytes := bytes) (maxL := maxL) (ret := ret) ho hl hin hse hcode hy hK (by rw [hT]; exact hcB) hoB hclB hg (hsize.trans hml.symm) (argsL := As) (rest := rest) (fun sig h => hn.trans (hlen sig h)) hstack hW (by rw [hb]; exact hdg)
    (fun vm₁ hW₁ => ⟨hf.1, hf.2, hPc (T.setVm vm₁) hT hW₁⟩) with ⟨v, vm₁, ⟨U', l2, c2, s2⟩, hW₁, X', ⟨g', mk, t, L, e1, e2, hq, h1, hL, h2, h3⟩, st⟩ | ⟨q, vm₁, ⟨U', l2, c2, s2⟩, hW₁, X', ⟨g', mk, t, L, E, ce, e1, e2, hq, hce, hcv, hcl, h1, hL, h2, h3⟩, st⟩
  · dsimp only [Pt.U, Pt.locs, Pt.cells, Pt.slots] at X' e1 e2 h1 h2 h3 st
    subst h1; subst h2; subst h3
    exact Or.inl ⟨v, (T.setVm vm₁).calling g' mk (Value.ref b :: As).toArray, t, U', L, hT, X', hL, e1, e2, hq, st⟩
  · dsimp only [Pt.U, Pt.locs, Pt.cells, Pt.slots] at X' e1 e2 h1 h2 h3 st hcl
    subst h1; subst h2; subst h3
    exact Or.inr ⟨q, (T.setVm vm₁).calling g' mk (Value.ref b :: As).toArray, t, U', L, E, ce, hT, X', hL, e1, e2, hq, hce, hcv, vx_cls hW₁ hcl, st⟩
theorem vx_runSX {hh : List (Nat × Nat × Nat × Nat)} (S : CallFix p m c cc nL s args Ts own) (hM : vx_Met l y ws rm Pc Qc XC mc ms free) (cw : vx_CSW R s args own index y bytes maxL ret hh ws rm mc ms n) (hp : PreS s H Pc As)
    (hg : g.method = m) (hn : As.length = n) (hsize : g.locals.size = nL) (hstack : g.stack = As.reverse ++ rest) (hW : 2 * g.monitorRoom + (rest.map fun v => v.category).sum ≤ 8) (hdg : decode cc g.pc = .ok (.invokestatic index, 3)) (hf : cells + mc ≤ R.cells ∧ slots + ms ≤ R.slots) :
    vx_Run p l e R s m args below meth c H locs cells slots mc ms g rest (Qc As.toArray) XC free := by
  obtain ⟨⟨hrc, hrs, hfr, hlo, hws, hcw⟩, hcode, hini, hy, hlen, hl, hstt⟩ := cw
  have hK : vx_Back l R p e below s args y 3 8 (PreOf R mc ms Pc) (PostOf Qc mc ms free) (vx_Post XC mc ms free) := vx_backW (hh := hh) (bytes := bytes) (maxL := maxL) (ret := ret) hM hp.1 hrc hrs hfr hlo hws hcw (fun a' U hW => word_at hW (Or.inl (by first | rfl | simp [Cond.onTables, Cond.keeps, Cond.steady])) hini)
  obtain ⟨hx, hb, hml, ho, -⟩ := S
  intro T hT X
  rcases vx_callSX X hx (hh := hh) (bytes := bytes) (maxL := maxL) (ret := ret) ho hl hstt hini hcode hy hK hg (hsize.trans hml.symm) (argsL := As) (rest := rest) (fun sig h => hn.trans (hlen sig h)) hstack hW (by rw [hb]; exact hdg)
    (fun vm₁ hW₁ => ⟨hf.1, hf.2, hp.2 (T.setVm vm₁) hT hW₁⟩) with ⟨v, vm₁, ⟨U', l2, c2, s2⟩, hW₁, X', ⟨g', mk, t, L, e1, e2, hq, h1, hL, h2, h3⟩, st⟩ | ⟨q, vm₁, ⟨U', l2, c2, s2⟩, hW₁, X', ⟨g', mk, t, L, E, ce, e1, e2, hq, hce, hcv, hcl, h1, hL, h2, h3⟩, st⟩
  · dsimp only [Pt.U, Pt.locs, Pt.cells, Pt.slots] at X' e1 e2 h1 h2 h3 st
    subst h1; subst h2; subst h3
    exact Or.inl ⟨v, (T.setVm vm₁).calling g' mk As.toArray, t, U', L, hT, X', hL, e1, e2, hq, st⟩
  · dsimp only [Pt.U, Pt.locs, Pt.cells, Pt.slots] at X' e1 e2 h1 h2 h3 st hcl
    subst h1; subst h2; subst h3
    exact Or.inr ⟨q, (T.setVm vm₁).calling g' mk As.toArray, t, U', L, E, ce, hT, X', hL, e1, e2, hq, hce, hcv, vx_cls hW₁ hcl, st⟩
end
end VXH
theorem vx_ofWH {l : Launch} {y : MethodName} {ws ws' : List Cond} {rm : Room} {Pc : Array Value → State → Prop} {Qc : Array Value → State → Outcome → State → Prop} {XC : String → State → State → Prop} {mc ms : Nat} {free : Addr → Prop} {cc : ByteArray} {maxL : Nat} {ret : Option FieldType} {hh : List (Nat × Nat × Nat × Nat)}
    (hy : plainName y.cls = true) (hw : ws = Cond.codeWith y cc maxL ret hh :: ws')
    (body : ∀ p e s m args below meth c s₁, BodyLoose p l y (headSpec ws rm) cc maxL ret e s m args below meth c s₁ → c.maxLocals = maxL → Pc args s →
      W p l e (headSpec ws rm).room s m args below meth c s.heap [] 0 0 (vx_MQ below Qc XC args s mc ms free) (entryFrame m args maxL)) : vx_Met l y ws rm Pc Qc XC mc ms free := by
  refine MetFree.of_bodyS (code := cc) (maxLocals := maxL) (ret := ret) hy ?_ ?_
  · intro args s m h hn
    obtain ⟨m9, meth, c, hn9, h1, h2, h3, h4, -, h5, h6, -⟩ := Cond.codeWith_spec (atoms_spec (ws := ws) h _ (by rw [hw]; exact List.mem_cons_self))
    cases hn.symm.trans hn9
    exact ⟨meth, c, h1, h2, h3, h4, h5, h6⟩
  · intro p e s m args below meth c s₁ B hml hP _
    have hh0 : s₁.heap = s.heap := by rw [B.state]; rfl
    obtain ⟨t, a1, o, b1, b2, b3⟩ := body p e s m args below meth c s₁ B hml hP s₁ hh0 (Stand.of_body B)
    exact ⟨t, o, a1, b1, b2, b3⟩
/-! ===== END ===== -/
end ZJN3
section ZJN4
/-! An exception whose own constructor hands its text on by any link (NoSuchElementException: 13), over the library's steps -/
def zx_tail (own : String) (ic : Nat) (X : String) : List Cond := [.methodLink own ic (Bundle.initS X), .instantiable X 6, .castable X X, .selects X Bundle.tFill0 Bundle.tFill0, .selects X Bundle.tFill Bundle.tFill, .lays X Bundle.tN "cause" "Ljava/lang/Throwable;", .lays X Bundle.tN "stackTrace" Bundle.steD, .lays X Bundle.tN "suppressedExceptions" Bundle.listD, .lays X Bundle.tN "detailMessage" "Ljava/lang/String;", .isRef (.static Bundle.tN "UNASSIGNED_STACK" Bundle.steD), .isRef (.static Bundle.tN "SUPPRESSED_SENTINEL" Bundle.listD), .fieldLink Bundle.tN 198 Bundle.tN "backtrace" "Ljava/lang/Object;", .lays Bundle.tN Bundle.tN "backtrace" "Ljava/lang/Object;", .lays X Bundle.tN "backtrace" "Ljava/lang/Object;"]
def zx_own (own : String) (ic : Nat) (X Y : String) (ix : Nat) (bs : ByteArray) (names : List String) : List Cond := Bundle.throwableAtoms ++ (Bundle.throwableSAtoms ++ ((Bundle.passSAtoms X Y ix bs ++ Bundle.chainSAtoms Y names) ++ zx_tail own ic X))
section ZXC
variable {p : Program} {l : Launch} {e : Env} {R : Room} {s : State} {m₀ : MethodId} {args : Array Value} {below : List Frame} {meth : Method} {c : Code} {W : State} {locs : List Loc} {cells slots : Nat}
set_option maxHeartbeats 1000000 in
theorem zx_ctor (X : Stand p l e R s m₀ args below meth c W locs cells slots) (hexec : p.tables.exec = Jvm.exec) (htr : e.platform.stackTraces = false) {own cls Y0 : String} {names : List String} {ic ix : Nat} {bs : ByteArray}
    (hown : s.vm.findClass own = some m₀.cls) (hcls : Bundle.fit cls = true) (hY0 : Bundle.fit Y0 = true) (hnames : ∀ n ∈ names, Bundle.fit n = true)
    (b0 : decode bs 0 = .ok (.aload_n 0, 1)) (b1 : decode bs 1 = .ok (.aload_n 1, 1)) (b2 : decode bs 2 = .ok (.invokespecial ix, 3)) (b5 : decode bs 5 = .ok (.return_, 1))
    (h : ∀ a ∈ zx_own own ic cls Y0 ix bs names, a.before args s = true)
    (hlocs : ∀ x ∈ locs, ∀ cell, s.heap[x.base]? = some cell → cell.vm.isStatics = false)
    {a : Addr} {cX : ClassId} {kX : Class} (hfX : s.vm.findClass cls = some cX) (hkX : s.vm.classes[cX]? = some kX) (hcell : W.heap[a]? = some (freshCell cX kX)) (hnew : s.heap.size ≤ a)
    {msg : Value} (hmsg : msg.isRef = true)
    {g : JFrame} (hg : g.method = m₀) (hsize : g.locals.size = c.maxLocals) (hlocked : g.locked = none) (hentered : g.entered = []) {rest : List Value} (hstack : g.stack = msg :: .ref a :: .ref a :: rest)
    (hd6 : decode c.code g.pc = .ok (.invokespecial ic, 3)) (hd9 : decode c.code (g.pc + 3) = .ok (.athrow, 1)) (hout : ∀ x ∈ c.exceptionTable.toList, covers x (g.pc + 3) = false)
    (hRf : names.length + 4 < R.frames) (hRl : 2 * g.monitorRoom + ((Value.ref a :: rest).map fun v => v.category).sum + (13 * (names.length + 2) + 42) ≤ R.locals) (hlocks : meth.locks = false) :
    ∃ U : State, Steps p.tables e below (W.setTop g) U ∧ U.status = .running ∧ Ended U below (.threw a) ∧ s.WarmedH U.vm ∧ s.sameButNew ({ U with vm := s.vm } : State) locs cells slots ∧ ∃ ce, U.heap[a]? = some ce ∧ s.vm.findClass cls = some ce.cls ∧ ce.vm = .none := by
  have howns : e.platform.frameOwnsMonitors = true := by rw [X.admits.platform]
  have hfin : e.platform.finalization = false := by rw [X.admits.platform]
  have hpl : e.platform.magicAccessors = ({} : Platform).magicAccessors := by rw [X.admits.platform]
  have hA : ∀ x ∈ Bundle.throwableAtoms, x.before args s = true := fun x hx => h x (List.mem_append_left _ hx)
  have hB : ∀ x ∈ Bundle.throwableSAtoms, x.before args s = true := fun x hx => h x (List.mem_append_right _ (List.mem_append_left _ hx))
  have hP : ∀ x ∈ Bundle.passSAtoms cls Y0 ix bs, x.before args s = true := fun x hx => h x (List.mem_append_right _ (List.mem_append_right _ (List.mem_append_left _ (List.mem_append_left _ hx))))
  have hQ : ∀ x ∈ Bundle.chainSAtoms Y0 names, x.before args s = true := fun x hx => h x (List.mem_append_right _ (List.mem_append_right _ (List.mem_append_left _ (List.mem_append_right _ hx))))
  have a' : ∀ x, x ∈ zx_tail own ic cls → x.holds args s none s [] = true := fun x hx => h x (List.mem_append_right _ (List.mem_append_right _ (List.mem_append_right _ hx)))
  obtain ⟨T, Z0, L, -, Y⟩ := ThrowableC.of_atoms (args := args) howns hfin hpl hA
  obtain ⟨Z, M, LZ, LM, hnZ⟩ := Init0T.ofS_atoms (args := args) hpl L Y hB
  obtain ⟨P1, L1, hP1m, hs1⟩ := PassC.ofS_atoms (args := args) (s := s) hpl (X := cls) (Y := Y0) (Bundle.fit_spec hcls).1 (Bundle.fit_spec hY0).2 b0 b1 b2 b5 hP
  obtain ⟨P2, Ps, hlen, L2, hL, hP2m, hlink2, hlink⟩ := Bundle.chainS (args := args) hpl hnZ names Y0 hY0 hnames hQ
  have hsup : P1.sup = P2.m := Option.some.inj (hs1.symm.trans hP2m)
  have hfound : s.vm.findClass cls = some P1.m.cls := findClass_of_methodNamed hP1m
  cases Option.some.inj (hfX.symm.trans hfound)
  obtain ⟨c1, kX', hc1, hk, hord, -, -, -⟩ := Cond.instantiable_spec (a' (.instantiable cls 6) (by simp [zx_tail]))
  cases Option.some.inj (hc1.symm.trans hfound)
  cases Option.some.inj (hkX.symm.trans hk)
  have hsel0 : selectMethod e.platform s.vm P1.m.cls T.fill0 = .method T.fill0 := by
    obtain ⟨c2, r2, m2, q1, q2, q3, q4, -⟩ := Cond.selects_spec (a' (.selects cls Bundle.tFill0 Bundle.tFill0) (by simp [zx_tail]))
    cases Option.some.inj (q1.symm.trans hfound)
    cases Option.some.inj (q2.symm.trans (State.methodFound?_of_named Y.fill0 (by decide)))
    cases Option.some.inj (q3.symm.trans Y.fill0)
    rw [Launch.admits_selectMethod X.admits]; exact q4
  have hselF : selectMethod e.platform s.vm P1.m.cls T.fill = .method T.fill := by
    obtain ⟨c2, r2, m2, q1, q2, q3, q4, -⟩ := Cond.selects_spec (a' (.selects cls Bundle.tFill Bundle.tFill) (by simp [zx_tail]))
    cases Option.some.inj (q1.symm.trans hfound)
    cases Option.some.inj (q2.symm.trans (State.methodFound?_of_named Y.fill (by decide)))
    cases Option.some.inj (q3.symm.trans Y.fill)
    rw [Launch.admits_selectMethod X.admits]; exact q4
  obtain ⟨cellS0, hcS0, hiss⟩ := Y.statics
  obtain ⟨u0, hu0⟩ := Cond.staticRefV Y.unassigned L.unassignedStatic L.statics hcS0 hiss (a' (.isRef (.static Bundle.tN "UNASSIGNED_STACK" Bundle.steD)) (by simp [zx_tail]))
  obtain ⟨sen, hsen⟩ := Cond.staticRefV Y.sentinel L.sentinelStatic L.statics hcS0 hiss (a' (.isRef (.static Bundle.tN "SUPPRESSED_SENTINEL" Bundle.listD)) (by simp [zx_tail]))
  obtain ⟨ci, ib, fB, hkb, hgb, hab, hsB, -, hnB, htB, hffB⟩ := Cond.ownField (t := .object "java/lang/Object") Y.found L.cls (by decide +kernel) (a' (.fieldLink Bundle.tN 198 Bundle.tN "backtrace" "Ljava/lang/Object;") (by simp [zx_tail])) (a' (.lays Bundle.tN Bundle.tN "backtrace" "Ljava/lang/Object;") (by simp [zx_tail])) e.platform hpl
  obtain ⟨cellS, hcS', heS, -, hkeep⟩ := X.same.2.2.2.2.2 T.aS cellS0 hcS0
  have hcellS : W.heap[T.aS]? = some cellS := hcS'
  have hout' : ∀ i, (⟨T.aS, i⟩ : Loc) ∉ locs := fun i hmem => by
    have := hlocs _ hmem cellS0 hcS0
    rw [hiss] at this; cases this
  have hknownS : cellS.vm ≠ .unknown := by
    rw [heS]; intro hu
    rw [show cellS0.vm = .unknown from hu] at hiss
    cases hiss
  have hneS : T.aS ≠ a := Nat.ne_of_lt (Nat.lt_of_lt_of_le (Array.getElem?_eq_some_iff.mp hcS0).1 hnew)
  obtain ⟨iM, hffM⟩ := Y.msg
  obtain ⟨tyC, dC, hdC, hdnC⟩ := Cond.laysAt hfound hk Y.cause (a' (.lays cls Bundle.tN "cause" "Ljava/lang/Throwable;") (by simp [zx_tail]))
  obtain ⟨tyS, dS, hdS, hdnS⟩ := Cond.laysAt hfound hk Y.stack (a' (.lays cls Bundle.tN "stackTrace" Bundle.steD) (by simp [zx_tail]))
  obtain ⟨tyP, dP, hdP, hdnP⟩ := Cond.laysAt hfound hk Y.supp (a' (.lays cls Bundle.tN "suppressedExceptions" Bundle.listD) (by simp [zx_tail]))
  obtain ⟨tyM, dM, hdM, hdnM⟩ := Cond.laysAt hfound hk hffM (a' (.lays cls Bundle.tN "detailMessage" "Ljava/lang/String;") (by simp [zx_tail]))
  obtain ⟨tyB, dB, hdB, hdnB⟩ := Cond.laysAt hfound hk hffB (a' (.lays cls Bundle.tN "backtrace" "Ljava/lang/Object;") (by simp [zx_tail]))
  have bC := Cond.laysApart hdB hdC hdnB hdnC (by rw [hnB, Y.causeName]; decide)
  have bS := Cond.laysApart hdB hdS hdnB hdnS (by rw [hnB, Y.stackName]; decide)
  have bP := Cond.laysApart hdB hdP hdnB hdnP (by rw [hnB, Y.suppName]; decide)
  have hskip : SkipFacts T e.platform s (fun u => u) u0 ((preparedCellV T.toThrowableT (freshCell P1.m.cls kX) a u0 sen).withEntry W.cur) :=
    ⟨{ ci198 := ci, i198 := ib, fBack := fB }, ⟨hkb, hgb, hab, hsB⟩, by
      have := fresh_default (c := P1.m.cls) tyB
      rw [htB] at this
      simpa [preparedCellV, Cell.setSlot, Cell.withEntry, Array.getElem?_setIfInBounds, bC, bS, bP, bC.symm, bS.symm, bP.symm, defaultValue] using this, fun _ _ => rfl⟩
  obtain ⟨tm, methC, cdC, kC, v1, hnC, -, -, -, -, -, -, -, hW1, st1⟩ := Steps.initColdS (tb := p.tables) (e := e) (below := below) (s := s) (U := W) X.here hexec X.warmed hpl hown (t := Bundle.initS cls) rfl rfl (Bundle.fit_spec hcls).2
    (a' (.methodLink own ic (Bundle.initS cls)) (by simp [zx_tail])) (hP (.instanceMethod (Bundle.initS cls)) (by simp [Bundle.passSAtoms])) (bytes := bs) (maxL := 2) (hP (.code (Bundle.initS cls) bs 2 none) (by simp [Bundle.passSAtoms]))
    (f := g) hg (a := a) (msg := msg) (rest := .ref a :: rest) hstack hd6
  cases Option.some.inj (hnC.symm.trans hP1m)
  have X1 := X.noted hW1
  obtain ⟨v2, X2, st2⟩ := X1.ctorMessageOffV hexec (g := { g with stack := .ref a :: rest }) hg hsize T L Z LZ M LM (P1 :: P2 :: Ps)
    (fun P hP9 => by
      rcases List.mem_cons.mp hP9 with r | hP9
      · subst r; exact L1
      · rcases List.mem_cons.mp hP9 with r | hP9
        · subst r; exact L2
        · exact hL P hP9) ⟨hsup, hlink2, hlink⟩ (u0 := u0) (sen := sen) (self := a) hmsg (cell := freshCell P1.m.cls kX) (cellS := cellS)
    hcell (fun _ => by simp) (by simp) rfl rfl hsel0 hselF hcellS hneS hknownS (by rw [hkeep _ (hout' _)]; exact hu0) (by rw [hkeep _ (hout' _)]; exact hsen)
    (Takes.of_laid hk hord tyC (by rw [Y.causeType]; rfl)) (Takes.of_laid hk hord tyS (by rw [Y.stackType]; exact fits_refV_array _ u0)) (Takes.of_laid hk hord tyP (by rw [Y.suppType]; exact fits_refV_object _ sen))
    (Takes.of_laid hk hord tyM (by rw [Y.msgType]; exact fits_refV_object _ ⟨msg, hmsg⟩)) Y.objLocals hskip htr [] hd6
    (by simp only [List.length_cons, hlen]; omega) (by simp only [List.length_cons, hlen]; exact hRl)
  obtain ⟨hwalk, hrun, hended, hWU, hsame⟩ := X2.athrowLeaves hexec (g := { g with stack := .ref a :: rest, pc := g.pc + 3 }) hg hlocked hentered hout (a := a) (rest := rest) rfl hd9
  have hlt : a < ((W.setVm v1).setVm v2).heap.size := (Array.getElem?_eq_some_iff.mp hcell).1
  have hU := heapAt_setCell_self (s := (W.setVm v1).setVm v2) (plainBareV T.toThrowableT (freshCell P1.m.cls kX) a u0 sen msg) hlt
  refine ⟨_, st1 _ (fun acts => ?_), hrun, hended, hWU, hsame.weaken (fun y hy hlt' => ?_) (Nat.le_refl _) (Nat.le_refl _), _, hU, hfound, rfl⟩
  · rw [doInvoke_state]
    exact st2 _ hwalk
  · rcases List.mem_append.mp hy with q | q
    · exact q
    · exfalso
      have hb : y.base = a := by
        simp only [List.mem_cons, List.not_mem_nil, or_false] at q
        rcases q with r | r | r | r | r <;> rw [r]
      rw [hb] at hlt'
      exact Nat.not_lt.mpr hnew hlt'
end ZXC
def zx_at (own : String) (ic : Nat) (X Y : String) (ix : Nat) (bs : ByteArray) (names : List String) : List Cond := (zx_own own ic X Y ix bs names).filter vx_no
section ZXE
variable {p : Program} {l : Launch} {e : Env} {R : Room} {s : State} {m : MethodId} {args : Array Value} {below : List Frame} {meth : Method} {c : Code} {H : Heap} {locs : List Loc} {cells slots : Nat} {Q : State → Prop}
variable {mc ms : Nat} {free : Addr → Prop} {A0 A1 : Nat → Prop} {H0 : Heap} {a : Array Value} {ls : Array Slot} {st0 rest : List Value}
variable {Qc : Array Value → State → Outcome → State → Prop} {XC : String → State → State → Prop}
theorem zx_throwS {cc : ByteArray} {pc : Nat} (hexec : p.tables.exec = Jvm.exec) (hb : c.code = cc) (hl : l.stackTraces = false) {own cls text : String} {Y0 : String} {ix : Nat} {bs : ByteArray} {names : List String} {ik is ic mc ms sa : Nat} {A : Nat → Prop}
    (hown : s.vm.findClass own = some m.cls) (hcls : Bundle.fit cls = true) (hY0 : Bundle.fit Y0 = true) (hnames : ∀ n ∈ names, Bundle.fit n = true) (b0 : decode bs 0 = .ok (.aload_n 0, 1)) (b1 : decode bs 1 = .ok (.aload_n 1, 1)) (b2 : decode bs 2 = .ok (.invokespecial ix, 3)) (b5 : decode bs 5 = .ok (.return_, 1))
    (hk : (Cond.classLink own ik cls).before args s = true) (hini : (Cond.initialized cls).before args s = true) (hstr : vk_R own is text sa s) (hat : ∀ w ∈ zx_at own ic cls Y0 ix bs names, w.before args s = true)
    (hgood : ∀ w ∈ Cond.classLink own ik cls :: Cond.initialized cls :: zx_at own ic cls Y0 ix bs names, vx_ot w = true)
    (hU : vx_Zq Bundle.tN "UNASSIGNED_STACK" Bundle.steD A s s.heap) (hN : vx_Zq Bundle.tN "SUPPRESSED_SENTINEL" Bundle.listD A s s.heap) (hS : va_S A s.heap H locs) (hsize : ls.size = c.maxLocals)
    (d0 : decode cc pc = .ok (.new ik, 3)) (d3 : decode cc (pc + 3) = .ok (.dup, 1)) (d4 : decode cc (pc + 4) = .ok (.ldc is, 2)) (d6 : decode cc (pc + 6) = .ok (.invokespecial ic, 3)) (d9 : decode cc (pc + 9) = .ok (.athrow, 1))
    (hout : ∀ x ∈ c.exceptionTable.toList, covers x (pc + 9) = false)
    (hRframes : names.length + 4 < R.frames) (hRlocals : (rest.map fun v => v.category).sum + (13 * (names.length + 2) + 43) ≤ R.locals) (hRcells : cells + 1 ≤ R.cells) (hRslots : slots + 6 ≤ R.slots) (hlocks : meth.locks = false)
    (hx : ∀ t : State, s.vm.Alike t.vm → H.size ≤ t.heap.size → (∀ q : Nat, q < H.size → t.heap[q]? = H[q]?) → XC cls s t)
    (hf : ∀ z ∈ locs, free z.base) (hc : cells + 1 ≤ mc) (hs : slots + 6 ≤ ms) :
    W p l e R s m args below meth c H locs cells slots (vx_MQ below Qc XC args s mc ms free) (F0 m pc ls rest) := by
  intro T hT X
  have htr : e.platform.stackTraces = false := (show e.platform.stackTraces = l.stackTraces by rw [X.admits.platform]).trans hl
  have Y := vx_rebase X (R' := { frames := R.frames, locals := R.locals, cells := 1, slots := 6 }) (Nat.le_refl _) (Nat.le_refl _) hRcells hRslots
  obtain ⟨s', hA⟩ : ∃ z, z = (T.setVm s.vm).setFrames (.invoking m args :: below) := ⟨_, rfl⟩
  rw [← hA] at Y
  have hvm : s'.vm = s.vm := by rw [hA]; rfl
  have hhp : s'.heap = H := by rw [hA]; exact hT
  have hW0 : s.WarmedH s'.vm := by rw [hvm]; exact State.WarmedH.refl s
  have hat' : ∀ w ∈ zx_at own ic cls Y0 ix bs names, w.before args s' = true := fun w hw => vx_ot_at hW0 hvm.symm (hgood w (List.mem_cons_of_mem _ (List.mem_cons_of_mem _ hw))) (hat w hw)
  have hk' : (Cond.classLink own ik cls).before args s' = true := vx_ot_at hW0 hvm.symm (hgood _ List.mem_cons_self) hk
  have hini' : (Cond.initialized cls).before args s' = true := vx_ot_at hW0 hvm.symm (hgood _ (List.mem_cons_of_mem _ List.mem_cons_self)) hini
  have hU' : vx_Zq Bundle.tN "UNASSIGNED_STACK" Bundle.steD A s' s'.heap := by rw [hhp]; exact vx_Zq.moved hW0.alike (hU.kept hS.2.1)
  have hN' : vx_Zq Bundle.tN "SUPPRESSED_SENTINEL" Bundle.listD A s' s'.heap := by rw [hhp]; exact vx_Zq.moved hW0.alike (hN.kept hS.2.1)
  have h : ∀ w ∈ zx_own own ic cls Y0 ix bs names, w.before args s' = true := vx_own hat' (vx_isRefq hU'.1) (vx_isRefq hN'.1) hU'.2.word hN'.2.word
  have hown' : s'.vm.findClass own = some m.cls := by rw [hvm]; exact hown
  have hins : (Cond.instantiable cls 6).before args s' = true := h _ (by simp [zx_own, zx_tail])
  obtain ⟨vm₁, cX, kX, hfX, hkX, -, -, X₁, st1⟩ := Y.newCold hexec (own := own) (C := cls) (index := ik) (n := 6) hown' hk' hins hini'
    (g := F0 m pc ls rest) rfl (by rw [hb]; exact d0) (Nat.le_refl _) (Nat.le_refl _)
  generalize hT1 : (T.setVm vm₁).pushCell { cls := cX, slots := kX.instanceTypes.map defaultValue, vm := .none } = T1 at X₁ st1
  have hcat : (Value.ref T.heap.size).category = 1 := rfl
  have hcellA : T1.heap[T.heap.size]? = some (freshCell cX kX) := by rw [← hT1]; exact State.heap_pushCell_size _ _
  have d3' : decode c.code (pc + 3) = .ok (.dup, 1) := by rw [hb]; exact d3
  have d4' : decode c.code (pc + 4) = .ok (.ldc is, 2) := by rw [hb]; exact d4
  have hstr' : vk_R own is text sa s' := vk_R.warm hW0 hstr
  obtain ⟨U, hsteps, hrun, hend, hW, hsame, ce, hce, hO, hOv⟩ := zx_ctor X₁ hexec htr (own := own) (cls := cls) (Y0 := Y0) (names := names) (ic := ic) (ix := ix) (bs := bs) hown' hcls hY0 hnames b0 b1 b2 b5 h (fun x hx => nomatch hx) hfX hkX hcellA (by rw [hhp, hT]; exact Nat.le_refl _) (msg := .ref sa) rfl
    (g := { method := m, pc := pc + 6, locals := ls, stack := .ref sa :: .ref T.heap.size :: .ref T.heap.size :: rest, locked := none }) rfl hsize rfl rfl (rest := rest) rfl
    (by rw [hb]; exact d6) (by rw [hb]; exact d9) hout hRframes (by simp only [List.map_cons, List.sum_cons, hcat]; omega) hlocks
  obtain ⟨f1, f2⟩ := vx_frame hsame
  rw [hhp] at f1 f2
  have hWs : s.WarmedH U.vm := State.WarmedH.trans hW0 hW
  have hcl : s.vm.findClass cls = some ce.cls := by
    have h9 := hO
    rw [hvm] at h9
    exact h9
  have hall : s.sameButNew ({ U with vm := s.vm } : State) locs mc ms := by
    subst hA
    obtain ⟨e1, e2⟩ := hsame
    rw [State.setFrames_setFrames] at e1
    have h2 : (T.setVm s.vm).sameButNew ({ U with vm := s.vm } : State) [] (0 + 1) (0 + 6) := ⟨e1, e2⟩
    have h3 := X.same.trans h2
    rw [List.append_nil] at h3
    exact h3.mono hc hs
  refine ⟨U, ?_, .threw T.heap.size, hrun, hend, Or.inr ⟨T.heap.size, rfl, cls, ce, locs, hx U hWs.alike f1 (fun q hq => f2 q hq (fun z hz => nomatch hz)), hce, hOv, hcl, hWs, hall, hf⟩⟩
  refine st1 _ ?_
  show Steps p.tables e below (T1.setTop { method := m, pc := pc + 3, locals := ls, stack := .ref T.heap.size :: rest, locked := none }) _
  jvm_step X₁.here [X₁.here.top, hexec, d3', Value.category]
  exact X₁.ldcString hexec (own := own) (text := text) (index := is) (a := sa) hown' hstr'.1 hstr'.2
    (g := { method := m, pc := pc + 4, locals := ls, stack := .ref T.heap.size :: .ref T.heap.size :: rest, locked := none }) rfl d4' _ hsteps
theorem zx_throwSW {cc : ByteArray} {pc : Nat} (hexec : p.tables.exec = Jvm.exec) (hb : c.code = cc) (hl : l.stackTraces = false) {own cls text : String} {Y0 : String} {ix : Nat} {bs : ByteArray} {names : List String} {ik is ic mc ms sa : Nat} {A : Nat → Prop}
    (hown : s.vm.findClass own = some m.cls) (hcls : Bundle.fit cls = true) (hY0 : Bundle.fit Y0 = true) (hnames : ∀ n ∈ names, Bundle.fit n = true) (b0 : decode bs 0 = .ok (.aload_n 0, 1)) (b1 : decode bs 1 = .ok (.aload_n 1, 1)) (b2 : decode bs 2 = .ok (.invokespecial ix, 3)) (b5 : decode bs 5 = .ok (.return_, 1))
    (hk : (Cond.classLink own ik cls).before args s = true) (hini : (Cond.initialized cls).before args s = true) (hstr : vk_R own is text sa s) (hat : ∀ w ∈ zx_at own ic cls Y0 ix bs names, w.before args s = true)
    (hgood : ∀ w ∈ Cond.classLink own ik cls :: Cond.initialized cls :: zx_at own ic cls Y0 ix bs names, vx_ot w = true)
    (hU : vx_Zq Bundle.tN "UNASSIGNED_STACK" Bundle.steD A s s.heap) (hN : vx_Zq Bundle.tN "SUPPRESSED_SENTINEL" Bundle.listD A s s.heap) (hS : va_S A s.heap H locs) (hsize : ls.size = c.maxLocals)
    (d0 : decode cc pc = .ok (.new ik, 3)) (d3 : decode cc (pc + 3) = .ok (.dup, 1)) (d4 : decode cc (pc + 4) = .ok (.ldc_w is, 3)) (d7 : decode cc (pc + 7) = .ok (.invokespecial ic, 3)) (d10 : decode cc (pc + 10) = .ok (.athrow, 1))
    (hout : ∀ x ∈ c.exceptionTable.toList, covers x (pc + 10) = false)
    (hRframes : names.length + 4 < R.frames) (hRlocals : (rest.map fun v => v.category).sum + (13 * (names.length + 2) + 43) ≤ R.locals) (hRcells : cells + 1 ≤ R.cells) (hRslots : slots + 6 ≤ R.slots) (hlocks : meth.locks = false)
    (hx : ∀ t : State, s.vm.Alike t.vm → H.size ≤ t.heap.size → (∀ q : Nat, q < H.size → t.heap[q]? = H[q]?) → XC cls s t)
    (hf : ∀ z ∈ locs, free z.base) (hc : cells + 1 ≤ mc) (hs : slots + 6 ≤ ms) :
    W p l e R s m args below meth c H locs cells slots (vx_MQ below Qc XC args s mc ms free) (F0 m pc ls rest) := by
  intro T hT X
  have htr : e.platform.stackTraces = false := (show e.platform.stackTraces = l.stackTraces by rw [X.admits.platform]).trans hl
  have Y := vx_rebase X (R' := { frames := R.frames, locals := R.locals, cells := 1, slots := 6 }) (Nat.le_refl _) (Nat.le_refl _) hRcells hRslots
  obtain ⟨s', hA⟩ : ∃ z, z = (T.setVm s.vm).setFrames (.invoking m args :: below) := ⟨_, rfl⟩
  rw [← hA] at Y
  have hvm : s'.vm = s.vm := by rw [hA]; rfl
  have hhp : s'.heap = H := by rw [hA]; exact hT
  have hW0 : s.WarmedH s'.vm := by rw [hvm]; exact State.WarmedH.refl s
  have hat' : ∀ w ∈ zx_at own ic cls Y0 ix bs names, w.before args s' = true := fun w hw => vx_ot_at hW0 hvm.symm (hgood w (List.mem_cons_of_mem _ (List.mem_cons_of_mem _ hw))) (hat w hw)
  have hk' : (Cond.classLink own ik cls).before args s' = true := vx_ot_at hW0 hvm.symm (hgood _ List.mem_cons_self) hk
  have hini' : (Cond.initialized cls).before args s' = true := vx_ot_at hW0 hvm.symm (hgood _ (List.mem_cons_of_mem _ List.mem_cons_self)) hini
  have hU' : vx_Zq Bundle.tN "UNASSIGNED_STACK" Bundle.steD A s' s'.heap := by rw [hhp]; exact vx_Zq.moved hW0.alike (hU.kept hS.2.1)
  have hN' : vx_Zq Bundle.tN "SUPPRESSED_SENTINEL" Bundle.listD A s' s'.heap := by rw [hhp]; exact vx_Zq.moved hW0.alike (hN.kept hS.2.1)
  have h : ∀ w ∈ zx_own own ic cls Y0 ix bs names, w.before args s' = true := vx_own hat' (vx_isRefq hU'.1) (vx_isRefq hN'.1) hU'.2.word hN'.2.word
  have hown' : s'.vm.findClass own = some m.cls := by rw [hvm]; exact hown
  have hins : (Cond.instantiable cls 6).before args s' = true := h _ (by simp [zx_own, zx_tail])
  obtain ⟨vm₁, cX, kX, hfX, hkX, -, -, X₁, st1⟩ := Y.newCold hexec (own := own) (C := cls) (index := ik) (n := 6) hown' hk' hins hini'
    (g := F0 m pc ls rest) rfl (by rw [hb]; exact d0) (Nat.le_refl _) (Nat.le_refl _)
  generalize hT1 : (T.setVm vm₁).pushCell { cls := cX, slots := kX.instanceTypes.map defaultValue, vm := .none } = T1 at X₁ st1
  have hcat : (Value.ref T.heap.size).category = 1 := rfl
  have hcellA : T1.heap[T.heap.size]? = some (freshCell cX kX) := by rw [← hT1]; exact State.heap_pushCell_size _ _
  have d3' : decode c.code (pc + 3) = .ok (.dup, 1) := by rw [hb]; exact d3
  have d4' : decode c.code (pc + 4) = .ok (.ldc_w is, 3) := by rw [hb]; exact d4
  have hstr' : vk_R own is text sa s' := vk_R.warm hW0 hstr
  obtain ⟨U, hsteps, hrun, hend, hW, hsame, ce, hce, hO, hOv⟩ := zx_ctor X₁ hexec htr (own := own) (cls := cls) (Y0 := Y0) (names := names) (ic := ic) (ix := ix) (bs := bs) hown' hcls hY0 hnames b0 b1 b2 b5 h (fun x hx => nomatch hx) hfX hkX hcellA (by rw [hhp, hT]; exact Nat.le_refl _) (msg := .ref sa) rfl
    (g := { method := m, pc := pc + 7, locals := ls, stack := .ref sa :: .ref T.heap.size :: .ref T.heap.size :: rest, locked := none }) rfl hsize rfl rfl (rest := rest) rfl
    (by rw [hb]; exact d7) (by rw [hb]; exact d10) hout hRframes (by simp only [List.map_cons, List.sum_cons, hcat]; omega) hlocks
  obtain ⟨f1, f2⟩ := vx_frame hsame
  rw [hhp] at f1 f2
  have hWs : s.WarmedH U.vm := State.WarmedH.trans hW0 hW
  have hcl : s.vm.findClass cls = some ce.cls := by
    have h9 := hO
    rw [hvm] at h9
    exact h9
  have hall : s.sameButNew ({ U with vm := s.vm } : State) locs mc ms := by
    subst hA
    obtain ⟨e1, e2⟩ := hsame
    rw [State.setFrames_setFrames] at e1
    have h2 : (T.setVm s.vm).sameButNew ({ U with vm := s.vm } : State) [] (0 + 1) (0 + 6) := ⟨e1, e2⟩
    have h3 := X.same.trans h2
    rw [List.append_nil] at h3
    exact h3.mono hc hs
  refine ⟨U, ?_, .threw T.heap.size, hrun, hend, Or.inr ⟨T.heap.size, rfl, cls, ce, locs, hx U hWs.alike f1 (fun q hq => f2 q hq (fun z hz => nomatch hz)), hce, hOv, hcl, hWs, hall, hf⟩⟩
  refine st1 _ ?_
  show Steps p.tables e below (T1.setTop { method := m, pc := pc + 3, locals := ls, stack := .ref T.heap.size :: rest, locked := none }) _
  jvm_step X₁.here [X₁.here.top, hexec, d3', Value.category]
  exact X₁.ldcStringW hexec (own := own) (text := text) (index := is) (a := sa) hown' hstr'.1 hstr'.2
    (g := { method := m, pc := pc + 4, locals := ls, stack := .ref T.heap.size :: .ref T.heap.size :: rest, locked := none }) rfl d4' _ hsteps
end ZXE
def zx_bs : ByteArray := ⟨#[0x2a, 0x2b, 0xb7, 0x00, 0x0d, 0xb1]⟩
end ZJN4
section ZJN5
/-- PadConsole$Memory.HEADER_SIGNS -/
noncomputable def zt0 (j : Nat) : Int32 := ([84, 77, 82, 32, 83, 69, 71, 65] : List Int32).getD j 0
/-- PadConsole$Memory.HEADER_PLACES -/
noncomputable def zt1 (j : Nat) : Int32 := ([32752, 16368, 8176] : List Int32).getD j 0
/-- PadConsole$Processor.CONDITIONS -/
noncomputable def zt2 (j : Nat) : Int32 := ([64, 1, 4, 128] : List Int32).getD j 0
/-- PadConsole$Painter.FIXED_COLOURS -/
noncomputable def zt3 (j : Nat) : Int32 := ([0, 0, 8, 12, 16, 48, 1, 60, 2, 3, 5, 15, 4, 51, 21, 63] : List Int32).getD j 0
/-- PadConsole$Sound.LOUD -/
noncomputable def zt4 (j : Nat) : Int32 := ([8191, 6506, 5168, 4105, 3261, 2590, 2057, 1634, 1298, 1031, 819, 650, 517, 410, 326, 0] : List Int32).getD j 0
/-- PadConsole$Waves.PATCHES -/
noncomputable def zt5 (j : Nat) : Int64 := ([8169844286657396759, 1387418806983795475, 1369543991049326883, 3558140606652117031, 3612201391012315176, 3540416471562780696, 2405235594084028423, 2531354032206905351, 7016919408688042007, 4711058885160956167, 1369519874944274436, 1711688950037881362, 7012117838701076546, 72432543769887490, 7008033145201377299, 72365525475813997, 72339072384280392, 360569449338263893] : List Int64).getD j 0
/-- PadConsole$Waves.TICKS -/
noncomputable def zt6 (j : Nat) : Int32 := ([170, 186, 238, 254] : List Int32).getD j 0
/-- PadConsole$Waves.MULTIPLES -/
noncomputable def zt7 (j : Nat) : Int32 := ([1, 2, 4, 6, 8, 10, 12, 14, 16, 18, 20, 20, 24, 24, 30, 30] : List Int32).getD j 0
/-- PadConsole$Waves.SCALES -/
noncomputable def zt8 (j : Nat) : Int32 := ([0, 48, 64, 74, 80, 86, 90, 94, 96, 100, 102, 104, 106, 108, 110, 112] : List Int32).getD j 0
/-- PadConsole$Waves.LOGS -/
noncomputable def zt9 (j : Nat) : Int32 := ([2137, 1731, 1543, 1419, 1326, 1252, 1190, 1137, 1091, 1050, 1013, 979, 949, 920, 894, 869, 846, 825, 804, 785, 767, 749, 732, 717, 701, 687, 672, 659, 646, 633, 621, 609, 598, 587, 576, 566, 556, 546, 536, 527, 518, 509, 501, 492, 484, 476, 468, 461, 453, 446, 439, 432, 425, 418, 411, 405, 399, 392, 386, 380, 375, 369, 363, 358, 352, 347, 341, 336, 331, 326, 321, 316, 311, 307, 302, 297, 293, 289, 284, 280, 276, 271, 267, 263, 259, 255, 251, 248, 244, 240, 236, 233, 229, 226, 222, 219, 215, 212, 209, 205, 202, 199, 196, 193, 190, 187, 184, 181, 178, 175, 172, 169, 167, 164, 161, 159, 156, 153, 151, 148, 146, 143, 141, 138, 136, 134, 131, 129, 127, 125, 122, 120, 118, 116, 114, 112, 110, 108, 106, 104, 102, 100, 98, 96, 94, 92, 91, 89, 87, 85, 83, 82, 80, 78, 77, 75, 74, 72, 70, 69, 67, 66, 64, 63, 62, 60, 59, 57, 56, 55, 53, 52, 51, 49, 48, 47, 46, 45, 43, 42, 41, 40, 39, 38, 37, 36, 35, 34, 33, 32, 31, 30, 29, 28, 27, 26, 25, 24, 23, 23, 22, 21, 20, 20, 19, 18, 17, 17, 16, 15, 15, 14, 13, 13, 12, 12, 11, 10, 10, 9, 9, 8, 8, 7, 7, 7, 6, 6, 5, 5, 5, 4, 4, 4, 3, 3, 3, 2, 2, 2, 2, 1, 1, 1, 1, 1, 1, 1, 0, 0, 0, 0, 0, 0, 0, 0] : List Int32).getD j 0
/-- PadConsole$Waves.POWERS -/
noncomputable def zt10 (j : Nat) : Int32 := ([0, 3, 6, 8, 11, 14, 17, 20, 22, 25, 28, 31, 34, 37, 40, 42, 45, 48, 51, 54, 57, 60, 63, 66, 69, 72, 75, 78, 81, 84, 87, 90, 93, 96, 99, 102, 105, 108, 111, 114, 117, 120, 123, 126, 130, 133, 136, 139, 142, 145, 148, 152, 155, 158, 161, 164, 168, 171, 174, 177, 181, 184, 187, 190, 194, 197, 200, 204, 207, 210, 214, 217, 220, 224, 227, 231, 234, 237, 241, 244, 248, 251, 255, 258, 262, 265, 268, 272, 276, 279, 283, 286, 290, 293, 297, 300, 304, 308, 311, 315, 318, 322, 326, 329, 333, 337, 340, 344, 348, 352, 355, 359, 363, 367, 370, 374, 378, 382, 385, 389, 393, 397, 401, 405, 409, 412, 416, 420, 424, 428, 432, 436, 440, 444, 448, 452, 456, 460, 464, 468, 472, 476, 480, 484, 488, 492, 496, 501, 505, 509, 513, 517, 521, 526, 530, 534, 538, 542, 547, 551, 555, 560, 564, 568, 572, 577, 581, 585, 590, 594, 599, 603, 607, 612, 616, 621, 625, 630, 634, 639, 643, 648, 652, 657, 661, 666, 670, 675, 680, 684, 689, 693, 698, 703, 708, 712, 717, 722, 726, 731, 736, 741, 745, 750, 755, 760, 765, 770, 774, 779, 784, 789, 794, 799, 804, 809, 814, 819, 824, 829, 834, 839, 844, 849, 854, 859, 864, 869, 874, 880, 885, 890, 895, 900, 906, 911, 916, 921, 927, 932, 937, 942, 948, 953, 959, 964, 969, 975, 980, 986, 991, 996, 1002, 1007, 1013, 1018] : List Int32).getD j 0
/-- PadConsoleModel.SINE -/
noncomputable def zt11 (j : Nat) : Int32 := ([2137, 1731, 1543, 1419, 1326, 1252, 1190, 1137, 1091, 1050, 1013, 979, 949, 920, 894, 869, 846, 825, 804, 785, 767, 749, 732, 717, 701, 687, 672, 659, 646, 633, 621, 609, 598, 587, 576, 566, 556, 546, 536, 527, 518, 509, 501, 492, 484, 476, 468, 461, 453, 446, 439, 432, 425, 418, 411, 405, 399, 392, 386, 380, 375, 369, 363, 358, 352, 347, 341, 336, 331, 326, 321, 316, 311, 307, 302, 297, 293, 289, 284, 280, 276, 271, 267, 263, 259, 255, 251, 248, 244, 240, 236, 233, 229, 226, 222, 219, 215, 212, 209, 205, 202, 199, 196, 193, 190, 187, 184, 181, 178, 175, 172, 169, 167, 164, 161, 159, 156, 153, 151, 148, 146, 143, 141, 138, 136, 134, 131, 129, 127, 125, 122, 120, 118, 116, 114, 112, 110, 108, 106, 104, 102, 100, 98, 96, 94, 92, 91, 89, 87, 85, 83, 82, 80, 78, 77, 75, 74, 72, 70, 69, 67, 66, 64, 63, 62, 60, 59, 57, 56, 55, 53, 52, 51, 49, 48, 47, 46, 45, 43, 42, 41, 40, 39, 38, 37, 36, 35, 34, 33, 32, 31, 30, 29, 28, 27, 26, 25, 24, 23, 23, 22, 21, 20, 20, 19, 18, 17, 17, 16, 15, 15, 14, 13, 13, 12, 12, 11, 10, 10, 9, 9, 8, 8, 7, 7, 7, 6, 6, 5, 5, 5, 4, 4, 4, 3, 3, 3, 2, 2, 2, 2, 1, 1, 1, 1, 1, 1, 1, 0, 0, 0, 0, 0, 0, 0, 0] : List Int32).getD j 0
/-- PadConsoleModel.POWER -/
noncomputable def zt12 (j : Nat) : Int32 := ([0, 3, 6, 8, 11, 14, 17, 20, 22, 25, 28, 31, 34, 37, 40, 42, 45, 48, 51, 54, 57, 60, 63, 66, 69, 72, 75, 78, 81, 84, 87, 90, 93, 96, 99, 102, 105, 108, 111, 114, 117, 120, 123, 126, 130, 133, 136, 139, 142, 145, 148, 152, 155, 158, 161, 164, 168, 171, 174, 177, 181, 184, 187, 190, 194, 197, 200, 204, 207, 210, 214, 217, 220, 224, 227, 231, 234, 237, 241, 244, 248, 251, 255, 258, 262, 265, 268, 272, 276, 279, 283, 286, 290, 293, 297, 300, 304, 308, 311, 315, 318, 322, 326, 329, 333, 337, 340, 344, 348, 352, 355, 359, 363, 367, 370, 374, 378, 382, 385, 389, 393, 397, 401, 405, 409, 412, 416, 420, 424, 428, 432, 436, 440, 444, 448, 452, 456, 460, 464, 468, 472, 476, 480, 484, 488, 492, 496, 501, 505, 509, 513, 517, 521, 526, 530, 534, 538, 542, 547, 551, 555, 560, 564, 568, 572, 577, 581, 585, 590, 594, 599, 603, 607, 612, 616, 621, 625, 630, 634, 639, 643, 648, 652, 657, 661, 666, 670, 675, 680, 684, 689, 693, 698, 703, 708, 712, 717, 722, 726, 731, 736, 741, 745, 750, 755, 760, 765, 770, 774, 779, 784, 789, 794, 799, 804, 809, 814, 819, 824, 829, 834, 839, 844, 849, 854, 859, 864, 869, 874, 880, 885, 890, 895, 900, 906, 911, 916, 921, 927, 932, 937, 942, 948, 953, 959, 964, 969, 975, 980, 986, 991, 996, 1002, 1007, 1013, 1018] : List Int32).getD j 0
noncomputable def zNS : Nat := 13
noncomputable def zsC : Nat → String := fun k => match k with
  | 0 => "PadConsole$Memory"
  | 1 => "PadConsole$Memory"
  | 2 => "PadConsole$Processor"
  | 3 => "PadConsole$Painter"
  | 4 => "PadConsole$Sound"
  | 5 => "PadConsole$Waves"
  | 6 => "PadConsole$Waves"
  | 7 => "PadConsole$Waves"
  | 8 => "PadConsole$Waves"
  | 9 => "PadConsole$Waves"
  | 10 => "PadConsole$Waves"
  | 11 => "PadConsoleModel"
  | _ => "PadConsoleModel"
noncomputable def zsN : Nat → String := fun k => match k with
  | 0 => "HEADER_SIGNS"
  | 1 => "HEADER_PLACES"
  | 2 => "CONDITIONS"
  | 3 => "FIXED_COLOURS"
  | 4 => "LOUD"
  | 5 => "PATCHES"
  | 6 => "TICKS"
  | 7 => "MULTIPLES"
  | 8 => "SCALES"
  | 9 => "LOGS"
  | 10 => "POWERS"
  | 11 => "SINE"
  | _ => "POWER"
noncomputable def zsD : Nat → String := fun k => match k with
  | 0 => "[I"
  | 1 => "[I"
  | 2 => "[I"
  | 3 => "[I"
  | 4 => "[I"
  | 5 => "[J"
  | 6 => "[I"
  | 7 => "[I"
  | 8 => "[I"
  | 9 => "[I"
  | 10 => "[I"
  | 11 => "[I"
  | _ => "[I"
noncomputable def zsY : Nat → FieldType := fun k => match k with
  | 0 => .int
  | 1 => .int
  | 2 => .int
  | 3 => .int
  | 4 => .int
  | 5 => .long
  | 6 => .int
  | 7 => .int
  | 8 => .int
  | 9 => .int
  | 10 => .int
  | 11 => .int
  | _ => .int
noncomputable def zsL : Nat → Nat := fun k => match k with
  | 0 => 8
  | 1 => 3
  | 2 => 4
  | 3 => 16
  | 4 => 16
  | 5 => 18
  | 6 => 4
  | 7 => 16
  | 8 => 16
  | 9 => 256
  | 10 => 256
  | 11 => 256
  | _ => 256
noncomputable def zsF : Nat → (Nat → Value) := fun k => match k with
  | 0 => (fun j => .int (zt0 j))
  | 1 => (fun j => .int (zt1 j))
  | 2 => (fun j => .int (zt2 j))
  | 3 => (fun j => .int (zt3 j))
  | 4 => (fun j => .int (zt4 j))
  | 5 => (fun j => .long (zt5 j))
  | 6 => (fun j => .int (zt6 j))
  | 7 => (fun j => .int (zt7 j))
  | 8 => (fun j => .int (zt8 j))
  | 9 => (fun j => .int (zt9 j))
  | 10 => (fun j => .int (zt10 j))
  | 11 => (fun j => .int (zt11 j))
  | _ => (fun j => .int (zt12 j))
noncomputable def zNK : Nat := 179
noncomputable def zkO : Nat → String := fun k => match k with
  | 0 => "PadConsole$Teller"
  | 1 => "PadConsole$Teller"
  | 2 => "PadConsole$Teller"
  | 3 => "PadConsole$Teller"
  | 4 => "PadConsole$Teller"
  | 5 => "PadConsole$Teller"
  | 6 => "PadConsole$Teller"
  | 7 => "PadConsole$Teller"
  | 8 => "PadConsole$Teller"
  | 9 => "PadConsole$Teller"
  | 10 => "PadConsole$Teller"
  | 11 => "PadConsole$Teller"
  | 12 => "PadConsole$Teller"
  | 13 => "PadConsole$Teller"
  | 14 => "PadConsole$Teller"
  | 15 => "PadConsole$Teller"
  | 16 => "PadConsole$Teller"
  | 17 => "PadConsole$Teller"
  | 18 => "PadConsole$Teller"
  | 19 => "PadConsole$Teller"
  | 20 => "PadConsole$Teller"
  | 21 => "PadConsole$Teller"
  | 22 => "PadConsole$Teller"
  | 23 => "PadConsole$Teller"
  | 24 => "PadConsole$Teller"
  | 25 => "PadConsole$Teller"
  | 26 => "PadConsole$Teller"
  | 27 => "PadConsole$Teller"
  | 28 => "PadConsole$Teller"
  | 29 => "PadConsole$Teller"
  | 30 => "PadConsole$Teller"
  | 31 => "PadConsole$Teller"
  | 32 => "PadConsole$Teller"
  | 33 => "PadConsole$Teller"
  | 34 => "PadConsole$Teller"
  | 35 => "PadConsole$Teller"
  | 36 => "PadConsole$Teller"
  | 37 => "PadConsole$Teller"
  | 38 => "PadConsole$Teller"
  | 39 => "PadConsole$Teller"
  | 40 => "PadConsole$Teller"
  | 41 => "PadConsole$Teller"
  | 42 => "PadConsole$Teller"
  | 43 => "PadConsole$Teller"
  | 44 => "PadConsole"
  | 45 => "PadConsole"
  | 46 => "PadConsole"
  | 47 => "PadConsole"
  | 48 => "PadConsole"
  | 49 => "PadConsole"
  | 50 => "PadConsole"
  | 51 => "PadConsole"
  | 52 => "PadConsole"
  | 53 => "PadConsole"
  | 54 => "PadConsole"
  | 55 => "PadConsole"
  | 56 => "PadConsole"
  | 57 => "PadConsole"
  | 58 => "PadConsole"
  | 59 => "PadConsole"
  | 60 => "PadConsole"
  | 61 => "PadConsole"
  | 62 => "PadConsole"
  | 63 => "PadConsole"
  | 64 => "PadConsole"
  | 65 => "PadConsole"
  | 66 => "PadConsole"
  | 67 => "PadConsole"
  | 68 => "PadConsole"
  | 69 => "PadConsole"
  | 70 => "PadConsoleModel"
  | 71 => "PadConsoleModel"
  | 72 => "PadConsoleModel"
  | 73 => "PadConsoleModel"
  | 74 => "PadConsoleModel"
  | 75 => "PadConsoleModel"
  | 76 => "PadConsoleModel"
  | 77 => "PadConsoleModel"
  | 78 => "PadConsoleModel"
  | 79 => "PadConsoleModel"
  | 80 => "PadConsoleModel"
  | 81 => "PadConsoleModel"
  | 82 => "PadConsoleModel"
  | 83 => "PadConsoleModel"
  | 84 => "PadConsoleModel"
  | 85 => "PadConsoleModel"
  | 86 => "PadConsoleModel"
  | 87 => "PadConsoleModel"
  | 88 => "PadConsoleModel"
  | 89 => "PadConsoleModel"
  | 90 => "PadConsoleModel"
  | 91 => "PadConsoleModel"
  | 92 => "PadConsoleModel"
  | 93 => "PadConsoleModel"
  | 94 => "PadConsoleModel"
  | 95 => "PadConsoleModel"
  | 96 => "PadConsoleModel"
  | 97 => "PadConsoleModel"
  | 98 => "PadConsoleModel"
  | 99 => "PadConsoleModel"
  | 100 => "PadConsoleModel"
  | 101 => "PadConsoleModel"
  | 102 => "PadConsoleModel"
  | 103 => "PadConsoleModel"
  | 104 => "PadConsoleModel"
  | 105 => "PadConsoleModel"
  | 106 => "PadConsoleModel"
  | 107 => "PadConsoleModel"
  | 108 => "PadConsoleModel"
  | 109 => "PadConsoleModel"
  | 110 => "PadConsoleModel"
  | 111 => "PadConsoleModel"
  | 112 => "PadConsoleModel"
  | 113 => "PadConsoleModel"
  | 114 => "PadConsoleModel"
  | 115 => "PadConsoleModel"
  | 116 => "PadConsoleModel"
  | 117 => "PadConsoleModel"
  | 118 => "PadConsoleModel"
  | 119 => "PadConsoleModel"
  | 120 => "PadConsoleModel"
  | 121 => "PadConsoleModel"
  | 122 => "PadConsoleModel"
  | 123 => "PadConsoleModel"
  | 124 => "PadConsoleModel"
  | 125 => "PadConsoleModel"
  | 126 => "PadConsoleModel"
  | 127 => "PadConsoleModel"
  | 128 => "PadConsoleModel"
  | 129 => "PadConsoleModel"
  | 130 => "PadConsoleModel"
  | 131 => "PadConsoleModel"
  | 132 => "PadConsoleModel"
  | 133 => "PadConsoleModel"
  | 134 => "PadConsoleModel"
  | 135 => "PadConsoleModel"
  | 136 => "PadConsoleModel"
  | 137 => "PadConsoleModel"
  | 138 => "PadConsoleModel"
  | 139 => "PadConsoleModel"
  | 140 => "PadConsoleModel"
  | 141 => "PadConsoleModel"
  | 142 => "PadConsoleModel"
  | 143 => "PadConsoleModel"
  | 144 => "PadConsoleModel"
  | 145 => "PadConsoleModel"
  | 146 => "PadConsoleModel"
  | 147 => "PadConsoleModel"
  | 148 => "PadConsoleModel"
  | 149 => "PadConsoleModel"
  | 150 => "PadConsoleModel"
  | 151 => "PadConsoleModel"
  | 152 => "PadConsoleModel"
  | 153 => "PadConsoleModel"
  | 154 => "PadConsoleModel"
  | 155 => "PadConsoleModel"
  | 156 => "PadConsoleModel"
  | 157 => "PadConsoleModel"
  | 158 => "PadConsoleModel"
  | 159 => "PadConsoleModel"
  | 160 => "PadConsoleModel"
  | 161 => "PadConsoleModel"
  | 162 => "PadConsoleModel"
  | 163 => "PadConsoleModel"
  | 164 => "PadConsoleModel"
  | 165 => "PadConsoleModel"
  | 166 => "PadConsoleModel"
  | 167 => "PadConsoleModel"
  | 168 => "PadConsoleModel"
  | 169 => "PadConsoleModel"
  | 170 => "PadConsoleModel"
  | 171 => "PadConsoleModel"
  | 172 => "PadConsoleModel"
  | 173 => "PadConsoleModel"
  | 174 => "PadConsoleModel"
  | 175 => "PadConsoleModel"
  | 176 => "PadConsoleModel"
  | 177 => "PadConsoleModel"
  | _ => "PadConsoleModel"
noncomputable def zkI : Nat → Nat := fun k => match k with
  | 0 => 45
  | 1 => 216
  | 2 => 214
  | 3 => 189
  | 4 => 194
  | 5 => 199
  | 6 => 131
  | 7 => 133
  | 8 => 135
  | 9 => 137
  | 10 => 139
  | 11 => 141
  | 12 => 143
  | 13 => 145
  | 14 => 147
  | 15 => 149
  | 16 => 151
  | 17 => 153
  | 18 => 155
  | 19 => 157
  | 20 => 159
  | 21 => 161
  | 22 => 163
  | 23 => 165
  | 24 => 167
  | 25 => 99
  | 26 => 101
  | 27 => 103
  | 28 => 105
  | 29 => 107
  | 30 => 109
  | 31 => 111
  | 32 => 113
  | 33 => 90
  | 34 => 92
  | 35 => 94
  | 36 => 115
  | 37 => 117
  | 38 => 119
  | 39 => 121
  | 40 => 123
  | 41 => 125
  | 42 => 127
  | 43 => 129
  | 44 => 97
  | 45 => 109
  | 46 => 116
  | 47 => 118
  | 48 => 123
  | 49 => 142
  | 50 => 148
  | 51 => 154
  | 52 => 164
  | 53 => 174
  | 54 => 183
  | 55 => 188
  | 56 => 202
  | 57 => 210
  | 58 => 215
  | 59 => 232
  | 60 => 245
  | 61 => 261
  | 62 => 274
  | 63 => 283
  | 64 => 288
  | 65 => 302
  | 66 => 311
  | 67 => 314
  | 68 => 317
  | 69 => 323
  | 70 => 467
  | 71 => 655
  | 72 => 662
  | 73 => 664
  | 74 => 666
  | 75 => 668
  | 76 => 670
  | 77 => 672
  | 78 => 674
  | 79 => 676
  | 80 => 678
  | 81 => 680
  | 82 => 682
  | 83 => 657
  | 84 => 566
  | 85 => 568
  | 86 => 570
  | 87 => 575
  | 88 => 577
  | 89 => 582
  | 90 => 554
  | 91 => 555
  | 92 => 557
  | 93 => 590
  | 94 => 592
  | 95 => 594
  | 96 => 596
  | 97 => 598
  | 98 => 600
  | 99 => 602
  | 100 => 703
  | 101 => 705
  | 102 => 707
  | 103 => 612
  | 104 => 614
  | 105 => 616
  | 106 => 618
  | 107 => 620
  | 108 => 622
  | 109 => 624
  | 110 => 627
  | 111 => 692
  | 112 => 604
  | 113 => 606
  | 114 => 608
  | 115 => 610
  | 116 => 721
  | 117 => 723
  | 118 => 725
  | 119 => 727
  | 120 => 625
  | 121 => 732
  | 122 => 734
  | 123 => 736
  | 124 => 738
  | 125 => 740
  | 126 => 742
  | 127 => 744
  | 128 => 746
  | 129 => 690
  | 130 => 629
  | 131 => 631
  | 132 => 633
  | 133 => 635
  | 134 => 637
  | 135 => 639
  | 136 => 641
  | 137 => 748
  | 138 => 750
  | 139 => 752
  | 140 => 754
  | 141 => 756
  | 142 => 758
  | 143 => 760
  | 144 => 762
  | 145 => 764
  | 146 => 766
  | 147 => 768
  | 148 => 770
  | 149 => 772
  | 150 => 774
  | 151 => 776
  | 152 => 778
  | 153 => 780
  | 154 => 782
  | 155 => 784
  | 156 => 786
  | 157 => 788
  | 158 => 790
  | 159 => 792
  | 160 => 794
  | 161 => 795
  | 162 => 797
  | 163 => 799
  | 164 => 801
  | 165 => 803
  | 166 => 805
  | 167 => 810
  | 168 => 812
  | 169 => 814
  | 170 => 816
  | 171 => 818
  | 172 => 820
  | 173 => 822
  | 174 => 824
  | 175 => 826
  | 176 => 828
  | 177 => 830
  | _ => 832
noncomputable def zkT : Nat → String := fun k => match k with
  | 0 => "nop"
  | 1 => "0123456789abcdef"
  | 2 => "b;c;d;e;h;l;(hl);a"
  | 3 => "bc;de;hl;sp"
  | 4 => "bc;de;hl;af"
  | 5 => "nz;z;nc;c;po;pe;p;m"
  | 6 => "rlc T;rrc T;rl T;rr T;sla T;sra T;sll T;srl T"
  | 7 => "bit B,T"
  | 8 => "res B,T"
  | 9 => "set B,T"
  | 10 => "ldi;ldd;ldir;lddr"
  | 11 => "cpi;cpd;cpir;cpdr"
  | 12 => "ini;ind;inir;indr"
  | 13 => "outi;outd;otir;otdr"
  | 14 => "in (c)"
  | 15 => "in Y,(c)"
  | 16 => "out (c),0"
  | 17 => "out (c),Y"
  | 18 => "sbc hl,P;adc hl,P"
  | 19 => "ld (W),P;ld P,(W)"
  | 20 => "neg"
  | 21 => "reti"
  | 22 => "retn"
  | 23 => "im 0;im 0;im 1;im 2"
  | 24 => "ld i,a;ld r,a;ld a,i;ld a,r;rrd;rld;nop;nop"
  | 25 => "nop;ex af,af2;djnz E;jr E;jr D,E;jr D,E;jr D,E;jr D,E"
  | 26 => "ld P,W;add J,P"
  | 27 => "ld (bc),a;ld a,(bc);ld (de),a;ld a,(de);ld (W),J;ld J,(W);ld (W),a;ld a,(W)"
  | 28 => "inc P;dec P"
  | 29 => "inc Y"
  | 30 => "dec Y"
  | 31 => "ld Y,N"
  | 32 => "rlca;rrca;rla;rra;daa;cpl;scf;ccf"
  | 33 => "halt"
  | 34 => "ld Y,Z"
  | 35 => "add Z;adc Z;sub Z;sbc Z;and Z;xor Z;or Z;cp Z"
  | 36 => "ret C"
  | 37 => "pop Q;ret;pop Q;exx;pop Q;jp (J);pop Q;ld sp,J"
  | 38 => "jp C,W"
  | 39 => "jp W;;out (N),a;in a,(N);ex (sp),J;ex de,J;di;ei"
  | 40 => "call C,W"
  | 41 => "push Q;call W"
  | 42 => "add N;adc N;sub N;sbc N;and N;xor N;or N;cp N"
  | 43 => "rst V"
  | 44 => "a call feeds 1 to 24 bytes"
  | 45 => "the tape is full"
  | 46 => "the tape can't have that length"
  | 47 => "the tape is empty"
  | 48 => "the tape has no eight bytes there"
  | 49 => "a cartridge has no such number"
  | 50 => "a call makes 1 to 20000 steps"
  | 51 => "a call makes 1 to 3 pictures"
  | 52 => "no such pad or buttons"
  | 53 => "there are the lines 0 and 1"
  | 54 => "plans go on in order, with a pad and its buttons"
  | 55 => "256 plans wait"
  | 56 => "the text has no such sign"
  | 57 => "an address is a word"
  | 58 => "there are 8 other break points"
  | 59 => "nothing is saved"
  | 60 => "there is no such register"
  | 61 => "the battery has no such byte"
  | 62 => "the video chip has no such number"
  | 63 => "the picture has no such dot"
  | 64 => "the picture has no such line"
  | 65 => "no sample waits"
  | 66 => "no mix waits"
  | 67 => "the waves have no such number"
  | 68 => "the sound chip has no such number"
  | 69 => "there is nothing to look at"
  | 70 => "71611e17d078001713411a0dd8f7231313019900f2c4112331610e07a864702732211e06e076002831221605e071001821611d078281100723212d14a272000761611b066465101741610b1885f7710713018311fae4100417c12407f8f8221261500c05c2f5204201015503c995030261418903f1e440130101180fdff86a6d01010000c8d8a74805010000f8aa5955"
  | 71 => "nop"
  | 72 => "rlc "
  | 73 => "rrc "
  | 74 => "rl "
  | 75 => "rr "
  | 76 => "sla "
  | 77 => "sra "
  | 78 => "sll "
  | 79 => "srl "
  | 80 => "bit "
  | 81 => "res "
  | 82 => "set "
  | 83 => ","
  | 84 => "(hl)"
  | 85 => "(ix"
  | 86 => "(iy"
  | 87 => "-"
  | 88 => "+"
  | 89 => ")"
  | 90 => "hl"
  | 91 => "ix"
  | 92 => "iy"
  | 93 => "b"
  | 94 => "c"
  | 95 => "d"
  | 96 => "e"
  | 97 => "h"
  | 98 => "l"
  | 99 => "a"
  | 100 => "ex af,af2"
  | 101 => "djnz "
  | 102 => "jr "
  | 103 => "nz"
  | 104 => "z"
  | 105 => "nc"
  | 106 => "po"
  | 107 => "pe"
  | 108 => "p"
  | 109 => "m"
  | 110 => "add "
  | 111 => "ld "
  | 112 => "bc"
  | 113 => "de"
  | 114 => "af"
  | 115 => "sp"
  | 116 => "dec "
  | 117 => "inc "
  | 118 => "(bc)"
  | 119 => "(de)"
  | 120 => "("
  | 121 => "rlca"
  | 122 => "rrca"
  | 123 => "rla"
  | 124 => "rra"
  | 125 => "daa"
  | 126 => "cpl"
  | 127 => "scf"
  | 128 => "ccf"
  | 129 => "halt"
  | 130 => "adc "
  | 131 => "sub "
  | 132 => "sbc "
  | 133 => "and "
  | 134 => "xor "
  | 135 => "or "
  | 136 => "cp "
  | 137 => "ret "
  | 138 => "pop "
  | 139 => "ret"
  | 140 => "exx"
  | 141 => "jp ("
  | 142 => "ld sp,"
  | 143 => "jp "
  | 144 => "out ("
  | 145 => "in a,("
  | 146 => "),a"
  | 147 => "ex (sp),"
  | 148 => "ex de,hl"
  | 149 => "di"
  | 150 => "ei"
  | 151 => "call "
  | 152 => "push "
  | 153 => "rst "
  | 154 => "ld"
  | 155 => "cp"
  | 156 => "in"
  | 157 => "out"
  | 158 => "ot"
  | 159 => "i"
  | 160 => "\x72"
  | 161 => "in "
  | 162 => "(c)"
  | 163 => "out (c),"
  | 164 => "0"
  | 165 => "sbc hl,"
  | 166 => "adc hl,"
  | 167 => "neg"
  | 168 => "reti"
  | 169 => "retn"
  | 170 => "im 0"
  | 171 => "im 1"
  | 172 => "im 2"
  | 173 => "ld i,a"
  | 174 => "ld r,a"
  | 175 => "ld a,i"
  | 176 => "ld a,\x72"
  | 177 => "rrd"
  | _ => "rld"
noncomputable def zkS : Nat → (List Int32) := fun k => match k with
  | 0 => [110, 111, 112]
  | 1 => [48, 49, 50, 51, 52, 53, 54, 55, 56, 57, 97, 98, 99, 100, 101, 102]
  | 2 => [98, 59, 99, 59, 100, 59, 101, 59, 104, 59, 108, 59, 40, 104, 108, 41, 59, 97]
  | 3 => [98, 99, 59, 100, 101, 59, 104, 108, 59, 115, 112]
  | 4 => [98, 99, 59, 100, 101, 59, 104, 108, 59, 97, 102]
  | 5 => [110, 122, 59, 122, 59, 110, 99, 59, 99, 59, 112, 111, 59, 112, 101, 59, 112, 59, 109]
  | 6 => [114, 108, 99, 32, 84, 59, 114, 114, 99, 32, 84, 59, 114, 108, 32, 84, 59, 114, 114, 32, 84, 59, 115, 108, 97, 32, 84, 59, 115, 114, 97, 32, 84, 59, 115, 108, 108, 32, 84, 59, 115, 114, 108, 32, 84]
  | 7 => [98, 105, 116, 32, 66, 44, 84]
  | 8 => [114, 101, 115, 32, 66, 44, 84]
  | 9 => [115, 101, 116, 32, 66, 44, 84]
  | 10 => [108, 100, 105, 59, 108, 100, 100, 59, 108, 100, 105, 114, 59, 108, 100, 100, 114]
  | 11 => [99, 112, 105, 59, 99, 112, 100, 59, 99, 112, 105, 114, 59, 99, 112, 100, 114]
  | 12 => [105, 110, 105, 59, 105, 110, 100, 59, 105, 110, 105, 114, 59, 105, 110, 100, 114]
  | 13 => [111, 117, 116, 105, 59, 111, 117, 116, 100, 59, 111, 116, 105, 114, 59, 111, 116, 100, 114]
  | 14 => [105, 110, 32, 40, 99, 41]
  | 15 => [105, 110, 32, 89, 44, 40, 99, 41]
  | 16 => [111, 117, 116, 32, 40, 99, 41, 44, 48]
  | 17 => [111, 117, 116, 32, 40, 99, 41, 44, 89]
  | 18 => [115, 98, 99, 32, 104, 108, 44, 80, 59, 97, 100, 99, 32, 104, 108, 44, 80]
  | 19 => [108, 100, 32, 40, 87, 41, 44, 80, 59, 108, 100, 32, 80, 44, 40, 87, 41]
  | 20 => [110, 101, 103]
  | 21 => [114, 101, 116, 105]
  | 22 => [114, 101, 116, 110]
  | 23 => [105, 109, 32, 48, 59, 105, 109, 32, 48, 59, 105, 109, 32, 49, 59, 105, 109, 32, 50]
  | 24 => [108, 100, 32, 105, 44, 97, 59, 108, 100, 32, 114, 44, 97, 59, 108, 100, 32, 97, 44, 105, 59, 108, 100, 32, 97, 44, 114, 59, 114, 114, 100, 59, 114, 108, 100, 59, 110, 111, 112, 59, 110, 111, 112]
  | 25 => [110, 111, 112, 59, 101, 120, 32, 97, 102, 44, 97, 102, 50, 59, 100, 106, 110, 122, 32, 69, 59, 106, 114, 32, 69, 59, 106, 114, 32, 68, 44, 69, 59, 106, 114, 32, 68, 44, 69, 59, 106, 114, 32, 68, 44, 69, 59, 106, 114, 32, 68, 44, 69]
  | 26 => [108, 100, 32, 80, 44, 87, 59, 97, 100, 100, 32, 74, 44, 80]
  | 27 => [108, 100, 32, 40, 98, 99, 41, 44, 97, 59, 108, 100, 32, 97, 44, 40, 98, 99, 41, 59, 108, 100, 32, 40, 100, 101, 41, 44, 97, 59, 108, 100, 32, 97, 44, 40, 100, 101, 41, 59, 108, 100, 32, 40, 87, 41, 44, 74, 59, 108, 100, 32, 74, 44, 40, 87, 41, 59, 108, 100, 32, 40, 87, 41, 44, 97, 59, 108, 100, 32, 97, 44, 40, 87, 41]
  | 28 => [105, 110, 99, 32, 80, 59, 100, 101, 99, 32, 80]
  | 29 => [105, 110, 99, 32, 89]
  | 30 => [100, 101, 99, 32, 89]
  | 31 => [108, 100, 32, 89, 44, 78]
  | 32 => [114, 108, 99, 97, 59, 114, 114, 99, 97, 59, 114, 108, 97, 59, 114, 114, 97, 59, 100, 97, 97, 59, 99, 112, 108, 59, 115, 99, 102, 59, 99, 99, 102]
  | 33 => [104, 97, 108, 116]
  | 34 => [108, 100, 32, 89, 44, 90]
  | 35 => [97, 100, 100, 32, 90, 59, 97, 100, 99, 32, 90, 59, 115, 117, 98, 32, 90, 59, 115, 98, 99, 32, 90, 59, 97, 110, 100, 32, 90, 59, 120, 111, 114, 32, 90, 59, 111, 114, 32, 90, 59, 99, 112, 32, 90]
  | 36 => [114, 101, 116, 32, 67]
  | 37 => [112, 111, 112, 32, 81, 59, 114, 101, 116, 59, 112, 111, 112, 32, 81, 59, 101, 120, 120, 59, 112, 111, 112, 32, 81, 59, 106, 112, 32, 40, 74, 41, 59, 112, 111, 112, 32, 81, 59, 108, 100, 32, 115, 112, 44, 74]
  | 38 => [106, 112, 32, 67, 44, 87]
  | 39 => [106, 112, 32, 87, 59, 59, 111, 117, 116, 32, 40, 78, 41, 44, 97, 59, 105, 110, 32, 97, 44, 40, 78, 41, 59, 101, 120, 32, 40, 115, 112, 41, 44, 74, 59, 101, 120, 32, 100, 101, 44, 74, 59, 100, 105, 59, 101, 105]
  | 40 => [99, 97, 108, 108, 32, 67, 44, 87]
  | 41 => [112, 117, 115, 104, 32, 81, 59, 99, 97, 108, 108, 32, 87]
  | 42 => [97, 100, 100, 32, 78, 59, 97, 100, 99, 32, 78, 59, 115, 117, 98, 32, 78, 59, 115, 98, 99, 32, 78, 59, 97, 110, 100, 32, 78, 59, 120, 111, 114, 32, 78, 59, 111, 114, 32, 78, 59, 99, 112, 32, 78]
  | 43 => [114, 115, 116, 32, 86]
  | 44 => [97, 32, 99, 97, 108, 108, 32, 102, 101, 101, 100, 115, 32, 49, 32, 116, 111, 32, 50, 52, 32, 98, 121, 116, 101, 115]
  | 45 => [116, 104, 101, 32, 116, 97, 112, 101, 32, 105, 115, 32, 102, 117, 108, 108]
  | 46 => [116, 104, 101, 32, 116, 97, 112, 101, 32, 99, 97, 110, 39, 116, 32, 104, 97, 118, 101, 32, 116, 104, 97, 116, 32, 108, 101, 110, 103, 116, 104]
  | 47 => [116, 104, 101, 32, 116, 97, 112, 101, 32, 105, 115, 32, 101, 109, 112, 116, 121]
  | 48 => [116, 104, 101, 32, 116, 97, 112, 101, 32, 104, 97, 115, 32, 110, 111, 32, 101, 105, 103, 104, 116, 32, 98, 121, 116, 101, 115, 32, 116, 104, 101, 114, 101]
  | 49 => [97, 32, 99, 97, 114, 116, 114, 105, 100, 103, 101, 32, 104, 97, 115, 32, 110, 111, 32, 115, 117, 99, 104, 32, 110, 117, 109, 98, 101, 114]
  | 50 => [97, 32, 99, 97, 108, 108, 32, 109, 97, 107, 101, 115, 32, 49, 32, 116, 111, 32, 50, 48, 48, 48, 48, 32, 115, 116, 101, 112, 115]
  | 51 => [97, 32, 99, 97, 108, 108, 32, 109, 97, 107, 101, 115, 32, 49, 32, 116, 111, 32, 51, 32, 112, 105, 99, 116, 117, 114, 101, 115]
  | 52 => [110, 111, 32, 115, 117, 99, 104, 32, 112, 97, 100, 32, 111, 114, 32, 98, 117, 116, 116, 111, 110, 115]
  | 53 => [116, 104, 101, 114, 101, 32, 97, 114, 101, 32, 116, 104, 101, 32, 108, 105, 110, 101, 115, 32, 48, 32, 97, 110, 100, 32, 49]
  | 54 => [112, 108, 97, 110, 115, 32, 103, 111, 32, 111, 110, 32, 105, 110, 32, 111, 114, 100, 101, 114, 44, 32, 119, 105, 116, 104, 32, 97, 32, 112, 97, 100, 32, 97, 110, 100, 32, 105, 116, 115, 32, 98, 117, 116, 116, 111, 110, 115]
  | 55 => [50, 53, 54, 32, 112, 108, 97, 110, 115, 32, 119, 97, 105, 116]
  | 56 => [116, 104, 101, 32, 116, 101, 120, 116, 32, 104, 97, 115, 32, 110, 111, 32, 115, 117, 99, 104, 32, 115, 105, 103, 110]
  | 57 => [97, 110, 32, 97, 100, 100, 114, 101, 115, 115, 32, 105, 115, 32, 97, 32, 119, 111, 114, 100]
  | 58 => [116, 104, 101, 114, 101, 32, 97, 114, 101, 32, 56, 32, 111, 116, 104, 101, 114, 32, 98, 114, 101, 97, 107, 32, 112, 111, 105, 110, 116, 115]
  | 59 => [110, 111, 116, 104, 105, 110, 103, 32, 105, 115, 32, 115, 97, 118, 101, 100]
  | 60 => [116, 104, 101, 114, 101, 32, 105, 115, 32, 110, 111, 32, 115, 117, 99, 104, 32, 114, 101, 103, 105, 115, 116, 101, 114]
  | 61 => [116, 104, 101, 32, 98, 97, 116, 116, 101, 114, 121, 32, 104, 97, 115, 32, 110, 111, 32, 115, 117, 99, 104, 32, 98, 121, 116, 101]
  | 62 => [116, 104, 101, 32, 118, 105, 100, 101, 111, 32, 99, 104, 105, 112, 32, 104, 97, 115, 32, 110, 111, 32, 115, 117, 99, 104, 32, 110, 117, 109, 98, 101, 114]
  | 63 => [116, 104, 101, 32, 112, 105, 99, 116, 117, 114, 101, 32, 104, 97, 115, 32, 110, 111, 32, 115, 117, 99, 104, 32, 100, 111, 116]
  | 64 => [116, 104, 101, 32, 112, 105, 99, 116, 117, 114, 101, 32, 104, 97, 115, 32, 110, 111, 32, 115, 117, 99, 104, 32, 108, 105, 110, 101]
  | 65 => [110, 111, 32, 115, 97, 109, 112, 108, 101, 32, 119, 97, 105, 116, 115]
  | 66 => [110, 111, 32, 109, 105, 120, 32, 119, 97, 105, 116, 115]
  | 67 => [116, 104, 101, 32, 119, 97, 118, 101, 115, 32, 104, 97, 118, 101, 32, 110, 111, 32, 115, 117, 99, 104, 32, 110, 117, 109, 98, 101, 114]
  | 68 => [116, 104, 101, 32, 115, 111, 117, 110, 100, 32, 99, 104, 105, 112, 32, 104, 97, 115, 32, 110, 111, 32, 115, 117, 99, 104, 32, 110, 117, 109, 98, 101, 114]
  | 69 => [116, 104, 101, 114, 101, 32, 105, 115, 32, 110, 111, 116, 104, 105, 110, 103, 32, 116, 111, 32, 108, 111, 111, 107, 32, 97, 116]
  | 70 => [55, 49, 54, 49, 49, 101, 49, 55, 100, 48, 55, 56, 48, 48, 49, 55, 49, 51, 52, 49, 49, 97, 48, 100, 100, 56, 102, 55, 50, 51, 49, 51, 49, 51, 48, 49, 57, 57, 48, 48, 102, 50, 99, 52, 49, 49, 50, 51, 51, 49, 54, 49, 48, 101, 48, 55, 97, 56, 54, 52, 55, 48, 50, 55, 51, 50, 50, 49, 49, 101, 48, 54, 101, 48, 55, 54, 48, 48, 50, 56, 51, 49, 50, 50, 49, 54, 48, 53, 101, 48, 55, 49, 48, 48, 49, 56, 50, 49, 54, 49, 49, 100, 48, 55, 56, 50, 56, 49, 49, 48, 48, 55, 50, 51, 50, 49, 50, 100, 49, 52, 97, 50, 55, 50, 48, 48, 48, 55, 54, 49, 54, 49, 49, 98, 48, 54, 54, 52, 54, 53, 49, 48, 49, 55, 52, 49, 54, 49, 48, 98, 49, 56, 56, 53, 102, 55, 55, 49, 48, 55, 49, 51, 48, 49, 56, 51, 49, 49, 102, 97, 101, 52, 49, 48, 48, 52, 49, 55, 99, 49, 50, 52, 48, 55, 102, 56, 102, 56, 50, 50, 49, 50, 54, 49, 53, 48, 48, 99, 48, 53, 99, 50, 102, 53, 50, 48, 52, 50, 48, 49, 48, 49, 53, 53, 48, 51, 99, 57, 57, 53, 48, 51, 48, 50, 54, 49, 52, 49, 56, 57, 48, 51, 102, 49, 101, 52, 52, 48, 49, 51, 48, 49, 48, 49, 49, 56, 48, 102, 100, 102, 102, 56, 54, 97, 54, 100, 48, 49, 48, 49, 48, 48, 48, 48, 99, 56, 100, 56, 97, 55, 52, 56, 48, 53, 48, 49, 48, 48, 48, 48, 102, 56, 97, 97, 53, 57, 53, 53]
  | 71 => [110, 111, 112]
  | 72 => [114, 108, 99, 32]
  | 73 => [114, 114, 99, 32]
  | 74 => [114, 108, 32]
  | 75 => [114, 114, 32]
  | 76 => [115, 108, 97, 32]
  | 77 => [115, 114, 97, 32]
  | 78 => [115, 108, 108, 32]
  | 79 => [115, 114, 108, 32]
  | 80 => [98, 105, 116, 32]
  | 81 => [114, 101, 115, 32]
  | 82 => [115, 101, 116, 32]
  | 83 => [44]
  | 84 => [40, 104, 108, 41]
  | 85 => [40, 105, 120]
  | 86 => [40, 105, 121]
  | 87 => [45]
  | 88 => [43]
  | 89 => [41]
  | 90 => [104, 108]
  | 91 => [105, 120]
  | 92 => [105, 121]
  | 93 => [98]
  | 94 => [99]
  | 95 => [100]
  | 96 => [101]
  | 97 => [104]
  | 98 => [108]
  | 99 => [97]
  | 100 => [101, 120, 32, 97, 102, 44, 97, 102, 50]
  | 101 => [100, 106, 110, 122, 32]
  | 102 => [106, 114, 32]
  | 103 => [110, 122]
  | 104 => [122]
  | 105 => [110, 99]
  | 106 => [112, 111]
  | 107 => [112, 101]
  | 108 => [112]
  | 109 => [109]
  | 110 => [97, 100, 100, 32]
  | 111 => [108, 100, 32]
  | 112 => [98, 99]
  | 113 => [100, 101]
  | 114 => [97, 102]
  | 115 => [115, 112]
  | 116 => [100, 101, 99, 32]
  | 117 => [105, 110, 99, 32]
  | 118 => [40, 98, 99, 41]
  | 119 => [40, 100, 101, 41]
  | 120 => [40]
  | 121 => [114, 108, 99, 97]
  | 122 => [114, 114, 99, 97]
  | 123 => [114, 108, 97]
  | 124 => [114, 114, 97]
  | 125 => [100, 97, 97]
  | 126 => [99, 112, 108]
  | 127 => [115, 99, 102]
  | 128 => [99, 99, 102]
  | 129 => [104, 97, 108, 116]
  | 130 => [97, 100, 99, 32]
  | 131 => [115, 117, 98, 32]
  | 132 => [115, 98, 99, 32]
  | 133 => [97, 110, 100, 32]
  | 134 => [120, 111, 114, 32]
  | 135 => [111, 114, 32]
  | 136 => [99, 112, 32]
  | 137 => [114, 101, 116, 32]
  | 138 => [112, 111, 112, 32]
  | 139 => [114, 101, 116]
  | 140 => [101, 120, 120]
  | 141 => [106, 112, 32, 40]
  | 142 => [108, 100, 32, 115, 112, 44]
  | 143 => [106, 112, 32]
  | 144 => [111, 117, 116, 32, 40]
  | 145 => [105, 110, 32, 97, 44, 40]
  | 146 => [41, 44, 97]
  | 147 => [101, 120, 32, 40, 115, 112, 41, 44]
  | 148 => [101, 120, 32, 100, 101, 44, 104, 108]
  | 149 => [100, 105]
  | 150 => [101, 105]
  | 151 => [99, 97, 108, 108, 32]
  | 152 => [112, 117, 115, 104, 32]
  | 153 => [114, 115, 116, 32]
  | 154 => [108, 100]
  | 155 => [99, 112]
  | 156 => [105, 110]
  | 157 => [111, 117, 116]
  | 158 => [111, 116]
  | 159 => [105]
  | 160 => [114]
  | 161 => [105, 110, 32]
  | 162 => [40, 99, 41]
  | 163 => [111, 117, 116, 32, 40, 99, 41, 44]
  | 164 => [48]
  | 165 => [115, 98, 99, 32, 104, 108, 44]
  | 166 => [97, 100, 99, 32, 104, 108, 44]
  | 167 => [110, 101, 103]
  | 168 => [114, 101, 116, 105]
  | 169 => [114, 101, 116, 110]
  | 170 => [105, 109, 32, 48]
  | 171 => [105, 109, 32, 49]
  | 172 => [105, 109, 32, 50]
  | 173 => [108, 100, 32, 105, 44, 97]
  | 174 => [108, 100, 32, 114, 44, 97]
  | 175 => [108, 100, 32, 97, 44, 105]
  | 176 => [108, 100, 32, 97, 44, 114]
  | 177 => [114, 114, 100]
  | _ => [114, 108, 100]
noncomputable def zkL (i : Nat) : Nat := (zkS i).length
noncomputable def zkB (i j : Nat) : Int32 := (zkS i).getD j 0
end ZJN5
section ZJN6
/-! BASE: states as two tables of numbers (cell, place), steps of pure functions, and the kit's rows over one world -/
noncomputable abbrev zSt : Type := (Nat → Nat → Int32) × (Nat → Nat → Int64)
noncomputable def zgi (σ : zSt) (k j : Nat) : Int32 := σ.1 k j
noncomputable def zgl (σ : zSt) (k j : Nat) : Int64 := σ.2 k j
noncomputable def zsi (σ : zSt) (k j : Nat) (v : Int32) : zSt := (fun a => bif Nat.beq a k then upd (σ.1 a) j v else σ.1 a, σ.2)
noncomputable def zsl (σ : zSt) (k j : Nat) (v : Int64) : zSt := (σ.1, fun a => bif Nat.beq a k then vp_updL (σ.2 a) j v else σ.2 a)
noncomputable def zbv {α β : Type} (x : α) (f : α → β) : β := f x
noncomputable def zck {α : Type} (b : Bool) (x : Option α) : Option α := bif b then x else none
noncomputable def zbi {α : Type} (o : Option (zSt × Int32)) (f : zSt → Int32 → Option α) : Option α := match o with | none => none | some r => f r.1 r.2
noncomputable def zbl {α : Type} (o : Option (zSt × Int64)) (f : zSt → Int64 → Option α) : Option α := match o with | none => none | some r => f r.1 r.2
noncomputable def zbu {α : Type} (o : Option zSt) (f : zSt → Option α) : Option α := match o with | none => none | some r => f r
noncomputable def zin (i : Int32) (n : Nat) : Bool := !(decide (i < 0) || decide (n ≤ i.toNatClampNeg))
noncomputable def zmax (x y : Int32) : Int32 := if x < y then y else x
noncomputable def zmin (x y : Int32) : Int32 := if y < x then y else x
noncomputable def zbo (x : Int32) : Bool := decide (x = 0) || decide (x = 1)
noncomputable def zfuel : Nat := 2000000
theorem zin_in {i : Int32} {n : Nat} (h : zin i n = true) : vp_in i n := by
  intro q
  rcases q with q | q <;> simp [zin, q] at h
theorem zbv_use {α β : Type} {x y : α} {f : α → β} {r : β} (e : y = x) (h : zbv x f = r) : f y = r := by subst e; exact h
theorem zck_use {α : Type} {b : Bool} {x : Option α} {r : α} (h : zck b x = some r) : b = true ∧ x = some r := by
  cases b
  · cases h
  · exact ⟨rfl, h⟩
theorem zbi_use {α : Type} {o : Option (zSt × Int32)} {f : zSt → Int32 → Option α} {r : α} (h : zbi o f = some r) : ∃ σ1 v, o = some (σ1, v) ∧ f σ1 v = some r := by
  cases o with
  | none => cases h
  | some q => exact ⟨q.1, q.2, rfl, h⟩
theorem zbl_use {α : Type} {o : Option (zSt × Int64)} {f : zSt → Int64 → Option α} {r : α} (h : zbl o f = some r) : ∃ σ1 v, o = some (σ1, v) ∧ f σ1 v = some r := by
  cases o with
  | none => cases h
  | some q => exact ⟨q.1, q.2, rfl, h⟩
noncomputable def zbk {α : Type} (o : Option (zSt × Nat)) (f : zSt → Nat → Option α) : Option α := match o with | none => none | some r => f r.1 r.2
theorem zbk_use {α : Type} {o : Option (zSt × Nat)} {f : zSt → Nat → Option α} {r : α} (h : zbk o f = some r) : ∃ σ1 v, o = some (σ1, v) ∧ f σ1 v = some r := by
  cases o with
  | none => cases h
  | some q => exact ⟨q.1, q.2, rfl, h⟩
theorem zbu_use {α : Type} {o : Option zSt} {f : zSt → Option α} {r : α} (h : zbu o f = some r) : ∃ σ1, o = some σ1 ∧ f σ1 = some r := by
  cases o with
  | none => cases h
  | some q => exact ⟨q, rfl, h⟩
theorem zif_t {α : Type} {P : Prop} {d : Decidable P} {x y r : α} (c : P) (h : @ite α P d x y = r) : x = r := by rw [if_pos c] at h; exact h
theorem zif_f {α : Type} {P : Prop} {d : Decidable P} {x y r : α} (c : ¬ P) (h : @ite α P d x y = r) : y = r := by rw [if_neg c] at h; exact h
noncomputable def zDl : List String := ["java/lang/RuntimeException", "java/lang/Exception", "java/lang/Throwable"]
noncomputable def zIn (n : String) : MethodName := ⟨n, "<init>", "(Ljava/lang/String;)V"⟩
/-- links to the constructors of nest mates -/
noncomputable def zNe : List (String × Nat × MethodName × String) := [(RX11, 15, yX2_init, "PadConsole"), (RX0, 9, yX6_init, "PadConsole")]
/-- the exceptions of the face, by number -/
noncomputable def zEx : Nat → String := fun k => match k with
  | 1 => "java/lang/IllegalArgumentException"
  | 2 => "java/lang/IllegalStateException"
  | _ => "java/util/NoSuchElementException"
/-- what stands outside the worlds and is never written: static rows, the String constants, statics of the JDK -/
noncomputable def zKs (st : Nat → Nat) (A : Nat → Prop) (U : State) (H : Heap) (i : Nat) : Prop := va_O "java/lang/String" (st (100 + i)) A U H ∧ va_OF "java/lang/String" "coder" "B" (.int 0) (st (100 + i)) A U H ∧ va_OF "java/lang/String" "value" "[B" (.ref (st (400 + i))) (st (100 + i)) A U H ∧ va_T .byte (st (400 + i)) (zkL i) (fun j => .int (zkB i j)) A U H
noncomputable def zT (st : Nat → Nat) (A : Nat → Prop) (U : State) (H : Heap) : Prop :=
  (∀ k, k < zNS → va_Z (zsC k) (zsN k) (zsD k) (.ref (st k)) A U H ∧ va_T (zsY k) (st k) (zsL k) (zsF k) A U H) ∧
  (∀ i, i < zNK → zKs st A U H i) ∧ (∀ i, i < zNK → vk_R (zkO i) (zkI i) (zkT i) (st (100 + i)) U) ∧
  va_Z "java/lang/String" "COMPACT_STRINGS" "Z" (.int 1) A U H ∧ va_Zq "jdk/internal/util/Preconditions" "SIOOBE_FORMATTER" "Ljava/util/function/BiFunction;" A U H ∧
  vx_Zq Bundle.tN "UNASSIGNED_STACK" Bundle.steD A U H ∧ vx_Zq Bundle.tN "SUPPRESSED_SENTINEL" Bundle.listD A U H ∧
  (∀ k, va_Nw (.castable (zEx k) (zEx k)) U) ∧ va_Nc (zEx 2) (zEx 1) U ∧ (∀ n ∈ zDl, va_Nw (.declares (zIn n)) U) ∧ (∀ q ∈ zNe, va_Nw (.methodLinkNest q.1 q.2.1 q.2.2.1 q.2.2.2) U)
theorem zT.alike {st : Nat → Nat} {A : Nat → Prop} {u U : State} {H : Heap} (hvm : u.vm.Alike U.vm) (hR : ∀ i, i < zNK → vk_R (zkO i) (zkI i) (zkT i) (st (100 + i)) u → vk_R (zkO i) (zkI i) (zkT i) (st (100 + i)) U) (hN : ∀ k, va_Nw (.castable (zEx k) (zEx k)) u → va_Nw (.castable (zEx k) (zEx k)) U) (hDn : ∀ x, va_Nw (.declares x) u → va_Nw (.declares x) U) (hMn : ∀ a i x h, va_Nw (.methodLinkNest a i x h) u → va_Nw (.methodLinkNest a i x h) U) (h : zT st A u H) : zT st A U H := by
  obtain ⟨h1, h2, h3, h4, h5, h6, h7, h8, h9, h10, h11⟩ := h
  exact ⟨fun k hk => ⟨va_Z.moved hvm (h1 k hk).1, va_T.moved hvm (h1 k hk).2⟩, fun i hi => ⟨va_O.moved hvm (h2 i hi).1, va_OF.moved hvm (h2 i hi).2.1, va_OF.moved hvm (h2 i hi).2.2.1, va_T.moved hvm (h2 i hi).2.2.2⟩, fun i hi => hR i hi (h3 i hi), va_Z.moved hvm h4, va_Zq.moved hvm h5, vx_Zq.moved hvm h6, vx_Zq.moved hvm h7, fun k => hN k (h8 k), va_Nc.moved hvm h9, fun n hn => hDn _ (h10 n hn), fun q hq => hMn _ _ _ _ (h11 q hq)⟩
theorem zT.warm {st : Nat → Nat} {A : Nat → Prop} {u U : State} {H : Heap} (hW : u.WarmedH U.vm) (h : zT st A u H) : zT st A U H := zT.alike hW.alike (fun _ _ q => vk_R.warm hW q) (fun _ q => va_Nw.warmC hW q) (fun _ q => va_Nw.warmD hW q) (fun _ _ _ _ q => va_Nw.warmM hW q) h
theorem zT.same {st : Nat → Nat} {A : Nat → Prop} {u U : State} {H : Heap} (hv : U.vm = u.vm) (h : zT st A u H) : zT st A U H := zT.alike (by rw [hv]; exact Vm.Alike.refl _) (fun _ _ q => vk_R.same hv q) (fun _ q => va_Nw.same rfl hv.symm q) (fun _ q => va_Nw.same rfl hv.symm q) (fun _ _ _ _ q => va_Nw.same rfl hv.symm q) h
theorem zT.kept {st : Nat → Nat} {A : Nat → Prop} {U : State} {H H1 : Heap} (h : zT st A U H) (hq : ∀ a : Nat, a < H.size → ¬ A a → H1[a]? = H[a]?) : zT st A U H1 := by
  obtain ⟨h1, h2, h3, h4, h5, h6, h7, h8, h9, h10, h11⟩ := h
  exact ⟨fun k hk => ⟨(h1 k hk).1.kept hq, (h1 k hk).2.kept hq⟩, fun i hi => ⟨(h2 i hi).1.kept hq, (h2 i hi).2.1.kept hq, (h2 i hi).2.2.1.kept hq, (h2 i hi).2.2.2.kept hq⟩, h3, h4.kept hq, h5.kept hq, h6.kept hq, h7.kept hq, h8, h9, h10, h11⟩
theorem zT.narrow {st : Nat → Nat} {A B : Nat → Prop} {U : State} {H : Heap} (h : zT st A U H) (hAB : ∀ q, B q → A q) : zT st B U H := by
  obtain ⟨h1, h2, h3, h4, h5, h6, h7, h8, h9, h10, h11⟩ := h
  exact ⟨fun k hk => ⟨(h1 k hk).1.narrow hAB, (h1 k hk).2.narrow hAB⟩, fun i hi => ⟨(h2 i hi).1.narrow hAB, (h2 i hi).2.1.narrow hAB, (h2 i hi).2.2.1.narrow hAB, (h2 i hi).2.2.2.narrow hAB⟩, h3, h4.narrow hAB, h5.narrow hAB, h6.narrow hAB, h7.narrow hAB, h8, h9, h10, h11⟩
/-- the world at a moment of a method: the tables, the cells, apart, and what has changed since its entry -/
noncomputable def zI (st : Nat → Nat) (D : va_G) (tys : List (ClassId × FieldType)) (w : va_W) (A : Nat → Prop) (s : State) (H : Heap) (locs : List Loc) : Prop :=
  va_K D vwCl tys s ∧ va_P D vwCl w H ∧ va_D A w ∧ va_S A s.heap H locs ∧ (∀ q, s.heap.size ≤ q → A q) ∧ zT st A s s.heap
/-- what stays through a method's body -/
noncomputable def zC (p : Program) (m : MethodId) (c : Code) (cc : ByteArray) (nL : Nat) (s : State) (args : Array Value) (Ts : List Cond) (own : String) (meth : Method) (ret : Option FieldType) : Prop :=
  p.tables.exec = Jvm.exec ∧ c.code = cc ∧ c.maxLocals = nL ∧ s.vm.findClass own = some m.cls ∧ (∀ w ∈ Ts, w.before args s = true) ∧ meth.sig.returnType = ret ∧ meth.locks = false
noncomputable def zP (st : Nat → Nat) (D : va_G) (tys : List (ClassId × FieldType)) (w : va_W) (sz : Nat) : State → Prop := fun U => U.heap.size = sz ∧ va_P D vwCl w U.heap ∧ va_K D vwCl tys U ∧ va_D (fun _ => True) w ∧ zT st (va_A w sz) U U.heap
noncomputable def zB (D : va_G) (tys : List (ClassId × FieldType)) (w : zSt → va_W) (A : Nat → Prop) (u : zSt) (t : State) : Prop := va_P D vwCl (w u) t.heap ∧ va_K D vwCl tys t ∧ va_D A (w u)
/-- contracts: an int, a long, nothing comes back -/
noncomputable def zMi (st : Nat → Nat) (l : Launch) (y : MethodName) (ws : List Cond) (rm : Room) (av : List Value) (D : va_G) (tys : List (ClassId × FieldType)) (w : zSt → va_W) (sz : Nat) (σ : zSt) (res : zSt × Int32) : Prop :=
  Met l y ws rm (va_Pc av (zP st D tys (w σ) sz)) (va_Qi (fun (r : Int32) (u : zSt) => (u, r) = res) (zB D tys w (va_A (w σ) sz)) (va_A (w σ) sz)) 0 0 (va_A (w σ) sz)
noncomputable def zMl (st : Nat → Nat) (l : Launch) (y : MethodName) (ws : List Cond) (rm : Room) (av : List Value) (D : va_G) (tys : List (ClassId × FieldType)) (w : zSt → va_W) (sz : Nat) (σ : zSt) (res : zSt × Int64) : Prop :=
  Met l y ws rm (va_Pc av (zP st D tys (w σ) sz)) (va_Ql (fun (r : Int64) (u : zSt) => (u, r) = res) (zB D tys w (va_A (w σ) sz)) (va_A (w σ) sz)) 0 0 (va_A (w σ) sz)
noncomputable def zMu (st : Nat → Nat) (l : Launch) (y : MethodName) (ws : List Cond) (rm : Room) (av : List Value) (D : va_G) (tys : List (ClassId × FieldType)) (w : zSt → va_W) (sz : Nat) (σ : zSt) (res : zSt) : Prop :=
  Met l y ws rm (va_Pc av (zP st D tys (w σ) sz)) (va_Qv (fun (u : zSt) => u = res) (zB D tys w (va_A (w σ) sz)) (va_A (w σ) sz)) 0 0 (va_A (w σ) sz)
/-- a String constant comes back, by its number -/
noncomputable def zMk (st : Nat → Nat) (l : Launch) (y : MethodName) (ws : List Cond) (rm : Room) (av : List Value) (D : va_G) (tys : List (ClassId × FieldType)) (w : zSt → va_W) (sz : Nat) (σ : zSt) (res : zSt × Nat) : Prop :=
  Met l y ws rm (va_Pc av (zP st D tys (w σ) sz)) (va_Qr (fun (u : zSt) => u = res.1) (fun u a t => a = st (100 + res.2) ∧ zB D tys w (va_A (w σ) sz) u t) (va_A (w σ) sz)) 0 0 (va_A (w σ) sz)
noncomputable def zQk (st : Nat → Nat) (below : List Frame) (args : Array Value) (s : State) (D : va_G) (tys : List (ClassId × FieldType)) (w : zSt → va_W) (A : Nat → Prop) (res : zSt × Nat) : State → Prop := MQ below (va_Qr (fun (u : zSt) => u = res.1) (fun u a t => a = st (100 + res.2) ∧ zB D tys w A u t) A) args s 0 0 A
/-- what a body must come to -/
noncomputable def zQi (below : List Frame) (args : Array Value) (s : State) (D : va_G) (tys : List (ClassId × FieldType)) (w : zSt → va_W) (A : Nat → Prop) (res : zSt × Int32) : State → Prop := MQ below (va_Qi (fun (r : Int32) (u : zSt) => (u, r) = res) (zB D tys w A) A) args s 0 0 A
noncomputable def zQl (below : List Frame) (args : Array Value) (s : State) (D : va_G) (tys : List (ClassId × FieldType)) (w : zSt → va_W) (A : Nat → Prop) (res : zSt × Int64) : State → Prop := MQ below (va_Ql (fun (r : Int64) (u : zSt) => (u, r) = res) (zB D tys w A) A) args s 0 0 A
noncomputable def zQu (below : List Frame) (args : Array Value) (s : State) (D : va_G) (tys : List (ClassId × FieldType)) (w : zSt → va_W) (A : Nat → Prop) (res : zSt) : State → Prop := MQ below (va_Qv (fun (u : zSt) => u = res) (zB D tys w A) A) args s 0 0 A
section ZR
variable {p : Program} {l : Launch} {e : Env} {R : Room} {s : State} {m : MethodId} {args : Array Value} {below : List Frame} {meth : Method} {c : Code} {H : Heap} {locs : List Loc} {cells slots : Nat} {Q : State → Prop}
variable {st : Nat → Nat} {D : va_G} {tys : List (ClassId × FieldType)} {A : Nat → Prop} {cc : ByteArray} {nL : Nat} {Ts : List Cond} {own : String} {pc : Nat} {ls : Array Slot} {rest : List Value} {a : Nat} {ret : Option FieldType} {lv0 : List (Nat × Value)}
theorem zI.start {w : zSt → va_W} {σ : zSt} {sz : Nat} (h : zP st D tys (w σ) sz s) : zI st D tys (w σ) (va_A (w σ) sz) s s.heap [] := by
  obtain ⟨hsz, hP, hK, hD, hT⟩ := h
  exact ⟨hK, hP, hD.self, va_S.rf, fun q h => by rw [hsz] at h; exact Or.inr h, hT⟩
/-- a method out of its body -/
theorem zMi.of {y : MethodName} {ws ws' : List Cond} {rm : Room} {av : List Value} {w : zSt → va_W} {sz : Nat} {σ : zSt} {res : zSt × Int32} {maxL : Nat} (hy : plainName y.cls = true) (hw : ws = Cond.code y cc maxL ret :: ws') (hle : (lg_sl av).length ≤ maxL)
    (k : ∀ (p : Program) (e : Env) (s : State) (m : MethodId) (args : Array Value) (below : List Frame) (meth : Method) (c : Code), zC p m c cc maxL s args ws y.cls meth ret → ∀ A : Nat → Prop, zI st D tys (w σ) A s s.heap [] → ∀ ls : Array Slot, lv_has ls maxL (lv_args 0 av) → W p l e (headSpec ws rm).room s m args below meth c s.heap [] 0 0 (zQi below args s D tys w A res) (F0 m 0 ls [])) : zMi st l y ws rm av D tys w sz σ res := by
  refine Met.ofW (cc := cc) (maxL := maxL) (ret := ret) hy hw ?_
  intro p e s m args below meth c s₁ B hml hv
  obtain ⟨rfl, hv⟩ := hv
  have hl := lv_entry av (n := maxL) hle
  rw [lg_entry_eq]
  exact k p e s m av.toArray below meth c ⟨B.exec, B.bytes, hml, findClass_of_methodNamed B.named, atoms_spec (ws := ws) B.pre, B.returns, B.notSynchronized⟩ _ (zI.start hv) _ hl
theorem zMl.of {y : MethodName} {ws ws' : List Cond} {rm : Room} {av : List Value} {w : zSt → va_W} {sz : Nat} {σ : zSt} {res : zSt × Int64} {maxL : Nat} (hy : plainName y.cls = true) (hw : ws = Cond.code y cc maxL ret :: ws') (hle : (lg_sl av).length ≤ maxL)
    (k : ∀ (p : Program) (e : Env) (s : State) (m : MethodId) (args : Array Value) (below : List Frame) (meth : Method) (c : Code), zC p m c cc maxL s args ws y.cls meth ret → ∀ A : Nat → Prop, zI st D tys (w σ) A s s.heap [] → ∀ ls : Array Slot, lv_has ls maxL (lv_args 0 av) → W p l e (headSpec ws rm).room s m args below meth c s.heap [] 0 0 (zQl below args s D tys w A res) (F0 m 0 ls [])) : zMl st l y ws rm av D tys w sz σ res := by
  refine Met.ofW (cc := cc) (maxL := maxL) (ret := ret) hy hw ?_
  intro p e s m args below meth c s₁ B hml hv
  obtain ⟨rfl, hv⟩ := hv
  have hl := lv_entry av (n := maxL) hle
  rw [lg_entry_eq]
  exact k p e s m av.toArray below meth c ⟨B.exec, B.bytes, hml, findClass_of_methodNamed B.named, atoms_spec (ws := ws) B.pre, B.returns, B.notSynchronized⟩ _ (zI.start hv) _ hl
theorem zMu.of {y : MethodName} {ws ws' : List Cond} {rm : Room} {av : List Value} {w : zSt → va_W} {sz : Nat} {σ : zSt} {res : zSt} {maxL : Nat} (hy : plainName y.cls = true) (hw : ws = Cond.code y cc maxL ret :: ws') (hle : (lg_sl av).length ≤ maxL)
    (k : ∀ (p : Program) (e : Env) (s : State) (m : MethodId) (args : Array Value) (below : List Frame) (meth : Method) (c : Code), zC p m c cc maxL s args ws y.cls meth ret → ∀ A : Nat → Prop, zI st D tys (w σ) A s s.heap [] → ∀ ls : Array Slot, lv_has ls maxL (lv_args 0 av) → W p l e (headSpec ws rm).room s m args below meth c s.heap [] 0 0 (zQu below args s D tys w A res) (F0 m 0 ls [])) : zMu st l y ws rm av D tys w sz σ res := by
  refine Met.ofW (cc := cc) (maxL := maxL) (ret := ret) hy hw ?_
  intro p e s m args below meth c s₁ B hml hv
  obtain ⟨rfl, hv⟩ := hv
  have hl := lv_entry av (n := maxL) hle
  rw [lg_entry_eq]
  exact k p e s m av.toArray below meth c ⟨B.exec, B.bytes, hml, findClass_of_methodNamed B.named, atoms_spec (ws := ws) B.pre, B.returns, B.notSynchronized⟩ _ (zI.start hv) _ hl
theorem zMk.of {y : MethodName} {ws ws' : List Cond} {rm : Room} {av : List Value} {w : zSt → va_W} {sz : Nat} {σ : zSt} {res : zSt × Nat} {maxL : Nat} (hy : plainName y.cls = true) (hw : ws = Cond.code y cc maxL ret :: ws') (hle : (lg_sl av).length ≤ maxL)
    (k : ∀ (p : Program) (e : Env) (s : State) (m : MethodId) (args : Array Value) (below : List Frame) (meth : Method) (c : Code), zC p m c cc maxL s args ws y.cls meth ret → ∀ A : Nat → Prop, zI st D tys (w σ) A s s.heap [] → ∀ ls : Array Slot, lv_has ls maxL (lv_args 0 av) → W p l e (headSpec ws rm).room s m args below meth c s.heap [] 0 0 (zQk st below args s D tys w A res) (F0 m 0 ls [])) : zMk st l y ws rm av D tys w sz σ res := by
  refine Met.ofW (cc := cc) (maxL := maxL) (ret := ret) hy hw ?_
  intro p e s m args below meth c s₁ B hml hv
  obtain ⟨rfl, hv⟩ := hv
  have hl := lv_entry av (n := maxL) hle
  rw [lg_entry_eq]
  exact k p e s m av.toArray below meth c ⟨B.exec, B.bytes, hml, findClass_of_methodNamed B.named, atoms_spec (ws := ws) B.pre, B.returns, B.notSynchronized⟩ _ (zI.start hv) _ hl
/-- ends -/
theorem z_areturn {cn : String} (hC : zC p m c cc nL s args Ts own meth (some (.object cn))) {w : zSt → va_W} {σ : zSt} (hI : zI st D tys (w σ) A s H locs) {i : Nat} {res : zSt × Nat} (hf : some (σ, i) = some res) (hdg : decode cc pc = .ok (.areturn, 1)) : W p l e R s m args below meth c H locs 0 0 (zQk st below args s D tys w A res) (F0 m pc ls [.ref (st (100 + i))]) := by
  obtain ⟨hx, hb, hml, hown, hts, hr, hlk⟩ := hC
  obtain ⟨hK, hP, hD, hS, hA, hT⟩ := hI
  cases Option.some.inj hf
  exact W.aret (v := .ref (st (100 + i))) hx hb hr (Or.inl ⟨cn, rfl⟩) (Or.inr ⟨_, rfl⟩) (fun t ht hW => ⟨⟨σ, st (100 + i), rfl, rfl, rfl, by rw [ht]; exact hP, va_K.moved hW.alike hK, hD⟩, hS.F ht⟩) hS.2.2 hdg hlk

theorem z_ireturn (hC : zC p m c cc nL s args Ts own meth (some .int)) {w : zSt → va_W} {σ : zSt} (hI : zI st D tys (w σ) A s H locs) {v : Int32} {res : zSt × Int32} (hf : some (σ, v) = some res) (hdg : decode cc pc = .ok (.ireturn, 1)) : W p l e R s m args below meth c H locs 0 0 (zQi below args s D tys w A res) (F0 m pc ls [.int v]) := by
  obtain ⟨hx, hb, hml, hown, hts, hr, hlk⟩ := hC
  obtain ⟨hK, hP, hD, hS, hA, hT⟩ := hI
  exact W.iret (v := v) hx hb hr (fun t ht hW => ⟨⟨v, σ, rfl, Option.some.inj hf, by rw [ht]; exact hP, va_K.moved hW.alike hK, hD⟩, hS.F ht⟩) hS.2.2 hdg hlk
theorem z_zreturn (hC : zC p m c cc nL s args Ts own meth (some .boolean)) {w : zSt → va_W} {σ : zSt} (hI : zI st D tys (w σ) A s H locs) {v : Int32} {res : zSt × Int32} (hn : narrow .boolean (.int v) = .int v) (hf : some (σ, v) = some res) (hdg : decode cc pc = .ok (.ireturn, 1)) : W p l e R s m args below meth c H locs 0 0 (zQi below args s D tys w A res) (F0 m pc ls [.int v]) := by
  obtain ⟨hx, hb, hml, hown, hts, hr, hlk⟩ := hC
  obtain ⟨hK, hP, hD, hS, hA, hT⟩ := hI
  exact W.zret (v := v) hx hb hr hn (fun t ht hW => ⟨⟨v, σ, rfl, Option.some.inj hf, by rw [ht]; exact hP, va_K.moved hW.alike hK, hD⟩, hS.F ht⟩) hS.2.2 hdg hlk
theorem z_lreturn (hC : zC p m c cc nL s args Ts own meth (some .long)) {w : zSt → va_W} {σ : zSt} (hI : zI st D tys (w σ) A s H locs) {v : Int64} {res : zSt × Int64} (hf : some (σ, v) = some res) (hdg : decode cc pc = .ok (.lreturn, 1)) : W p l e R s m args below meth c H locs 0 0 (zQl below args s D tys w A res) (F0 m pc ls [.long v]) := by
  obtain ⟨hx, hb, hml, hown, hts, hr, hlk⟩ := hC
  obtain ⟨hK, hP, hD, hS, hA, hT⟩ := hI
  exact W.lret (v := v) hx hb hr (fun t ht hW => ⟨⟨v, σ, rfl, Option.some.inj hf, by rw [ht]; exact hP, va_K.moved hW.alike hK, hD⟩, hS.F ht⟩) hS.2.2 hdg hlk
theorem z_return (hC : zC p m c cc nL s args Ts own meth none) {w : zSt → va_W} {σ : zSt} (hI : zI st D tys (w σ) A s H locs) {res : zSt} (hf : some σ = some res) (hdg : decode cc pc = .ok (.return_, 1)) : W p l e R s m args below meth c H locs 0 0 (zQu below args s D tys w A res) (F0 m pc ls []) := by
  obtain ⟨hx, hb, hml, hown, hts, hr, hlk⟩ := hC
  obtain ⟨hK, hP, hD, hS, hA, hT⟩ := hI
  exact W.vret hx hb hr (fun t ht hW => ⟨⟨σ, rfl, Option.some.inj hf, by rw [ht]; exact hP, va_K.moved hW.alike hK, hD⟩, hS.F ht⟩) hS.2.2 hdg hlk
/-- fields -/
theorem z_get (hC : zC p m c cc nL s args Ts own meth ret) {w : va_W} (hI : zI st D tys w A s H locs) {C : String} {T : u_T} {N ci index : Nat} (hin : ∀ w ∈ u_ws C T N, w ∈ Ts) (q0 : Nat) {fs : List Value} (he : w[q0]? = some (a, .inr (ci, fs))) (hc : vwCl[ci]? = some (C, T, N)) (k : Nat) (hk : k < N) (hlink : Cond.fieldLink own index (T k).1 (T k).2.1 (T k).2.2.1 ∈ Ts) {v : Value} (hv : fs[k]? = some v) (hdg : decode cc pc = .ok (.getfield index, 3))
    (kk : W p l e R s m args below meth c H locs cells slots Q (F0 m (pc + 3) ls (v :: rest))) : W p l e R s m args below meth c H locs cells slots Q (F0 m pc ls (.ref a :: rest)) :=
  va_get hC.1 hC.2.1 hC.2.2.2.2.1 hin hC.2.2.2.1 hI.1 hI.2.1 q0 he hc k hk (hC.2.2.2.2.1 _ hlink) (fun _ h => h) hv hdg kk
theorem z_put (hC : zC p m c cc nL s args Ts own meth ret) {w w1 : va_W} (hI : zI st D tys w A s H locs) {C : String} {T : u_T} {N ci index : Nat} (hin : ∀ w ∈ u_ws C T N, w ∈ Ts) {ty0 : Nat → FieldType} (hty : ∀ k, k < N → parseFieldDescriptor (T k).2.2.1 = some (ty0 k)) (hnm : ∀ a, a < N → ∀ b, b < N → a ≠ b → (T a).2.1 ≠ (T b).2.1) (q0 : Nat) {fs : List Value} (he : w[q0]? = some (a, .inr (ci, fs))) (hc : vwCl[ci]? = some (C, T, N)) (k : Nat) (hk : k < N) (hlink : Cond.fieldLink own index (T k).1 (T k).2.1 (T k).2.2.1 ∈ Ts) (hfin : (T k).2.2.2 = false) {v : Value} (hn : narrow (ty0 k) v = v) (hfit : fits (ty0 k) v = true) (hl : k < fs.length) (hs : w.set q0 (a, .inr (ci, fs.set k v)) = w1) (hdg : decode cc pc = .ok (.putfield index, 3))
    (kk : ∀ (H1 : Heap) (locs1 : List Loc), zI st D tys w1 A s H1 locs1 → W p l e R s m args below meth c H1 locs1 cells slots Q (F0 m (pc + 3) ls rest)) : W p l e R s m args below meth c H locs cells slots Q (F0 m pc ls (v :: .ref a :: rest)) := by
  subst hs
  exact va_put hC.1 hC.2.1 hC.2.2.2.2.1 hin ty0 hty hnm hC.2.2.2.1 hI.1 hI.2.1 hI.2.2.1 hI.2.2.2.1 q0 he hc k hk (hC.2.2.2.2.1 _ hlink) (fun _ h => h) hfin (hty k hk) hn hfit hl hdg (fun H1 locs1 h1 h2 h3 => kk H1 locs1 ⟨hI.1, h1, h2, h3, hI.2.2.2.2⟩)
/-- arrays -/
theorem z_iald (hC : zC p m c cc nL s args Ts own meth ret) {w : va_W} (hI : zI st D tys w A s H locs) (q0 t0 : Nat) {cA : ClassId} {n : Nat} {f : Nat → Int32} (ha : w[q0]? = some (a, .inl (cA, n, .inl f))) (ht : tys[t0]? = some (cA, .int)) {i : Int32} (hin : zin i n = true) (hdg : decode cc pc = .ok (.iaload, 1))
    (kk : W p l e R s m args below meth c H locs cells slots Q (F0 m (pc + 1) ls (.int (f i.toNatClampNeg) :: rest))) : W p l e R s m args below meth c H locs cells slots Q (F0 m pc ls (.int i :: .ref a :: rest)) :=
  va_iald hC.1 hC.2.1 hI.1 hI.2.1 q0 t0 ha ht (zin_in hin) hdg kk
theorem z_iast (hC : zC p m c cc nL s args Ts own meth ret) {w w1 : va_W} (hI : zI st D tys w A s H locs) (q0 t0 : Nat) {cA : ClassId} {n : Nat} {f : Nat → Int32} (ha : w[q0]? = some (a, .inl (cA, n, .inl f))) (ht : tys[t0]? = some (cA, .int)) {i x : Int32} (hin : zin i n = true) (hs : w.set q0 (a, .inl (cA, n, .inl (upd f i.toNatClampNeg x))) = w1) (hdg : decode cc pc = .ok (.iastore, 1))
    (kk : ∀ (H1 : Heap) (locs1 : List Loc), zI st D tys w1 A s H1 locs1 → W p l e R s m args below meth c H1 locs1 cells slots Q (F0 m (pc + 1) ls rest)) : W p l e R s m args below meth c H locs cells slots Q (F0 m pc ls (.int x :: .int i :: .ref a :: rest)) := by
  subst hs
  exact va_iast hC.1 hC.2.1 hI.1 hI.2.1 hI.2.2.1 hI.2.2.2.1 q0 t0 ha ht (zin_in hin) hdg (fun H1 locs1 h1 h2 h3 => kk H1 locs1 ⟨hI.1, h1, h2, h3, hI.2.2.2.2⟩)
theorem z_gets (hC : zC p m c cc nL s args Ts own meth ret) {w : va_W} (hI : zI st D tys w A s H locs) (k : Nat) (hk : k < zNS) {index : Nat} (hlink : Cond.fieldLink own index (zsC k) (zsN k) (zsD k) ∈ Ts) (hdg : decode cc pc = .ok (.getstatic index, 3))
    (kk : W p l e R s m args below meth c H locs cells slots Q (F0 m (pc + 3) ls (.ref (st k) :: rest))) : W p l e R s m args below meth c H locs cells slots Q (F0 m pc ls rest) :=
  va_gets hC.1 hC.2.1 (hI.2.2.2.2.2.1 k hk).1 hI.2.2.2.1 hC.2.2.2.1 (hC.2.2.2.2.1 _ hlink) (fun _ h => h) hdg kk
theorem z_ldcS (hC : zC p m c cc nL s args Ts own meth ret) {w : va_W} (hI : zI st D tys w A s H locs) (i : Nat) (hi : i < zNK) {index : Nat} (ho : zkO i = own) (hx : zkI i = index) (hdg : decode cc pc = .ok (.ldc index, 2))
    (kk : W p l e R s m args below meth c H locs cells slots Q (F0 m (pc + 2) ls (.ref (st (100 + i)) :: rest))) : W p l e R s m args below meth c H locs cells slots Q (F0 m pc ls rest) := by
  subst ho hx
  exact va_ldcS hC.1 hC.2.1 hC.2.2.2.1 (hI.2.2.2.2.2.2.2.1 i hi) hdg kk
theorem z_ldcSW (hC : zC p m c cc nL s args Ts own meth ret) {w : va_W} (hI : zI st D tys w A s H locs) (i : Nat) (hi : i < zNK) {index : Nat} (ho : zkO i = own) (hx : zkI i = index) (hdg : decode cc pc = .ok (.ldc_w index, 3))
    (kk : W p l e R s m args below meth c H locs cells slots Q (F0 m (pc + 3) ls (.ref (st (100 + i)) :: rest))) : W p l e R s m args below meth c H locs cells slots Q (F0 m pc ls rest) := by
  subst ho hx
  have hZ := hI.2.2.2.2.2.2.2.1 i hi
  intro T hT X
  obtain ⟨t, a1, b1⟩ := kk T hT X
  exact ⟨t, X.ldcStringW hC.1 hC.2.2.2.1 (text := zkT i) (a := st (100 + i)) hZ.1 hZ.2 (g := F0 m pc ls rest) rfl (by rw [hC.2.1]; exact hdg) t a1, b1⟩
theorem z_ti (hC : zC p m c cc nL s args Ts own meth ret) {w : va_W} (hI : zI st D tys w A s H locs) (k : Nat) (hk : k < zNS) (hy : zsY k = .int) {i v : Int32} {N : Nat} (hN : zsL k = N) (hin : zin i N = true) (hv : zsF k i.toNatClampNeg = .int v) (hdg : decode cc pc = .ok (.iaload, 1))
    (kk : W p l e R s m args below meth c H locs cells slots Q (F0 m (pc + 1) ls (.int v :: rest))) : W p l e R s m args below meth c H locs cells slots Q (F0 m pc ls (.int i :: .ref (st k) :: rest)) := by
  subst hN
  exact va_ti hC.1 hC.2.1 (hy ▸ (hI.2.2.2.2.2.1 k hk).2) hI.2.2.2.1 (zin_in hin) hv hdg kk
theorem z_tl (hC : zC p m c cc nL s args Ts own meth ret) {w : va_W} (hI : zI st D tys w A s H locs) (k : Nat) (hk : k < zNS) (hy : zsY k = .long) {i : Int32} {v : Int64} {N : Nat} (hN : zsL k = N) (hin : zin i N = true) (hv : zsF k i.toNatClampNeg = .long v) (hdg : decode cc pc = .ok (.laload, 1))
    (kk : W p l e R s m args below meth c H locs cells slots Q (F0 m (pc + 1) ls (.long v :: rest))) : W p l e R s m args below meth c H locs cells slots Q (F0 m pc ls (.int i :: .ref (st k) :: rest)) := by
  subst hN
  exact va_tl hC.1 hC.2.1 (hy ▸ (hI.2.2.2.2.2.1 k hk).2) hI.2.2.2.1 (zin_in hin) hv hdg kk
theorem z_tlen (hC : zC p m c cc nL s args Ts own meth ret) {w : va_W} (hI : zI st D tys w A s H locs) (k : Nat) (hk : k < zNS) {v : Int32} (hv : Int32.ofNat (zsL k) = v) (hdg : decode cc pc = .ok (.arraylength, 1))
    (kk : W p l e R s m args below meth c H locs cells slots Q (F0 m (pc + 1) ls (.int v :: rest))) : W p l e R s m args below meth c H locs cells slots Q (F0 m pc ls (.ref (st k) :: rest)) :=
  va_tlen hC.1 hC.2.1 (hI.2.2.2.2.2.1 k hk).2 hI.2.2.2.1 hv hdg kk
theorem z_alen (hC : zC p m c cc nL s args Ts own meth ret) {w : va_W} (hI : zI st D tys w A s H locs) (q0 t0 : Nat) {cA : ClassId} {x : vp_A} (ha : w[q0]? = some (a, .inl (cA, x))) {ty : FieldType} (ht : tys[t0]? = some (cA, ty)) {v : Int32} (hv : Int32.ofNat x.1 = v) (hdg : decode cc pc = .ok (.arraylength, 1))
    (kk : W p l e R s m args below meth c H locs cells slots Q (F0 m (pc + 1) ls (.int v :: rest))) : W p l e R s m args below meth c H locs cells slots Q (F0 m pc ls (.ref a :: rest)) :=
  va_alen hC.1 hC.2.1 hI.1 hI.2.1 q0 t0 ha ht hv hdg kk
theorem z_lald (hC : zC p m c cc nL s args Ts own meth ret) {w : va_W} (hI : zI st D tys w A s H locs) (q0 t0 : Nat) {cA : ClassId} {n : Nat} {f : Nat → Int64} (ha : w[q0]? = some (a, .inl (cA, n, .inr (.inl f)))) (ht : tys[t0]? = some (cA, .long)) {i : Int32} (hin : zin i n = true) (hdg : decode cc pc = .ok (.laload, 1))
    (kk : W p l e R s m args below meth c H locs cells slots Q (F0 m (pc + 1) ls (.long (f i.toNatClampNeg) :: rest))) : W p l e R s m args below meth c H locs cells slots Q (F0 m pc ls (.int i :: .ref a :: rest)) :=
  va_lald hC.1 hC.2.1 hI.1 hI.2.1 q0 t0 ha ht (zin_in hin) hdg kk
theorem z_last (hC : zC p m c cc nL s args Ts own meth ret) {w w1 : va_W} (hI : zI st D tys w A s H locs) (q0 t0 : Nat) {cA : ClassId} {n : Nat} {f : Nat → Int64} (ha : w[q0]? = some (a, .inl (cA, n, .inr (.inl f)))) (ht : tys[t0]? = some (cA, .long)) {i : Int32} {x : Int64} (hin : zin i n = true) (hs : w.set q0 (a, .inl (cA, n, .inr (.inl (vp_updL f i.toNatClampNeg x)))) = w1) (hdg : decode cc pc = .ok (.lastore, 1))
    (kk : ∀ (H1 : Heap) (locs1 : List Loc), zI st D tys w1 A s H1 locs1 → W p l e R s m args below meth c H1 locs1 cells slots Q (F0 m (pc + 1) ls rest)) : W p l e R s m args below meth c H locs cells slots Q (F0 m pc ls (.long x :: .int i :: .ref a :: rest)) := by
  subst hs
  exact va_last hC.1 hC.2.1 hI.1 hI.2.1 hI.2.2.1 hI.2.2.2.1 q0 t0 ha ht (zin_in hin) hdg (fun H1 locs1 h1 h2 h3 => kk H1 locs1 ⟨hI.1, h1, h2, h3, hI.2.2.2.2⟩)
theorem z_bald (hC : zC p m c cc nL s args Ts own meth ret) {w : va_W} (hI : zI st D tys w A s H locs) (q0 t0 : Nat) {cA : ClassId} {n : Nat} {f : Nat → Int32} (ha : w[q0]? = some (a, .inl (cA, n, .inl f))) (ht : tys[t0]? = some (cA, .byte)) {i : Int32} (hin : zin i n = true) (hdg : decode cc pc = .ok (.baload, 1))
    (kk : W p l e R s m args below meth c H locs cells slots Q (F0 m (pc + 1) ls (.int (f i.toNatClampNeg) :: rest))) : W p l e R s m args below meth c H locs cells slots Q (F0 m pc ls (.int i :: .ref a :: rest)) :=
  va_bald hC.1 hC.2.1 hI.1 hI.2.1 q0 t0 ha ht (zin_in hin) hdg kk
theorem z_zald (hC : zC p m c cc nL s args Ts own meth ret) {w : va_W} (hI : zI st D tys w A s H locs) (q0 t0 : Nat) {cA : ClassId} {n : Nat} {f : Nat → Int32} (ha : w[q0]? = some (a, .inl (cA, n, .inl f))) (ht : tys[t0]? = some (cA, .boolean)) {i : Int32} (hin : zin i n = true) (hdg : decode cc pc = .ok (.baload, 1))
    (kk : W p l e R s m args below meth c H locs cells slots Q (F0 m (pc + 1) ls (.int (f i.toNatClampNeg) :: rest))) : W p l e R s m args below meth c H locs cells slots Q (F0 m pc ls (.int i :: .ref a :: rest)) :=
  va_zald hC.1 hC.2.1 hI.1 hI.2.1 q0 t0 ha ht (zin_in hin) hdg kk
theorem z_bast (hC : zC p m c cc nL s args Ts own meth ret) {w w1 : va_W} (hI : zI st D tys w A s H locs) (q0 t0 : Nat) {cA : ClassId} {n : Nat} {f : Nat → Int32} (ha : w[q0]? = some (a, .inl (cA, n, .inl f))) (ht : tys[t0]? = some (cA, .byte)) {i x : Int32} (hin : zin i n = true) (hs : w.set q0 (a, .inl (cA, n, .inl (upd f i.toNatClampNeg (vp_nar .byte x)))) = w1) (hdg : decode cc pc = .ok (.bastore, 1))
    (kk : ∀ (H1 : Heap) (locs1 : List Loc), zI st D tys w1 A s H1 locs1 → W p l e R s m args below meth c H1 locs1 cells slots Q (F0 m (pc + 1) ls rest)) : W p l e R s m args below meth c H locs cells slots Q (F0 m pc ls (.int x :: .int i :: .ref a :: rest)) := by
  subst hs
  exact va_bast hC.1 hC.2.1 hI.1 hI.2.1 hI.2.2.1 hI.2.2.2.1 q0 t0 ha ht (zin_in hin) hdg (fun H1 locs1 h1 h2 h3 => kk H1 locs1 ⟨hI.1, h1, h2, h3, hI.2.2.2.2⟩)
theorem z_zast (hC : zC p m c cc nL s args Ts own meth ret) {w w1 : va_W} (hI : zI st D tys w A s H locs) (q0 t0 : Nat) {cA : ClassId} {n : Nat} {f : Nat → Int32} (ha : w[q0]? = some (a, .inl (cA, n, .inl f))) (ht : tys[t0]? = some (cA, .boolean)) {i x : Int32} (hin : zin i n = true) (hs : w.set q0 (a, .inl (cA, n, .inl (upd f i.toNatClampNeg (vp_nar .boolean x)))) = w1) (hdg : decode cc pc = .ok (.bastore, 1))
    (kk : ∀ (H1 : Heap) (locs1 : List Loc), zI st D tys w1 A s H1 locs1 → W p l e R s m args below meth c H1 locs1 cells slots Q (F0 m (pc + 1) ls rest)) : W p l e R s m args below meth c H locs cells slots Q (F0 m pc ls (.int x :: .int i :: .ref a :: rest)) := by
  subst hs
  exact va_zast hC.1 hC.2.1 hI.1 hI.2.1 hI.2.2.1 hI.2.2.2.1 q0 t0 ha ht (zin_in hin) hdg (fun H1 locs1 h1 h2 h3 => kk H1 locs1 ⟨hI.1, h1, h2, h3, hI.2.2.2.2⟩)
theorem z_mmax (hC : zC p m c cc nL s args Ts own meth ret) {index : Nat} (hlink : Cond.methodLink own index Lib.Math.max.name ∈ Ts) (hstat : Cond.static Lib.Math.max.name ∈ Ts) (hini : Cond.initialized "java/lang/Math" ∈ Ts) (hcode : Cond.code Lib.Math.max.name Lib.Math.max.code 2 (some .int) ∈ Ts) (hls : lv_has ls nL lv0) (hframes : 1 ≤ R.frames) (hlocals : (rest.map fun v => v.category).sum + 13 ≤ R.locals) (hcl : cells ≤ R.cells ∧ slots ≤ R.slots) {x y : Int32} (hdg : decode cc pc = .ok (.invokestatic index, 3))
    (kk : W p l e R s m args below meth c H locs cells slots Q (F0 m (pc + 3) ls (.int (zmax x y) :: rest))) : W p l e R s m args below meth c H locs cells slots Q (F0 m pc ls (.int y :: .int x :: rest)) :=
  va_mmax hC.1 hC.2.1 (hC.2.2.1.trans hls.1.symm) hC.2.2.2.1 (hC.2.2.2.2.1 _ hlink) (hC.2.2.2.2.1 _ hstat) (hC.2.2.2.2.1 _ hini) (hC.2.2.2.2.1 _ hcode) hframes hlocals hcl.1 hcl.2 hdg kk
theorem z_mmin (hC : zC p m c cc nL s args Ts own meth ret) {index : Nat} (hlink : Cond.methodLink own index Lib.Math.min.name ∈ Ts) (hstat : Cond.static Lib.Math.min.name ∈ Ts) (hini : Cond.initialized "java/lang/Math" ∈ Ts) (hcode : Cond.code Lib.Math.min.name Lib.Math.min.code 2 (some .int) ∈ Ts) (hls : lv_has ls nL lv0) (hframes : 1 ≤ R.frames) (hlocals : (rest.map fun v => v.category).sum + 13 ≤ R.locals) (hcl : cells ≤ R.cells ∧ slots ≤ R.slots) {x y : Int32} (hdg : decode cc pc = .ok (.invokestatic index, 3))
    (kk : W p l e R s m args below meth c H locs cells slots Q (F0 m (pc + 3) ls (.int (zmin x y) :: rest))) : W p l e R s m args below meth c H locs cells slots Q (F0 m pc ls (.int y :: .int x :: rest)) :=
  va_mmin hC.1 hC.2.1 (hC.2.2.1.trans hls.1.symm) hC.2.2.2.1 (hC.2.2.2.2.1 _ hlink) (hC.2.2.2.2.1 _ hstat) (hC.2.2.2.2.1 _ hini) (hC.2.2.2.2.1 _ hcode) hframes hlocals hcl.1 hcl.2 hdg kk
/-- calls of a method of an object of the world -/
theorem z_back {w : zSt → va_W} {σ σ1 : zSt} {H1 : Heap} {locs1 : List Loc} {t : State} (hI : zI st D tys (w σ) A s H locs) (ht : t.heap = H1) (hvm : s.vm.Alike t.vm) (hB : zB D tys w (va_A (w σ) H.size) σ1 t) (hS : va_S A s.heap H1 locs1) : zI st D tys (w σ1) A s H1 locs1 := by
  obtain ⟨hP1, hK1, hD1⟩ := hB
  rw [ht] at hP1
  exact ⟨hI.1, hP1, hD1.weaken (fun k q _ h => by
    rcases h with ⟨k2, e2, h⟩ | h
    · exact hI.2.2.1.2 k2 (q.1, e2) h
    · exact hI.2.2.2.2.1 _ (Nat.le_trans hI.2.2.2.1.1 h)), hS, hI.2.2.2.2⟩
theorem z_free {w : va_W} (hI : zI st D tys w A s H locs) : ∀ q, va_A w H.size q → A q := by
  intro q h
  rcases h with ⟨k2, e2, h⟩ | h
  · exact hI.2.2.1.2 k2 (q, e2) h
  · exact hI.2.2.2.2.1 _ (Nat.le_trans hI.2.2.2.1.1 h)
theorem zP.blind {av : List Value} {w : va_W} {sz : Nat} : FrameBlind (va_Pc av (zP st D tys w sz)) := fun a U g mk q => by
  obtain ⟨q0, q1, qP, qK, qD, qT⟩ := q
  exact ⟨q0, q1, qP, va_K.moved (u := U) (U := U.calling g mk a) (Vm.Alike.refl U.vm) qK, qD, zT.same (u := U) (U := U.calling g mk a) rfl qT⟩
theorem zP.at {av : List Value} {w : va_W} (hI : zI st D tys w A s H locs) : ∀ U : State, U.heap = H → s.WarmedH U.vm → va_Pc av (zP st D tys w H.size) av.toArray U := fun U hU hW =>
  ⟨rfl, by rw [hU], by rw [hU]; exact hI.2.1, va_K.moved hW.alike hI.1, hI.2.2.1.weaken (fun _ _ _ _ => trivial), by rw [hU]; exact zT.warm hW ((hI.2.2.2.2.2.kept hI.2.2.2.1.2.1).narrow (z_free hI))⟩
variable {y : MethodName} {ws ws' : List Cond} {rm : Room} {bytes : ByteArray} {maxL index n : Nat} {rt : Option FieldType} {C : String} {b : Nat} {As : List Value} {lv : List (Nat × Value)} {st0 : List Value}
theorem z_callVi (hC : zC p m c cc nL s args Ts own meth ret) {w : zSt → va_W} {σ σ1 : zSt} {r : Int32} (hI : zI st D tys (w σ) A s H locs) (hM : ∀ sz, zMi st l y ws rm (.ref b :: As) D tys w sz σ (σ1, r)) (hT : GoodIn Ts (wsV own index C y ws)) (hw : ws = Cond.code y bytes maxL rt :: ws') (hrm : rm.cells = 0 ∧ rm.slots = 0) (n : Nat)
    (hd : y.cls = C ∧ y.cls ≠ "java/lang/invoke/MethodHandle" ∧ y.cls ≠ "java/lang/invoke/VarHandle" ∧ (parseMethodDescriptor y.desc).map (fun d => d.parameters.length) = some n) (hR : rm.frames + 1 ≤ R.frames ∧ 8 + (maxL + 11) + rm.locals ≤ R.locals)
    {q0 ci : Nat} {q : vw_C} {fs : List Value} (hc : vwCl[ci]? = some q) (hq : q.1 = C) (he : (w σ)[q0]? = some (b, .inr (ci, fs))) (hn : As.length = n) (hl : lv_has ls nL lv) (hst : st0 = As.reverse ++ .ref b :: rest) (hW : (rest.map fun v => v.category).sum ≤ 8) (hdg : decode cc pc = .ok (.invokevirtual index, 3)) (hcl : cells ≤ R.cells ∧ slots ≤ R.slots)
    (kk : ∀ (H1 : Heap) (locs1 : List Loc), zI st D tys (w σ1) A s H1 locs1 → W p l e R s m args below meth c H1 locs1 cells slots Q (F0 m (pc + 3) ls (.int r :: rest))) : W p l e R s m args below meth c H locs cells slots Q (F0 m pc ls st0) := by
  subst hq
  refine va_calli (va_runV (As := As) (rest := rest) ⟨hC.1, hC.2.1, hC.2.2.1, hC.2.2.2.1, hC.2.2.2.2.1⟩ (hM H.size) (cwV n hC.2.2.2.2.1 hT hw hrm.1 hrm.2 hd hR) ⟨zP.blind, va_recv hI.1 hI.2.1 hc he, zP.at hI⟩ rfl hn hl.1 hst (lv_room hW) hdg hcl) hI.2.2.2.1 (fun q _ h => z_free hI q h) (z_free hI) (fun r' u t H1 locs1 ht hvm hw' hB _ _ hS => ?_)
  obtain ⟨rfl, rfl⟩ := Prod.mk.inj hw'
  exact kk H1 locs1 (z_back hI ht hvm hB hS)
theorem z_callVl (hC : zC p m c cc nL s args Ts own meth ret) {w : zSt → va_W} {σ σ1 : zSt} {r : Int64} (hI : zI st D tys (w σ) A s H locs) (hM : ∀ sz, zMl st l y ws rm (.ref b :: As) D tys w sz σ (σ1, r)) (hT : GoodIn Ts (wsV own index C y ws)) (hw : ws = Cond.code y bytes maxL rt :: ws') (hrm : rm.cells = 0 ∧ rm.slots = 0) (n : Nat)
    (hd : y.cls = C ∧ y.cls ≠ "java/lang/invoke/MethodHandle" ∧ y.cls ≠ "java/lang/invoke/VarHandle" ∧ (parseMethodDescriptor y.desc).map (fun d => d.parameters.length) = some n) (hR : rm.frames + 1 ≤ R.frames ∧ 8 + (maxL + 11) + rm.locals ≤ R.locals)
    {q0 ci : Nat} {q : vw_C} {fs : List Value} (hc : vwCl[ci]? = some q) (hq : q.1 = C) (he : (w σ)[q0]? = some (b, .inr (ci, fs))) (hn : As.length = n) (hl : lv_has ls nL lv) (hst : st0 = As.reverse ++ .ref b :: rest) (hW : (rest.map fun v => v.category).sum ≤ 8) (hdg : decode cc pc = .ok (.invokevirtual index, 3)) (hcl : cells ≤ R.cells ∧ slots ≤ R.slots)
    (kk : ∀ (H1 : Heap) (locs1 : List Loc), zI st D tys (w σ1) A s H1 locs1 → W p l e R s m args below meth c H1 locs1 cells slots Q (F0 m (pc + 3) ls (.long r :: rest))) : W p l e R s m args below meth c H locs cells slots Q (F0 m pc ls st0) := by
  subst hq
  refine va_calll (va_runV (As := As) (rest := rest) ⟨hC.1, hC.2.1, hC.2.2.1, hC.2.2.2.1, hC.2.2.2.2.1⟩ (hM H.size) (cwV n hC.2.2.2.2.1 hT hw hrm.1 hrm.2 hd hR) ⟨zP.blind, va_recv hI.1 hI.2.1 hc he, zP.at hI⟩ rfl hn hl.1 hst (lv_room hW) hdg hcl) hI.2.2.2.1 (fun q _ h => z_free hI q h) (z_free hI) (fun r' u t H1 locs1 ht hvm hw' hB _ _ hS => ?_)
  obtain ⟨rfl, rfl⟩ := Prod.mk.inj hw'
  exact kk H1 locs1 (z_back hI ht hvm hB hS)
theorem z_callVu (hC : zC p m c cc nL s args Ts own meth ret) {w : zSt → va_W} {σ σ1 : zSt} (hI : zI st D tys (w σ) A s H locs) (hM : ∀ sz, zMu st l y ws rm (.ref b :: As) D tys w sz σ σ1) (hT : GoodIn Ts (wsV own index C y ws)) (hw : ws = Cond.code y bytes maxL rt :: ws') (hrm : rm.cells = 0 ∧ rm.slots = 0) (n : Nat)
    (hd : y.cls = C ∧ y.cls ≠ "java/lang/invoke/MethodHandle" ∧ y.cls ≠ "java/lang/invoke/VarHandle" ∧ (parseMethodDescriptor y.desc).map (fun d => d.parameters.length) = some n) (hR : rm.frames + 1 ≤ R.frames ∧ 8 + (maxL + 11) + rm.locals ≤ R.locals)
    {q0 ci : Nat} {q : vw_C} {fs : List Value} (hc : vwCl[ci]? = some q) (hq : q.1 = C) (he : (w σ)[q0]? = some (b, .inr (ci, fs))) (hn : As.length = n) (hl : lv_has ls nL lv) (hst : st0 = As.reverse ++ .ref b :: rest) (hW : (rest.map fun v => v.category).sum ≤ 8) (hdg : decode cc pc = .ok (.invokevirtual index, 3)) (hcl : cells ≤ R.cells ∧ slots ≤ R.slots)
    (kk : ∀ (H1 : Heap) (locs1 : List Loc), zI st D tys (w σ1) A s H1 locs1 → W p l e R s m args below meth c H1 locs1 cells slots Q (F0 m (pc + 3) ls rest)) : W p l e R s m args below meth c H locs cells slots Q (F0 m pc ls st0) := by
  subst hq
  refine va_callv (va_runV (As := As) (rest := rest) ⟨hC.1, hC.2.1, hC.2.2.1, hC.2.2.2.1, hC.2.2.2.2.1⟩ (hM H.size) (cwV n hC.2.2.2.2.1 hT hw hrm.1 hrm.2 hd hR) ⟨zP.blind, va_recv hI.1 hI.2.1 hc he, zP.at hI⟩ rfl hn hl.1 hst (lv_room hW) hdg hcl) hI.2.2.2.1 (fun q _ h => z_free hI q h) (z_free hI) (fun u t H1 locs1 ht hvm hw' hB _ _ hS => ?_)
  subst hw'
  exact kk H1 locs1 (z_back hI ht hvm hB hS)
theorem z_recvK {w : va_W} (hI : zI st D tys w A s H locs) (i : Nat) (hi : i < zNK) : ∃ cell : Cell, H[st (100 + i)]? = some cell ∧ cell.vm.isStatics = false ∧ s.vm.findClass "java/lang/String" = some cell.cls := by
  obtain ⟨cell, h1, h2, h3, -⟩ := (hI.2.2.2.2.2.2.1 i hi).1.kept hI.2.2.2.1.2.1
  exact ⟨cell, h1, h2, h3⟩
theorem z_callVk (hC : zC p m c cc nL s args Ts own meth ret) {w : zSt → va_W} {σ σ1 : zSt} {r : Nat} (hI : zI st D tys (w σ) A s H locs) (hM : ∀ sz, zMk st l y ws rm (.ref b :: As) D tys w sz σ (σ1, r)) (hT : GoodIn Ts (wsV own index C y ws)) (hw : ws = Cond.code y bytes maxL rt :: ws') (hrm : rm.cells = 0 ∧ rm.slots = 0) (n : Nat)
    (hd : y.cls = C ∧ y.cls ≠ "java/lang/invoke/MethodHandle" ∧ y.cls ≠ "java/lang/invoke/VarHandle" ∧ (parseMethodDescriptor y.desc).map (fun d => d.parameters.length) = some n) (hR : rm.frames + 1 ≤ R.frames ∧ 8 + (maxL + 11) + rm.locals ≤ R.locals)
    {q0 ci : Nat} {q : vw_C} {fs : List Value} (hc : vwCl[ci]? = some q) (hq : q.1 = C) (he : (w σ)[q0]? = some (b, .inr (ci, fs))) (hn : As.length = n) (hl : lv_has ls nL lv) (hst : st0 = As.reverse ++ .ref b :: rest) (hW : (rest.map fun v => v.category).sum ≤ 8) (hdg : decode cc pc = .ok (.invokevirtual index, 3)) (hcl : cells ≤ R.cells ∧ slots ≤ R.slots)
    (kk : ∀ (H1 : Heap) (locs1 : List Loc), zI st D tys (w σ1) A s H1 locs1 → W p l e R s m args below meth c H1 locs1 cells slots Q (F0 m (pc + 3) ls (.ref (st (100 + r)) :: rest))) : W p l e R s m args below meth c H locs cells slots Q (F0 m pc ls st0) := by
  subst hq
  refine va_callr (va_runV (As := As) (rest := rest) ⟨hC.1, hC.2.1, hC.2.2.1, hC.2.2.2.1, hC.2.2.2.2.1⟩ (hM H.size) (cwV n hC.2.2.2.2.1 hT hw hrm.1 hrm.2 hd hR) ⟨zP.blind, va_recv hI.1 hI.2.1 hc he, zP.at hI⟩ rfl hn hl.1 hst (lv_room hW) hdg hcl) hI.2.2.2.1 (fun q _ h => z_free hI q h) (z_free hI) (fun u ra t H1 locs1 ht hvm hw' hB _ _ hS => ?_)
  obtain ⟨rfl, hB⟩ := hB
  subst hw'
  exact kk H1 locs1 (z_back hI ht hvm hB hS)
theorem z_callKi (hC : zC p m c cc nL s args Ts own meth ret) {w : zSt → va_W} {σ σ1 : zSt} {r : Int32} (hI : zI st D tys (w σ) A s H locs) {i : Nat} (hM : ∀ sz, zMi st l y ws rm (.ref (st (100 + i)) :: As) D tys w sz σ (σ1, r)) (hT : GoodIn Ts (wsV own index C y ws)) (hw : ws = Cond.code y bytes maxL rt :: ws') (hrm : rm.cells = 0 ∧ rm.slots = 0) (n : Nat)
    (hd : y.cls = C ∧ y.cls ≠ "java/lang/invoke/MethodHandle" ∧ y.cls ≠ "java/lang/invoke/VarHandle" ∧ (parseMethodDescriptor y.desc).map (fun d => d.parameters.length) = some n) (hR : rm.frames + 1 ≤ R.frames ∧ 8 + (maxL + 11) + rm.locals ≤ R.locals)
    (hi : i < zNK) (hq : "java/lang/String" = C) (hn : As.length = n) (hl : lv_has ls nL lv) (hst : st0 = As.reverse ++ .ref (st (100 + i)) :: rest) (hW : (rest.map fun v => v.category).sum ≤ 8) (hdg : decode cc pc = .ok (.invokevirtual index, 3)) (hcl : cells ≤ R.cells ∧ slots ≤ R.slots)
    (kk : ∀ (H1 : Heap) (locs1 : List Loc), zI st D tys (w σ1) A s H1 locs1 → W p l e R s m args below meth c H1 locs1 cells slots Q (F0 m (pc + 3) ls (.int r :: rest))) : W p l e R s m args below meth c H locs cells slots Q (F0 m pc ls st0) := by
  subst hq
  refine va_calli (va_runV (As := As) (rest := rest) ⟨hC.1, hC.2.1, hC.2.2.1, hC.2.2.2.1, hC.2.2.2.2.1⟩ (hM H.size) (cwV n hC.2.2.2.2.1 hT hw hrm.1 hrm.2 hd hR) ⟨zP.blind, z_recvK hI i hi, zP.at hI⟩ rfl hn hl.1 hst (lv_room hW) hdg hcl) hI.2.2.2.1 (fun q _ h => z_free hI q h) (z_free hI) (fun r' u t H1 locs1 ht hvm hw' hB _ _ hS => ?_)
  obtain ⟨rfl, rfl⟩ := Prod.mk.inj hw'
  exact kk H1 locs1 (z_back hI ht hvm hB hS)
theorem z_callSi (hC : zC p m c cc nL s args Ts own meth ret) {w : zSt → va_W} {σ σ1 : zSt} {r : Int32} (hI : zI st D tys (w σ) A s H locs) (hM : ∀ sz, zMi st l y ws rm As D tys w sz σ (σ1, r)) (hT : GoodIn Ts (va_wsS own index y ws)) (hw : ws = Cond.code y bytes maxL rt :: ws') (hrm : rm.cells = 0 ∧ rm.slots = 0) (n : Nat)
    (hd : y.cls ≠ "java/lang/invoke/MethodHandle" ∧ y.cls ≠ "java/lang/invoke/VarHandle" ∧ (parseMethodDescriptor y.desc).map (fun d => d.parameters.length) = some n) (hR : rm.frames + 1 ≤ R.frames ∧ 8 + (maxL + 11) + rm.locals ≤ R.locals)
    (hn : As.length = n) (hl : lv_has ls nL lv) (hst : st0 = As.reverse ++ rest) (hW : (rest.map fun v => v.category).sum ≤ 8) (hdg : decode cc pc = .ok (.invokestatic index, 3)) (hcl : cells ≤ R.cells ∧ slots ≤ R.slots)
    (kk : ∀ (H1 : Heap) (locs1 : List Loc), zI st D tys (w σ1) A s H1 locs1 → W p l e R s m args below meth c H1 locs1 cells slots Q (F0 m (pc + 3) ls (.int r :: rest))) : W p l e R s m args below meth c H locs cells slots Q (F0 m pc ls st0) := by
  refine va_calli (va_runS (As := As) (rest := rest) ⟨hC.1, hC.2.1, hC.2.2.1, hC.2.2.2.1, hC.2.2.2.2.1⟩ (hM H.size) (va_cwS n hC.2.2.2.2.1 hT hw hrm.1 hrm.2 hd hR) ⟨zP.blind, zP.at hI⟩ rfl hn hl.1 hst (lv_room hW) hdg hcl) hI.2.2.2.1 (fun q _ h => z_free hI q h) (z_free hI) (fun r' u t H1 locs1 ht hvm hw' hB _ _ hS => ?_)
  obtain ⟨rfl, rfl⟩ := Prod.mk.inj hw'
  exact kk H1 locs1 (z_back hI ht hvm hB hS)
theorem z_callSl (hC : zC p m c cc nL s args Ts own meth ret) {w : zSt → va_W} {σ σ1 : zSt} {r : Int64} (hI : zI st D tys (w σ) A s H locs) (hM : ∀ sz, zMl st l y ws rm As D tys w sz σ (σ1, r)) (hT : GoodIn Ts (va_wsS own index y ws)) (hw : ws = Cond.code y bytes maxL rt :: ws') (hrm : rm.cells = 0 ∧ rm.slots = 0) (n : Nat)
    (hd : y.cls ≠ "java/lang/invoke/MethodHandle" ∧ y.cls ≠ "java/lang/invoke/VarHandle" ∧ (parseMethodDescriptor y.desc).map (fun d => d.parameters.length) = some n) (hR : rm.frames + 1 ≤ R.frames ∧ 8 + (maxL + 11) + rm.locals ≤ R.locals)
    (hn : As.length = n) (hl : lv_has ls nL lv) (hst : st0 = As.reverse ++ rest) (hW : (rest.map fun v => v.category).sum ≤ 8) (hdg : decode cc pc = .ok (.invokestatic index, 3)) (hcl : cells ≤ R.cells ∧ slots ≤ R.slots)
    (kk : ∀ (H1 : Heap) (locs1 : List Loc), zI st D tys (w σ1) A s H1 locs1 → W p l e R s m args below meth c H1 locs1 cells slots Q (F0 m (pc + 3) ls (.long r :: rest))) : W p l e R s m args below meth c H locs cells slots Q (F0 m pc ls st0) := by
  refine va_calll (va_runS (As := As) (rest := rest) ⟨hC.1, hC.2.1, hC.2.2.1, hC.2.2.2.1, hC.2.2.2.2.1⟩ (hM H.size) (va_cwS n hC.2.2.2.2.1 hT hw hrm.1 hrm.2 hd hR) ⟨zP.blind, zP.at hI⟩ rfl hn hl.1 hst (lv_room hW) hdg hcl) hI.2.2.2.1 (fun q _ h => z_free hI q h) (z_free hI) (fun r' u t H1 locs1 ht hvm hw' hB _ _ hS => ?_)
  obtain ⟨rfl, rfl⟩ := Prod.mk.inj hw'
  exact kk H1 locs1 (z_back hI ht hvm hB hS)
theorem z_callSu (hC : zC p m c cc nL s args Ts own meth ret) {w : zSt → va_W} {σ σ1 : zSt} (hI : zI st D tys (w σ) A s H locs) (hM : ∀ sz, zMu st l y ws rm As D tys w sz σ σ1) (hT : GoodIn Ts (va_wsS own index y ws)) (hw : ws = Cond.code y bytes maxL rt :: ws') (hrm : rm.cells = 0 ∧ rm.slots = 0) (n : Nat)
    (hd : y.cls ≠ "java/lang/invoke/MethodHandle" ∧ y.cls ≠ "java/lang/invoke/VarHandle" ∧ (parseMethodDescriptor y.desc).map (fun d => d.parameters.length) = some n) (hR : rm.frames + 1 ≤ R.frames ∧ 8 + (maxL + 11) + rm.locals ≤ R.locals)
    (hn : As.length = n) (hl : lv_has ls nL lv) (hst : st0 = As.reverse ++ rest) (hW : (rest.map fun v => v.category).sum ≤ 8) (hdg : decode cc pc = .ok (.invokestatic index, 3)) (hcl : cells ≤ R.cells ∧ slots ≤ R.slots)
    (kk : ∀ (H1 : Heap) (locs1 : List Loc), zI st D tys (w σ1) A s H1 locs1 → W p l e R s m args below meth c H1 locs1 cells slots Q (F0 m (pc + 3) ls rest)) : W p l e R s m args below meth c H locs cells slots Q (F0 m pc ls st0) := by
  refine va_callv (va_runS (As := As) (rest := rest) ⟨hC.1, hC.2.1, hC.2.2.1, hC.2.2.2.1, hC.2.2.2.2.1⟩ (hM H.size) (va_cwS n hC.2.2.2.2.1 hT hw hrm.1 hrm.2 hd hR) ⟨zP.blind, zP.at hI⟩ rfl hn hl.1 hst (lv_room hW) hdg hcl) hI.2.2.2.1 (fun q _ h => z_free hI q h) (z_free hI) (fun u t H1 locs1 ht hvm hw' hB _ _ hS => ?_)
  subst hw'
  exact kk H1 locs1 (z_back hI ht hvm hB hS)
end ZR
end ZJN6
section ZJN7
/-! BASE 2: rows on numbers -/
noncomputable def zrem (x y : Int32) : Int32 := x - x / y * y
noncomputable def zreml (x y : Int64) : Int64 := x - x / y * y
noncomputable def zush (x y : Int32) : Int32 := (x.toUInt32 >>> (y.toUInt32 &&& Int32.toUInt32 31)).toInt32
noncomputable def zlshl (x : Int64) (y : Int32) : Int64 := x <<< (y.toInt64 &&& 63)
noncomputable def zlshr (x : Int64) (y : Int32) : Int64 := x >>> (y.toInt64 &&& 63)
noncomputable def zlushr (x : Int64) (y : Int32) : Int64 := (x.toUInt64 >>> (y.toInt64.toUInt64 &&& Int64.toUInt64 63)).toInt64
theorem zsw {x : Int32} {lo hi : Int} (h : ∀ k : Int, lo ≤ k → k ≤ hi → ¬ x = Int32.ofInt k) : x.toInt < lo ∨ hi < x.toInt := by
  by_cases h1 : x.toInt < lo
  · exact Or.inl h1
  by_cases h2 : hi < x.toInt
  · exact Or.inr h2
  exact absurd (Int32.ofInt_toInt x).symm (h x.toInt (by omega) (by omega))
theorem zbo_n {x : Int32} (h : zbo x = true) : narrow .boolean (.int x) = .int x := by
  simp only [zbo, Bool.or_eq_true, decide_eq_true_eq] at h
  rcases h with h | h <;> subst h <;> rfl
theorem zbo_f {x : Int32} (h : zbo x = true) : fits .boolean (.int x) = true := by
  simp only [zbo, Bool.or_eq_true, decide_eq_true_eq] at h
  rcases h with h | h <;> subst h <;> rfl
noncomputable def zcpi (σ : zSt) (k0 k1 sp dp n : Nat) : zSt := (fun a => bif Nat.beq a k1 then va_cpy (σ.1 k0) (σ.1 a) sp dp n else σ.1 a, σ.2)
noncomputable def zcpl (σ : zSt) (k0 k1 sp dp n : Nat) : zSt := (σ.1, fun a => bif Nat.beq a k1 then va_cpy (σ.2 k0) (σ.2 a) sp dp n else σ.2 a)
noncomputable def zco (sp dp n : Int32) (n0 n1 : Nat) : Bool := (!decide (sp < 0) && !decide (dp < 0)) && (!decide (n < 0) && (decide (sp.toNatClampNeg + n.toNatClampNeg ≤ n0) && decide (dp.toNatClampNeg + n.toNatClampNeg ≤ n1)))
theorem zco_use {sp dp n : Int32} {n0 n1 : Nat} (h : zco sp dp n n0 n1 = true) : ¬ sp < 0 ∧ ¬ dp < 0 ∧ ¬ n < 0 ∧ sp.toNatClampNeg + n.toNatClampNeg ≤ n0 ∧ dp.toNatClampNeg + n.toNatClampNeg ≤ n1 := by
  simp only [zco, Bool.and_eq_true, Bool.not_eq_true', decide_eq_false_iff_not, decide_eq_true_eq] at h
  exact ⟨h.1.1, h.1.2, h.2.1, h.2.2.1, h.2.2.2⟩
noncomputable def zmaxl (x y : Int64) : Int64 := if y < x then x else y
section ZR2
variable {p : Program} {l : Launch} {e : Env} {R : Room} {s : State} {m : MethodId} {args : Array Value} {below : List Frame} {meth : Method} {c : Code} {H : Heap} {locs : List Loc} {cells slots : Nat} {Q : State → Prop} {cc : ByteArray} {pc : Nat} {ls : Array Slot} {rest : List Value}
theorem z_irem (hexec : p.tables.exec = Jvm.exec) (hb : c.code = cc) {x y : Int32} (hdg : decode cc pc = .ok (.irem, 1)) (hne : ¬ y = 0)
    (k : W p l e R s m args below meth c H locs cells slots Q (F0 m (pc + 1) ls (.int (zrem x y) :: rest))) : W p l e R s m args below meth c H locs cells slots Q (F0 m pc ls (.int y :: .int x :: rest)) := lv_irem hexec hb hdg hne k
theorem z_lrem (hexec : p.tables.exec = Jvm.exec) (hb : c.code = cc) {x y : Int64} (hdg : decode cc pc = .ok (.lrem, 1)) (hne : ¬ y = 0)
    (k : W p l e R s m args below meth c H locs cells slots Q (F0 m (pc + 1) ls (.long (zreml x y) :: rest))) : W p l e R s m args below meth c H locs cells slots Q (F0 m pc ls (.long y :: .long x :: rest)) := lv_lrem hexec hb hdg hne k
variable {st : Nat → Nat} {D : va_G} {tys : List (ClassId × FieldType)} {A : Nat → Prop} {nL : Nat} {Ts : List Cond} {own : String} {a a0 : Nat} {ret : Option FieldType} {lv0 : List (Nat × Value)}
theorem z_mmaxl (hC : zC p m c cc nL s args Ts own meth ret) {index : Nat} (hlink : Cond.methodLink own index Lib.MathLoose.max_long.x ∈ Ts) (hstat : Cond.static Lib.MathLoose.max_long.x ∈ Ts) (hini : Cond.initialized "java/lang/Math" ∈ Ts) (hcode : Cond.code Lib.MathLoose.max_long.x Lib.MathLoose.max_long.code 4 (some .long) ∈ Ts) (hls : lv_has ls nL lv0) (hframes : 1 ≤ R.frames) (hlocals : (rest.map fun v => v.category).sum + 15 ≤ R.locals) (hcl : cells ≤ R.cells ∧ slots ≤ R.slots) {x y : Int64} (hdg : decode cc pc = .ok (.invokestatic index, 3))
    (kk : W p l e R s m args below meth c H locs cells slots Q (F0 m (pc + 3) ls (.long (zmaxl x y) :: rest))) : W p l e R s m args below meth c H locs cells slots Q (F0 m pc ls (.long y :: .long x :: rest)) :=
  va_mmax_long hC.1 hC.2.1 (hC.2.2.1.trans hls.1.symm) hC.2.2.2.1 (hC.2.2.2.2.1 _ hlink) (hC.2.2.2.2.1 _ hstat) (hC.2.2.2.2.1 _ hini) (hC.2.2.2.2.1 _ hcode) hframes hlocals hcl.1 hcl.2 hdg kk
theorem z_cpi (hC : zC p m c cc nL s args Ts own meth ret) {w w1 : va_W} (hI : zI st D tys w A s H locs) {index : Nat} (hlink : Cond.methodLink own index arraycopyName ∈ Ts) (hnat : Cond.native arraycopyName ∈ Ts) (hstat : Cond.static arraycopyName ∈ Ts) (hini : Cond.initialized "java/lang/System" ∈ Ts) (hls : lv_has ls nL lv0)
    (q0 q1 t0 t1 : Nat) {c0 c1 : ClassId} {n0 n1 : Nat} {f g : Nat → Int32} (ha0 : w[q0]? = some (a0, .inl (c0, n0, .inl f))) (ha1 : w[q1]? = some (a, .inl (c1, n1, .inl g))) (ht0 : tys[t0]? = some (c0, .int)) (ht1 : tys[t1]? = some (c1, .int)) {sp dp n : Int32} (hq : zco sp dp n n0 n1 = true) (hs : w.set q1 (a, .inl (c1, n1, .inl (va_cpy f g sp.toNatClampNeg dp.toNatClampNeg n.toNatClampNeg))) = w1)
    (hframes : 1 ≤ R.frames) (hlocals : (rest.map fun v => v.category).sum + (nativeFrameWords "java/lang/System" "arraycopy" 5 + 11) ≤ R.locals) (hdg : decode cc pc = .ok (.invokestatic index, 3))
    (kk : ∀ (H1 : Heap) (locs1 : List Loc), zI st D tys w1 A s H1 locs1 → W p l e R s m args below meth c H1 locs1 cells slots Q (F0 m (pc + 3) ls rest)) : W p l e R s m args below meth c H locs cells slots Q (F0 m pc ls (.int n :: .int dp :: .ref a :: .int sp :: .ref a0 :: rest)) := by
  subst hs
  obtain ⟨h1, h2, h3, h4, h5⟩ := zco_use hq
  exact va_copyi hC.1 hC.2.1 (hC.2.2.1.trans hls.1.symm) hC.2.2.2.1 (hC.2.2.2.2.1 _ hlink) (hC.2.2.2.2.1 _ hnat) (hC.2.2.2.2.1 _ hstat) (hC.2.2.2.2.1 _ hini) hI.1 hI.2.1 hI.2.2.1 hI.2.2.2.1 q0 q1 t0 t1 ha0 ha1 ht0 ht1 rfl h1 h2 h3 h4 h5 (fun _ _ => rfl) hframes hlocals hdg (fun H1 locs1 g1 g2 g3 => kk H1 locs1 ⟨hI.1, g1, g2, g3, hI.2.2.2.2⟩)
theorem z_cpl (hC : zC p m c cc nL s args Ts own meth ret) {w w1 : va_W} (hI : zI st D tys w A s H locs) {index : Nat} (hlink : Cond.methodLink own index arraycopyName ∈ Ts) (hnat : Cond.native arraycopyName ∈ Ts) (hstat : Cond.static arraycopyName ∈ Ts) (hini : Cond.initialized "java/lang/System" ∈ Ts) (hls : lv_has ls nL lv0)
    (q0 q1 t0 t1 : Nat) {c0 c1 : ClassId} {n0 n1 : Nat} {f g : Nat → Int64} (ha0 : w[q0]? = some (a0, .inl (c0, n0, .inr (.inl f)))) (ha1 : w[q1]? = some (a, .inl (c1, n1, .inr (.inl g)))) (ht0 : tys[t0]? = some (c0, .long)) (ht1 : tys[t1]? = some (c1, .long)) {sp dp n : Int32} (hq : zco sp dp n n0 n1 = true) (hs : w.set q1 (a, .inl (c1, n1, .inr (.inl (va_cpy f g sp.toNatClampNeg dp.toNatClampNeg n.toNatClampNeg)))) = w1)
    (hframes : 1 ≤ R.frames) (hlocals : (rest.map fun v => v.category).sum + (nativeFrameWords "java/lang/System" "arraycopy" 5 + 11) ≤ R.locals) (hdg : decode cc pc = .ok (.invokestatic index, 3))
    (kk : ∀ (H1 : Heap) (locs1 : List Loc), zI st D tys w1 A s H1 locs1 → W p l e R s m args below meth c H1 locs1 cells slots Q (F0 m (pc + 3) ls rest)) : W p l e R s m args below meth c H locs cells slots Q (F0 m pc ls (.int n :: .int dp :: .ref a :: .int sp :: .ref a0 :: rest)) := by
  subst hs
  obtain ⟨h1, h2, h3, h4, h5⟩ := zco_use hq
  exact va_copyl hC.1 hC.2.1 (hC.2.2.1.trans hls.1.symm) hC.2.2.2.1 (hC.2.2.2.2.1 _ hlink) (hC.2.2.2.2.1 _ hnat) (hC.2.2.2.2.1 _ hstat) (hC.2.2.2.2.1 _ hini) hI.1 hI.2.1 hI.2.2.1 hI.2.2.2.1 q0 q1 t0 t1 ha0 ha1 ht0 ht1 rfl h1 h2 h3 h4 h5 (fun _ _ => rfl) hframes hlocals hdg (fun H1 locs1 g1 g2 g3 => kk H1 locs1 ⟨hI.1, g1, g2, g3, hI.2.2.2.2⟩)
end ZR2
end ZJN7
